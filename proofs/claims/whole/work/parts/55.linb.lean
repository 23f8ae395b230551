section LINB
variable {h : sm_H} {y c x : Nat} {m : Jm} {ib : Nat → List Jm} {dn : Nat → Bool} {lo tw : Int32}

theorem s_Line_disturb {a b : Int32} (hn : LN h y ib dn lo tw) : ∃ h', Run 71 [.ref y, .int a, .int b] h (.inl none) h' ∧ LN h' y ib dn (a &&& 65535) (b &&& 65535) ∧ Fr y (y + 229) h h' := by
  have hx : Ev 71 0 (sm_pad (sm_ent [.ref y, .int a, .int b]) (sm_prog.2.1 71)) [] h (fun r h1 => r = .inl none ∧ LN h1 y ib dn (a &&& 65535) (b &&& 65535) ∧ Fr y (y + 229) h h1) := by
    show Ev 71 0 [some (.ref y), some (.int a), some (.int b)] [] h _
    refine Er_run 4 (pc' := 5) (ls' := [some (.ref y), some (.int a), some (.int b)]) (st' := [.int (a &&& ((65535 : Int32))), .ref y]) rfl ?_
    refine Er_putI rfl hn.1.1 ?_
    refine Er_run 4 (pc' := 13) (ls' := [some (.ref y), some (.int a), some (.int b)]) (st' := [.int (b &&& ((65535 : Int32))), .ref y]) rfl ?_
    refine Er_putI rfl hn.1.1 ?_
    exact Er_fin rfl rfl ⟨rfl, LN_masks hn, (Fr.setI (by omega) (by omega)).trans (Fr.setI (by omega) (by omega))⟩
  obtain ⟨r, h', hr, e, hq⟩ := Run_of (Nat.le_of_ble_eq_true rfl) hx
  subst e
  exact ⟨h', hr, hq⟩
theorem s_Line_waiting (hn : LN h y ib dn lo tw) (hx : x < 7) : Run 73 [.ref y, .int (Int32.ofNat x)] h (.inl (some (.int (Int32.ofNat (ib x).length)))) h := by
  refine ⟨Nat.le_of_ble_eq_true rfl, ?_⟩
  show Ev 73 0 [some (.ref y), some (.int (Int32.ofNat x))] [] h _
  refine Er_run 2 (pc' := bif decide ((Int32.ofNat x) < 0) then 19 else 4) (ls' := [some (.ref y), some (.int (Int32.ofNat x))]) (st' := []) rfl ?_
  refine Er_pc (t := 4) (show (bif decide ((Int32.ofNat x) < 0) then 19 else 4) = 4 from by rw [show (decide ((Int32.ofNat x) < 0)) = false from sm_nn (by rw [sm_ofNat_toInt (by omega)]; omega)]; rfl) ?_
  refine Er_run 3 (pc' := bif decide (((7 : Int32)) ≤ (Int32.ofNat x)) then 19 else 10) (ls' := [some (.ref y), some (.int (Int32.ofNat x))]) (st' := []) rfl ?_
  refine Er_pc (t := 10) (show (bif decide (((7 : Int32)) ≤ (Int32.ofNat x)) then 19 else 10) = 10 from by rw [show (decide (((7 : Int32)) ≤ (Int32.ofNat x))) = false from by rw [show (7 : Int32) = Int32.ofNat 7 from rfl, jx_le (by omega) (by omega)]; exact decide_eq_false (by omega)]; rfl) ?_
  refine Er_run 1 (pc' := 11) (ls' := [some (.ref y), some (.int (Int32.ofNat x))]) (st' := [.ref y]) rfl ?_
  refine Er_getR (x := y + 3) rfl hn.1.1 hn.1.2.2.2.1 ?_
  refine Er_run 1 (pc' := 15) (ls' := [some (.ref y), some (.int (Int32.ofNat x))]) (st' := [.int (Int32.ofNat x), .ref (y + 3)]) rfl ?_
  refine Er_iald (v := Int32.ofNat (ib x).length) rfl hn.1.2.2.2.2.2.2.2.2.2.1 (by show sm_in _ (gS h (y + 3)).2 = true; rw [hn.1.2.2.2.2.2.2.2.2.2.2.1]; exact sm_in_of (by rw [sm_ofNat_toInt (by omega)]; omega) (by rw [sm_ofNat_toInt (by omega)]; omega)) (by rw [jx_cn (by omega)]; exact (hn.2.1 x hx).1.2.1) ?_
  refine Er_run 1 (pc' := 20) (ls' := [some (.ref y), some (.int (Int32.ofNat x))]) (st' := [.int (Int32.ofNat (ib x).length)]) rfl ?_
  exact Er_fin rfl rfl ⟨rfl, rfl⟩
theorem s_Line_next0 (hn : LN h y ib dn lo tw) (hx : x < 7) (he : ib x = []) : Run 74 [.ref y, .int (Int32.ofNat x)] h (.inl (some .null)) h := by
  refine ⟨Nat.le_of_ble_eq_true rfl, ?_⟩
  show Ev 74 0 [some (.ref y), some (.int (Int32.ofNat x)), none] [] h _
  refine Er_run 2 (pc' := bif decide ((Int32.ofNat x) < 0) then 19 else 4) (ls' := [some (.ref y), some (.int (Int32.ofNat x)), none]) (st' := []) rfl ?_
  refine Er_pc (t := 4) (show (bif decide ((Int32.ofNat x) < 0) then 19 else 4) = 4 from by rw [show (decide ((Int32.ofNat x) < 0)) = false from sm_nn (by rw [sm_ofNat_toInt (by omega)]; omega)]; rfl) ?_
  refine Er_run 3 (pc' := bif decide (((7 : Int32)) ≤ (Int32.ofNat x)) then 19 else 10) (ls' := [some (.ref y), some (.int (Int32.ofNat x)), none]) (st' := []) rfl ?_
  refine Er_pc (t := 10) (show (bif decide (((7 : Int32)) ≤ (Int32.ofNat x)) then 19 else 10) = 10 from by rw [show (decide (((7 : Int32)) ≤ (Int32.ofNat x))) = false from by rw [show (7 : Int32) = Int32.ofNat 7 from rfl, jx_le (by omega) (by omega)]; exact decide_eq_false (by omega)]; rfl) ?_
  refine Er_run 1 (pc' := 11) (ls' := [some (.ref y), some (.int (Int32.ofNat x)), none]) (st' := [.ref y]) rfl ?_
  refine Er_getR (x := y + 3) rfl hn.1.1 hn.1.2.2.2.1 ?_
  refine Er_run 1 (pc' := 15) (ls' := [some (.ref y), some (.int (Int32.ofNat x)), none]) (st' := [.int (Int32.ofNat x), .ref (y + 3)]) rfl ?_
  refine Er_iald (v := Int32.ofNat 0) rfl hn.1.2.2.2.2.2.2.2.2.2.1 (by show sm_in _ (gS h (y + 3)).2 = true; rw [hn.1.2.2.2.2.2.2.2.2.2.2.1]; exact sm_in_of (by rw [sm_ofNat_toInt (by omega)]; omega) (by rw [sm_ofNat_toInt (by omega)]; omega)) (by rw [jx_cn (by omega), (hn.2.1 x hx).1.2.1, he]; rfl) ?_
  refine Er_run 1 (pc' := bif decide (0 < (Int32.ofNat 0)) then 21 else 19) (ls' := [some (.ref y), some (.int (Int32.ofNat x)), none]) (st' := []) rfl ?_
  refine Er_pc (t := 19) (show (bif decide (0 < (Int32.ofNat 0)) then 21 else 19) = 19 from by rw [show (decide (0 < (Int32.ofNat 0))) = false from by decide]; rfl) ?_
  refine Er_run 1 (pc' := 20) (ls' := [some (.ref y), some (.int (Int32.ofNat x)), none]) (st' := [.null]) rfl ?_
  exact Er_fin rfl rfl ⟨rfl, rfl⟩
theorem s_Line_next1 {l : List Jm} (hn : LN h y ib dn lo tw) (hx : x < 7) (he : ib x = m :: l) : ∃ (c : Nat) (h' : sm_H), Run 74 [.ref y, .int (Int32.ofNat x)] h (.inl (some (.ref c))) h' ∧ y + 5 ≤ c ∧ c + 2 ≤ y + 229 ∧ LN h' y (jx_up ib x l) dn lo tw ∧ MG h' c m ∧ Fr y (y + 229) h h' := by
  obtain ⟨p, hp1, hp2, hp3⟩ := (hn.2.1 x hx).1.2.2
  have hll : l.length + 1 ≤ 16 := by have := (hn.2.1 x hx).1.1; rw [he] at this; exact this
  have hax : Int32.ofNat x * (16 : Int32) + Int32.ofNat p = Int32.ofNat (16 * x + p) := by rw [show (16 : Int32) = Int32.ofNat 16 from rfl, jx_mul, jx_add, Nat.mul_comm]
  have hix : (Int32.ofNat x * (16 : Int32) + Int32.ofNat p).toNatClampNeg = 16 * x + p := by rw [hax, jx_cn (by omega)]
  have hx' : Ev 74 0 (sm_pad (sm_ent [.ref y, .int (Int32.ofNat x)]) (sm_prog.2.1 74)) [] h (fun r h1 => r = .inl (some (.ref (y + 5 + 2 * (16 * x + p)))) ∧ LN h1 y (jx_up ib x l) dn lo tw ∧ MG h1 (y + 5 + 2 * (16 * x + p)) m ∧ Fr y (y + 229) h h1) := by
    show Ev 74 0 [some (.ref y), some (.int (Int32.ofNat x)), none] [] h _
    refine Er_run 2 (pc' := bif decide ((Int32.ofNat x) < 0) then 19 else 4) (ls' := [some (.ref y), some (.int (Int32.ofNat x)), none]) (st' := []) rfl ?_
    refine Er_pc (t := 4) (show (bif decide ((Int32.ofNat x) < 0) then 19 else 4) = 4 from by rw [show (decide ((Int32.ofNat x) < 0)) = false from sm_nn (by rw [sm_ofNat_toInt (by omega)]; omega)]; rfl) ?_
    refine Er_run 3 (pc' := bif decide (((7 : Int32)) ≤ (Int32.ofNat x)) then 19 else 10) (ls' := [some (.ref y), some (.int (Int32.ofNat x)), none]) (st' := []) rfl ?_
    refine Er_pc (t := 10) (show (bif decide (((7 : Int32)) ≤ (Int32.ofNat x)) then 19 else 10) = 10 from by rw [show (decide (((7 : Int32)) ≤ (Int32.ofNat x))) = false from by rw [show (7 : Int32) = Int32.ofNat 7 from rfl, jx_le (by omega) (by omega)]; exact decide_eq_false (by omega)]; rfl) ?_
    refine Er_run 1 (pc' := 11) (ls' := [some (.ref y), some (.int (Int32.ofNat x)), none]) (st' := [.ref y]) rfl ?_
    refine Er_getR (x := y + 3) rfl hn.1.1 hn.1.2.2.2.1 ?_
    refine Er_run 1 (pc' := 15) (ls' := [some (.ref y), some (.int (Int32.ofNat x)), none]) (st' := [.int (Int32.ofNat x), .ref (y + 3)]) rfl ?_
    refine Er_iald (v := Int32.ofNat (l.length + 1)) rfl hn.1.2.2.2.2.2.2.2.2.2.1 (by show sm_in _ (gS h (y + 3)).2 = true; rw [hn.1.2.2.2.2.2.2.2.2.2.2.1]; exact sm_in_of (by rw [sm_ofNat_toInt (by omega)]; omega) (by rw [sm_ofNat_toInt (by omega)]; omega)) (by rw [jx_cn (by omega), (hn.2.1 x hx).1.2.1, he]; rfl) ?_
    refine Er_run 1 (pc' := bif decide (0 < (Int32.ofNat (l.length + 1))) then 21 else 19) (ls' := [some (.ref y), some (.int (Int32.ofNat x)), none]) (st' := []) rfl ?_
    refine Er_pc (t := 21) (show (bif decide (0 < (Int32.ofNat (l.length + 1))) then 21 else 19) = 21 from by rw [show (decide (0 < (Int32.ofNat (l.length + 1)))) = true from by rw [show (0 : Int32) = Int32.ofNat 0 from rfl, jx_lt (by omega) (by omega)]; exact decide_eq_true (by omega)]; rfl) ?_
    refine Er_run 1 (pc' := 22) (ls' := [some (.ref y), some (.int (Int32.ofNat x)), none]) (st' := [.ref y]) rfl ?_
    refine Er_getR (x := y + 1) rfl hn.1.1 hn.1.2.1 ?_
    refine Er_run 4 (pc' := 30) (ls' := [some (.ref y), some (.int (Int32.ofNat x)), none]) (st' := [.ref y, .int ((Int32.ofNat x) * ((16 : Int32))), .ref (y + 1)]) rfl ?_
    refine Er_getR (x := y + 2) rfl hn.1.1 hn.1.2.2.1 ?_
    refine Er_run 1 (pc' := 34) (ls' := [some (.ref y), some (.int (Int32.ofNat x)), none]) (st' := [.int (Int32.ofNat x), .ref (y + 2), .int ((Int32.ofNat x) * ((16 : Int32))), .ref (y + 1)]) rfl ?_
    refine Er_iald (v := Int32.ofNat p) rfl hn.1.2.2.2.2.2.2.2.1 (by show sm_in _ (gS h (y + 2)).2 = true; rw [hn.1.2.2.2.2.2.2.2.2.1]; exact sm_in_of (by rw [sm_ofNat_toInt (by omega)]; omega) (by rw [sm_ofNat_toInt (by omega)]; omega)) (by rw [jx_cn (by omega)]; exact hp2) ?_
    refine Er_run 1 (pc' := 36) (ls' := [some (.ref y), some (.int (Int32.ofNat x)), none]) (st' := [.int (((Int32.ofNat x) * ((16 : Int32))) + (Int32.ofNat p)), .ref (y + 1)]) rfl ?_
    refine Er_aald (x := y + 5 + 2 * (16 * x + p)) rfl hn.1.2.2.2.2.2.1 (by rw [hn.1.2.2.2.2.2.2.1, hax]; exact sm_in_of (by rw [sm_ofNat_toInt (by omega)]; omega) (by rw [sm_ofNat_toInt (by omega)]; omega)) (by rw [hix]; exact (hn.1.2.2.2.2.2.2.2.2.2.2.2.2.2 (16 * x + p) (by omega)).1) ?_
    refine Er_run 2 (pc' := 39) (ls' := [some (.ref y), some (.int (Int32.ofNat x)), some (.ref (y + 5 + 2 * (16 * x + p)))]) (st' := [.ref y]) rfl ?_
    refine Er_getR (x := y + 2) rfl hn.1.1 hn.1.2.2.1 ?_
    refine Er_run 2 (pc' := 44) (ls' := [some (.ref y), some (.int (Int32.ofNat x)), some (.ref (y + 5 + 2 * (16 * x + p)))]) (st' := [.ref y, .int (Int32.ofNat x), .ref (y + 2)]) rfl ?_
    refine Er_getR (x := y + 2) rfl hn.1.1 hn.1.2.2.1 ?_
    refine Er_run 1 (pc' := 48) (ls' := [some (.ref y), some (.int (Int32.ofNat x)), some (.ref (y + 5 + 2 * (16 * x + p)))]) (st' := [.int (Int32.ofNat x), .ref (y + 2), .int (Int32.ofNat x), .ref (y + 2)]) rfl ?_
    refine Er_iald (v := Int32.ofNat p) rfl hn.1.2.2.2.2.2.2.2.1 (by show sm_in _ (gS h (y + 2)).2 = true; rw [hn.1.2.2.2.2.2.2.2.2.1]; exact sm_in_of (by rw [sm_ofNat_toInt (by omega)]; omega) (by rw [sm_ofNat_toInt (by omega)]; omega)) (by rw [jx_cn (by omega)]; exact hp2) ?_
    refine Er_run 3 (pc' := 53) (ls' := [some (.ref y), some (.int (Int32.ofNat x)), some (.ref (y + 5 + 2 * (16 * x + p)))]) (st' := [.int ((16 : Int32)), .int ((Int32.ofNat p) + ((1 : Int32))), .int (Int32.ofNat x), .ref (y + 2)]) rfl ?_
    refine Er_irem rfl (by decide) ?_
    refine Er_iast rfl hn.1.2.2.2.2.2.2.2.1 (by show sm_in _ (gS h (y + 2)).2 = true; rw [hn.1.2.2.2.2.2.2.2.2.1]; exact sm_in_of (by rw [sm_ofNat_toInt (by omega)]; omega) (by rw [sm_ofNat_toInt (by omega)]; omega)) ?_
    refine Er_run 1 (pc' := 56) (ls' := [some (.ref y), some (.int (Int32.ofNat x)), some (.ref (y + 5 + 2 * (16 * x + p)))]) (st' := [.ref y]) rfl ?_
    refine Er_getR (x := y + 3) rfl hn.1.1 hn.1.2.2.2.1 ?_
    refine Er_run 2 (pc' := 61) (ls' := [some (.ref y), some (.int (Int32.ofNat x)), some (.ref (y + 5 + 2 * (16 * x + p)))]) (st' := [.int (Int32.ofNat x), .ref (y + 3), .int (Int32.ofNat x), .ref (y + 3)]) rfl ?_
    refine Er_iald (v := Int32.ofNat (l.length + 1)) rfl hn.1.2.2.2.2.2.2.2.2.2.1 (by show sm_in _ (gS h (y + 3)).2 = true; rw [hn.1.2.2.2.2.2.2.2.2.2.2.1]; exact sm_in_of (by rw [sm_ofNat_toInt (by omega)]; omega) (by rw [sm_ofNat_toInt (by omega)]; omega)) (by rw [jx_cn (by omega), gI_ne (by omega), (hn.2.1 x hx).1.2.1, he]; rfl) ?_
    refine Er_run 2 (pc' := 64) (ls' := [some (.ref y), some (.int (Int32.ofNat x)), some (.ref (y + 5 + 2 * (16 * x + p)))]) (st' := [.int ((Int32.ofNat (l.length + 1)) - ((1 : Int32))), .int (Int32.ofNat x), .ref (y + 3)]) rfl ?_
    refine Er_iast rfl hn.1.2.2.2.2.2.2.2.2.2.1 (by show sm_in _ (gS h (y + 3)).2 = true; rw [hn.1.2.2.2.2.2.2.2.2.2.2.1]; exact sm_in_of (by rw [sm_ofNat_toInt (by omega)]; omega) (by rw [sm_ofNat_toInt (by omega)]; omega)) ?_
    refine Er_run 1 (pc' := 66) (ls' := [some (.ref y), some (.int (Int32.ofNat x)), some (.ref (y + 5 + 2 * (16 * x + p)))]) (st' := [.ref (y + 5 + 2 * (16 * x + p))]) rfl ?_
    refine Er_fin rfl rfl ⟨rfl, ?_, ?_, (Fr.setI (by omega) (by omega)).trans (Fr.setI (by omega) (by omega))⟩
    · have := LN_take hn hx he hp1 hp2 hp3
      rw [jx_cn (by omega), jx_s1, jx_m16 (by omega), show Int32.ofNat (l.length + 1) - 1 = Int32.ofNat l.length from by rw [← jx_s1]; exact Int32.add_sub_cancel _ _]
      exact this
    · have h0 := hp3 0 m (by rw [he]; rfl)
      rw [show (p + 0) % 16 = p from by omega] at h0
      exact MG_fr (lo := y + 2) (hi := y + 4) ((Fr.setI (by omega) (by omega)).trans (Fr.setI (by omega) (by omega))) (by omega) h0
  obtain ⟨r, h', hr, e, hq⟩ := Run_of (Nat.le_of_ble_eq_true rfl) hx'
  subst e
  exact ⟨y + 5 + 2 * (16 * x + p), h', hr, by omega, by clear hix hax hr hq; show y + 5 + 2 * (16 * x + p) + 2 ≤ y + 229; omega, hq.1, hq.2.1, hq.2.2⟩
theorem s_Line_cut (hn : LN h y ib dn lo tw) (hx : x < 7) : ∃ h', Run 75 [.ref y, .int (Int32.ofNat x)] h (.inl none) h' ∧ LN h' y (jx_up ib x []) (jx_up dn x true) lo tw ∧ Fr y (y + 229) h h' := by
  have hx : Ev 75 0 (sm_pad (sm_ent [.ref y, .int (Int32.ofNat x)]) (sm_prog.2.1 75)) [] h (fun r h1 => r = .inl none ∧ LN h1 y (jx_up ib x []) (jx_up dn x true) lo tw ∧ Fr y (y + 229) h h1) := by
    show Ev 75 0 [some (.ref y), some (.int (Int32.ofNat x))] [] h _
    refine Er_run 2 (pc' := bif decide ((Int32.ofNat x) < 0) then 24 else 4) (ls' := [some (.ref y), some (.int (Int32.ofNat x))]) (st' := []) rfl ?_
    refine Er_pc (t := 4) (show (bif decide ((Int32.ofNat x) < 0) then 24 else 4) = 4 from by rw [show (decide ((Int32.ofNat x) < 0)) = false from sm_nn (by rw [sm_ofNat_toInt (by omega)]; omega)]; rfl) ?_
    refine Er_run 3 (pc' := bif decide (((7 : Int32)) ≤ (Int32.ofNat x)) then 24 else 10) (ls' := [some (.ref y), some (.int (Int32.ofNat x))]) (st' := []) rfl ?_
    refine Er_pc (t := 10) (show (bif decide (((7 : Int32)) ≤ (Int32.ofNat x)) then 24 else 10) = 10 from by rw [show (decide (((7 : Int32)) ≤ (Int32.ofNat x))) = false from by rw [show (7 : Int32) = Int32.ofNat 7 from rfl, jx_le (by omega) (by omega)]; exact decide_eq_false (by omega)]; rfl) ?_
    refine Er_run 1 (pc' := 11) (ls' := [some (.ref y), some (.int (Int32.ofNat x))]) (st' := [.ref y]) rfl ?_
    refine Er_getR (x := y + 4) rfl hn.1.1 hn.1.2.2.2.2.1 ?_
    refine Er_run 2 (pc' := 16) (ls' := [some (.ref y), some (.int (Int32.ofNat x))]) (st' := [.int ((1 : Int32)), .int (Int32.ofNat x), .ref (y + 4)]) rfl ?_
    refine Er_zast rfl hn.1.2.2.2.2.2.2.2.2.2.2.2.1 (by show sm_in _ (gS h (y + 4)).2 = true; rw [hn.1.2.2.2.2.2.2.2.2.2.2.2.2.1]; exact sm_in_of (by rw [sm_ofNat_toInt (by omega)]; omega) (by rw [sm_ofNat_toInt (by omega)]; omega)) (by decide) ?_
    refine Er_run 1 (pc' := 18) (ls' := [some (.ref y), some (.int (Int32.ofNat x))]) (st' := [.ref y]) rfl ?_
    refine Er_getR (x := y + 3) rfl hn.1.1 hn.1.2.2.2.1 ?_
    refine Er_run 2 (pc' := 23) (ls' := [some (.ref y), some (.int (Int32.ofNat x))]) (st' := [.int ((0 : Int32)), .int (Int32.ofNat x), .ref (y + 3)]) rfl ?_
    refine Er_iast rfl hn.1.2.2.2.2.2.2.2.2.2.1 (by show sm_in _ (gS h (y + 3)).2 = true; rw [hn.1.2.2.2.2.2.2.2.2.2.2.1]; exact sm_in_of (by rw [sm_ofNat_toInt (by omega)]; omega) (by rw [sm_ofNat_toInt (by omega)]; omega)) ?_
    refine Er_fin rfl rfl ⟨rfl, ?_, (Fr.setI (by omega) (by omega)).trans (Fr.setI (by omega) (by omega))⟩
    rw [jx_cn (by omega)]
    exact LN_none (LN_down (b := true) hn hx) hx
  obtain ⟨r, h', hr, e, hq⟩ := Run_of (Nat.le_of_ble_eq_true rfl) hx
  subst e
  exact ⟨h', hr, hq⟩
theorem s_Line_rejoin (hn : LN h y ib dn lo tw) (hx : x < 7) : ∃ h', Run 76 [.ref y, .int (Int32.ofNat x)] h (.inl (some (.int ((if dn x then (1 : Int32) else 0))))) h' ∧ LN h' y ib (jx_up dn x false) lo tw ∧ Fr y (y + 229) h h' := by
  have hx : Ev 76 0 (sm_pad (sm_ent [.ref y, .int (Int32.ofNat x)]) (sm_prog.2.1 76)) [] h (fun r h1 => r = .inl (some (.int ((if dn x then (1 : Int32) else 0)))) ∧ LN h1 y ib (jx_up dn x false) lo tw ∧ Fr y (y + 229) h h1) := by
    show Ev 76 0 [some (.ref y), some (.int (Int32.ofNat x)), none] [] h _
    refine Er_run 2 (pc' := bif decide ((Int32.ofNat x) < 0) then 10 else 4) (ls' := [some (.ref y), some (.int (Int32.ofNat x)), none]) (st' := []) rfl ?_
    refine Er_pc (t := 4) (show (bif decide ((Int32.ofNat x) < 0) then 10 else 4) = 4 from by rw [show (decide ((Int32.ofNat x) < 0)) = false from sm_nn (by rw [sm_ofNat_toInt (by omega)]; omega)]; rfl) ?_
    refine Er_run 3 (pc' := bif decide ((Int32.ofNat x) < ((7 : Int32))) then 12 else 10) (ls' := [some (.ref y), some (.int (Int32.ofNat x)), none]) (st' := []) rfl ?_
    refine Er_pc (t := 12) (show (bif decide ((Int32.ofNat x) < ((7 : Int32))) then 12 else 10) = 12 from by rw [show (decide ((Int32.ofNat x) < ((7 : Int32)))) = true from by rw [show (7 : Int32) = Int32.ofNat 7 from rfl, jx_lt (by omega) (by omega)]; exact decide_eq_true (by omega)]; rfl) ?_
    refine Er_run 1 (pc' := 13) (ls' := [some (.ref y), some (.int (Int32.ofNat x)), none]) (st' := [.ref y]) rfl ?_
    refine Er_getR (x := y + 4) rfl hn.1.1 hn.1.2.2.2.2.1 ?_
    refine Er_run 1 (pc' := 17) (ls' := [some (.ref y), some (.int (Int32.ofNat x)), none]) (st' := [.int (Int32.ofNat x), .ref (y + 4)]) rfl ?_
    refine Er_zald (v := (if dn x then (1 : Int32) else 0)) rfl hn.1.2.2.2.2.2.2.2.2.2.2.2.1 (by show sm_in _ (gS h (y + 4)).2 = true; rw [hn.1.2.2.2.2.2.2.2.2.2.2.2.2.1]; exact sm_in_of (by rw [sm_ofNat_toInt (by omega)]; omega) (by rw [sm_ofNat_toInt (by omega)]; omega)) (by rw [jx_cn (by omega)]; exact (hn.2.1 x hx).2) ?_
    refine Er_run 2 (pc' := 20) (ls' := [some (.ref y), some (.int (Int32.ofNat x)), some (.int ((if dn x then (1 : Int32) else 0)))]) (st' := [.ref y]) rfl ?_
    refine Er_getR (x := y + 4) rfl hn.1.1 hn.1.2.2.2.2.1 ?_
    refine Er_run 2 (pc' := 25) (ls' := [some (.ref y), some (.int (Int32.ofNat x)), some (.int ((if dn x then (1 : Int32) else 0)))]) (st' := [.int ((0 : Int32)), .int (Int32.ofNat x), .ref (y + 4)]) rfl ?_
    refine Er_zast rfl hn.1.2.2.2.2.2.2.2.2.2.2.2.1 (by show sm_in _ (gS h (y + 4)).2 = true; rw [hn.1.2.2.2.2.2.2.2.2.2.2.2.2.1]; exact sm_in_of (by rw [sm_ofNat_toInt (by omega)]; omega) (by rw [sm_ofNat_toInt (by omega)]; omega)) (by decide) ?_
    refine Er_run 1 (pc' := 27) (ls' := [some (.ref y), some (.int (Int32.ofNat x)), some (.int ((if dn x then (1 : Int32) else 0)))]) (st' := [.int ((if dn x then (1 : Int32) else 0))]) rfl ?_
    refine Er_retZ rfl (by split <;> decide) ⟨rfl, ?_, Fr.setI (by omega) (by omega)⟩
    rw [jx_cn (by omega)]
    exact LN_down (b := false) hn hx
  obtain ⟨r, h', hr, e, hq⟩ := Run_of (Nat.le_of_ble_eq_true rfl) hx
  subst e
  exact ⟨h', hr, hq⟩
theorem l_reset : ∀ (f i : Nat) (h : sm_H) (ib : Nat → List Jm) (dn : Nat → Bool), i + f = 7 → LN h y ib dn lo tw → (∀ x, x < i → ib x = [] ∧ dn x = false) → Ev 70 2 [some (.ref y), some (.int (Int32.ofNat i))] [] h (fun r h1 => r = .inl none ∧ ∃ ib' dn', LN h1 y ib' dn' 0 0 ∧ (∀ x, x < 7 → ib' x = [] ∧ dn' x = false) ∧ Fr y (y + 229) h h1) := by
  intro f
  induction f with
  | zero =>
    intro i h ib dn hi hn hz
    have e : i = 7 := by omega
    subst e
    refine Er_run 3 (pc' := bif decide (((7 : Int32)) ≤ (Int32.ofNat 7)) then 28 else 8) (ls' := [some (.ref y), some (.int (Int32.ofNat 7))]) (st' := []) rfl ?_
    refine Er_pc (t := 28) (show (bif decide (((7 : Int32)) ≤ (Int32.ofNat 7)) then 28 else 8) = 28 from by rw [show (decide (((7 : Int32)) ≤ (Int32.ofNat 7))) = true from by rw [show (7 : Int32) = Int32.ofNat 7 from rfl, jx_le (by omega) (by omega)]; exact decide_eq_true (by omega)]; rfl) ?_
    refine Er_run 3 (pc' := 31) (ls' := [some (.ref y), some (.int (Int32.ofNat 7))]) (st' := [.int ((0 : Int32)), .int ((0 : Int32)), .ref y]) rfl ?_
    obtain ⟨h1, r1, n1, f1⟩ := s_Line_disturb (a := 0) (b := 0) hn
    refine Er_inv0 (q' := y) (ci := 6) (av := [.int ((0 : Int32)), .int ((0 : Int32))]) (rest := []) rfl rfl ⟨Nat.le_of_ble_eq_true rfl, Nat.le_of_ble_eq_true rfl⟩ rfl rfl hn.1.1 r1 ?_
    exact Er_fin rfl rfl ⟨rfl, ib, dn, n1, hz, f1⟩
  | succ f ih =>
    intro i h ib dn hi hn hz
    refine Er_run 3 (pc' := bif decide (((7 : Int32)) ≤ (Int32.ofNat i)) then 28 else 8) (ls' := [some (.ref y), some (.int (Int32.ofNat i))]) (st' := []) rfl ?_
    refine Er_pc (t := 8) (show (bif decide (((7 : Int32)) ≤ (Int32.ofNat i)) then 28 else 8) = 8 from by rw [show (decide (((7 : Int32)) ≤ (Int32.ofNat i))) = false from by rw [show (7 : Int32) = Int32.ofNat 7 from rfl, jx_le (by omega) (by omega)]; exact decide_eq_false (by omega)]; rfl) ?_
    refine Er_run 1 (pc' := 9) (ls' := [some (.ref y), some (.int (Int32.ofNat i))]) (st' := [.ref y]) rfl ?_
    refine Er_getR (x := y + 3) rfl hn.1.1 hn.1.2.2.2.1 ?_
    refine Er_run 2 (pc' := 14) (ls' := [some (.ref y), some (.int (Int32.ofNat i))]) (st' := [.int ((0 : Int32)), .int (Int32.ofNat i), .ref (y + 3)]) rfl ?_
    refine Er_iast rfl hn.1.2.2.2.2.2.2.2.2.2.1 (by show sm_in _ (gS h (y + 3)).2 = true; rw [hn.1.2.2.2.2.2.2.2.2.2.2.1]; exact sm_in_of (by rw [sm_ofNat_toInt (by omega)]; omega) (by rw [sm_ofNat_toInt (by omega)]; omega)) ?_
    refine Er_run 1 (pc' := 16) (ls' := [some (.ref y), some (.int (Int32.ofNat i))]) (st' := [.ref y]) rfl ?_
    refine Er_getR (x := y + 4) rfl hn.1.1 hn.1.2.2.2.2.1 ?_
    refine Er_run 2 (pc' := 21) (ls' := [some (.ref y), some (.int (Int32.ofNat i))]) (st' := [.int ((0 : Int32)), .int (Int32.ofNat i), .ref (y + 4)]) rfl ?_
    refine Er_zast rfl hn.1.2.2.2.2.2.2.2.2.2.2.2.1 (by show sm_in _ (gS h (y + 4)).2 = true; rw [hn.1.2.2.2.2.2.2.2.2.2.2.2.2.1]; exact sm_in_of (by rw [sm_ofNat_toInt (by omega)]; omega) (by rw [sm_ofNat_toInt (by omega)]; omega)) (by decide) ?_
    refine Er_run 2 (pc' := 2) (ls' := [some (.ref y), some (.int ((Int32.ofNat i) + (1 : Int32)))]) (st' := []) rfl ?_
    rw [jx_s1]
    refine sm_Ev.mono (ih (i + 1) _ (jx_up ib i []) (jx_up dn i false) (by omega) (by rw [jx_cn (by omega)]; exact LN_down (b := false) (LN_none hn (by omega)) (by omega)) ?_) (fun r h2 z => ?_)
    · intro x hx
      by_cases e : x = i
      · subst e; rw [up_eq, up_eq]; exact ⟨rfl, rfl⟩
      · rw [up_ne _ _ e, up_ne _ _ e]; exact hz x (by omega)
    · obtain ⟨z1, ib2, dn2, z2, z3, z4⟩ := z
      exact ⟨z1, ib2, dn2, z2, z3, ((Fr.setI (by omega) (by omega)).trans (Fr.setI (by omega) (by omega))).trans z4⟩
theorem s_Line_reset (hn : LN h y ib dn lo tw) : ∃ h', Run 70 [.ref y] h (.inl none) h' ∧ ∃ ib' dn', LN h' y ib' dn' 0 0 ∧ (∀ x, x < 7 → ib' x = [] ∧ dn' x = false) ∧ Fr y (y + 229) h h' := by
  have hx : Ev 70 0 (sm_pad (sm_ent [.ref y]) (sm_prog.2.1 70)) [] h (fun r h1 => r = .inl none ∧ ∃ ib' dn', LN h1 y ib' dn' 0 0 ∧ (∀ x, x < 7 → ib' x = [] ∧ dn' x = false) ∧ Fr y (y + 229) h h1) := by
    show Ev 70 0 [some (.ref y), none] [] h _
    refine Er_run 2 (pc' := 2) (ls' := [some (.ref y), some (.int ((0 : Int32)))]) (st' := []) rfl ?_
    exact l_reset 7 0 h ib dn rfl hn (fun x hx => absurd hx (by omega))
  obtain ⟨r, h', hr, e, hq⟩ := Run_of (Nat.le_of_ble_eq_true rfl) hx
  subst e
  exact ⟨h', hr, hq⟩
theorem jn_rep_full (k : Nat) (hl : ¬ (ib x).length < 16) : jn_rep k ib x m = ib := by
  induction k with
  | zero => rfl
  | succ k ih => rw [jn_rep, jn_put, if_neg hl]; exact ih

theorem l_send {t : Nat} (ht : t < 10) (hx : x < 7) (hd : c + 2 ≤ y ∨ y + 229 ≤ c) : ∀ (f i : Nat) (h : sm_H) (ib : Nat → List Jm), i + f = t → LN h y ib dn lo tw → MG h c m → Ev 72 76 [some (.ref y), some (.ref c), some (.int (Int32.ofNat t)), some (.int (Int32.ofNat x)), some (.int (Int32.ofNat i))] [] h (fun r h1 => r = .inl none ∧ LN h1 y (jn_rep f ib x m) dn lo tw ∧ Fr y (y + 229) h h1) := by
  intro f
  induction f with
  | zero =>
    intro i h ib hi hn hm
    have e : i = t := by omega
    subst e
    refine Er_run 3 (pc' := bif decide ((Int32.ofNat i) ≤ (Int32.ofNat i)) then 139 else 82) (ls' := [some (.ref y), some (.ref c), some (.int (Int32.ofNat i)), some (.int (Int32.ofNat x)), some (.int (Int32.ofNat i))]) (st' := []) rfl ?_
    refine Er_pc (t := 139) (show (bif decide ((Int32.ofNat i) ≤ (Int32.ofNat i)) then 139 else 82) = 139 from by rw [show (decide ((Int32.ofNat i) ≤ (Int32.ofNat i))) = true from by rw [jx_le (by omega) (by omega)]; exact decide_eq_true (by omega)]; rfl) ?_
    exact Er_fin rfl rfl ⟨rfl, hn, Fr.refl _ _ _⟩
  | succ f ih =>
    intro i h ib hi hn hm
    by_cases hl : (ib x).length < 16
    · obtain ⟨p, hp1, hp2, hp3⟩ := (hn.2.1 x hx).1.2.2
      have hs : (p + (ib x).length) % 16 < 16 := Nat.mod_lt _ (by omega)
      have hax : (Int32.ofNat x * (16 : Int32)) + ((Int32.ofNat p + Int32.ofNat (ib x).length) - (Int32.ofNat p + Int32.ofNat (ib x).length) / (16 : Int32) * (16 : Int32)) = Int32.ofNat (16 * x + (p + (ib x).length) % 16) := by rw [jx_add, jx_m16 (by omega), show (16 : Int32) = Int32.ofNat 16 from rfl, jx_mul, jx_add, Nat.mul_comm]
      have hix : ((Int32.ofNat x * (16 : Int32)) + ((Int32.ofNat p + Int32.ofNat (ib x).length) - (Int32.ofNat p + Int32.ofNat (ib x).length) / (16 : Int32) * (16 : Int32))).toNatClampNeg = 16 * x + (p + (ib x).length) % 16 := by rw [hax, jx_cn (by omega)]
      refine Er_run 3 (pc' := bif decide ((Int32.ofNat t) ≤ (Int32.ofNat i)) then 139 else 82) (ls' := [some (.ref y), some (.ref c), some (.int (Int32.ofNat t)), some (.int (Int32.ofNat x)), some (.int (Int32.ofNat i))]) (st' := []) rfl ?_
      refine Er_pc (t := 82) (show (bif decide ((Int32.ofNat t) ≤ (Int32.ofNat i)) then 139 else 82) = 82 from by rw [show (decide ((Int32.ofNat t) ≤ (Int32.ofNat i))) = false from by rw [jx_le (by omega) (by omega)]; exact decide_eq_false (by omega)]; rfl) ?_
      refine Er_run 1 (pc' := 83) (ls' := [some (.ref y), some (.ref c), some (.int (Int32.ofNat t)), some (.int (Int32.ofNat x)), some (.int (Int32.ofNat i))]) (st' := [.ref y]) rfl ?_
      refine Er_getR (x := y + 3) rfl hn.1.1 hn.1.2.2.2.1 ?_
      refine Er_run 1 (pc' := 87) (ls' := [some (.ref y), some (.ref c), some (.int (Int32.ofNat t)), some (.int (Int32.ofNat x)), some (.int (Int32.ofNat i))]) (st' := [.int (Int32.ofNat x), .ref (y + 3)]) rfl ?_
      refine Er_iald (v := Int32.ofNat (ib x).length) rfl hn.1.2.2.2.2.2.2.2.2.2.1 (by show sm_in _ (gS h (y + 3)).2 = true; rw [hn.1.2.2.2.2.2.2.2.2.2.2.1]; exact sm_in_of (by rw [sm_ofNat_toInt (by omega)]; omega) (by rw [sm_ofNat_toInt (by omega)]; omega)) (by rw [jx_cn (by omega)]; exact (hn.2.1 x hx).1.2.1) ?_
      refine Er_run 2 (pc' := bif decide (((16 : Int32)) ≤ (Int32.ofNat (ib x).length)) then 139 else 93) (ls' := [some (.ref y), some (.ref c), some (.int (Int32.ofNat t)), some (.int (Int32.ofNat x)), some (.int (Int32.ofNat i))]) (st' := []) rfl ?_
      refine Er_pc (t := 93) (show (bif decide (((16 : Int32)) ≤ (Int32.ofNat (ib x).length)) then 139 else 93) = 93 from by rw [show (decide (((16 : Int32)) ≤ (Int32.ofNat (ib x).length))) = false from by rw [show (16 : Int32) = Int32.ofNat 16 from rfl, jx_le (by omega) (by omega)]; exact decide_eq_false (by omega)]; rfl) ?_
      refine Er_run 1 (pc' := 94) (ls' := [some (.ref y), some (.ref c), some (.int (Int32.ofNat t)), some (.int (Int32.ofNat x)), some (.int (Int32.ofNat i))]) (st' := [.ref y]) rfl ?_
      refine Er_getR (x := y + 1) rfl hn.1.1 hn.1.2.1 ?_
      refine Er_run 4 (pc' := 102) (ls' := [some (.ref y), some (.ref c), some (.int (Int32.ofNat t)), some (.int (Int32.ofNat x)), some (.int (Int32.ofNat i))]) (st' := [.ref y, .int ((Int32.ofNat x) * ((16 : Int32))), .ref (y + 1)]) rfl ?_
      refine Er_getR (x := y + 2) rfl hn.1.1 hn.1.2.2.1 ?_
      refine Er_run 1 (pc' := 106) (ls' := [some (.ref y), some (.ref c), some (.int (Int32.ofNat t)), some (.int (Int32.ofNat x)), some (.int (Int32.ofNat i))]) (st' := [.int (Int32.ofNat x), .ref (y + 2), .int ((Int32.ofNat x) * ((16 : Int32))), .ref (y + 1)]) rfl ?_
      refine Er_iald (v := Int32.ofNat p) rfl hn.1.2.2.2.2.2.2.2.1 (by show sm_in _ (gS h (y + 2)).2 = true; rw [hn.1.2.2.2.2.2.2.2.2.1]; exact sm_in_of (by rw [sm_ofNat_toInt (by omega)]; omega) (by rw [sm_ofNat_toInt (by omega)]; omega)) (by rw [jx_cn (by omega)]; exact hp2) ?_
      refine Er_run 1 (pc' := 108) (ls' := [some (.ref y), some (.ref c), some (.int (Int32.ofNat t)), some (.int (Int32.ofNat x)), some (.int (Int32.ofNat i))]) (st' := [.ref y, .int (Int32.ofNat p), .int ((Int32.ofNat x) * ((16 : Int32))), .ref (y + 1)]) rfl ?_
      refine Er_getR (x := y + 3) rfl hn.1.1 hn.1.2.2.2.1 ?_
      refine Er_run 1 (pc' := 112) (ls' := [some (.ref y), some (.ref c), some (.int (Int32.ofNat t)), some (.int (Int32.ofNat x)), some (.int (Int32.ofNat i))]) (st' := [.int (Int32.ofNat x), .ref (y + 3), .int (Int32.ofNat p), .int ((Int32.ofNat x) * ((16 : Int32))), .ref (y + 1)]) rfl ?_
      refine Er_iald (v := Int32.ofNat (ib x).length) rfl hn.1.2.2.2.2.2.2.2.2.2.1 (by show sm_in _ (gS h (y + 3)).2 = true; rw [hn.1.2.2.2.2.2.2.2.2.2.2.1]; exact sm_in_of (by rw [sm_ofNat_toInt (by omega)]; omega) (by rw [sm_ofNat_toInt (by omega)]; omega)) (by rw [jx_cn (by omega)]; exact (hn.2.1 x hx).1.2.1) ?_
      refine Er_run 2 (pc' := 116) (ls' := [some (.ref y), some (.ref c), some (.int (Int32.ofNat t)), some (.int (Int32.ofNat x)), some (.int (Int32.ofNat i))]) (st' := [.int ((16 : Int32)), .int ((Int32.ofNat p) + (Int32.ofNat (ib x).length)), .int ((Int32.ofNat x) * ((16 : Int32))), .ref (y + 1)]) rfl ?_
      refine Er_irem rfl (by decide) ?_
      refine Er_run 1 (pc' := 118) (ls' := [some (.ref y), some (.ref c), some (.int (Int32.ofNat t)), some (.int (Int32.ofNat x)), some (.int (Int32.ofNat i))]) (st' := [.int (((Int32.ofNat x) * ((16 : Int32))) + (((Int32.ofNat p) + (Int32.ofNat (ib x).length)) - ((Int32.ofNat p) + (Int32.ofNat (ib x).length)) / ((16 : Int32)) * ((16 : Int32)))), .ref (y + 1)]) rfl ?_
      refine Er_aald (x := y + 5 + 2 * (16 * x + (p + (ib x).length) % 16)) rfl hn.1.2.2.2.2.2.1 (by rw [hn.1.2.2.2.2.2.2.1, hax]; exact sm_in_of (by rw [sm_ofNat_toInt (by omega)]; omega) (by rw [sm_ofNat_toInt (by omega)]; omega)) (by rw [hix]; exact (hn.1.2.2.2.2.2.2.2.2.2.2.2.2.2 (16 * x + (p + (ib x).length) % 16) (by omega)).1) ?_
      refine Er_run 1 (pc' := 120) (ls' := [some (.ref y), some (.ref c), some (.int (Int32.ofNat t)), some (.int (Int32.ofNat x)), some (.int (Int32.ofNat i))]) (st' := [.ref c, .ref (y + 5 + 2 * (16 * x + (p + (ib x).length) % 16))]) rfl ?_
      obtain ⟨h1, r1, g1, f1⟩ := s_Message_copy (hn.1.2.2.2.2.2.2.2.2.2.2.2.2.2 (16 * x + (p + (ib x).length) % 16) (by omega)).2 hm (by omega)
      refine Er_inv0 (q' := y + 5 + 2 * (16 * x + (p + (ib x).length) % 16)) (ci := 5) (av := [.ref c]) (rest := []) rfl rfl ⟨Nat.le_of_ble_eq_true rfl, Nat.le_of_ble_eq_true rfl⟩ rfl rfl (hn.1.2.2.2.2.2.2.2.2.2.2.2.2.2 (16 * x + (p + (ib x).length) % 16) (by omega)).2.1 r1 ?_
      refine Er_run 1 (pc' := 124) (ls' := [some (.ref y), some (.ref c), some (.int (Int32.ofNat t)), some (.int (Int32.ofNat x)), some (.int (Int32.ofNat i))]) (st' := [.ref y]) rfl ?_
      refine Er_getR (x := y + 3) rfl (by rw [f1.at]; exact hn.1.1) (by rw [(f1.2.2.2.2 y (by omega)).2.2]; exact hn.1.2.2.2.1) ?_
      refine Er_run 2 (pc' := 129) (ls' := [some (.ref y), some (.ref c), some (.int (Int32.ofNat t)), some (.int (Int32.ofNat x)), some (.int (Int32.ofNat i))]) (st' := [.int (Int32.ofNat x), .ref (y + 3), .int (Int32.ofNat x), .ref (y + 3)]) rfl ?_
      refine Er_iald (v := Int32.ofNat (ib x).length) rfl (by rw [f1.at]; exact hn.1.2.2.2.2.2.2.2.2.2.1) (by rw [f1.2.1, hn.1.2.2.2.2.2.2.2.2.2.2.1]; exact sm_in_of (by rw [sm_ofNat_toInt (by omega)]; omega) (by rw [sm_ofNat_toInt (by omega)]; omega)) (by rw [jx_cn (by omega), (f1.2.2.2.2 (y + 3) (by omega)).1]; exact (hn.2.1 x hx).1.2.1) ?_
      refine Er_run 2 (pc' := 132) (ls' := [some (.ref y), some (.ref c), some (.int (Int32.ofNat t)), some (.int (Int32.ofNat x)), some (.int (Int32.ofNat i))]) (st' := [.int ((Int32.ofNat (ib x).length) + ((1 : Int32))), .int (Int32.ofNat x), .ref (y + 3)]) rfl ?_
      refine Er_iast rfl (by rw [f1.at]; exact hn.1.2.2.2.2.2.2.2.2.2.1) (by rw [f1.2.1, hn.1.2.2.2.2.2.2.2.2.2.2.1]; exact sm_in_of (by rw [sm_ofNat_toInt (by omega)]; omega) (by rw [sm_ofNat_toInt (by omega)]; omega)) ?_
      refine Er_run 2 (pc' := 76) (ls' := [some (.ref y), some (.ref c), some (.int (Int32.ofNat t)), some (.int (Int32.ofNat x)), some (.int ((Int32.ofNat i) + (1 : Int32)))]) (st' := []) rfl ?_
      rw [jx_s1, jx_s1, jn_rep]
      have hn2 := LN_put (m := m) hn hx hl hp1 hp2 hp3 f1 g1
      rw [jx_cn (by omega)]
      have z2 : Fr y (y + 229) h (setI h1 (y + 3) x (Int32.ofNat ((ib x).length + 1))) := (f1.mono (by omega) (by omega)).trans (Fr.setI (by omega) (by omega))
      refine sm_Ev.mono (ih (i + 1) _ _ (by omega) hn2 (MG_fr z2 (by omega) hm)) (fun r h2 z => ⟨z.1, z.2.1, z2.trans z.2.2⟩)
    · have hl16 : (ib x).length = 16 := by have := (hn.2.1 x hx).1.1; omega
      refine Er_run 3 (pc' := bif decide ((Int32.ofNat t) ≤ (Int32.ofNat i)) then 139 else 82) (ls' := [some (.ref y), some (.ref c), some (.int (Int32.ofNat t)), some (.int (Int32.ofNat x)), some (.int (Int32.ofNat i))]) (st' := []) rfl ?_
      refine Er_pc (t := 82) (show (bif decide ((Int32.ofNat t) ≤ (Int32.ofNat i)) then 139 else 82) = 82 from by rw [show (decide ((Int32.ofNat t) ≤ (Int32.ofNat i))) = false from by rw [jx_le (by omega) (by omega)]; exact decide_eq_false (by omega)]; rfl) ?_
      refine Er_run 1 (pc' := 83) (ls' := [some (.ref y), some (.ref c), some (.int (Int32.ofNat t)), some (.int (Int32.ofNat x)), some (.int (Int32.ofNat i))]) (st' := [.ref y]) rfl ?_
      refine Er_getR (x := y + 3) rfl hn.1.1 hn.1.2.2.2.1 ?_
      refine Er_run 1 (pc' := 87) (ls' := [some (.ref y), some (.ref c), some (.int (Int32.ofNat t)), some (.int (Int32.ofNat x)), some (.int (Int32.ofNat i))]) (st' := [.int (Int32.ofNat x), .ref (y + 3)]) rfl ?_
      refine Er_iald (v := Int32.ofNat (ib x).length) rfl hn.1.2.2.2.2.2.2.2.2.2.1 (by show sm_in _ (gS h (y + 3)).2 = true; rw [hn.1.2.2.2.2.2.2.2.2.2.2.1]; exact sm_in_of (by rw [sm_ofNat_toInt (by omega)]; omega) (by rw [sm_ofNat_toInt (by omega)]; omega)) (by rw [jx_cn (by omega)]; exact (hn.2.1 x hx).1.2.1) ?_
      refine Er_run 2 (pc' := bif decide (((16 : Int32)) ≤ (Int32.ofNat (ib x).length)) then 139 else 93) (ls' := [some (.ref y), some (.ref c), some (.int (Int32.ofNat t)), some (.int (Int32.ofNat x)), some (.int (Int32.ofNat i))]) (st' := []) rfl ?_
      refine Er_pc (t := 139) (show (bif decide (((16 : Int32)) ≤ (Int32.ofNat (ib x).length)) then 139 else 93) = 139 from by rw [show (decide (((16 : Int32)) ≤ (Int32.ofNat (ib x).length))) = true from by rw [show (16 : Int32) = Int32.ofNat 16 from rfl, jx_le (by omega) (by omega)]; exact decide_eq_true (by omega)]; rfl) ?_
      refine Er_fin rfl rfl ?_
      rw [jn_rep_full _ hl]
      exact ⟨rfl, hn, Fr.refl _ _ _⟩
theorem l_send2 {t : Nat} (ht : t < 10) (hx : x < 7) (hd : c + 2 ≤ y ∨ y + 229 ≤ c) (hn : LN h y ib dn lo tw) (hm : MG h c m) (hx4 : m.1 4 = Int32.ofNat x) : Ev 72 48 [some (.ref y), some (.ref c), some (.int (Int32.ofNat t)), none, none] [] h (fun r h1 => r = .inl none ∧ LN h1 y (if dn x then ib else jn_rep t ib x m) dn lo tw ∧ Fr y (y + 229) h h1) := by
  cases hdn : dn x with
  | true =>
    rw [if_pos rfl]
    refine Er_run 1 (pc' := 49) (ls' := [some (.ref y), some (.ref c), some (.int (Int32.ofNat t)), none, none]) (st' := [.ref c]) rfl ?_
    refine Er_getI (v := Int32.ofNat x) rfl hm.1.1 (by rw [← hx4]; exact hm.2.2.2.1 4 (by omega) (by omega)) ?_
    refine Er_run 3 (pc' := bif decide ((Int32.ofNat x) < 0) then 72 else 57) (ls' := [some (.ref y), some (.ref c), some (.int (Int32.ofNat t)), some (.int (Int32.ofNat x)), none]) (st' := []) rfl ?_
    refine Er_pc (t := 57) (show (bif decide ((Int32.ofNat x) < 0) then 72 else 57) = 57 from by rw [show (decide ((Int32.ofNat x) < 0)) = false from sm_nn (by rw [sm_ofNat_toInt (by omega)]; omega)]; rfl) ?_
    refine Er_run 3 (pc' := bif decide (((7 : Int32)) ≤ (Int32.ofNat x)) then 72 else 63) (ls' := [some (.ref y), some (.ref c), some (.int (Int32.ofNat t)), some (.int (Int32.ofNat x)), none]) (st' := []) rfl ?_
    refine Er_pc (t := 63) (show (bif decide (((7 : Int32)) ≤ (Int32.ofNat x)) then 72 else 63) = 63 from by rw [show (decide (((7 : Int32)) ≤ (Int32.ofNat x))) = false from by rw [show (7 : Int32) = Int32.ofNat 7 from rfl, jx_le (by omega) (by omega)]; exact decide_eq_false (by omega)]; rfl) ?_
    refine Er_run 1 (pc' := 64) (ls' := [some (.ref y), some (.ref c), some (.int (Int32.ofNat t)), some (.int (Int32.ofNat x)), none]) (st' := [.ref y]) rfl ?_
    refine Er_getR (x := y + 4) rfl hn.1.1 hn.1.2.2.2.2.1 ?_
    refine Er_run 1 (pc' := 68) (ls' := [some (.ref y), some (.ref c), some (.int (Int32.ofNat t)), some (.int (Int32.ofNat x)), none]) (st' := [.int (Int32.ofNat x), .ref (y + 4)]) rfl ?_
    refine Er_zald (v := (if dn x then (1 : Int32) else 0)) rfl hn.1.2.2.2.2.2.2.2.2.2.2.2.1 (by show sm_in _ (gS h (y + 4)).2 = true; rw [hn.1.2.2.2.2.2.2.2.2.2.2.2.2.1]; exact sm_in_of (by rw [sm_ofNat_toInt (by omega)]; omega) (by rw [sm_ofNat_toInt (by omega)]; omega)) (by rw [jx_cn (by omega)]; exact (hn.2.1 x hx).2) ?_
    refine Er_run 1 (pc' := bif decide (((if dn x then (1 : Int32) else 0)) = 0) then 73 else 72) (ls' := [some (.ref y), some (.ref c), some (.int (Int32.ofNat t)), some (.int (Int32.ofNat x)), none]) (st' := []) rfl ?_
    refine Er_pc (t := 72) (show (bif decide (((if dn x then (1 : Int32) else 0)) = 0) then 73 else 72) = 72 from by rw [show (decide (((if dn x then (1 : Int32) else 0)) = 0)) = false from by rw [hdn]; rfl]; rfl) ?_
    exact Er_fin rfl rfl ⟨rfl, hn, Fr.refl _ _ _⟩
  | false =>
    rw [if_neg (by decide)]
    refine Er_run 1 (pc' := 49) (ls' := [some (.ref y), some (.ref c), some (.int (Int32.ofNat t)), none, none]) (st' := [.ref c]) rfl ?_
    refine Er_getI (v := Int32.ofNat x) rfl hm.1.1 (by rw [← hx4]; exact hm.2.2.2.1 4 (by omega) (by omega)) ?_
    refine Er_run 3 (pc' := bif decide ((Int32.ofNat x) < 0) then 72 else 57) (ls' := [some (.ref y), some (.ref c), some (.int (Int32.ofNat t)), some (.int (Int32.ofNat x)), none]) (st' := []) rfl ?_
    refine Er_pc (t := 57) (show (bif decide ((Int32.ofNat x) < 0) then 72 else 57) = 57 from by rw [show (decide ((Int32.ofNat x) < 0)) = false from sm_nn (by rw [sm_ofNat_toInt (by omega)]; omega)]; rfl) ?_
    refine Er_run 3 (pc' := bif decide (((7 : Int32)) ≤ (Int32.ofNat x)) then 72 else 63) (ls' := [some (.ref y), some (.ref c), some (.int (Int32.ofNat t)), some (.int (Int32.ofNat x)), none]) (st' := []) rfl ?_
    refine Er_pc (t := 63) (show (bif decide (((7 : Int32)) ≤ (Int32.ofNat x)) then 72 else 63) = 63 from by rw [show (decide (((7 : Int32)) ≤ (Int32.ofNat x))) = false from by rw [show (7 : Int32) = Int32.ofNat 7 from rfl, jx_le (by omega) (by omega)]; exact decide_eq_false (by omega)]; rfl) ?_
    refine Er_run 1 (pc' := 64) (ls' := [some (.ref y), some (.ref c), some (.int (Int32.ofNat t)), some (.int (Int32.ofNat x)), none]) (st' := [.ref y]) rfl ?_
    refine Er_getR (x := y + 4) rfl hn.1.1 hn.1.2.2.2.2.1 ?_
    refine Er_run 1 (pc' := 68) (ls' := [some (.ref y), some (.ref c), some (.int (Int32.ofNat t)), some (.int (Int32.ofNat x)), none]) (st' := [.int (Int32.ofNat x), .ref (y + 4)]) rfl ?_
    refine Er_zald (v := (if dn x then (1 : Int32) else 0)) rfl hn.1.2.2.2.2.2.2.2.2.2.2.2.1 (by show sm_in _ (gS h (y + 4)).2 = true; rw [hn.1.2.2.2.2.2.2.2.2.2.2.2.2.1]; exact sm_in_of (by rw [sm_ofNat_toInt (by omega)]; omega) (by rw [sm_ofNat_toInt (by omega)]; omega)) (by rw [jx_cn (by omega)]; exact (hn.2.1 x hx).2) ?_
    refine Er_run 1 (pc' := bif decide (((if dn x then (1 : Int32) else 0)) = 0) then 73 else 72) (ls' := [some (.ref y), some (.ref c), some (.int (Int32.ofNat t)), some (.int (Int32.ofNat x)), none]) (st' := []) rfl ?_
    refine Er_pc (t := 73) (show (bif decide (((if dn x then (1 : Int32) else 0)) = 0) then 73 else 72) = 73 from by rw [show (decide (((if dn x then (1 : Int32) else 0)) = 0)) = true from by rw [hdn]; rfl]; rfl) ?_
    refine Er_run 2 (pc' := 76) (ls' := [some (.ref y), some (.ref c), some (.int (Int32.ofNat t)), some (.int (Int32.ofNat x)), some (.int ((0 : Int32)))]) (st' := []) rfl ?_
    exact l_send ht hx hd t 0 h ib (by omega) hn hm
theorem s_Line_send (hn : LN h y ib dn lo tw) (hm : MG h c m) (hx4 : m.1 4 = Int32.ofNat x) (hx : x < 7) (hd : c + 2 ≤ y ∨ y + 229 ≤ c) : ∃ h', Run 72 [.ref y, .ref c] h (.inl none) h' ∧ LN h' y (jn_send ib dn lo tw x m) dn (jn_sh lo) (jn_sh tw) ∧ Fr y (y + 229) h h' := by
  have hx' : Ev 72 0 (sm_pad (sm_ent [.ref y, .ref c]) (sm_prog.2.1 72)) [] h (fun r h1 => r = .inl none ∧ LN h1 y (jn_send ib dn lo tw x m) dn (jn_sh lo) (jn_sh tw) ∧ Fr y (y + 229) h h1) := by
    by_cases hb1 : lo &&& 1 = 0
    · by_cases hb2 : tw &&& 1 = 0
      · skip
        show Ev 72 0 [some (.ref y), some (.ref c), none, none, none] [] h _
        refine Er_run 1 (pc' := 1) (ls' := [some (.ref y), some (.ref c), none, none, none]) (st' := [.ref y]) rfl ?_
        refine Er_getI (v := lo) rfl hn.1.1 hn.2.2.1 ?_
        refine Er_run 3 (pc' := bif decide ((lo &&& ((1 : Int32))) = 0) then 13 else 9) (ls' := [some (.ref y), some (.ref c), none, none, none]) (st' := []) rfl ?_
        refine Er_pc (t := 13) (show (bif decide ((lo &&& ((1 : Int32))) = 0) then 13 else 9) = 13 from by rw [show (decide ((lo &&& ((1 : Int32))) = 0)) = true from decide_eq_true hb1]; rfl) ?_
        refine Er_run 1 (pc' := 14) (ls' := [some (.ref y), some (.ref c), none, none, none]) (st' := [.ref y]) rfl ?_
        refine Er_getI (v := tw) rfl hn.1.1 hn.2.2.2 ?_
        refine Er_run 3 (pc' := bif decide ((tw &&& ((1 : Int32))) = 0) then 26 else 22) (ls' := [some (.ref y), some (.ref c), none, none, none]) (st' := []) rfl ?_
        refine Er_pc (t := 26) (show (bif decide ((tw &&& ((1 : Int32))) = 0) then 26 else 22) = 26 from by rw [show (decide ((tw &&& ((1 : Int32))) = 0)) = true from decide_eq_true hb2]; rfl) ?_
        refine Er_run 4 (pc' := 30) (ls' := [some (.ref y), some (.ref c), some (.int ((1 : Int32))), none, none]) (st' := [.ref y, .ref y]) rfl ?_
        refine Er_getI (v := lo) rfl hn.1.1 hn.2.2.1 ?_
        refine Er_run 2 (pc' := 35) (ls' := [some (.ref y), some (.ref c), some (.int ((1 : Int32))), none, none]) (st' := [.int ((Int32.toUInt32 lo >>> (Int32.toUInt32 ((1 : Int32)) &&& Int32.toUInt32 31)).toInt32), .ref y]) rfl ?_
        refine Er_putI rfl hn.1.1 ?_
        refine Er_run 2 (pc' := 40) (ls' := [some (.ref y), some (.ref c), some (.int ((1 : Int32))), none, none]) (st' := [.ref y, .ref y]) rfl ?_
        refine Er_getI (v := tw) rfl hn.1.1 (by rw [gI_ne (by omega)]; exact hn.2.2.2) ?_
        refine Er_run 2 (pc' := 45) (ls' := [some (.ref y), some (.ref c), some (.int ((1 : Int32))), none, none]) (st' := [.int ((Int32.toUInt32 tw >>> (Int32.toUInt32 ((1 : Int32)) &&& Int32.toUInt32 31)).toInt32), .ref y]) rfl ?_
        refine Er_putI rfl hn.1.1 ?_
        have hn1 : LN (setI (setI h y 4 (jn_sh lo)) y 5 (jn_sh tw)) y ib dn (jn_sh lo) (jn_sh tw) := LN_masks hn
        have z : Fr y (y + 229) h (setI (setI h y 4 (jn_sh lo)) y 5 (jn_sh tw)) := (Fr.setI (by omega) (by omega)).trans (Fr.setI (by omega) (by omega))
        refine sm_Ev.mono (l_send2 (t := 1) (by omega) hx hd hn1 (MG_fr (lo := y) (hi := y + 1) ((Fr.setI (by omega) (by omega)).trans (Fr.setI (by omega) (by omega))) (by omega) hm) hx4) (fun r h2 u => ⟨u.1, ?_, z.trans u.2.2⟩)
        rw [jn_send, show jn_times lo tw = 1 from by rw [jn_times, if_pos hb1, if_pos hb2]]
        exact u.2.1
      · skip
        show Ev 72 0 [some (.ref y), some (.ref c), none, none, none] [] h _
        refine Er_run 1 (pc' := 1) (ls' := [some (.ref y), some (.ref c), none, none, none]) (st' := [.ref y]) rfl ?_
        refine Er_getI (v := lo) rfl hn.1.1 hn.2.2.1 ?_
        refine Er_run 3 (pc' := bif decide ((lo &&& ((1 : Int32))) = 0) then 13 else 9) (ls' := [some (.ref y), some (.ref c), none, none, none]) (st' := []) rfl ?_
        refine Er_pc (t := 13) (show (bif decide ((lo &&& ((1 : Int32))) = 0) then 13 else 9) = 13 from by rw [show (decide ((lo &&& ((1 : Int32))) = 0)) = true from decide_eq_true hb1]; rfl) ?_
        refine Er_run 1 (pc' := 14) (ls' := [some (.ref y), some (.ref c), none, none, none]) (st' := [.ref y]) rfl ?_
        refine Er_getI (v := tw) rfl hn.1.1 hn.2.2.2 ?_
        refine Er_run 3 (pc' := bif decide ((tw &&& ((1 : Int32))) = 0) then 26 else 22) (ls' := [some (.ref y), some (.ref c), none, none, none]) (st' := []) rfl ?_
        refine Er_pc (t := 22) (show (bif decide ((tw &&& ((1 : Int32))) = 0) then 26 else 22) = 22 from by rw [show (decide ((tw &&& ((1 : Int32))) = 0)) = false from decide_eq_false hb2]; rfl) ?_
        refine Er_run 5 (pc' := 30) (ls' := [some (.ref y), some (.ref c), some (.int ((2 : Int32))), none, none]) (st' := [.ref y, .ref y]) rfl ?_
        refine Er_getI (v := lo) rfl hn.1.1 hn.2.2.1 ?_
        refine Er_run 2 (pc' := 35) (ls' := [some (.ref y), some (.ref c), some (.int ((2 : Int32))), none, none]) (st' := [.int ((Int32.toUInt32 lo >>> (Int32.toUInt32 ((1 : Int32)) &&& Int32.toUInt32 31)).toInt32), .ref y]) rfl ?_
        refine Er_putI rfl hn.1.1 ?_
        refine Er_run 2 (pc' := 40) (ls' := [some (.ref y), some (.ref c), some (.int ((2 : Int32))), none, none]) (st' := [.ref y, .ref y]) rfl ?_
        refine Er_getI (v := tw) rfl hn.1.1 (by rw [gI_ne (by omega)]; exact hn.2.2.2) ?_
        refine Er_run 2 (pc' := 45) (ls' := [some (.ref y), some (.ref c), some (.int ((2 : Int32))), none, none]) (st' := [.int ((Int32.toUInt32 tw >>> (Int32.toUInt32 ((1 : Int32)) &&& Int32.toUInt32 31)).toInt32), .ref y]) rfl ?_
        refine Er_putI rfl hn.1.1 ?_
        have hn1 : LN (setI (setI h y 4 (jn_sh lo)) y 5 (jn_sh tw)) y ib dn (jn_sh lo) (jn_sh tw) := LN_masks hn
        have z : Fr y (y + 229) h (setI (setI h y 4 (jn_sh lo)) y 5 (jn_sh tw)) := (Fr.setI (by omega) (by omega)).trans (Fr.setI (by omega) (by omega))
        refine sm_Ev.mono (l_send2 (t := 2) (by omega) hx hd hn1 (MG_fr (lo := y) (hi := y + 1) ((Fr.setI (by omega) (by omega)).trans (Fr.setI (by omega) (by omega))) (by omega) hm) hx4) (fun r h2 u => ⟨u.1, ?_, z.trans u.2.2⟩)
        rw [jn_send, show jn_times lo tw = 2 from by rw [jn_times, if_pos hb1, if_neg hb2]]
        exact u.2.1
    · skip
      show Ev 72 0 [some (.ref y), some (.ref c), none, none, none] [] h _
      refine Er_run 1 (pc' := 1) (ls' := [some (.ref y), some (.ref c), none, none, none]) (st' := [.ref y]) rfl ?_
      refine Er_getI (v := lo) rfl hn.1.1 hn.2.2.1 ?_
      refine Er_run 3 (pc' := bif decide ((lo &&& ((1 : Int32))) = 0) then 13 else 9) (ls' := [some (.ref y), some (.ref c), none, none, none]) (st' := []) rfl ?_
      refine Er_pc (t := 9) (show (bif decide ((lo &&& ((1 : Int32))) = 0) then 13 else 9) = 9 from by rw [show (decide ((lo &&& ((1 : Int32))) = 0)) = false from decide_eq_false hb1]; rfl) ?_
      refine Er_run 5 (pc' := 30) (ls' := [some (.ref y), some (.ref c), some (.int ((0 : Int32))), none, none]) (st' := [.ref y, .ref y]) rfl ?_
      refine Er_getI (v := lo) rfl hn.1.1 hn.2.2.1 ?_
      refine Er_run 2 (pc' := 35) (ls' := [some (.ref y), some (.ref c), some (.int ((0 : Int32))), none, none]) (st' := [.int ((Int32.toUInt32 lo >>> (Int32.toUInt32 ((1 : Int32)) &&& Int32.toUInt32 31)).toInt32), .ref y]) rfl ?_
      refine Er_putI rfl hn.1.1 ?_
      refine Er_run 2 (pc' := 40) (ls' := [some (.ref y), some (.ref c), some (.int ((0 : Int32))), none, none]) (st' := [.ref y, .ref y]) rfl ?_
      refine Er_getI (v := tw) rfl hn.1.1 (by rw [gI_ne (by omega)]; exact hn.2.2.2) ?_
      refine Er_run 2 (pc' := 45) (ls' := [some (.ref y), some (.ref c), some (.int ((0 : Int32))), none, none]) (st' := [.int ((Int32.toUInt32 tw >>> (Int32.toUInt32 ((1 : Int32)) &&& Int32.toUInt32 31)).toInt32), .ref y]) rfl ?_
      refine Er_putI rfl hn.1.1 ?_
      have hn1 : LN (setI (setI h y 4 (jn_sh lo)) y 5 (jn_sh tw)) y ib dn (jn_sh lo) (jn_sh tw) := LN_masks hn
      have z : Fr y (y + 229) h (setI (setI h y 4 (jn_sh lo)) y 5 (jn_sh tw)) := (Fr.setI (by omega) (by omega)).trans (Fr.setI (by omega) (by omega))
      refine sm_Ev.mono (l_send2 (t := 0) (by omega) hx hd hn1 (MG_fr (lo := y) (hi := y + 1) ((Fr.setI (by omega) (by omega)).trans (Fr.setI (by omega) (by omega))) (by omega) hm) hx4) (fun r h2 u => ⟨u.1, ?_, z.trans u.2.2⟩)
      rw [jn_send, show jn_times lo tw = 0 from by rw [jn_times, if_neg hb1]]
      exact u.2.1
  obtain ⟨r, h', hr, e, hq⟩ := Run_of (Nat.le_of_ble_eq_true rfl) hx'
  subst e
  exact ⟨h', hr, hq⟩
end LINB
