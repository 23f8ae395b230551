section WORKC
variable {h : sm_H} {w s y j : Nat} {W : Jw} {L : Jn} {cl : List Nat} {G : Nat → Nat → Int32} {PR : Nat → Nat → List (Int32 × Int64)} {F : Nat → Jl}
def jw_spill (W : Jw) : Jw := jw_sP (jw_sP (jw_sP W 0 (jx_ord 10 1 (W.2.2.2.1 0))) 3 (W.2.2.2.1 3 ++ jx_ord 10 1 (W.2.2.2.1 0))) 0 []
/-- what was spilled, put in order -/
def jw_all (W : Jw) : Jl := jx_ord 10 1 (W.2.2.2.1 1 ++ (W.2.2.2.1 3 ++ jx_ord 10 1 (W.2.2.2.1 0)))
def jw_mrg0 (W : Jw) : Jw := jw_sg (jw_sg (jw_sP (jw_sP (jw_spill W) 1 (W.2.2.2.1 1 ++ (W.2.2.2.1 3 ++ jx_ord 10 1 (W.2.2.2.1 0)))) 1 (jw_all W)) 15 0) 12 2
/-- mergeSpills; co: the COMBINE -/
def jw_merge (W : Jw) (co : List (Int32 × Int64)) : Jw := if co.length = 0 then jw_sg (jw_sP (jw_mrg0 W) 2 (W.2.2.2.1 2 ++ jw_all W)) 15 (jw_all W).length else jw_mrg0 W

theorem s_Worker_spill (hsp : (W.2.2.2.1 3).length + (jx_ord 10 1 (W.2.2.2.1 0)).length ≤ 64) (hsy : s + 140 ≤ y) (hyw : y + 229 ≤ w) (hw : WW h w s y W) (hl : LL h y L) (hs : ST h s cl G PR F) : ∃ h', Run 101 [.ref w] h (.inl none) h' ∧ WW h' w s y (jw_spill W) ∧ LL h' y (L) ∧ ST h' s cl G PR F ∧ FW w y h h' := by
  have hx : Ev 101 0 (sm_pad (sm_ent [.ref w]) (sm_prog.2.1 101)) [] h (fun r h1 => r = .inl none ∧ WW h1 w s y (jw_spill W) ∧ LL h1 y (L) ∧ ST h1 s cl G PR F ∧ FW w y h h1) := by
    show Ev 101 0 [some (.ref w)] [] h _
    refine Er_run 1 (pc' := 1) (ls' := [some (.ref w)]) (st' := [.ref w]) rfl ?_
    refine Er_getR (x := w + 22) rfl hw.1.1 hw.1.2.2.2.2.2.2.1 ?_
    refine Er_run 1 (pc' := 5) (ls' := [some (.ref w)]) (st' := [.ref w, .ref (w + 22)]) rfl ?_
    refine Er_getR (x := w + 28) rfl hw.1.1 hw.1.2.2.2.2.2.2.2.2.1 ?_
    obtain ⟨h1, r1, p1, y1⟩ := s_Pairs_order (show PL h (w + 22) 24 (W.2.2.2.1 0) from hw.2.2.2.2.1) (show isP h (w + 28) 1000 from hw.2.2.2.2.2.2.1) (by omega) (by omega) (by have := hw.2.2.2.2.1.2.2.1; omega)
    have z1 : Fr (w + 22) (w + 31) h h1 := Fr2_fr y1 (by omega) (by omega) (by omega) (by omega)
    have w1 : WW h1 w s y (jw_sP W 0 (jx_ord 10 1 (W.2.2.2.1 0))) := WW_o0 y1 p1 hw
    have l1 := LL_fr z1 (by omega) hl
    have s1 := ST_fr z1 (by omega) hs
    have q1 : FW w y h h1 := FW.trans (FW.refl w y h) (FW.ofW z1 (by omega) (by omega))
    refine Er_inv0 (q' := w + 22) (ci := 0) (av := [.ref (w + 28)]) (rest := []) rfl rfl ⟨Nat.le_of_ble_eq_true rfl, Nat.le_of_ble_eq_true rfl⟩ rfl rfl hw.2.2.2.2.1.1.1 r1 ?_
    refine Er_run 1 (pc' := 12) (ls' := [some (.ref w)]) (st' := [.ref w]) rfl ?_
    refine Er_getR (x := w + 1) rfl w1.1.1 w1.1.2.2.2.1 ?_
    refine Er_inv1 (q' := w + 1) (ci := 7) (av := []) (rest := []) rfl rfl ⟨Nat.le_of_ble_eq_true rfl, Nat.le_of_ble_eq_true rfl⟩ rfl rfl w1.2.2.2.2.2.2.2.2.2.2.1.1 (s_Disk_spilled w1.2.2.2.2.2.2.2.2.2.2) ?_
    refine Er_run 1 (pc' := 19) (ls' := [some (.ref w)]) (st' := [.ref w, .ref (w + 2)]) rfl ?_
    refine Er_getR (x := w + 22) rfl w1.1.1 w1.1.2.2.2.2.2.2.1 ?_
    obtain ⟨h2, r2, p2, z2⟩ := s_Pairs_addAll1 (show PL h1 (w + 2) 64 (W.2.2.2.1 3) from w1.2.2.2.2.2.2.2.2.2.2.2.2.1) (show PL h1 (w + 22) 24 (jx_ord 10 1 (W.2.2.2.1 0)) from w1.2.2.2.2.1) (by omega) hsp
    have w2 : WW h2 w s y (jw_sP (jw_sP W 0 (jx_ord 10 1 (W.2.2.2.1 0))) 3 ((W.2.2.2.1 3) ++ (jx_ord 10 1 (W.2.2.2.1 0)))) := WW_P3 z2 p2 w1
    have l2 := LL_fr z2 (by omega) l1
    have s2 := ST_fr z2 (by omega) s1
    have q2 : FW w y h h2 := FW.trans q1 (FW.ofW z2 (by omega) (by omega))
    refine Er_inv1 (q' := w + 2) (ci := 0) (av := [.ref (w + 22)]) (rest := []) rfl rfl ⟨Nat.le_of_ble_eq_true rfl, Nat.le_of_ble_eq_true rfl⟩ rfl rfl w1.2.2.2.2.2.2.2.2.2.2.2.2.1.1.1 r2 ?_
    refine Er_run 2 (pc' := 27) (ls' := [some (.ref w)]) (st' := [.ref w]) rfl ?_
    refine Er_getR (x := w + 22) rfl w2.1.1 w2.1.2.2.2.2.2.2.1 ?_
    obtain ⟨h3, r3, p3, z3⟩ := s_Pairs_empty w2.2.2.2.2.1
    have w3 : WW h3 w s y (jw_sP (jw_sP (jw_sP W 0 (jx_ord 10 1 (W.2.2.2.1 0))) 3 ((W.2.2.2.1 3) ++ (jx_ord 10 1 (W.2.2.2.1 0)))) 0 []) := WW_P0 z3 p3 w2
    have l3 := LL_fr z3 (by omega) l2
    have s3 := ST_fr z3 (by omega) s2
    have q3 : FW w y h h3 := FW.trans q2 (FW.ofW z3 (by omega) (by omega))
    refine Er_inv0 (q' := w + 22) (ci := 0) (av := []) (rest := []) rfl rfl ⟨Nat.le_of_ble_eq_true rfl, Nat.le_of_ble_eq_true rfl⟩ rfl rfl w2.2.2.2.2.1.1.1 r3 ?_
    exact Er_fin rfl rfl ⟨rfl, w3, l3, s3, q3⟩
  obtain ⟨r, h', hr, e, hq⟩ := Run_of (Nat.le_of_ble_eq_true rfl) hx
  subst e
  exact ⟨h', hr, hq⟩
theorem s_Worker_mergeSpills (hsp : (W.2.2.2.1 3).length + (jx_ord 10 1 (W.2.2.2.1 0)).length ≤ 64) (hga : (W.2.2.2.1 1).length + (W.2.2.2.1 3 ++ jx_ord 10 1 (W.2.2.2.1 0)).length ≤ 1000) (hal0 : (jw_all W).length ≤ 1000) (hma : (PR j 1).length = 0 → (W.2.2.2.1 2).length + (jw_all W).length ≤ 300) (hj : W.2.1 = some j) (hj8 : j < 8) (hsy : s + 140 ≤ y) (hyw : y + 229 ≤ w) (hw : WW h w s y W) (hl : LL h y L) (hs : ST h s cl G PR F) : ∃ h', Run 102 [.ref w] h (.inl none) h' ∧ WW h' w s y (jw_merge W (PR j 1)) ∧ LL h' y (L) ∧ ST h' s cl G PR F ∧ FW w y h h' := by
  have hx : Ev 102 0 (sm_pad (sm_ent [.ref w]) (sm_prog.2.1 102)) [] h (fun r h1 => r = .inl none ∧ WW h1 w s y (jw_merge W (PR j 1)) ∧ LL h1 y (L) ∧ ST h1 s cl G PR F ∧ FW w y h h1) := by
    have hal : (jx_ord 10 1 ((W.2.2.2.1 1) ++ (W.2.2.2.1 3 ++ jx_ord 10 1 (W.2.2.2.1 0)))).length ≤ 1000 := hal0
    by_cases hc : (PR j 1).length = 0
    · skip
      show Ev 102 0 [some (.ref w)] [] h _
      refine Er_run 1 (pc' := 1) (ls' := [some (.ref w)]) (st' := [.ref w]) rfl ?_
      obtain ⟨h1, r1, w1, l1, s1, zz1⟩ := s_Worker_spill hsp hsy hyw hw hl hs
      have q1 : FW w y h h1 := FW.trans (FW.refl w y h) zz1
      refine Er_inv0 (q' := w) (ci := 8) (av := []) (rest := []) rfl rfl ⟨Nat.le_of_ble_eq_true rfl, Nat.le_of_ble_eq_true rfl⟩ rfl rfl hw.1.1 r1 ?_
      refine Er_run 1 (pc' := 5) (ls' := [some (.ref w)]) (st' := [.ref w]) rfl ?_
      refine Er_getR (x := w + 25) rfl w1.1.1 w1.1.2.2.2.2.2.2.2.1 ?_
      refine Er_run 1 (pc' := 9) (ls' := [some (.ref w)]) (st' := [.ref w, .ref (w + 25)]) rfl ?_
      refine Er_getR (x := w + 1) rfl w1.1.1 w1.1.2.2.2.1 ?_
      refine Er_inv1 (q' := w + 1) (ci := 7) (av := []) (rest := [.ref (w + 25)]) rfl rfl ⟨Nat.le_of_ble_eq_true rfl, Nat.le_of_ble_eq_true rfl⟩ rfl rfl w1.2.2.2.2.2.2.2.2.2.2.1.1 (s_Disk_spilled w1.2.2.2.2.2.2.2.2.2.2) ?_
      obtain ⟨h2, r2, p2, z2⟩ := s_Pairs_addAll1 (show PL h1 (w + 25) 1000 (W.2.2.2.1 1) from w1.2.2.2.2.2.1) (show PL h1 (w + 2) 64 (W.2.2.2.1 3 ++ jx_ord 10 1 (W.2.2.2.1 0)) from w1.2.2.2.2.2.2.2.2.2.2.2.2.1) (by omega) hga
      have w2 : WW h2 w s y (jw_sP (jw_spill W) 1 ((W.2.2.2.1 1) ++ (W.2.2.2.1 3 ++ jx_ord 10 1 (W.2.2.2.1 0)))) := WW_P1 z2 p2 w1
      have l2 := LL_fr z2 (by omega) l1
      have s2 := ST_fr z2 (by omega) s1
      have q2 : FW w y h h2 := FW.trans q1 (FW.ofW z2 (by omega) (by omega))
      refine Er_inv1 (q' := w + 25) (ci := 0) (av := [.ref (w + 2)]) (rest := []) rfl rfl ⟨Nat.le_of_ble_eq_true rfl, Nat.le_of_ble_eq_true rfl⟩ rfl rfl w1.2.2.2.2.2.1.1.1 r2 ?_
      refine Er_run 2 (pc' := 20) (ls' := [some (.ref w)]) (st' := [.ref w]) rfl ?_
      refine Er_getR (x := w + 25) rfl w2.1.1 w2.1.2.2.2.2.2.2.2.1 ?_
      refine Er_run 1 (pc' := 24) (ls' := [some (.ref w)]) (st' := [.ref w, .ref (w + 25)]) rfl ?_
      refine Er_getR (x := w + 28) rfl w2.1.1 w2.1.2.2.2.2.2.2.2.2.1 ?_
      obtain ⟨h3, r3, p3, y3⟩ := s_Pairs_order (show PL h2 (w + 25) 1000 ((W.2.2.2.1 1) ++ (W.2.2.2.1 3 ++ jx_ord 10 1 (W.2.2.2.1 0))) from w2.2.2.2.2.2.1) (show isP h2 (w + 28) 1000 from w2.2.2.2.2.2.2.1) (by omega) (by omega) (by rw [List.length_append]; omega)
      have z3 : Fr (w + 22) (w + 31) h2 h3 := Fr2_fr y3 (by omega) (by omega) (by omega) (by omega)
      have w3 : WW h3 w s y (jw_sP (jw_sP (jw_spill W) 1 ((W.2.2.2.1 1) ++ (W.2.2.2.1 3 ++ jx_ord 10 1 (W.2.2.2.1 0)))) 1 (jx_ord 10 1 ((W.2.2.2.1 1) ++ (W.2.2.2.1 3 ++ jx_ord 10 1 (W.2.2.2.1 0))))) := WW_o1 y3 p3 w2
      have l3 := LL_fr z3 (by omega) l2
      have s3 := ST_fr z3 (by omega) s2
      have q3 : FW w y h h3 := FW.trans q2 (FW.ofW z3 (by omega) (by omega))
      refine Er_inv0 (q' := w + 25) (ci := 0) (av := [.ref (w + 28)]) (rest := []) rfl rfl ⟨Nat.le_of_ble_eq_true rfl, Nat.le_of_ble_eq_true rfl⟩ rfl rfl w2.2.2.2.2.2.1.1.1 r3 ?_
      refine Er_run 2 (pc' := 32) (ls' := [some (.ref w)]) (st' := [.int ((0 : Int32)), .ref w]) rfl ?_
      refine Er_putI rfl w3.1.1 ?_
      have z4 : Fr w (w + 1) h3 (setI h3 w 15 ((0 : Int32))) := Fr.setI (by omega) (by omega)
      have w4 : WW (setI h3 w 15 ((0 : Int32))) w s y (jw_sg (jw_sP (jw_sP (jw_spill W) 1 ((W.2.2.2.1 1) ++ (W.2.2.2.1 3 ++ jx_ord 10 1 (W.2.2.2.1 0)))) 1 (jx_ord 10 1 ((W.2.2.2.1 1) ++ (W.2.2.2.1 3 ++ jx_ord 10 1 (W.2.2.2.1 0))))) 15 0) := WW_sg (x := 0) (by omega) w3
      generalize setI h3 w 15 ((0 : Int32)) = h4 at z4 w4 ⊢
      have l4 := LL_fr z4 (by omega) l3
      have s4 := ST_fr z4 (by omega) s3
      have q4 : FW w y h h4 := FW.trans q3 (FW.ofW z4 (by omega) (by omega))
      refine Er_run 2 (pc' := 37) (ls' := [some (.ref w)]) (st' := [.int ((2 : Int32)), .ref w]) rfl ?_
      refine Er_putI rfl w4.1.1 ?_
      have z5 : Fr w (w + 1) h4 (setI h4 w 12 ((2 : Int32))) := Fr.setI (by omega) (by omega)
      have w5 : WW (setI h4 w 12 ((2 : Int32))) w s y (jw_sg (jw_sg (jw_sP (jw_sP (jw_spill W) 1 ((W.2.2.2.1 1) ++ (W.2.2.2.1 3 ++ jx_ord 10 1 (W.2.2.2.1 0)))) 1 (jx_ord 10 1 ((W.2.2.2.1 1) ++ (W.2.2.2.1 3 ++ jx_ord 10 1 (W.2.2.2.1 0))))) 15 0) 12 2) := WW_sg (x := 2) (by omega) w4
      generalize setI h4 w 12 ((2 : Int32)) = h5 at z5 w5 ⊢
      have l5 := LL_fr z5 (by omega) l4
      have s5 := ST_fr z5 (by omega) s4
      have q5 : FW w y h h5 := FW.trans q4 (FW.ofW z5 (by omega) (by omega))
      refine Er_run 1 (pc' := 41) (ls' := [some (.ref w)]) (st' := [.ref w]) rfl ?_
      refine Er_getR (x := s + 52 + 11 * j) rfl w5.1.1 (Eq.trans w5.2.2.1 (show (jw_sg (jw_sg (jw_sP (jw_sP (jw_spill W) 1 ((W.2.2.2.1 1) ++ (W.2.2.2.1 3 ++ jx_ord 10 1 (W.2.2.2.1 0)))) 1 (jx_ord 10 1 ((W.2.2.2.1 1) ++ (W.2.2.2.1 3 ++ jx_ord 10 1 (W.2.2.2.1 0))))) 15 0) 12 2).2.1.map (fun j => s + 52 + 11 * j) = some (s + 52 + 11 * j) from by rw [show (jw_sg (jw_sg (jw_sP (jw_sP (jw_spill W) 1 ((W.2.2.2.1 1) ++ (W.2.2.2.1 3 ++ jx_ord 10 1 (W.2.2.2.1 0)))) 1 (jx_ord 10 1 ((W.2.2.2.1 1) ++ (W.2.2.2.1 3 ++ jx_ord 10 1 (W.2.2.2.1 0))))) 15 0) 12 2).2.1 = some j from hj]; rfl)) ?_
      refine Er_run 1 (pc' := 45) (ls' := [some (.ref w)]) (st' := [.int ((1 : Int32)), .ref (s + 52 + 11 * j)]) rfl ?_
      refine Er_inv1 (q' := s + 52 + 11 * j) (ci := 2) (av := [.int ((1 : Int32))]) (rest := []) rfl rfl ⟨Nat.le_of_ble_eq_true rfl, Nat.le_of_ble_eq_true rfl⟩ rfl rfl (s5.2.2.2 j hj8).1.1 (s_Job_programFor1 (s5.2.2.2 j hj8).1) ?_
      refine Er_inv1 (q' := s + 52 + 11 * j + 5) (ci := 1) (av := []) (rest := []) rfl rfl ⟨Nat.le_of_ble_eq_true rfl, Nat.le_of_ble_eq_true rfl⟩ rfl rfl (s5.2.2.2 j hj8).2.2.2.1.1.1 (s_Program_length (s5.2.2.2 j hj8).2.2.2.1) ?_
      refine Er_run 1 (pc' := bif !decide ((Int32.ofNat (PR j 1).length) = 0) then 77 else 54) (ls' := [some (.ref w)]) (st' := []) rfl ?_
      refine Er_pc (t := 54) (show (bif !decide ((Int32.ofNat (PR j 1).length) = 0) then 77 else 54) = 54 from by rw [show (!decide ((Int32.ofNat (PR j 1).length) = 0)) = false from by rw [hc]; rfl]; rfl) ?_
      refine Er_run 1 (pc' := 55) (ls' := [some (.ref w)]) (st' := [.ref w]) rfl ?_
      refine Er_getR (x := w + 31) rfl w5.1.1 w5.1.2.2.2.2.2.2.2.2.2.1 ?_
      refine Er_run 1 (pc' := 59) (ls' := [some (.ref w)]) (st' := [.ref w, .ref (w + 31)]) rfl ?_
      refine Er_getR (x := w + 25) rfl w5.1.1 w5.1.2.2.2.2.2.2.2.1 ?_
      obtain ⟨h6, r6, p6, z6⟩ := s_Pairs_addAll1 (show PL h5 (w + 31) 300 (W.2.2.2.1 2) from w5.2.2.2.2.2.2.2.1) (show PL h5 (w + 25) 1000 (jx_ord 10 1 ((W.2.2.2.1 1) ++ (W.2.2.2.1 3 ++ jx_ord 10 1 (W.2.2.2.1 0)))) from w5.2.2.2.2.2.1) (by omega) (hma hc)
      have w6 : WW h6 w s y (jw_sP (jw_sg (jw_sg (jw_sP (jw_sP (jw_spill W) 1 ((W.2.2.2.1 1) ++ (W.2.2.2.1 3 ++ jx_ord 10 1 (W.2.2.2.1 0)))) 1 (jx_ord 10 1 ((W.2.2.2.1 1) ++ (W.2.2.2.1 3 ++ jx_ord 10 1 (W.2.2.2.1 0))))) 15 0) 12 2) 2 ((W.2.2.2.1 2) ++ (jx_ord 10 1 ((W.2.2.2.1 1) ++ (W.2.2.2.1 3 ++ jx_ord 10 1 (W.2.2.2.1 0)))))) := WW_P2 z6 p6 w5
      have l6 := LL_fr z6 (by omega) l5
      have s6 := ST_fr z6 (by omega) s5
      have q6 : FW w y h h6 := FW.trans q5 (FW.ofW z6 (by omega) (by omega))
      refine Er_inv1 (q' := w + 31) (ci := 0) (av := [.ref (w + 25)]) (rest := []) rfl rfl ⟨Nat.le_of_ble_eq_true rfl, Nat.le_of_ble_eq_true rfl⟩ rfl rfl w5.2.2.2.2.2.2.2.1.1.1 r6 ?_
      refine Er_run 3 (pc' := 68) (ls' := [some (.ref w)]) (st' := [.ref w, .ref w]) rfl ?_
      refine Er_getR (x := w + 25) rfl w6.1.1 w6.1.2.2.2.2.2.2.2.1 ?_
      refine Er_inv1 (q' := w + 25) (ci := 0) (av := []) (rest := [.ref w]) rfl rfl ⟨Nat.le_of_ble_eq_true rfl, Nat.le_of_ble_eq_true rfl⟩ rfl rfl w6.2.2.2.2.2.1.1.1 (s_Pairs_length (show PL h6 (w + 25) 1000 (jx_ord 10 1 ((W.2.2.2.1 1) ++ (W.2.2.2.1 3 ++ jx_ord 10 1 (W.2.2.2.1 0)))) from w6.2.2.2.2.2.1)) ?_
      refine Er_putI rfl w6.1.1 ?_
      have z7 : Fr w (w + 1) h6 (setI h6 w 15 (Int32.ofNat (jx_ord 10 1 ((W.2.2.2.1 1) ++ (W.2.2.2.1 3 ++ jx_ord 10 1 (W.2.2.2.1 0)))).length)) := Fr.setI (by omega) (by omega)
      have w7 : WW (setI h6 w 15 (Int32.ofNat (jx_ord 10 1 ((W.2.2.2.1 1) ++ (W.2.2.2.1 3 ++ jx_ord 10 1 (W.2.2.2.1 0)))).length)) w s y (jw_sg (jw_sP (jw_sg (jw_sg (jw_sP (jw_sP (jw_spill W) 1 ((W.2.2.2.1 1) ++ (W.2.2.2.1 3 ++ jx_ord 10 1 (W.2.2.2.1 0)))) 1 (jx_ord 10 1 ((W.2.2.2.1 1) ++ (W.2.2.2.1 3 ++ jx_ord 10 1 (W.2.2.2.1 0))))) 15 0) 12 2) 2 ((W.2.2.2.1 2) ++ (jx_ord 10 1 ((W.2.2.2.1 1) ++ (W.2.2.2.1 3 ++ jx_ord 10 1 (W.2.2.2.1 0)))))) 15 ((jx_ord 10 1 ((W.2.2.2.1 1) ++ (W.2.2.2.1 3 ++ jx_ord 10 1 (W.2.2.2.1 0)))).length)) := WW_sg (x := (jx_ord 10 1 ((W.2.2.2.1 1) ++ (W.2.2.2.1 3 ++ jx_ord 10 1 (W.2.2.2.1 0)))).length) (by omega) w6
      generalize setI h6 w 15 (Int32.ofNat (jx_ord 10 1 ((W.2.2.2.1 1) ++ (W.2.2.2.1 3 ++ jx_ord 10 1 (W.2.2.2.1 0)))).length) = h7 at z7 w7 ⊢
      have l7 := LL_fr z7 (by omega) l6
      have s7 := ST_fr z7 (by omega) s6
      have q7 : FW w y h h7 := FW.trans q6 (FW.ofW z7 (by omega) (by omega))
      refine Er_fin rfl rfl ?_
      rw [jw_merge, if_pos hc]
      exact ⟨rfl, w7, l7, s7, q7⟩
    · skip
      show Ev 102 0 [some (.ref w)] [] h _
      refine Er_run 1 (pc' := 1) (ls' := [some (.ref w)]) (st' := [.ref w]) rfl ?_
      obtain ⟨h1, r1, w1, l1, s1, zz1⟩ := s_Worker_spill hsp hsy hyw hw hl hs
      have q1 : FW w y h h1 := FW.trans (FW.refl w y h) zz1
      refine Er_inv0 (q' := w) (ci := 8) (av := []) (rest := []) rfl rfl ⟨Nat.le_of_ble_eq_true rfl, Nat.le_of_ble_eq_true rfl⟩ rfl rfl hw.1.1 r1 ?_
      refine Er_run 1 (pc' := 5) (ls' := [some (.ref w)]) (st' := [.ref w]) rfl ?_
      refine Er_getR (x := w + 25) rfl w1.1.1 w1.1.2.2.2.2.2.2.2.1 ?_
      refine Er_run 1 (pc' := 9) (ls' := [some (.ref w)]) (st' := [.ref w, .ref (w + 25)]) rfl ?_
      refine Er_getR (x := w + 1) rfl w1.1.1 w1.1.2.2.2.1 ?_
      refine Er_inv1 (q' := w + 1) (ci := 7) (av := []) (rest := [.ref (w + 25)]) rfl rfl ⟨Nat.le_of_ble_eq_true rfl, Nat.le_of_ble_eq_true rfl⟩ rfl rfl w1.2.2.2.2.2.2.2.2.2.2.1.1 (s_Disk_spilled w1.2.2.2.2.2.2.2.2.2.2) ?_
      obtain ⟨h2, r2, p2, z2⟩ := s_Pairs_addAll1 (show PL h1 (w + 25) 1000 (W.2.2.2.1 1) from w1.2.2.2.2.2.1) (show PL h1 (w + 2) 64 (W.2.2.2.1 3 ++ jx_ord 10 1 (W.2.2.2.1 0)) from w1.2.2.2.2.2.2.2.2.2.2.2.2.1) (by omega) hga
      have w2 : WW h2 w s y (jw_sP (jw_spill W) 1 ((W.2.2.2.1 1) ++ (W.2.2.2.1 3 ++ jx_ord 10 1 (W.2.2.2.1 0)))) := WW_P1 z2 p2 w1
      have l2 := LL_fr z2 (by omega) l1
      have s2 := ST_fr z2 (by omega) s1
      have q2 : FW w y h h2 := FW.trans q1 (FW.ofW z2 (by omega) (by omega))
      refine Er_inv1 (q' := w + 25) (ci := 0) (av := [.ref (w + 2)]) (rest := []) rfl rfl ⟨Nat.le_of_ble_eq_true rfl, Nat.le_of_ble_eq_true rfl⟩ rfl rfl w1.2.2.2.2.2.1.1.1 r2 ?_
      refine Er_run 2 (pc' := 20) (ls' := [some (.ref w)]) (st' := [.ref w]) rfl ?_
      refine Er_getR (x := w + 25) rfl w2.1.1 w2.1.2.2.2.2.2.2.2.1 ?_
      refine Er_run 1 (pc' := 24) (ls' := [some (.ref w)]) (st' := [.ref w, .ref (w + 25)]) rfl ?_
      refine Er_getR (x := w + 28) rfl w2.1.1 w2.1.2.2.2.2.2.2.2.2.1 ?_
      obtain ⟨h3, r3, p3, y3⟩ := s_Pairs_order (show PL h2 (w + 25) 1000 ((W.2.2.2.1 1) ++ (W.2.2.2.1 3 ++ jx_ord 10 1 (W.2.2.2.1 0))) from w2.2.2.2.2.2.1) (show isP h2 (w + 28) 1000 from w2.2.2.2.2.2.2.1) (by omega) (by omega) (by rw [List.length_append]; omega)
      have z3 : Fr (w + 22) (w + 31) h2 h3 := Fr2_fr y3 (by omega) (by omega) (by omega) (by omega)
      have w3 : WW h3 w s y (jw_sP (jw_sP (jw_spill W) 1 ((W.2.2.2.1 1) ++ (W.2.2.2.1 3 ++ jx_ord 10 1 (W.2.2.2.1 0)))) 1 (jx_ord 10 1 ((W.2.2.2.1 1) ++ (W.2.2.2.1 3 ++ jx_ord 10 1 (W.2.2.2.1 0))))) := WW_o1 y3 p3 w2
      have l3 := LL_fr z3 (by omega) l2
      have s3 := ST_fr z3 (by omega) s2
      have q3 : FW w y h h3 := FW.trans q2 (FW.ofW z3 (by omega) (by omega))
      refine Er_inv0 (q' := w + 25) (ci := 0) (av := [.ref (w + 28)]) (rest := []) rfl rfl ⟨Nat.le_of_ble_eq_true rfl, Nat.le_of_ble_eq_true rfl⟩ rfl rfl w2.2.2.2.2.2.1.1.1 r3 ?_
      refine Er_run 2 (pc' := 32) (ls' := [some (.ref w)]) (st' := [.int ((0 : Int32)), .ref w]) rfl ?_
      refine Er_putI rfl w3.1.1 ?_
      have z4 : Fr w (w + 1) h3 (setI h3 w 15 ((0 : Int32))) := Fr.setI (by omega) (by omega)
      have w4 : WW (setI h3 w 15 ((0 : Int32))) w s y (jw_sg (jw_sP (jw_sP (jw_spill W) 1 ((W.2.2.2.1 1) ++ (W.2.2.2.1 3 ++ jx_ord 10 1 (W.2.2.2.1 0)))) 1 (jx_ord 10 1 ((W.2.2.2.1 1) ++ (W.2.2.2.1 3 ++ jx_ord 10 1 (W.2.2.2.1 0))))) 15 0) := WW_sg (x := 0) (by omega) w3
      generalize setI h3 w 15 ((0 : Int32)) = h4 at z4 w4 ⊢
      have l4 := LL_fr z4 (by omega) l3
      have s4 := ST_fr z4 (by omega) s3
      have q4 : FW w y h h4 := FW.trans q3 (FW.ofW z4 (by omega) (by omega))
      refine Er_run 2 (pc' := 37) (ls' := [some (.ref w)]) (st' := [.int ((2 : Int32)), .ref w]) rfl ?_
      refine Er_putI rfl w4.1.1 ?_
      have z5 : Fr w (w + 1) h4 (setI h4 w 12 ((2 : Int32))) := Fr.setI (by omega) (by omega)
      have w5 : WW (setI h4 w 12 ((2 : Int32))) w s y (jw_sg (jw_sg (jw_sP (jw_sP (jw_spill W) 1 ((W.2.2.2.1 1) ++ (W.2.2.2.1 3 ++ jx_ord 10 1 (W.2.2.2.1 0)))) 1 (jx_ord 10 1 ((W.2.2.2.1 1) ++ (W.2.2.2.1 3 ++ jx_ord 10 1 (W.2.2.2.1 0))))) 15 0) 12 2) := WW_sg (x := 2) (by omega) w4
      generalize setI h4 w 12 ((2 : Int32)) = h5 at z5 w5 ⊢
      have l5 := LL_fr z5 (by omega) l4
      have s5 := ST_fr z5 (by omega) s4
      have q5 : FW w y h h5 := FW.trans q4 (FW.ofW z5 (by omega) (by omega))
      refine Er_run 1 (pc' := 41) (ls' := [some (.ref w)]) (st' := [.ref w]) rfl ?_
      refine Er_getR (x := s + 52 + 11 * j) rfl w5.1.1 (Eq.trans w5.2.2.1 (show (jw_sg (jw_sg (jw_sP (jw_sP (jw_spill W) 1 ((W.2.2.2.1 1) ++ (W.2.2.2.1 3 ++ jx_ord 10 1 (W.2.2.2.1 0)))) 1 (jx_ord 10 1 ((W.2.2.2.1 1) ++ (W.2.2.2.1 3 ++ jx_ord 10 1 (W.2.2.2.1 0))))) 15 0) 12 2).2.1.map (fun j => s + 52 + 11 * j) = some (s + 52 + 11 * j) from by rw [show (jw_sg (jw_sg (jw_sP (jw_sP (jw_spill W) 1 ((W.2.2.2.1 1) ++ (W.2.2.2.1 3 ++ jx_ord 10 1 (W.2.2.2.1 0)))) 1 (jx_ord 10 1 ((W.2.2.2.1 1) ++ (W.2.2.2.1 3 ++ jx_ord 10 1 (W.2.2.2.1 0))))) 15 0) 12 2).2.1 = some j from hj]; rfl)) ?_
      refine Er_run 1 (pc' := 45) (ls' := [some (.ref w)]) (st' := [.int ((1 : Int32)), .ref (s + 52 + 11 * j)]) rfl ?_
      refine Er_inv1 (q' := s + 52 + 11 * j) (ci := 2) (av := [.int ((1 : Int32))]) (rest := []) rfl rfl ⟨Nat.le_of_ble_eq_true rfl, Nat.le_of_ble_eq_true rfl⟩ rfl rfl (s5.2.2.2 j hj8).1.1 (s_Job_programFor1 (s5.2.2.2 j hj8).1) ?_
      refine Er_inv1 (q' := s + 52 + 11 * j + 5) (ci := 1) (av := []) (rest := []) rfl rfl ⟨Nat.le_of_ble_eq_true rfl, Nat.le_of_ble_eq_true rfl⟩ rfl rfl (s5.2.2.2 j hj8).2.2.2.1.1.1 (s_Program_length (s5.2.2.2 j hj8).2.2.2.1) ?_
      refine Er_run 1 (pc' := bif !decide ((Int32.ofNat (PR j 1).length) = 0) then 77 else 54) (ls' := [some (.ref w)]) (st' := []) rfl ?_
      refine Er_pc (t := 77) (show (bif !decide ((Int32.ofNat (PR j 1).length) = 0) then 77 else 54) = 77 from by rw [show (!decide ((Int32.ofNat (PR j 1).length) = 0)) = true from by rw [show (0 : Int32) = Int32.ofNat 0 from rfl, jx_eq (by have := (hs.2.2.2 j hj8).2.2.2.1.2.1; omega) (by omega), decide_eq_false hc]; rfl]; rfl) ?_
      refine Er_fin rfl rfl ?_
      rw [jw_merge, if_neg hc]
      exact ⟨rfl, w5, l5, s5, q5⟩
  obtain ⟨r, h', hr, e, hq⟩ := Run_of (Nat.le_of_ble_eq_true rfl) hx
  subst e
  exact ⟨h', hr, hq⟩
def jw_pf (W : Jw) (u : Int32) (t : Nat) (r : Int32) (x : Nat) : Nat → Int32 := jx_up (jx_up (jm_new 5 (Int32.ofNat (W.1 0)) u W.2.2.2.2.1 (Int32.ofNat t)) 7 r) 8 (Int32.ofNat x)
def jw_pg (W : Jw) (np : Nat) (u : Int32) (t : Nat) (r : Int32) (x : Nat) : Jm := jd_ld np (jw_pf W u t r x) x t (W.2.2.2.2.2 t)
theorem s_Worker_writePage {np q t x : Nat} {u r : Int32} (ht : t < 44) (hx100 : x < 100000) (hnp : ¬ Int32.ofNat np ≤ 0 ∧ (Int32.ofNat np).toInt64 ≠ 0) (hq : W.2.2.2.2.1 = Int32.ofNat q) (hqc : q < cl.length) (hcq : cl[q]? = some j) (hj8 : j < 8) (hG5 : G j 5 = Int32.ofNat np) (hsy : s + 140 ≤ y) (hyw : y + 229 ≤ w) (hw : WW h w s y W) (hl : LL h y L) (hs : ST h s cl G PR F) : ∃ h', Run 97 [.ref w, .int u, .int (Int32.ofNat t), .int r, .int (Int32.ofNat x)] h (.inl none) h' ∧ WW h' w s y (W) ∧ LL h' y (L) ∧ ST h' s cl G PR F ∧ FW w y h h' ∧ MG h' (w + 20) (jw_pg W np u t r x) := by
  obtain ⟨m0, g0⟩ := hw.2.2.2.2.2.2.2.2.2.1
  have hx : Ev 97 0 (sm_pad (sm_ent [.ref w, .int u, .int (Int32.ofNat t), .int r, .int (Int32.ofNat x)]) (sm_prog.2.1 97)) [] h (fun r9 h1 => r9 = .inl none ∧ WW h1 w s y (W) ∧ LL h1 y (L) ∧ ST h1 s cl G PR F ∧ FW w y h h1 ∧ MG h1 (w + 20) (jw_pg W np u t r x)) := by
    show Ev 97 0 [some (.ref w), some (.int u), some (.int (Int32.ofNat t)), some (.int r), some (.int (Int32.ofNat x)), none] [] h _
    refine Er_run 1 (pc' := 1) (ls' := [some (.ref w), some (.int u), some (.int (Int32.ofNat t)), some (.int r), some (.int (Int32.ofNat x)), none]) (st' := [.ref w]) rfl ?_
    refine Er_getR (x := w + 20) rfl hw.1.1 hw.1.2.2.2.2.2.1 ?_
    refine Er_run 2 (pc' := 6) (ls' := [some (.ref w), some (.int u), some (.int (Int32.ofNat t)), some (.int r), some (.int (Int32.ofNat x)), none]) (st' := [.ref w, .int ((5 : Int32)), .ref (w + 20)]) rfl ?_
    refine Er_getI (v := Int32.ofNat (W.1 0)) rfl hw.1.1 (show gI h w 0 = Int32.ofNat (W.1 0) from (hw.2.1 0 (by omega)).1) ?_
    refine Er_run 2 (pc' := 11) (ls' := [some (.ref w), some (.int u), some (.int (Int32.ofNat t)), some (.int r), some (.int (Int32.ofNat x)), none]) (st' := [.ref w, .int u, .int (Int32.ofNat (W.1 0)), .int ((5 : Int32)), .ref (w + 20)]) rfl ?_
    refine Er_getR (x := w + 1) rfl hw.1.1 hw.1.2.2.2.1 ?_
    refine Er_inv1 (q' := w + 1) (ci := 7) (av := []) (rest := [.int u, .int (Int32.ofNat (W.1 0)), .int ((5 : Int32)), .ref (w + 20)]) rfl rfl ⟨Nat.le_of_ble_eq_true rfl, Nat.le_of_ble_eq_true rfl⟩ rfl rfl hw.2.2.2.2.2.2.2.2.2.2.1.1 (s_Disk_position hw.2.2.2.2.2.2.2.2.2.2) ?_
    refine Er_run 1 (pc' := 18) (ls' := [some (.ref w), some (.int u), some (.int (Int32.ofNat t)), some (.int r), some (.int (Int32.ofNat x)), none]) (st' := [.int (Int32.ofNat t), .int (W.2.2.2.2.1), .int u, .int (Int32.ofNat (W.1 0)), .int ((5 : Int32)), .ref (w + 20)]) rfl ?_
    obtain ⟨h1, r1, u1, z1⟩ := s_Message_write (k := (5 : Int32)) (s := Int32.ofNat (W.1 0)) (u := u) (p := W.2.2.2.2.1) (t := Int32.ofNat t) g0
    have w1 : WW h1 w s y W := WW_le z1 u1 hw
    have l1 := LL_fr z1 (by omega) hl
    have s1 := ST_fr z1 (by omega) hs
    have q1 : FW w y h h1 := FW.trans (FW.refl w y h) (FW.ofW z1 (by omega) (by omega))
    refine Er_inv0 (q' := w + 20) (ci := 5) (av := [.int ((5 : Int32)), .int (Int32.ofNat (W.1 0)), .int u, .int (W.2.2.2.2.1), .int (Int32.ofNat t)]) (rest := []) rfl rfl ⟨Nat.le_of_ble_eq_true rfl, Nat.le_of_ble_eq_true rfl⟩ rfl rfl g0.1.1 r1 ?_
    refine Er_run 1 (pc' := 22) (ls' := [some (.ref w), some (.int u), some (.int (Int32.ofNat t)), some (.int r), some (.int (Int32.ofNat x)), none]) (st' := [.ref w]) rfl ?_
    refine Er_getR (x := w + 20) rfl w1.1.1 w1.1.2.2.2.2.2.1 ?_
    refine Er_run 1 (pc' := 26) (ls' := [some (.ref w), some (.int u), some (.int (Int32.ofNat t)), some (.int r), some (.int (Int32.ofNat x)), none]) (st' := [.int r, .ref (w + 20)]) rfl ?_
    refine Er_putI rfl u1.1.1 ?_
    have z2 : Fr (w + 20) (w + 22) h1 (setI h1 (w + 20) 7 r) := Fr.setI (by omega) (by omega)
    have u2 : MG (setI h1 (w + 20) 7 r) (w + 20) (jx_up ((jm_new ((5 : Int32)) (Int32.ofNat (W.1 0)) u W.2.2.2.2.1 (Int32.ofNat t), [])).1 7 r, ((jm_new ((5 : Int32)) (Int32.ofNat (W.1 0)) u W.2.2.2.2.1 (Int32.ofNat t), [])).2) := MG_set (by omega) u1
    generalize setI h1 (w + 20) 7 r = h2 at z2 u2 ⊢
    have w2 : WW h2 w s y W := WW_le z2 u2 w1
    have l2 := LL_fr z2 (by omega) l1
    have s2 := ST_fr z2 (by omega) s1
    have q2 : FW w y h h2 := FW.trans q1 (FW.ofW z2 (by omega) (by omega))
    refine Er_run 1 (pc' := 30) (ls' := [some (.ref w), some (.int u), some (.int (Int32.ofNat t)), some (.int r), some (.int (Int32.ofNat x)), none]) (st' := [.ref w]) rfl ?_
    refine Er_getR (x := w + 20) rfl w2.1.1 w2.1.2.2.2.2.2.1 ?_
    refine Er_run 1 (pc' := 35) (ls' := [some (.ref w), some (.int u), some (.int (Int32.ofNat t)), some (.int r), some (.int (Int32.ofNat x)), none]) (st' := [.int (Int32.ofNat x), .ref (w + 20)]) rfl ?_
    refine Er_putI rfl u2.1.1 ?_
    have z3 : Fr (w + 20) (w + 22) h2 (setI h2 (w + 20) 8 (Int32.ofNat x)) := Fr.setI (by omega) (by omega)
    have u3 : MG (setI h2 (w + 20) 8 (Int32.ofNat x)) (w + 20) (jx_up ((jx_up ((jm_new ((5 : Int32)) (Int32.ofNat (W.1 0)) u W.2.2.2.2.1 (Int32.ofNat t), [])).1 7 r, ((jm_new ((5 : Int32)) (Int32.ofNat (W.1 0)) u W.2.2.2.2.1 (Int32.ofNat t), [])).2)).1 8 (Int32.ofNat x), ((jx_up ((jm_new ((5 : Int32)) (Int32.ofNat (W.1 0)) u W.2.2.2.2.1 (Int32.ofNat t), [])).1 7 r, ((jm_new ((5 : Int32)) (Int32.ofNat (W.1 0)) u W.2.2.2.2.1 (Int32.ofNat t), [])).2)).2) := MG_set (by omega) u2
    generalize setI h2 (w + 20) 8 (Int32.ofNat x) = h3 at z3 u3 ⊢
    have w3 : WW h3 w s y W := WW_le z3 u3 w2
    have l3 := LL_fr z3 (by omega) l2
    have s3 := ST_fr z3 (by omega) s2
    have q3 : FW w y h h3 := FW.trans q2 (FW.ofW z3 (by omega) (by omega))
    refine Er_run 1 (pc' := 39) (ls' := [some (.ref w), some (.int u), some (.int (Int32.ofNat t)), some (.int r), some (.int (Int32.ofNat x)), none]) (st' := [.ref w]) rfl ?_
    refine Er_getR (x := s) rfl w3.1.1 w3.1.2.1 ?_
    refine Er_run 1 (pc' := 43) (ls' := [some (.ref w), some (.int u), some (.int (Int32.ofNat t)), some (.int r), some (.int (Int32.ofNat x)), none]) (st' := [.ref w, .ref s]) rfl ?_
    refine Er_getR (x := w + 1) rfl w3.1.1 w3.1.2.2.2.1 ?_
    refine Er_inv1 (q' := w + 1) (ci := 7) (av := []) (rest := [.ref s]) rfl rfl ⟨Nat.le_of_ble_eq_true rfl, Nat.le_of_ble_eq_true rfl⟩ rfl rfl w3.2.2.2.2.2.2.2.2.2.2.1.1 (s_Disk_position w3.2.2.2.2.2.2.2.2.2.2) ?_
    refine Er_inv1 (q' := s) (ci := 3) (av := [.int (W.2.2.2.2.1)]) (rest := []) rfl rfl ⟨Nat.le_of_ble_eq_true rfl, Nat.le_of_ble_eq_true rfl⟩ rfl rfl s3.1.1 (by rw [hq]; exact s_Store_jobAt s3.1 s3.2.1.2.1 s3.2.1.1 hqc (s3.2.1.2.2.2 q j hcq) hj8) ?_
    refine Er_run 4 (pc' := 60) (ls' := [some (.ref w), some (.int u), some (.int (Int32.ofNat t)), some (.int r), some (.int (Int32.ofNat x)), some (.ref (s + 52 + 11 * j))]) (st' := [.ref w]) rfl ?_
    refine Er_getR (x := w + 1) rfl w3.1.1 w3.1.2.2.2.1 ?_
    refine Er_run 1 (pc' := 64) (ls' := [some (.ref w), some (.int u), some (.int (Int32.ofNat t)), some (.int r), some (.int (Int32.ofNat x)), some (.ref (s + 52 + 11 * j))]) (st' := [.ref w, .ref (w + 1)]) rfl ?_
    refine Er_getR (x := w + 20) rfl w3.1.1 w3.1.2.2.2.2.2.1 ?_
    refine Er_run 1 (pc' := 69) (ls' := [some (.ref w), some (.int u), some (.int (Int32.ofNat t)), some (.int r), some (.int (Int32.ofNat x)), some (.ref (s + 52 + 11 * j))]) (st' := [.ref (s + 52 + 11 * j), .ref (w + 20), .ref (w + 1)]) rfl ?_
    have gg : MG h3 (w + 20) (jw_pf W u t r x, []) := u3
    obtain ⟨h4, r4, u4, z4⟩ := s_Disk_load (np := np) (x := x) (t := t) (j := s + 52 + 11 * j) w3.2.2.2.2.2.2.2.2.2.2 ht hx100 hnp rfl rfl rfl rfl (by omega) (by omega) gg (s3.2.2.2 j hj8).1 (Eq.trans ((s3.2.2.2 j hj8).2.1 5 (by omega) (by omega)) hG5)
    have w4 : WW h4 w s y W := WW_le z4 u4 w3
    have l4 := LL_fr z4 (by omega) l3
    have s4 := ST_fr z4 (by omega) s3
    have q4 : FW w y h h4 := FW.trans q3 (FW.ofW z4 (by omega) (by omega))
    refine Er_inv0 (q' := w + 1) (ci := 7) (av := [.ref (w + 20), .ref (s + 52 + 11 * j)]) (rest := []) rfl rfl ⟨Nat.le_of_ble_eq_true rfl, Nat.le_of_ble_eq_true rfl⟩ rfl rfl w3.2.2.2.2.2.2.2.2.2.2.1.1 r4 ?_
    exact Er_fin rfl rfl ⟨rfl, w4, l4, s4, q4, u4⟩
  obtain ⟨r9, h', hr, e, hq⟩ := Run_of (Nat.le_of_ble_eq_true rfl) hx
  subst e
  exact ⟨h', hr, hq⟩
def jw_pg1 (W : Jw) (m : Jm) (k : Nat) : Jw := jw_sg (jw_sg (jw_sP W 1 (W.2.2.2.1 1 ++ jm_prs m k)) 16 (W.1 16 + k)) 17 4
def jw_pg2 (W : Jw) (m : Jm) (k tt : Nat) : Jw := if W.1 16 + k < tt then jw_pg1 W m k else jw_sg (jw_sg (jw_pg1 W m k) 15 (W.1 15 + 1)) 16 0
def jw_an (W : Jw) (m : Jm) : Bool := jm_ans m W.2.2.2.2.1 (Int32.ofNat (W.1 15)) (Int32.ofNat (W.1 13) - 38) (Int32.ofNat (W.1 16))
def jw_hp (W : Jw) (m : Jm) (k tt : Nat) : Jw := if W.1 12 = 3 then (if jw_an W m then jw_pg2 W m k tt else W) else W
theorem s_Worker_hearPage {c k tt : Nat} {m : Jm} (hm : MG h c m) (hcc : c + 2 ≤ w ∨ c = w + 20) (hA : W.1 12 = 3 → jw_an W m = true → m.1 9 = Int32.ofNat k ∧ m.1 10 = Int32.ofNat tt ∧ (W.2.2.2.1 1).length + k ≤ 1000 ∧ k ≤ 16 ∧ tt ≤ 1000 ∧ W.1 16 ≤ 2000 ∧ W.1 15 ≤ 2000) (hsy : s + 140 ≤ y) (hyw : y + 229 ≤ w) (hw : WW h w s y W) (hl : LL h y L) (hs : ST h s cl G PR F) : ∃ h', Run 98 [.ref w, .ref c] h (.inl none) h' ∧ WW h' w s y (jw_hp W m k tt) ∧ LL h' y (L) ∧ ST h' s cl G PR F ∧ FW w y h h' := by
  have hx : Ev 98 0 (sm_pad (sm_ent [.ref w, .ref c]) (sm_prog.2.1 98)) [] h (fun r h1 => r = .inl none ∧ WW h1 w s y (jw_hp W m k tt) ∧ LL h1 y (L) ∧ ST h1 s cl G PR F ∧ FW w y h h1) := by
    have b12 := (hw.2.1 12 (by omega)).2
    have b13 := (hw.2.1 13 (by omega)).2
    by_cases hst : W.1 12 = 3
    · by_cases ha : jw_an W m = true
      · obtain ⟨hk, htt, hgk, hk16, ht1, ho1, ha1⟩ := hA hst ha
        by_cases hlt : W.1 16 + k < tt
        · skip
          show Ev 98 0 [some (.ref w), some (.ref c)] [] h _
          refine Er_run 1 (pc' := 1) (ls' := [some (.ref w), some (.ref c)]) (st' := [.ref w]) rfl ?_
          refine Er_getI (v := Int32.ofNat (W.1 12)) rfl hw.1.1 (show gI h w 12 = Int32.ofNat (W.1 12) from (hw.2.1 12 (by omega)).1) ?_
          refine Er_run 2 (pc' := bif !decide ((Int32.ofNat (W.1 12)) = ((3 : Int32))) then 37 else 8) (ls' := [some (.ref w), some (.ref c)]) (st' := []) rfl ?_
          refine Er_pc (t := 8) (show (bif !decide ((Int32.ofNat (W.1 12)) = ((3 : Int32))) then 37 else 8) = 8 from by rw [show (!decide ((Int32.ofNat (W.1 12)) = ((3 : Int32)))) = false from by rw [hst]; rfl]; rfl) ?_
          refine Er_run 2 (pc' := 10) (ls' := [some (.ref w), some (.ref c)]) (st' := [.ref w, .ref c]) rfl ?_
          refine Er_getR (x := w + 1) rfl hw.1.1 hw.1.2.2.2.1 ?_
          refine Er_inv1 (q' := w + 1) (ci := 7) (av := []) (rest := [.ref c]) rfl rfl ⟨Nat.le_of_ble_eq_true rfl, Nat.le_of_ble_eq_true rfl⟩ rfl rfl hw.2.2.2.2.2.2.2.2.2.2.1.1 (s_Disk_position hw.2.2.2.2.2.2.2.2.2.2) ?_
          refine Er_run 1 (pc' := 17) (ls' := [some (.ref w), some (.ref c)]) (st' := [.ref w, .int (W.2.2.2.2.1), .ref c]) rfl ?_
          refine Er_getI (v := Int32.ofNat (W.1 15)) rfl hw.1.1 (show gI h w 15 = Int32.ofNat (W.1 15) from (hw.2.1 15 (by omega)).1) ?_
          refine Er_run 1 (pc' := 21) (ls' := [some (.ref w), some (.ref c)]) (st' := [.ref w, .int (Int32.ofNat (W.1 15)), .int (W.2.2.2.2.1), .ref c]) rfl ?_
          refine Er_getI (v := Int32.ofNat (W.1 13)) rfl hw.1.1 (show gI h w 13 = Int32.ofNat (W.1 13) from (hw.2.1 13 (by omega)).1) ?_
          refine Er_run 3 (pc' := 28) (ls' := [some (.ref w), some (.ref c)]) (st' := [.ref w, .int ((Int32.ofNat (W.1 13)) - ((38 : Int32))), .int (Int32.ofNat (W.1 15)), .int (W.2.2.2.2.1), .ref c]) rfl ?_
          refine Er_getI (v := Int32.ofNat (W.1 16)) rfl hw.1.1 (show gI h w 16 = Int32.ofNat (W.1 16) from (hw.2.1 16 (by omega)).1) ?_
          have han : Run 67 [.ref c, .int W.2.2.2.2.1, .int (Int32.ofNat (W.1 15)), .int (Int32.ofNat (W.1 13) - 38), .int (Int32.ofNat (W.1 16))] h (.inl (some (.int (if jw_an W m then 1 else 0)))) h := s_Message_answers hm
          rw [if_pos ha] at han
          refine Er_inv1 (q' := c) (ci := 5) (av := [.int (W.2.2.2.2.1), .int (Int32.ofNat (W.1 15)), .int ((Int32.ofNat (W.1 13)) - ((38 : Int32))), .int (Int32.ofNat (W.1 16))]) (rest := []) rfl rfl ⟨Nat.le_of_ble_eq_true rfl, Nat.le_of_ble_eq_true rfl⟩ rfl rfl hm.1.1 han ?_
          refine Er_run 1 (pc' := bif !decide (((1 : Int32)) = 0) then 38 else 37) (ls' := [some (.ref w), some (.ref c)]) (st' := []) rfl ?_
          refine Er_pc (t := 38) (show (bif !decide (((1 : Int32)) = 0) then 38 else 37) = 38 from by rw [show (!decide (((1 : Int32)) = 0)) = true from by decide]; rfl) ?_
          refine Er_run 2 (pc' := 40) (ls' := [some (.ref w), some (.ref c)]) (st' := [.ref w, .ref c]) rfl ?_
          refine Er_getR (x := w + 25) rfl hw.1.1 hw.1.2.2.2.2.2.2.2.1 ?_
          obtain ⟨h1, r1, p1, z1⟩ := s_Message_unload (k := k) hm (show PL h (w + 25) 1000 (W.2.2.2.1 1) from hw.2.2.2.2.2.1) hk hgk (by omega) (by omega)
          have w1 : WW h1 w s y (jw_sP W 1 (W.2.2.2.1 1 ++ jm_prs m k)) := WW_P1 z1 p1 hw
          have l1 := LL_fr z1 (by omega) hl
          have s1 := ST_fr z1 (by omega) hs
          have q1 : FW w y h h1 := FW.trans (FW.refl w y h) (FW.ofW z1 (by omega) (by omega))
          have g1_c := MG_fr z1 (by omega) hm
          refine Er_inv0 (q' := c) (ci := 5) (av := [.ref (w + 25)]) (rest := []) rfl rfl ⟨Nat.le_of_ble_eq_true rfl, Nat.le_of_ble_eq_true rfl⟩ rfl rfl hm.1.1 r1 ?_
          refine Er_run 2 (pc' := 48) (ls' := [some (.ref w), some (.ref c)]) (st' := [.ref w, .ref w]) rfl ?_
          refine Er_getI (v := Int32.ofNat (W.1 16)) rfl w1.1.1 (show gI h1 w 16 = Int32.ofNat (W.1 16) from (w1.2.1 16 (by omega)).1) ?_
          refine Er_run 1 (pc' := 52) (ls' := [some (.ref w), some (.ref c)]) (st' := [.ref c, .int (Int32.ofNat (W.1 16)), .ref w]) rfl ?_
          refine Er_getI (v := Int32.ofNat k) rfl g1_c.1.1 (by rw [← hk]; exact (g1_c.2.2.2.1 9 (by omega) (by omega))) ?_
          refine Er_run 1 (pc' := 56) (ls' := [some (.ref w), some (.ref c)]) (st' := [.int ((Int32.ofNat (W.1 16)) + (Int32.ofNat k)), .ref w]) rfl ?_
          refine Er_putI rfl w1.1.1 ?_
          rw [jx_add]
          have z2 : Fr w (w + 1) h1 (setI h1 w 16 (Int32.ofNat (W.1 16 + k))) := Fr.setI (by omega) (by omega)
          have w2 : WW (setI h1 w 16 (Int32.ofNat (W.1 16 + k))) w s y (jw_sg (jw_sP W 1 (W.2.2.2.1 1 ++ jm_prs m k)) 16 (W.1 16 + k)) := WW_sg (x := W.1 16 + k) (by omega) w1
          generalize setI h1 w 16 (Int32.ofNat (W.1 16 + k)) = h2 at z2 w2 ⊢
          have l2 := LL_fr z2 (by omega) l1
          have s2 := ST_fr z2 (by omega) s1
          have q2 : FW w y h h2 := FW.trans q1 (FW.ofW z2 (by omega) (by omega))
          have g2_c := MG_fr z2 (by omega) g1_c
          refine Er_run 2 (pc' := 61) (ls' := [some (.ref w), some (.ref c)]) (st' := [.int ((4 : Int32)), .ref w]) rfl ?_
          refine Er_putI rfl w2.1.1 ?_
          have z3 : Fr w (w + 1) h2 (setI h2 w 17 ((4 : Int32))) := Fr.setI (by omega) (by omega)
          have w3 : WW (setI h2 w 17 ((4 : Int32))) w s y (jw_sg (jw_sg (jw_sP W 1 (W.2.2.2.1 1 ++ jm_prs m k)) 16 (W.1 16 + k)) 17 4) := WW_sg (x := 4) (by omega) w2
          generalize setI h2 w 17 ((4 : Int32)) = h3 at z3 w3 ⊢
          have l3 := LL_fr z3 (by omega) l2
          have s3 := ST_fr z3 (by omega) s2
          have q3 : FW w y h h3 := FW.trans q2 (FW.ofW z3 (by omega) (by omega))
          have g3_c := MG_fr z3 (by omega) g2_c
          refine Er_run 1 (pc' := 65) (ls' := [some (.ref w), some (.ref c)]) (st' := [.ref w]) rfl ?_
          refine Er_getI (v := Int32.ofNat (W.1 16 + k)) rfl w3.1.1 (show gI h3 w 16 = Int32.ofNat (W.1 16 + k) from (w3.2.1 16 (by omega)).1) ?_
          refine Er_run 1 (pc' := 69) (ls' := [some (.ref w), some (.ref c)]) (st' := [.ref c, .int (Int32.ofNat (W.1 16 + k))]) rfl ?_
          refine Er_getI (v := Int32.ofNat tt) rfl g3_c.1.1 (by rw [← htt]; exact (g3_c.2.2.2.1 10 (by omega) (by omega))) ?_
          refine Er_run 1 (pc' := bif decide ((Int32.ofNat (W.1 16 + k)) < (Int32.ofNat tt)) then 90 else 75) (ls' := [some (.ref w), some (.ref c)]) (st' := []) rfl ?_
          refine Er_pc (t := 90) (show (bif decide ((Int32.ofNat (W.1 16 + k)) < (Int32.ofNat tt)) then 90 else 75) = 90 from by rw [show (decide ((Int32.ofNat (W.1 16 + k)) < (Int32.ofNat tt))) = true from by rw [jx_lt (by omega) (by omega)]; exact decide_eq_true hlt]; rfl) ?_
          refine Er_fin rfl rfl ?_
          rw [jw_hp, if_pos hst, if_pos ha, jw_pg2, if_pos hlt]
          exact ⟨rfl, w3, l3, s3, q3⟩
        · skip
          show Ev 98 0 [some (.ref w), some (.ref c)] [] h _
          refine Er_run 1 (pc' := 1) (ls' := [some (.ref w), some (.ref c)]) (st' := [.ref w]) rfl ?_
          refine Er_getI (v := Int32.ofNat (W.1 12)) rfl hw.1.1 (show gI h w 12 = Int32.ofNat (W.1 12) from (hw.2.1 12 (by omega)).1) ?_
          refine Er_run 2 (pc' := bif !decide ((Int32.ofNat (W.1 12)) = ((3 : Int32))) then 37 else 8) (ls' := [some (.ref w), some (.ref c)]) (st' := []) rfl ?_
          refine Er_pc (t := 8) (show (bif !decide ((Int32.ofNat (W.1 12)) = ((3 : Int32))) then 37 else 8) = 8 from by rw [show (!decide ((Int32.ofNat (W.1 12)) = ((3 : Int32)))) = false from by rw [hst]; rfl]; rfl) ?_
          refine Er_run 2 (pc' := 10) (ls' := [some (.ref w), some (.ref c)]) (st' := [.ref w, .ref c]) rfl ?_
          refine Er_getR (x := w + 1) rfl hw.1.1 hw.1.2.2.2.1 ?_
          refine Er_inv1 (q' := w + 1) (ci := 7) (av := []) (rest := [.ref c]) rfl rfl ⟨Nat.le_of_ble_eq_true rfl, Nat.le_of_ble_eq_true rfl⟩ rfl rfl hw.2.2.2.2.2.2.2.2.2.2.1.1 (s_Disk_position hw.2.2.2.2.2.2.2.2.2.2) ?_
          refine Er_run 1 (pc' := 17) (ls' := [some (.ref w), some (.ref c)]) (st' := [.ref w, .int (W.2.2.2.2.1), .ref c]) rfl ?_
          refine Er_getI (v := Int32.ofNat (W.1 15)) rfl hw.1.1 (show gI h w 15 = Int32.ofNat (W.1 15) from (hw.2.1 15 (by omega)).1) ?_
          refine Er_run 1 (pc' := 21) (ls' := [some (.ref w), some (.ref c)]) (st' := [.ref w, .int (Int32.ofNat (W.1 15)), .int (W.2.2.2.2.1), .ref c]) rfl ?_
          refine Er_getI (v := Int32.ofNat (W.1 13)) rfl hw.1.1 (show gI h w 13 = Int32.ofNat (W.1 13) from (hw.2.1 13 (by omega)).1) ?_
          refine Er_run 3 (pc' := 28) (ls' := [some (.ref w), some (.ref c)]) (st' := [.ref w, .int ((Int32.ofNat (W.1 13)) - ((38 : Int32))), .int (Int32.ofNat (W.1 15)), .int (W.2.2.2.2.1), .ref c]) rfl ?_
          refine Er_getI (v := Int32.ofNat (W.1 16)) rfl hw.1.1 (show gI h w 16 = Int32.ofNat (W.1 16) from (hw.2.1 16 (by omega)).1) ?_
          have han : Run 67 [.ref c, .int W.2.2.2.2.1, .int (Int32.ofNat (W.1 15)), .int (Int32.ofNat (W.1 13) - 38), .int (Int32.ofNat (W.1 16))] h (.inl (some (.int (if jw_an W m then 1 else 0)))) h := s_Message_answers hm
          rw [if_pos ha] at han
          refine Er_inv1 (q' := c) (ci := 5) (av := [.int (W.2.2.2.2.1), .int (Int32.ofNat (W.1 15)), .int ((Int32.ofNat (W.1 13)) - ((38 : Int32))), .int (Int32.ofNat (W.1 16))]) (rest := []) rfl rfl ⟨Nat.le_of_ble_eq_true rfl, Nat.le_of_ble_eq_true rfl⟩ rfl rfl hm.1.1 han ?_
          refine Er_run 1 (pc' := bif !decide (((1 : Int32)) = 0) then 38 else 37) (ls' := [some (.ref w), some (.ref c)]) (st' := []) rfl ?_
          refine Er_pc (t := 38) (show (bif !decide (((1 : Int32)) = 0) then 38 else 37) = 38 from by rw [show (!decide (((1 : Int32)) = 0)) = true from by decide]; rfl) ?_
          refine Er_run 2 (pc' := 40) (ls' := [some (.ref w), some (.ref c)]) (st' := [.ref w, .ref c]) rfl ?_
          refine Er_getR (x := w + 25) rfl hw.1.1 hw.1.2.2.2.2.2.2.2.1 ?_
          obtain ⟨h1, r1, p1, z1⟩ := s_Message_unload (k := k) hm (show PL h (w + 25) 1000 (W.2.2.2.1 1) from hw.2.2.2.2.2.1) hk hgk (by omega) (by omega)
          have w1 : WW h1 w s y (jw_sP W 1 (W.2.2.2.1 1 ++ jm_prs m k)) := WW_P1 z1 p1 hw
          have l1 := LL_fr z1 (by omega) hl
          have s1 := ST_fr z1 (by omega) hs
          have q1 : FW w y h h1 := FW.trans (FW.refl w y h) (FW.ofW z1 (by omega) (by omega))
          have g1_c := MG_fr z1 (by omega) hm
          refine Er_inv0 (q' := c) (ci := 5) (av := [.ref (w + 25)]) (rest := []) rfl rfl ⟨Nat.le_of_ble_eq_true rfl, Nat.le_of_ble_eq_true rfl⟩ rfl rfl hm.1.1 r1 ?_
          refine Er_run 2 (pc' := 48) (ls' := [some (.ref w), some (.ref c)]) (st' := [.ref w, .ref w]) rfl ?_
          refine Er_getI (v := Int32.ofNat (W.1 16)) rfl w1.1.1 (show gI h1 w 16 = Int32.ofNat (W.1 16) from (w1.2.1 16 (by omega)).1) ?_
          refine Er_run 1 (pc' := 52) (ls' := [some (.ref w), some (.ref c)]) (st' := [.ref c, .int (Int32.ofNat (W.1 16)), .ref w]) rfl ?_
          refine Er_getI (v := Int32.ofNat k) rfl g1_c.1.1 (by rw [← hk]; exact (g1_c.2.2.2.1 9 (by omega) (by omega))) ?_
          refine Er_run 1 (pc' := 56) (ls' := [some (.ref w), some (.ref c)]) (st' := [.int ((Int32.ofNat (W.1 16)) + (Int32.ofNat k)), .ref w]) rfl ?_
          refine Er_putI rfl w1.1.1 ?_
          rw [jx_add]
          have z2 : Fr w (w + 1) h1 (setI h1 w 16 (Int32.ofNat (W.1 16 + k))) := Fr.setI (by omega) (by omega)
          have w2 : WW (setI h1 w 16 (Int32.ofNat (W.1 16 + k))) w s y (jw_sg (jw_sP W 1 (W.2.2.2.1 1 ++ jm_prs m k)) 16 (W.1 16 + k)) := WW_sg (x := W.1 16 + k) (by omega) w1
          generalize setI h1 w 16 (Int32.ofNat (W.1 16 + k)) = h2 at z2 w2 ⊢
          have l2 := LL_fr z2 (by omega) l1
          have s2 := ST_fr z2 (by omega) s1
          have q2 : FW w y h h2 := FW.trans q1 (FW.ofW z2 (by omega) (by omega))
          have g2_c := MG_fr z2 (by omega) g1_c
          refine Er_run 2 (pc' := 61) (ls' := [some (.ref w), some (.ref c)]) (st' := [.int ((4 : Int32)), .ref w]) rfl ?_
          refine Er_putI rfl w2.1.1 ?_
          have z3 : Fr w (w + 1) h2 (setI h2 w 17 ((4 : Int32))) := Fr.setI (by omega) (by omega)
          have w3 : WW (setI h2 w 17 ((4 : Int32))) w s y (jw_sg (jw_sg (jw_sP W 1 (W.2.2.2.1 1 ++ jm_prs m k)) 16 (W.1 16 + k)) 17 4) := WW_sg (x := 4) (by omega) w2
          generalize setI h2 w 17 ((4 : Int32)) = h3 at z3 w3 ⊢
          have l3 := LL_fr z3 (by omega) l2
          have s3 := ST_fr z3 (by omega) s2
          have q3 : FW w y h h3 := FW.trans q2 (FW.ofW z3 (by omega) (by omega))
          have g3_c := MG_fr z3 (by omega) g2_c
          refine Er_run 1 (pc' := 65) (ls' := [some (.ref w), some (.ref c)]) (st' := [.ref w]) rfl ?_
          refine Er_getI (v := Int32.ofNat (W.1 16 + k)) rfl w3.1.1 (show gI h3 w 16 = Int32.ofNat (W.1 16 + k) from (w3.2.1 16 (by omega)).1) ?_
          refine Er_run 1 (pc' := 69) (ls' := [some (.ref w), some (.ref c)]) (st' := [.ref c, .int (Int32.ofNat (W.1 16 + k))]) rfl ?_
          refine Er_getI (v := Int32.ofNat tt) rfl g3_c.1.1 (by rw [← htt]; exact (g3_c.2.2.2.1 10 (by omega) (by omega))) ?_
          refine Er_run 1 (pc' := bif decide ((Int32.ofNat (W.1 16 + k)) < (Int32.ofNat tt)) then 90 else 75) (ls' := [some (.ref w), some (.ref c)]) (st' := []) rfl ?_
          refine Er_pc (t := 75) (show (bif decide ((Int32.ofNat (W.1 16 + k)) < (Int32.ofNat tt)) then 90 else 75) = 75 from by rw [show (decide ((Int32.ofNat (W.1 16 + k)) < (Int32.ofNat tt))) = false from by rw [jx_lt (by omega) (by omega)]; exact decide_eq_false hlt]; rfl) ?_
          refine Er_run 2 (pc' := 77) (ls' := [some (.ref w), some (.ref c)]) (st' := [.ref w, .ref w]) rfl ?_
          refine Er_getI (v := Int32.ofNat (W.1 15)) rfl w3.1.1 (show gI h3 w 15 = Int32.ofNat (W.1 15) from (w3.2.1 15 (by omega)).1) ?_
          refine Er_run 2 (pc' := 82) (ls' := [some (.ref w), some (.ref c)]) (st' := [.int ((Int32.ofNat (W.1 15)) + ((1 : Int32))), .ref w]) rfl ?_
          refine Er_putI rfl w3.1.1 ?_
          rw [jx_s1]
          have z4 : Fr w (w + 1) h3 (setI h3 w 15 (Int32.ofNat (W.1 15 + 1))) := Fr.setI (by omega) (by omega)
          have w4 : WW (setI h3 w 15 (Int32.ofNat (W.1 15 + 1))) w s y (jw_sg (jw_sg (jw_sg (jw_sP W 1 (W.2.2.2.1 1 ++ jm_prs m k)) 16 (W.1 16 + k)) 17 4) 15 (W.1 15 + 1)) := WW_sg (x := W.1 15 + 1) (by omega) w3
          generalize setI h3 w 15 (Int32.ofNat (W.1 15 + 1)) = h4 at z4 w4 ⊢
          have l4 := LL_fr z4 (by omega) l3
          have s4 := ST_fr z4 (by omega) s3
          have q4 : FW w y h h4 := FW.trans q3 (FW.ofW z4 (by omega) (by omega))
          have g4_c := MG_fr z4 (by omega) g3_c
          refine Er_run 2 (pc' := 87) (ls' := [some (.ref w), some (.ref c)]) (st' := [.int ((0 : Int32)), .ref w]) rfl ?_
          refine Er_putI rfl w4.1.1 ?_
          have z5 : Fr w (w + 1) h4 (setI h4 w 16 ((0 : Int32))) := Fr.setI (by omega) (by omega)
          have w5 : WW (setI h4 w 16 ((0 : Int32))) w s y (jw_sg (jw_sg (jw_sg (jw_sg (jw_sP W 1 (W.2.2.2.1 1 ++ jm_prs m k)) 16 (W.1 16 + k)) 17 4) 15 (W.1 15 + 1)) 16 0) := WW_sg (x := 0) (by omega) w4
          generalize setI h4 w 16 ((0 : Int32)) = h5 at z5 w5 ⊢
          have l5 := LL_fr z5 (by omega) l4
          have s5 := ST_fr z5 (by omega) s4
          have q5 : FW w y h h5 := FW.trans q4 (FW.ofW z5 (by omega) (by omega))
          have g5_c := MG_fr z5 (by omega) g4_c
          refine Er_fin rfl rfl ?_
          rw [jw_hp, if_pos hst, if_pos ha, jw_pg2, if_neg hlt]
          exact ⟨rfl, w5, l5, s5, q5⟩
      · skip
        show Ev 98 0 [some (.ref w), some (.ref c)] [] h _
        refine Er_run 1 (pc' := 1) (ls' := [some (.ref w), some (.ref c)]) (st' := [.ref w]) rfl ?_
        refine Er_getI (v := Int32.ofNat (W.1 12)) rfl hw.1.1 (show gI h w 12 = Int32.ofNat (W.1 12) from (hw.2.1 12 (by omega)).1) ?_
        refine Er_run 2 (pc' := bif !decide ((Int32.ofNat (W.1 12)) = ((3 : Int32))) then 37 else 8) (ls' := [some (.ref w), some (.ref c)]) (st' := []) rfl ?_
        refine Er_pc (t := 8) (show (bif !decide ((Int32.ofNat (W.1 12)) = ((3 : Int32))) then 37 else 8) = 8 from by rw [show (!decide ((Int32.ofNat (W.1 12)) = ((3 : Int32)))) = false from by rw [hst]; rfl]; rfl) ?_
        refine Er_run 2 (pc' := 10) (ls' := [some (.ref w), some (.ref c)]) (st' := [.ref w, .ref c]) rfl ?_
        refine Er_getR (x := w + 1) rfl hw.1.1 hw.1.2.2.2.1 ?_
        refine Er_inv1 (q' := w + 1) (ci := 7) (av := []) (rest := [.ref c]) rfl rfl ⟨Nat.le_of_ble_eq_true rfl, Nat.le_of_ble_eq_true rfl⟩ rfl rfl hw.2.2.2.2.2.2.2.2.2.2.1.1 (s_Disk_position hw.2.2.2.2.2.2.2.2.2.2) ?_
        refine Er_run 1 (pc' := 17) (ls' := [some (.ref w), some (.ref c)]) (st' := [.ref w, .int (W.2.2.2.2.1), .ref c]) rfl ?_
        refine Er_getI (v := Int32.ofNat (W.1 15)) rfl hw.1.1 (show gI h w 15 = Int32.ofNat (W.1 15) from (hw.2.1 15 (by omega)).1) ?_
        refine Er_run 1 (pc' := 21) (ls' := [some (.ref w), some (.ref c)]) (st' := [.ref w, .int (Int32.ofNat (W.1 15)), .int (W.2.2.2.2.1), .ref c]) rfl ?_
        refine Er_getI (v := Int32.ofNat (W.1 13)) rfl hw.1.1 (show gI h w 13 = Int32.ofNat (W.1 13) from (hw.2.1 13 (by omega)).1) ?_
        refine Er_run 3 (pc' := 28) (ls' := [some (.ref w), some (.ref c)]) (st' := [.ref w, .int ((Int32.ofNat (W.1 13)) - ((38 : Int32))), .int (Int32.ofNat (W.1 15)), .int (W.2.2.2.2.1), .ref c]) rfl ?_
        refine Er_getI (v := Int32.ofNat (W.1 16)) rfl hw.1.1 (show gI h w 16 = Int32.ofNat (W.1 16) from (hw.2.1 16 (by omega)).1) ?_
        have han : Run 67 [.ref c, .int W.2.2.2.2.1, .int (Int32.ofNat (W.1 15)), .int (Int32.ofNat (W.1 13) - 38), .int (Int32.ofNat (W.1 16))] h (.inl (some (.int (if jw_an W m then 1 else 0)))) h := s_Message_answers hm
        rw [if_neg ha] at han
        refine Er_inv1 (q' := c) (ci := 5) (av := [.int (W.2.2.2.2.1), .int (Int32.ofNat (W.1 15)), .int ((Int32.ofNat (W.1 13)) - ((38 : Int32))), .int (Int32.ofNat (W.1 16))]) (rest := []) rfl rfl ⟨Nat.le_of_ble_eq_true rfl, Nat.le_of_ble_eq_true rfl⟩ rfl rfl hm.1.1 han ?_
        refine Er_run 1 (pc' := bif !decide (((0 : Int32)) = 0) then 38 else 37) (ls' := [some (.ref w), some (.ref c)]) (st' := []) rfl ?_
        refine Er_pc (t := 37) (show (bif !decide (((0 : Int32)) = 0) then 38 else 37) = 37 from by rw [show (!decide (((0 : Int32)) = 0)) = false from by decide]; rfl) ?_
        refine Er_fin rfl rfl ?_
        rw [jw_hp, if_pos hst, if_neg ha]
        exact ⟨rfl, hw, hl, hs, (FW.refl w y h)⟩
    · skip
      show Ev 98 0 [some (.ref w), some (.ref c)] [] h _
      refine Er_run 1 (pc' := 1) (ls' := [some (.ref w), some (.ref c)]) (st' := [.ref w]) rfl ?_
      refine Er_getI (v := Int32.ofNat (W.1 12)) rfl hw.1.1 (show gI h w 12 = Int32.ofNat (W.1 12) from (hw.2.1 12 (by omega)).1) ?_
      refine Er_run 2 (pc' := bif !decide ((Int32.ofNat (W.1 12)) = ((3 : Int32))) then 37 else 8) (ls' := [some (.ref w), some (.ref c)]) (st' := []) rfl ?_
      refine Er_pc (t := 37) (show (bif !decide ((Int32.ofNat (W.1 12)) = ((3 : Int32))) then 37 else 8) = 37 from by rw [show (!decide ((Int32.ofNat (W.1 12)) = ((3 : Int32)))) = true from by rw [show (3 : Int32) = Int32.ofNat 3 from rfl, jx_eq (by omega) (by omega), decide_eq_false hst]; rfl]; rfl) ?_
      refine Er_fin rfl rfl ?_
      rw [jw_hp, if_neg hst]
      exact ⟨rfl, hw, hl, hs, (FW.refl w y h)⟩
  obtain ⟨r, h', hr, e, hq⟩ := Run_of (Nat.le_of_ble_eq_true rfl) hx
  subst e
  exact ⟨h', hr, hq⟩
end WORKC
