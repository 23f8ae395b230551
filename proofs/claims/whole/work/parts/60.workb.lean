section WORKB
variable {h : sm_H} {w s y : Nat} {W : Jw} {L : Jn} {cl : List Nat} {G : Nat → Nat → Int32} {PR : Nat → Nat → List (Int32 × Int64)} {F : Nat → Jl}
def jw_rest (W : Jw) : Jw := jw_sg (jw_sJ (jw_sg W 12 0) none) 17 4
def jw_forget (W : Jw) : Jw := jw_sP (jw_sP (jw_sP (jw_rest W) 0 []) 1 []) 2 []
def jw_reset (W : Jw) : Jw := jw_sD (jw_forget W) (-1) [] [] [] (fun _ => none)
def jw_let (W : Jw) (k : Int32) (t : Nat) : Jm := (jx_up (jm_new k (Int32.ofNat (W.1 0)) 6 W.2.2.2.2.1 (Int32.ofNat t)) 9 (Int32.ofNat (jd_am (W.2.2.2.2.2 t))), [])
def jw_ask (W : Jw) (L : Jn) : Jw × Jn := if W.1 17 + 1 ≤ 4 then (jw_sg W 17 (W.1 17 + 1), L) else (jw_sg (jw_sg W 17 (W.1 17 + 1)) 17 0, jn_snd L (jm_new 0 (Int32.ofNat (W.1 0)) 6 W.2.2.2.2.1 (-1), []) 6)

theorem s_Worker_rest (hsy : s + 140 ≤ y) (hyw : y + 229 ≤ w) (hw : WW h w s y W) (hl : LL h y L) (hs : ST h s cl G PR F) : ∃ h', Run 91 [.ref w] h (.inl none) h' ∧ WW h' w s y (jw_rest W) ∧ LL h' y (L) ∧ ST h' s cl G PR F ∧ FW w y h h' := by
  have hx : Ev 91 0 (sm_pad (sm_ent [.ref w]) (sm_prog.2.1 91)) [] h (fun r h1 => r = .inl none ∧ WW h1 w s y (jw_rest W) ∧ LL h1 y (L) ∧ ST h1 s cl G PR F ∧ FW w y h h1) := by
    show Ev 91 0 [some (.ref w)] [] h _
    refine Er_run 2 (pc' := 2) (ls' := [some (.ref w)]) (st' := [.int ((0 : Int32)), .ref w]) rfl ?_
    refine Er_putI rfl hw.1.1 ?_
    have z1 : Fr w (w + 1) h (setI h w 12 ((0 : Int32))) := Fr.setI (by omega) (by omega)
    have w1 : WW (setI h w 12 ((0 : Int32))) w s y (jw_sg W 12 0) := WW_sg (x := 0) (by omega) hw
    generalize setI h w 12 ((0 : Int32)) = h1 at z1 w1 ⊢
    have l1 := LL_fr z1 (by omega) hl
    have s1 := ST_fr z1 (by omega) hs
    have q1 : FW w y h h1 := FW.trans (FW.refl w y h) (FW.ofW z1 (by omega) (by omega))
    refine Er_run 2 (pc' := 7) (ls' := [some (.ref w)]) (st' := [.null, .ref w]) rfl ?_
    refine Er_putN rfl w1.1.1 ?_
    have z2 : Fr w (w + 1) h1 (setR h1 w 14 none) := Fr.setR (by omega) (by omega)
    have w2 : WW (setR h1 w 14 none) w s y (jw_sJ (jw_sg W 12 0) none) := WW_sJ (x := none) w1
    generalize setR h1 w 14 none = h2 at z2 w2 ⊢
    have l2 := LL_fr z2 (by omega) l1
    have s2 := ST_fr z2 (by omega) s1
    have q2 : FW w y h h2 := FW.trans q1 (FW.ofW z2 (by omega) (by omega))
    refine Er_run 2 (pc' := 12) (ls' := [some (.ref w)]) (st' := [.int ((4 : Int32)), .ref w]) rfl ?_
    refine Er_putI rfl w2.1.1 ?_
    have z3 : Fr w (w + 1) h2 (setI h2 w 17 ((4 : Int32))) := Fr.setI (by omega) (by omega)
    have w3 : WW (setI h2 w 17 ((4 : Int32))) w s y (jw_sg (jw_sJ (jw_sg W 12 0) none) 17 4) := WW_sg (x := 4) (by omega) w2
    generalize setI h2 w 17 ((4 : Int32)) = h3 at z3 w3 ⊢
    have l3 := LL_fr z3 (by omega) l2
    have s3 := ST_fr z3 (by omega) s2
    have q3 : FW w y h h3 := FW.trans q2 (FW.ofW z3 (by omega) (by omega))
    exact Er_fin rfl rfl ⟨rfl, w3, l3, s3, q3⟩
  obtain ⟨r, h', hr, e, hq⟩ := Run_of (Nat.le_of_ble_eq_true rfl) hx
  subst e
  exact ⟨h', hr, hq⟩
theorem s_Worker_forget (hsy : s + 140 ≤ y) (hyw : y + 229 ≤ w) (hw : WW h w s y W) (hl : LL h y L) (hs : ST h s cl G PR F) : ∃ h', Run 90 [.ref w] h (.inl none) h' ∧ WW h' w s y (jw_forget W) ∧ LL h' y (L) ∧ ST h' s cl G PR F ∧ FW w y h h' := by
  have hx : Ev 90 0 (sm_pad (sm_ent [.ref w]) (sm_prog.2.1 90)) [] h (fun r h1 => r = .inl none ∧ WW h1 w s y (jw_forget W) ∧ LL h1 y (L) ∧ ST h1 s cl G PR F ∧ FW w y h h1) := by
    show Ev 90 0 [some (.ref w)] [] h _
    refine Er_run 1 (pc' := 1) (ls' := [some (.ref w)]) (st' := [.ref w]) rfl ?_
    obtain ⟨h1, r1, w1, l1, s1, zz1⟩ := s_Worker_rest hsy hyw hw hl hs
    have q1 : FW w y h h1 := FW.trans (FW.refl w y h) zz1
    refine Er_inv0 (q' := w) (ci := 8) (av := []) (rest := []) rfl rfl ⟨Nat.le_of_ble_eq_true rfl, Nat.le_of_ble_eq_true rfl⟩ rfl rfl hw.1.1 r1 ?_
    refine Er_run 1 (pc' := 5) (ls' := [some (.ref w)]) (st' := [.ref w]) rfl ?_
    refine Er_getR (x := w + 22) rfl w1.1.1 w1.1.2.2.2.2.2.2.1 ?_
    obtain ⟨h2, r2, p2, z2⟩ := s_Pairs_empty w1.2.2.2.2.1
    have w2 : WW h2 w s y (jw_sP (jw_rest W) 0 []) := WW_P0 z2 p2 w1
    have l2 := LL_fr z2 (by omega) l1
    have s2 := ST_fr z2 (by omega) s1
    have q2 : FW w y h h2 := FW.trans q1 (FW.ofW z2 (by omega) (by omega))
    refine Er_inv0 (q' := w + 22) (ci := 0) (av := []) (rest := []) rfl rfl ⟨Nat.le_of_ble_eq_true rfl, Nat.le_of_ble_eq_true rfl⟩ rfl rfl w1.2.2.2.2.1.1.1 r2 ?_
    refine Er_run 1 (pc' := 12) (ls' := [some (.ref w)]) (st' := [.ref w]) rfl ?_
    refine Er_getR (x := w + 25) rfl w2.1.1 w2.1.2.2.2.2.2.2.2.1 ?_
    obtain ⟨h3, r3, p3, z3⟩ := s_Pairs_empty w2.2.2.2.2.2.1
    have w3 : WW h3 w s y (jw_sP (jw_sP (jw_rest W) 0 []) 1 []) := WW_P1 z3 p3 w2
    have l3 := LL_fr z3 (by omega) l2
    have s3 := ST_fr z3 (by omega) s2
    have q3 : FW w y h h3 := FW.trans q2 (FW.ofW z3 (by omega) (by omega))
    refine Er_inv0 (q' := w + 25) (ci := 0) (av := []) (rest := []) rfl rfl ⟨Nat.le_of_ble_eq_true rfl, Nat.le_of_ble_eq_true rfl⟩ rfl rfl w2.2.2.2.2.2.1.1.1 r3 ?_
    refine Er_run 1 (pc' := 19) (ls' := [some (.ref w)]) (st' := [.ref w]) rfl ?_
    refine Er_getR (x := w + 31) rfl w3.1.1 w3.1.2.2.2.2.2.2.2.2.2.1 ?_
    obtain ⟨h4, r4, p4, z4⟩ := s_Pairs_empty w3.2.2.2.2.2.2.2.1
    have w4 : WW h4 w s y (jw_sP (jw_sP (jw_sP (jw_rest W) 0 []) 1 []) 2 []) := WW_P2 z4 p4 w3
    have l4 := LL_fr z4 (by omega) l3
    have s4 := ST_fr z4 (by omega) s3
    have q4 : FW w y h h4 := FW.trans q3 (FW.ofW z4 (by omega) (by omega))
    refine Er_inv0 (q' := w + 31) (ci := 0) (av := []) (rest := []) rfl rfl ⟨Nat.le_of_ble_eq_true rfl, Nat.le_of_ble_eq_true rfl⟩ rfl rfl w3.2.2.2.2.2.2.2.1.1.1 r4 ?_
    exact Er_fin rfl rfl ⟨rfl, w4, l4, s4, q4⟩
  obtain ⟨r, h', hr, e, hq⟩ := Run_of (Nat.le_of_ble_eq_true rfl) hx
  subst e
  exact ⟨h', hr, hq⟩
theorem s_Worker_reset (hsy : s + 140 ≤ y) (hyw : y + 229 ≤ w) (hw : WW h w s y W) (hl : LL h y L) (hs : ST h s cl G PR F) : ∃ h', Run 89 [.ref w] h (.inl none) h' ∧ WW h' w s y (jw_reset W) ∧ LL h' y (L) ∧ ST h' s cl G PR F ∧ FW w y h h' := by
  have hx : Ev 89 0 (sm_pad (sm_ent [.ref w]) (sm_prog.2.1 89)) [] h (fun r h1 => r = .inl none ∧ WW h1 w s y (jw_reset W) ∧ LL h1 y (L) ∧ ST h1 s cl G PR F ∧ FW w y h h1) := by
    show Ev 89 0 [some (.ref w)] [] h _
    refine Er_run 1 (pc' := 1) (ls' := [some (.ref w)]) (st' := [.ref w]) rfl ?_
    obtain ⟨h1, r1, w1, l1, s1, zz1⟩ := s_Worker_forget hsy hyw hw hl hs
    have q1 : FW w y h h1 := FW.trans (FW.refl w y h) zz1
    refine Er_inv0 (q' := w) (ci := 8) (av := []) (rest := []) rfl rfl ⟨Nat.le_of_ble_eq_true rfl, Nat.le_of_ble_eq_true rfl⟩ rfl rfl hw.1.1 r1 ?_
    refine Er_run 1 (pc' := 5) (ls' := [some (.ref w)]) (st' := [.ref w]) rfl ?_
    refine Er_getR (x := w + 1) rfl w1.1.1 w1.1.2.2.2.1 ?_
    refine Er_run 1 (pc' := 9) (ls' := [some (.ref w)]) (st' := [.int ((-1 : Int32)), .ref (w + 1)]) rfl ?_
    obtain ⟨h2, r2, p2, z2⟩ := s_Disk_wipe (x := (-1 : Int32)) w1.2.2.2.2.2.2.2.2.2.2
    have w2 : WW h2 w s y (jw_sD (jw_forget W) ((-1 : Int32)) [] [] [] (fun _ => none)) := WW_D z2 p2 w1
    have l2 := LL_fr z2 (by omega) l1
    have s2 := ST_fr z2 (by omega) s1
    have q2 : FW w y h h2 := FW.trans q1 (FW.ofW z2 (by omega) (by omega))
    refine Er_inv0 (q' := w + 1) (ci := 7) (av := [.int ((-1 : Int32))]) (rest := []) rfl rfl ⟨Nat.le_of_ble_eq_true rfl, Nat.le_of_ble_eq_true rfl⟩ rfl rfl w1.2.2.2.2.2.2.2.2.2.2.1.1 r2 ?_
    exact Er_fin rfl rfl ⟨rfl, w2, l2, s2, q2⟩
  obtain ⟨r, h', hr, e, hq⟩ := Run_of (Nat.le_of_ble_eq_true rfl) hx
  subst e
  exact ⟨h', hr, hq⟩
theorem s_Worker_report {k : Int32} {t : Nat} (ht : t < 44) (hsy : s + 140 ≤ y) (hyw : y + 229 ≤ w) (hw : WW h w s y W) (hl : LL h y L) (hs : ST h s cl G PR F) : ∃ h', Run 106 [.ref w, .int k, .int (Int32.ofNat t)] h (.inl none) h' ∧ WW h' w s y (jw_rest W) ∧ LL h' y (jn_snd L (jw_let W k t) 6) ∧ ST h' s cl G PR F ∧ FW w y h h' := by
  obtain ⟨m0, g0⟩ := hw.2.2.2.2.2.2.2.2.2.1
  have hx : Ev 106 0 (sm_pad (sm_ent [.ref w, .int k, .int (Int32.ofNat t)]) (sm_prog.2.1 106)) [] h (fun r h1 => r = .inl none ∧ WW h1 w s y (jw_rest W) ∧ LL h1 y (jn_snd L (jw_let W k t) 6) ∧ ST h1 s cl G PR F ∧ FW w y h h1) := by
    show Ev 106 0 [some (.ref w), some (.int k), some (.int (Int32.ofNat t))] [] h _
    refine Er_run 1 (pc' := 1) (ls' := [some (.ref w), some (.int k), some (.int (Int32.ofNat t))]) (st' := [.ref w]) rfl ?_
    refine Er_getR (x := w + 20) rfl hw.1.1 hw.1.2.2.2.2.2.1 ?_
    refine Er_run 2 (pc' := 6) (ls' := [some (.ref w), some (.int k), some (.int (Int32.ofNat t))]) (st' := [.ref w, .int k, .ref (w + 20)]) rfl ?_
    refine Er_getI (v := Int32.ofNat (W.1 0)) rfl hw.1.1 (show gI h w 0 = Int32.ofNat (W.1 0) from (hw.2.1 0 (by omega)).1) ?_
    refine Er_run 2 (pc' := 12) (ls' := [some (.ref w), some (.int k), some (.int (Int32.ofNat t))]) (st' := [.ref w, .int ((6 : Int32)), .int (Int32.ofNat (W.1 0)), .int k, .ref (w + 20)]) rfl ?_
    refine Er_getR (x := w + 1) rfl hw.1.1 hw.1.2.2.2.1 ?_
    refine Er_inv1 (q' := w + 1) (ci := 7) (av := []) (rest := [.int ((6 : Int32)), .int (Int32.ofNat (W.1 0)), .int k, .ref (w + 20)]) rfl rfl ⟨Nat.le_of_ble_eq_true rfl, Nat.le_of_ble_eq_true rfl⟩ rfl rfl hw.2.2.2.2.2.2.2.2.2.2.1.1 (s_Disk_position hw.2.2.2.2.2.2.2.2.2.2) ?_
    refine Er_run 1 (pc' := 19) (ls' := [some (.ref w), some (.int k), some (.int (Int32.ofNat t))]) (st' := [.int (Int32.ofNat t), .int (W.2.2.2.2.1), .int ((6 : Int32)), .int (Int32.ofNat (W.1 0)), .int k, .ref (w + 20)]) rfl ?_
    obtain ⟨h1, r1, u1, z1⟩ := s_Message_write (k := k) (s := Int32.ofNat (W.1 0)) (u := (6 : Int32)) (p := W.2.2.2.2.1) (t := Int32.ofNat t) g0
    have w1 : WW h1 w s y W := WW_le z1 u1 hw
    have l1 := LL_fr z1 (by omega) hl
    have s1 := ST_fr z1 (by omega) hs
    have q1 : FW w y h h1 := FW.trans (FW.refl w y h) (FW.ofW z1 (by omega) (by omega))
    refine Er_inv0 (q' := w + 20) (ci := 5) (av := [.int k, .int (Int32.ofNat (W.1 0)), .int ((6 : Int32)), .int (W.2.2.2.2.1), .int (Int32.ofNat t)]) (rest := []) rfl rfl ⟨Nat.le_of_ble_eq_true rfl, Nat.le_of_ble_eq_true rfl⟩ rfl rfl g0.1.1 r1 ?_
    refine Er_run 1 (pc' := 23) (ls' := [some (.ref w), some (.int k), some (.int (Int32.ofNat t))]) (st' := [.ref w]) rfl ?_
    refine Er_getR (x := w + 20) rfl w1.1.1 w1.1.2.2.2.2.2.1 ?_
    refine Er_run 1 (pc' := 27) (ls' := [some (.ref w), some (.int k), some (.int (Int32.ofNat t))]) (st' := [.ref w, .ref (w + 20)]) rfl ?_
    refine Er_getR (x := w + 1) rfl w1.1.1 w1.1.2.2.2.1 ?_
    refine Er_run 1 (pc' := 31) (ls' := [some (.ref w), some (.int k), some (.int (Int32.ofNat t))]) (st' := [.int (Int32.ofNat t), .ref (w + 1), .ref (w + 20)]) rfl ?_
    refine Er_inv1 (q' := w + 1) (ci := 7) (av := [.int (Int32.ofNat t)]) (rest := [.ref (w + 20)]) rfl rfl ⟨Nat.le_of_ble_eq_true rfl, Nat.le_of_ble_eq_true rfl⟩ rfl rfl w1.2.2.2.2.2.2.2.2.2.2.1.1 (s_Disk_amount w1.2.2.2.2.2.2.2.2.2.2 ht) ?_
    refine Er_putI rfl u1.1.1 ?_
    have z2 : Fr (w + 20) (w + 22) h1 (setI h1 (w + 20) 9 (Int32.ofNat (jd_am (W.2.2.2.2.2 t)))) := Fr.setI (by omega) (by omega)
    have u2 : MG (setI h1 (w + 20) 9 (Int32.ofNat (jd_am (W.2.2.2.2.2 t)))) (w + 20) (jx_up ((jm_new k (Int32.ofNat (W.1 0)) ((6 : Int32)) W.2.2.2.2.1 (Int32.ofNat t), [])).1 9 (Int32.ofNat (jd_am (W.2.2.2.2.2 t))), ((jm_new k (Int32.ofNat (W.1 0)) ((6 : Int32)) W.2.2.2.2.1 (Int32.ofNat t), [])).2) := MG_set (by omega) u1
    generalize setI h1 (w + 20) 9 (Int32.ofNat (jd_am (W.2.2.2.2.2 t))) = h2 at z2 u2 ⊢
    have w2 : WW h2 w s y W := WW_le z2 u2 w1
    have l2 := LL_fr z2 (by omega) l1
    have s2 := ST_fr z2 (by omega) s1
    have q2 : FW w y h h2 := FW.trans q1 (FW.ofW z2 (by omega) (by omega))
    refine Er_run 1 (pc' := 38) (ls' := [some (.ref w), some (.int k), some (.int (Int32.ofNat t))]) (st' := [.ref w]) rfl ?_
    refine Er_getR (x := y) rfl w2.1.1 w2.1.2.2.1 ?_
    refine Er_run 1 (pc' := 42) (ls' := [some (.ref w), some (.int k), some (.int (Int32.ofNat t))]) (st' := [.ref w, .ref y]) rfl ?_
    refine Er_getR (x := w + 20) rfl w2.1.1 w2.1.2.2.2.2.2.1 ?_
    obtain ⟨h3, r3, l3, z3⟩ := s_Line_send (x := 6) l2 u2 rfl (by omega) (by omega)
    have w3 : WW h3 w s y W := WW_fr z3 (by omega) w2
    have s3 := ST_fr z3 (by omega) s2
    have q3 : FW w y h h3 := FW.trans q2 (FW.ofY z3 (by omega) (by omega))
    have u3 := MG_fr z3 (by omega) u2
    have l3 : LL h3 y (jn_snd L (jx_up ((jm_new k (Int32.ofNat (W.1 0)) ((6 : Int32)) W.2.2.2.2.1 (Int32.ofNat t), [])).1 9 (Int32.ofNat (jd_am (W.2.2.2.2.2 t))), ((jm_new k (Int32.ofNat (W.1 0)) ((6 : Int32)) W.2.2.2.2.1 (Int32.ofNat t), [])).2) 6) := l3
    refine Er_inv0 (q' := y) (ci := 6) (av := [.ref (w + 20)]) (rest := []) rfl rfl ⟨Nat.le_of_ble_eq_true rfl, Nat.le_of_ble_eq_true rfl⟩ rfl rfl l2.1.1 r3 ?_
    refine Er_run 1 (pc' := 49) (ls' := [some (.ref w), some (.int k), some (.int (Int32.ofNat t))]) (st' := [.ref w]) rfl ?_
    obtain ⟨h4, r4, w4, l4, s4, zz4⟩ := s_Worker_rest hsy hyw w3 l3 s3
    have q4 : FW w y h h4 := FW.trans q3 zz4
    refine Er_inv0 (q' := w) (ci := 8) (av := []) (rest := []) rfl rfl ⟨Nat.le_of_ble_eq_true rfl, Nat.le_of_ble_eq_true rfl⟩ rfl rfl w3.1.1 r4 ?_
    exact Er_fin rfl rfl ⟨rfl, w4, l4, s4, q4⟩
  obtain ⟨r, h', hr, e, hq⟩ := Run_of (Nat.le_of_ble_eq_true rfl) hx
  subst e
  exact ⟨h', hr, hq⟩
theorem s_Worker_askForTask (hb17 : W.1 17 < 900000) (hsy : s + 140 ≤ y) (hyw : y + 229 ≤ w) (hw : WW h w s y W) (hl : LL h y L) (hs : ST h s cl G PR F) : ∃ h', Run 99 [.ref w] h (.inl none) h' ∧ WW h' w s y ((jw_ask W L).1) ∧ LL h' y ((jw_ask W L).2) ∧ ST h' s cl G PR F ∧ FW w y h h' := by
  obtain ⟨m0, g0⟩ := hw.2.2.2.2.2.2.2.2.2.1
  have hx : Ev 99 0 (sm_pad (sm_ent [.ref w]) (sm_prog.2.1 99)) [] h (fun r h1 => r = .inl none ∧ WW h1 w s y ((jw_ask W L).1) ∧ LL h1 y ((jw_ask W L).2) ∧ ST h1 s cl G PR F ∧ FW w y h h1) := by
    have hb := (hw.2.1 17 (by omega)).2
    by_cases hc : W.1 17 + 1 ≤ 4
    · skip
      show Ev 99 0 [some (.ref w)] [] h _
      refine Er_run 2 (pc' := 2) (ls' := [some (.ref w)]) (st' := [.ref w, .ref w]) rfl ?_
      refine Er_getI (v := Int32.ofNat (W.1 17)) rfl hw.1.1 (show gI h w 17 = Int32.ofNat (W.1 17) from (hw.2.1 17 (by omega)).1) ?_
      refine Er_run 2 (pc' := 7) (ls' := [some (.ref w)]) (st' := [.int ((Int32.ofNat (W.1 17)) + ((1 : Int32))), .ref w]) rfl ?_
      refine Er_putI rfl hw.1.1 ?_
      rw [jx_s1]
      have z1 : Fr w (w + 1) h (setI h w 17 (Int32.ofNat (W.1 17 + 1))) := Fr.setI (by omega) (by omega)
      have w1 : WW (setI h w 17 (Int32.ofNat (W.1 17 + 1))) w s y (jw_sg W 17 (W.1 17 + 1)) := WW_sg (x := W.1 17 + 1) (by omega) hw
      generalize setI h w 17 (Int32.ofNat (W.1 17 + 1)) = h1 at z1 w1 ⊢
      have l1 := LL_fr z1 (by omega) hl
      have s1 := ST_fr z1 (by omega) hs
      have q1 : FW w y h h1 := FW.trans (FW.refl w y h) (FW.ofW z1 (by omega) (by omega))
      have g1_w20 := MG_fr z1 (by omega) g0
      refine Er_run 1 (pc' := 11) (ls' := [some (.ref w)]) (st' := [.ref w]) rfl ?_
      refine Er_getI (v := Int32.ofNat (W.1 17 + 1)) rfl w1.1.1 (show gI h1 w 17 = Int32.ofNat (W.1 17 + 1) from (w1.2.1 17 (by omega)).1) ?_
      refine Er_run 2 (pc' := bif decide ((Int32.ofNat (W.1 17 + 1)) ≤ ((4 : Int32))) then 56 else 18) (ls' := [some (.ref w)]) (st' := []) rfl ?_
      refine Er_pc (t := 56) (show (bif decide ((Int32.ofNat (W.1 17 + 1)) ≤ ((4 : Int32))) then 56 else 18) = 56 from by rw [show (decide ((Int32.ofNat (W.1 17 + 1)) ≤ ((4 : Int32)))) = true from by rw [show (4 : Int32) = Int32.ofNat 4 from rfl, jx_le (by omega) (by omega)]; exact decide_eq_true (by omega)]; rfl) ?_
      refine Er_fin rfl rfl ?_
      rw [jw_ask, if_pos hc]
      exact ⟨rfl, w1, l1, s1, q1⟩
    · skip
      show Ev 99 0 [some (.ref w)] [] h _
      refine Er_run 2 (pc' := 2) (ls' := [some (.ref w)]) (st' := [.ref w, .ref w]) rfl ?_
      refine Er_getI (v := Int32.ofNat (W.1 17)) rfl hw.1.1 (show gI h w 17 = Int32.ofNat (W.1 17) from (hw.2.1 17 (by omega)).1) ?_
      refine Er_run 2 (pc' := 7) (ls' := [some (.ref w)]) (st' := [.int ((Int32.ofNat (W.1 17)) + ((1 : Int32))), .ref w]) rfl ?_
      refine Er_putI rfl hw.1.1 ?_
      rw [jx_s1]
      have z1 : Fr w (w + 1) h (setI h w 17 (Int32.ofNat (W.1 17 + 1))) := Fr.setI (by omega) (by omega)
      have w1 : WW (setI h w 17 (Int32.ofNat (W.1 17 + 1))) w s y (jw_sg W 17 (W.1 17 + 1)) := WW_sg (x := W.1 17 + 1) (by omega) hw
      generalize setI h w 17 (Int32.ofNat (W.1 17 + 1)) = h1 at z1 w1 ⊢
      have l1 := LL_fr z1 (by omega) hl
      have s1 := ST_fr z1 (by omega) hs
      have q1 : FW w y h h1 := FW.trans (FW.refl w y h) (FW.ofW z1 (by omega) (by omega))
      have g1_w20 := MG_fr z1 (by omega) g0
      refine Er_run 1 (pc' := 11) (ls' := [some (.ref w)]) (st' := [.ref w]) rfl ?_
      refine Er_getI (v := Int32.ofNat (W.1 17 + 1)) rfl w1.1.1 (show gI h1 w 17 = Int32.ofNat (W.1 17 + 1) from (w1.2.1 17 (by omega)).1) ?_
      refine Er_run 2 (pc' := bif decide ((Int32.ofNat (W.1 17 + 1)) ≤ ((4 : Int32))) then 56 else 18) (ls' := [some (.ref w)]) (st' := []) rfl ?_
      refine Er_pc (t := 18) (show (bif decide ((Int32.ofNat (W.1 17 + 1)) ≤ ((4 : Int32))) then 56 else 18) = 18 from by rw [show (decide ((Int32.ofNat (W.1 17 + 1)) ≤ ((4 : Int32)))) = false from by rw [show (4 : Int32) = Int32.ofNat 4 from rfl, jx_le (by omega) (by omega)]; exact decide_eq_false (by omega)]; rfl) ?_
      refine Er_run 2 (pc' := 20) (ls' := [some (.ref w)]) (st' := [.int ((0 : Int32)), .ref w]) rfl ?_
      refine Er_putI rfl w1.1.1 ?_
      have z2 : Fr w (w + 1) h1 (setI h1 w 17 ((0 : Int32))) := Fr.setI (by omega) (by omega)
      have w2 : WW (setI h1 w 17 ((0 : Int32))) w s y (jw_sg (jw_sg W 17 (W.1 17 + 1)) 17 0) := WW_sg (x := 0) (by omega) w1
      generalize setI h1 w 17 ((0 : Int32)) = h2 at z2 w2 ⊢
      have l2 := LL_fr z2 (by omega) l1
      have s2 := ST_fr z2 (by omega) s1
      have q2 : FW w y h h2 := FW.trans q1 (FW.ofW z2 (by omega) (by omega))
      have g2_w20 := MG_fr z2 (by omega) g1_w20
      refine Er_run 1 (pc' := 24) (ls' := [some (.ref w)]) (st' := [.ref w]) rfl ?_
      refine Er_getR (x := w + 20) rfl w2.1.1 w2.1.2.2.2.2.2.1 ?_
      refine Er_run 2 (pc' := 29) (ls' := [some (.ref w)]) (st' := [.ref w, .int ((0 : Int32)), .ref (w + 20)]) rfl ?_
      refine Er_getI (v := Int32.ofNat (W.1 0)) rfl w2.1.1 (show gI h2 w 0 = Int32.ofNat (W.1 0) from (w2.2.1 0 (by omega)).1) ?_
      refine Er_run 2 (pc' := 35) (ls' := [some (.ref w)]) (st' := [.ref w, .int ((6 : Int32)), .int (Int32.ofNat (W.1 0)), .int ((0 : Int32)), .ref (w + 20)]) rfl ?_
      refine Er_getR (x := w + 1) rfl w2.1.1 w2.1.2.2.2.1 ?_
      refine Er_inv1 (q' := w + 1) (ci := 7) (av := []) (rest := [.int ((6 : Int32)), .int (Int32.ofNat (W.1 0)), .int ((0 : Int32)), .ref (w + 20)]) rfl rfl ⟨Nat.le_of_ble_eq_true rfl, Nat.le_of_ble_eq_true rfl⟩ rfl rfl w2.2.2.2.2.2.2.2.2.2.2.1.1 (s_Disk_position w2.2.2.2.2.2.2.2.2.2.2) ?_
      refine Er_run 1 (pc' := 42) (ls' := [some (.ref w)]) (st' := [.int ((-1 : Int32)), .int (W.2.2.2.2.1), .int ((6 : Int32)), .int (Int32.ofNat (W.1 0)), .int ((0 : Int32)), .ref (w + 20)]) rfl ?_
      obtain ⟨h3, r3, u3, z3⟩ := s_Message_write (k := (0 : Int32)) (s := Int32.ofNat (W.1 0)) (u := (6 : Int32)) (p := W.2.2.2.2.1) (t := (-1 : Int32)) g2_w20
      have w3 : WW h3 w s y (jw_sg (jw_sg W 17 (W.1 17 + 1)) 17 0) := WW_le z3 u3 w2
      have l3 := LL_fr z3 (by omega) l2
      have s3 := ST_fr z3 (by omega) s2
      have q3 : FW w y h h3 := FW.trans q2 (FW.ofW z3 (by omega) (by omega))
      refine Er_inv0 (q' := w + 20) (ci := 5) (av := [.int ((0 : Int32)), .int (Int32.ofNat (W.1 0)), .int ((6 : Int32)), .int (W.2.2.2.2.1), .int ((-1 : Int32))]) (rest := []) rfl rfl ⟨Nat.le_of_ble_eq_true rfl, Nat.le_of_ble_eq_true rfl⟩ rfl rfl g2_w20.1.1 r3 ?_
      refine Er_run 1 (pc' := 46) (ls' := [some (.ref w)]) (st' := [.ref w]) rfl ?_
      refine Er_getR (x := y) rfl w3.1.1 w3.1.2.2.1 ?_
      refine Er_run 1 (pc' := 50) (ls' := [some (.ref w)]) (st' := [.ref w, .ref y]) rfl ?_
      refine Er_getR (x := w + 20) rfl w3.1.1 w3.1.2.2.2.2.2.1 ?_
      obtain ⟨h4, r4, l4, z4⟩ := s_Line_send (x := 6) l3 u3 rfl (by omega) (by omega)
      have w4 : WW h4 w s y (jw_sg (jw_sg W 17 (W.1 17 + 1)) 17 0) := WW_fr z4 (by omega) w3
      have s4 := ST_fr z4 (by omega) s3
      have q4 : FW w y h h4 := FW.trans q3 (FW.ofY z4 (by omega) (by omega))
      have u4 := MG_fr z4 (by omega) u3
      have l4 : LL h4 y (jn_snd L (jm_new ((0 : Int32)) (Int32.ofNat (W.1 0)) ((6 : Int32)) W.2.2.2.2.1 ((-1 : Int32)), []) 6) := l4
      refine Er_inv0 (q' := y) (ci := 6) (av := [.ref (w + 20)]) (rest := []) rfl rfl ⟨Nat.le_of_ble_eq_true rfl, Nat.le_of_ble_eq_true rfl⟩ rfl rfl l3.1.1 r4 ?_
      refine Er_fin rfl rfl ?_
      rw [jw_ask, if_neg hc]
      exact ⟨rfl, w4, l4, s4, q4⟩
  obtain ⟨r, h', hr, e, hq⟩ := Run_of (Nat.le_of_ble_eq_true rfl) hx
  subst e
  exact ⟨h', hr, hq⟩
end WORKB
