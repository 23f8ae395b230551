section WORKD
variable {h : sm_H} {w s y j : Nat} {W : Jw} {L : Jn} {cl : List Nat} {G : Nat → Nat → Int32} {PR : Nat → Nat → List (Int32 × Int64)} {F : Nat → Jl}
/-- start, but for the holders -/
def jw_st0 (W : Jw) (j t k : Nat) : Jw := jw_sg (jw_sP (jw_sP (jw_sP (jw_sP (jw_sg (jw_sg (jw_sg (jw_sg (jw_sg (jw_sJ W (some j)) 13 t) 12 (if t < 38 then 1 else 3)) 15 0) 16 0) 17 4) 0 []) 1 []) 2 []) 3 []) 11 k
def jw_hos (W : Jw) (m : Jm) (i : Nat) : Jw := (W.1, W.2.1, (fun x => if x < i then (jm_get m x).toInt32 else W.2.2.1 x), W.2.2.2)
def jw_start (W : Jw) (m : Jm) (j t k : Nat) : Jw := jw_hos (jw_st0 W j t k) m k
theorem jw_hos0 (m : Jm) : jw_hos W m 0 = W := by
  obtain ⟨a, b, c, d⟩ := W
  show (a, b, (fun x => if x < 0 then (jm_get m x).toInt32 else c x), d) = _
  congr 3
theorem jw_hos_s (m : Jm) (i : Nat) : jw_sh (jw_hos W m i) i (jm_get m i).toInt32 = jw_hos W m (i + 1) := by
  show (W.1, W.2.1, jx_up (fun x => if x < i then (jm_get m x).toInt32 else W.2.2.1 x) i (jm_get m i).toInt32, W.2.2.2) = (W.1, W.2.1, (fun x => if x < i + 1 then (jm_get m x).toInt32 else W.2.2.1 x), W.2.2.2)
  congr 3
  funext x
  rw [jx_up]
  by_cases e : x = i
  · subst e; rw [if_pos rfl, if_pos (by omega)]
  · rw [if_neg e]
    by_cases e2 : x < i
    · rw [if_pos e2, if_pos (by omega)]
    · rw [if_neg e2, if_neg (by omega)]

theorem l_start {c : Nat} {m : Jm} (hsy : s + 140 ≤ y) (hyw : y + 229 ≤ w) (hcc : c + 2 ≤ w) (h38 : W.1 11 ≤ 38) : ∀ (f i : Nat) (h : sm_H), i + f = W.1 11 → WW h w s y (jw_hos W m i) → LL h y L → ST h s cl G PR F → MG h c m → Ev 95 102 [some (.ref w), some (.ref c), some (.int (Int32.ofNat i))] [] h (fun r h1 => r = .inl none ∧ WW h1 w s y (jw_hos W m (W.1 11)) ∧ LL h1 y L ∧ ST h1 s cl G PR F ∧ FW w y h h1) := by
  intro f
  induction f with
  | zero =>
    intro i h hi hw hl hs hm
    have e : i = W.1 11 := by omega
    subst e
    refine Er_run 2 (pc' := 104) (ls' := [some (.ref w), some (.ref c), some (.int (Int32.ofNat (W.1 11)))]) (st' := [.ref w, .int (Int32.ofNat (W.1 11))]) rfl ?_
    refine Er_getI (v := Int32.ofNat (W.1 11)) rfl hw.1.1 (show gI h w 11 = Int32.ofNat (W.1 11) from (hw.2.1 11 (by omega)).1) ?_
    refine Er_run 1 (pc' := bif decide ((Int32.ofNat (W.1 11)) ≤ (Int32.ofNat (W.1 11))) then 128 else 110) (ls' := [some (.ref w), some (.ref c), some (.int (Int32.ofNat (W.1 11)))]) (st' := []) rfl ?_
    refine Er_pc (t := 128) (show (bif decide ((Int32.ofNat (W.1 11)) ≤ (Int32.ofNat (W.1 11))) then 128 else 110) = 128 from by rw [show (decide ((Int32.ofNat (W.1 11)) ≤ (Int32.ofNat (W.1 11)))) = true from by rw [jx_le (by omega) (by omega)]; exact decide_eq_true (by omega)]; rfl) ?_
    exact Er_fin rfl rfl ⟨rfl, hw, hl, hs, FW.refl w y h⟩
  | succ f ih =>
    intro i h hi hw hl hs hm
    refine Er_run 2 (pc' := 104) (ls' := [some (.ref w), some (.ref c), some (.int (Int32.ofNat i))]) (st' := [.ref w, .int (Int32.ofNat i)]) rfl ?_
    refine Er_getI (v := Int32.ofNat (W.1 11)) rfl hw.1.1 (show gI h w 11 = Int32.ofNat (W.1 11) from (hw.2.1 11 (by omega)).1) ?_
    refine Er_run 1 (pc' := bif decide ((Int32.ofNat (W.1 11)) ≤ (Int32.ofNat i)) then 128 else 110) (ls' := [some (.ref w), some (.ref c), some (.int (Int32.ofNat i))]) (st' := []) rfl ?_
    refine Er_pc (t := 110) (show (bif decide ((Int32.ofNat (W.1 11)) ≤ (Int32.ofNat i)) then 128 else 110) = 110 from by rw [show (decide ((Int32.ofNat (W.1 11)) ≤ (Int32.ofNat i))) = false from by rw [jx_le (by omega) (by omega)]; exact decide_eq_false (by omega)]; rfl) ?_
    refine Er_run 1 (pc' := 111) (ls' := [some (.ref w), some (.ref c), some (.int (Int32.ofNat i))]) (st' := [.ref w]) rfl ?_
    refine Er_getR (x := w + 34) rfl hw.1.1 hw.1.2.2.2.2.2.2.2.2.2.2.1 ?_
    refine Er_run 3 (pc' := 117) (ls' := [some (.ref w), some (.ref c), some (.int (Int32.ofNat i))]) (st' := [.int (Int32.ofNat i), .ref c, .int (Int32.ofNat i), .ref (w + 34)]) rfl ?_
    refine Er_inv1 (q' := c) (ci := 5) (av := [.int (Int32.ofNat i)]) (rest := [.int (Int32.ofNat i), .ref (w + 34)]) rfl rfl ⟨Nat.le_of_ble_eq_true rfl, Nat.le_of_ble_eq_true rfl⟩ rfl rfl hm.1.1 (s_Message_get hm (by omega)) ?_
    refine Er_run 1 (pc' := 121) (ls' := [some (.ref w), some (.ref c), some (.int (Int32.ofNat i))]) (st' := [.int (Int64.toInt32 (jm_get m i)), .int (Int32.ofNat i), .ref (w + 34)]) rfl ?_
    refine Er_iast rfl hw.1.2.2.2.2.2.2.2.2.2.2.2.1 (by rw [hw.1.2.2.2.2.2.2.2.2.2.2.2.2]; exact sm_in_of (by rw [sm_ofNat_toInt (by omega)]; omega) (by rw [sm_ofNat_toInt (by omega)]; omega)) ?_
    rw [jx_cn (by omega)]
    have z1 : Fr (w + 34) (w + 35) h (setI h (w + 34) i (Int64.toInt32 (jm_get m i))) := Fr.setI (by omega) (by omega)
    have w1 : WW (setI h (w + 34) i (Int64.toInt32 (jm_get m i))) w s y (jw_sh ((jw_hos W m i)) i (Int64.toInt32 (jm_get m i))) := WW_sh hw
    generalize setI h (w + 34) i (Int64.toInt32 (jm_get m i)) = h1 at z1 w1 ⊢
    have l1 := LL_fr z1 (by omega) hl
    have s1 := ST_fr z1 (by omega) hs
    have q1 : FW w y h h1 := FW.trans (FW.refl w y h) (FW.ofW z1 (by omega) (by omega))
    have g1_c := MG_fr z1 (by omega) hm
    refine Er_run 2 (pc' := 102) (ls' := [some (.ref w), some (.ref c), some (.int ((Int32.ofNat i) + (1 : Int32)))]) (st' := []) rfl ?_
    rw [jx_s1]
    refine sm_Ev.mono (ih (i + 1) h1 (by omega) (jw_hos_s m i ▸ w1) l1 s1 g1_c) (fun r h2 z => ⟨z.1, z.2.1, z.2.2.1, z.2.2.2.1, q1.trans z.2.2.2.2⟩)
theorem s_Worker_start {c p t k : Nat} {m : Jm} (hm : MG h c m) (hcc : c + 2 ≤ w) (e5 : m.1 5 = Int32.ofNat p) (e6 : m.1 6 = Int32.ofNat t) (e9 : m.1 9 = Int32.ofNat k) (hk38 : k ≤ 38) (ht : t < 44) (hpc : p < cl.length) (hcp : cl[p]? = some j) (hj8 : j < 8) (hsy : s + 140 ≤ y) (hyw : y + 229 ≤ w) (hw : WW h w s y W) (hl : LL h y L) (hs : ST h s cl G PR F) : ∃ h', Run 95 [.ref w, .ref c] h (.inl none) h' ∧ WW h' w s y (jw_start W m j t k) ∧ LL h' y (L) ∧ ST h' s cl G PR F ∧ FW w y h h' := by
  have hx : Ev 95 0 (sm_pad (sm_ent [.ref w, .ref c]) (sm_prog.2.1 95)) [] h (fun r h1 => r = .inl none ∧ WW h1 w s y (jw_start W m j t k) ∧ LL h1 y (L) ∧ ST h1 s cl G PR F ∧ FW w y h h1) := by
    by_cases hc : t < 38
    · skip
      show Ev 95 0 [some (.ref w), some (.ref c), none] [] h _
      refine Er_run 2 (pc' := 2) (ls' := [some (.ref w), some (.ref c), none]) (st' := [.ref w, .ref w]) rfl ?_
      refine Er_getR (x := s) rfl hw.1.1 hw.1.2.1 ?_
      refine Er_run 1 (pc' := 6) (ls' := [some (.ref w), some (.ref c), none]) (st' := [.ref c, .ref s, .ref w]) rfl ?_
      refine Er_getI (v := Int32.ofNat p) rfl hm.1.1 (by rw [← e5]; exact (hm.2.2.2.1 5 (by omega) (by omega))) ?_
      refine Er_inv1 (q' := s) (ci := 3) (av := [.int (Int32.ofNat p)]) (rest := [.ref w]) rfl rfl ⟨Nat.le_of_ble_eq_true rfl, Nat.le_of_ble_eq_true rfl⟩ rfl rfl hs.1.1 (s_Store_jobAt hs.1 hs.2.1.2.1 hs.2.1.1 hpc (hs.2.1.2.2.2 p j hcp) hj8) ?_
      refine Er_putR rfl hw.1.1 ?_
      have z1 : Fr w (w + 1) h (setR h w 14 (some (s + 52 + 11 * j))) := Fr.setR (by omega) (by omega)
      have w1 : WW (setR h w 14 (some (s + 52 + 11 * j))) w s y (jw_sJ W (some j)) := WW_sJ (x := (some j)) hw
      generalize setR h w 14 (some (s + 52 + 11 * j)) = h1 at z1 w1 ⊢
      have l1 := LL_fr z1 (by omega) hl
      have s1 := ST_fr z1 (by omega) hs
      have q1 : FW w y h h1 := FW.trans (FW.refl w y h) (FW.ofW z1 (by omega) (by omega))
      have g1_c := MG_fr z1 (by omega) hm
      refine Er_run 2 (pc' := 17) (ls' := [some (.ref w), some (.ref c), none]) (st' := [.ref c, .ref w]) rfl ?_
      refine Er_getI (v := Int32.ofNat t) rfl g1_c.1.1 (by rw [← e6]; exact (g1_c.2.2.2.1 6 (by omega) (by omega))) ?_
      refine Er_putI rfl w1.1.1 ?_
      have z2 : Fr w (w + 1) h1 (setI h1 w 13 (Int32.ofNat t)) := Fr.setI (by omega) (by omega)
      have w2 : WW (setI h1 w 13 (Int32.ofNat t)) w s y (jw_sg (jw_sJ W (some j)) 13 t) := WW_sg (x := t) (by omega) w1
      generalize setI h1 w 13 (Int32.ofNat t) = h2 at z2 w2 ⊢
      have l2 := LL_fr z2 (by omega) l1
      have s2 := ST_fr z2 (by omega) s1
      have q2 : FW w y h h2 := FW.trans q1 (FW.ofW z2 (by omega) (by omega))
      have g2_c := MG_fr z2 (by omega) g1_c
      refine Er_run 2 (pc' := 25) (ls' := [some (.ref w), some (.ref c), none]) (st' := [.ref w, .ref w]) rfl ?_
      refine Er_getI (v := Int32.ofNat t) rfl w2.1.1 (show gI h2 w 13 = Int32.ofNat t from (w2.2.1 13 (by omega)).1) ?_
      refine Er_run 2 (pc' := bif decide (((38 : Int32)) ≤ (Int32.ofNat t)) then 37 else 33) (ls' := [some (.ref w), some (.ref c), none]) (st' := [.ref w]) rfl ?_
      refine Er_pc (t := 33) (show (bif decide (((38 : Int32)) ≤ (Int32.ofNat t)) then 37 else 33) = 33 from by rw [show (decide (((38 : Int32)) ≤ (Int32.ofNat t))) = false from by rw [show (38 : Int32) = Int32.ofNat 38 from rfl, jx_le (by omega) (by omega)]; exact decide_eq_false (by omega)]; rfl) ?_
      refine Er_run 2 (pc' := 38) (ls' := [some (.ref w), some (.ref c), none]) (st' := [.int ((1 : Int32)), .ref w]) rfl ?_
      refine Er_putI rfl w2.1.1 ?_
      have z3 : Fr w (w + 1) h2 (setI h2 w 12 ((1 : Int32))) := Fr.setI (by omega) (by omega)
      have w3 : WW (setI h2 w 12 ((1 : Int32))) w s y (jw_sg (jw_sg (jw_sJ W (some j)) 13 t) 12 1) := WW_sg (x := 1) (by omega) w2
      generalize setI h2 w 12 ((1 : Int32)) = h3 at z3 w3 ⊢
      have l3 := LL_fr z3 (by omega) l2
      have s3 := ST_fr z3 (by omega) s2
      have q3 : FW w y h h3 := FW.trans q2 (FW.ofW z3 (by omega) (by omega))
      have g3_c := MG_fr z3 (by omega) g2_c
      refine Er_run 2 (pc' := 43) (ls' := [some (.ref w), some (.ref c), none]) (st' := [.int ((0 : Int32)), .ref w]) rfl ?_
      refine Er_putI rfl w3.1.1 ?_
      have z4 : Fr w (w + 1) h3 (setI h3 w 15 ((0 : Int32))) := Fr.setI (by omega) (by omega)
      have w4 : WW (setI h3 w 15 ((0 : Int32))) w s y (jw_sg (jw_sg (jw_sg (jw_sJ W (some j)) 13 t) 12 1) 15 0) := WW_sg (x := 0) (by omega) w3
      generalize setI h3 w 15 ((0 : Int32)) = h4 at z4 w4 ⊢
      have l4 := LL_fr z4 (by omega) l3
      have s4 := ST_fr z4 (by omega) s3
      have q4 : FW w y h h4 := FW.trans q3 (FW.ofW z4 (by omega) (by omega))
      have g4_c := MG_fr z4 (by omega) g3_c
      refine Er_run 2 (pc' := 48) (ls' := [some (.ref w), some (.ref c), none]) (st' := [.int ((0 : Int32)), .ref w]) rfl ?_
      refine Er_putI rfl w4.1.1 ?_
      have z5 : Fr w (w + 1) h4 (setI h4 w 16 ((0 : Int32))) := Fr.setI (by omega) (by omega)
      have w5 : WW (setI h4 w 16 ((0 : Int32))) w s y (jw_sg (jw_sg (jw_sg (jw_sg (jw_sJ W (some j)) 13 t) 12 1) 15 0) 16 0) := WW_sg (x := 0) (by omega) w4
      generalize setI h4 w 16 ((0 : Int32)) = h5 at z5 w5 ⊢
      have l5 := LL_fr z5 (by omega) l4
      have s5 := ST_fr z5 (by omega) s4
      have q5 : FW w y h h5 := FW.trans q4 (FW.ofW z5 (by omega) (by omega))
      have g5_c := MG_fr z5 (by omega) g4_c
      refine Er_run 2 (pc' := 53) (ls' := [some (.ref w), some (.ref c), none]) (st' := [.int ((4 : Int32)), .ref w]) rfl ?_
      refine Er_putI rfl w5.1.1 ?_
      have z6 : Fr w (w + 1) h5 (setI h5 w 17 ((4 : Int32))) := Fr.setI (by omega) (by omega)
      have w6 : WW (setI h5 w 17 ((4 : Int32))) w s y (jw_sg (jw_sg (jw_sg (jw_sg (jw_sg (jw_sJ W (some j)) 13 t) 12 1) 15 0) 16 0) 17 4) := WW_sg (x := 4) (by omega) w5
      generalize setI h5 w 17 ((4 : Int32)) = h6 at z6 w6 ⊢
      have l6 := LL_fr z6 (by omega) l5
      have s6 := ST_fr z6 (by omega) s5
      have q6 : FW w y h h6 := FW.trans q5 (FW.ofW z6 (by omega) (by omega))
      have g6_c := MG_fr z6 (by omega) g5_c
      refine Er_run 1 (pc' := 57) (ls' := [some (.ref w), some (.ref c), none]) (st' := [.ref w]) rfl ?_
      refine Er_getR (x := w + 22) rfl w6.1.1 w6.1.2.2.2.2.2.2.1 ?_
      obtain ⟨h7, r7, p7, z7⟩ := s_Pairs_empty w6.2.2.2.2.1
      have w7 : WW h7 w s y (jw_sP (jw_sg (jw_sg (jw_sg (jw_sg (jw_sg (jw_sJ W (some j)) 13 t) 12 1) 15 0) 16 0) 17 4) 0 []) := WW_P0 z7 p7 w6
      have l7 := LL_fr z7 (by omega) l6
      have s7 := ST_fr z7 (by omega) s6
      have q7 : FW w y h h7 := FW.trans q6 (FW.ofW z7 (by omega) (by omega))
      have g7_c := MG_fr z7 (by omega) g6_c
      refine Er_inv0 (q' := w + 22) (ci := 0) (av := []) (rest := []) rfl rfl ⟨Nat.le_of_ble_eq_true rfl, Nat.le_of_ble_eq_true rfl⟩ rfl rfl w6.2.2.2.2.1.1.1 r7 ?_
      refine Er_run 1 (pc' := 64) (ls' := [some (.ref w), some (.ref c), none]) (st' := [.ref w]) rfl ?_
      refine Er_getR (x := w + 25) rfl w7.1.1 w7.1.2.2.2.2.2.2.2.1 ?_
      obtain ⟨h8, r8, p8, z8⟩ := s_Pairs_empty w7.2.2.2.2.2.1
      have w8 : WW h8 w s y (jw_sP (jw_sP (jw_sg (jw_sg (jw_sg (jw_sg (jw_sg (jw_sJ W (some j)) 13 t) 12 1) 15 0) 16 0) 17 4) 0 []) 1 []) := WW_P1 z8 p8 w7
      have l8 := LL_fr z8 (by omega) l7
      have s8 := ST_fr z8 (by omega) s7
      have q8 : FW w y h h8 := FW.trans q7 (FW.ofW z8 (by omega) (by omega))
      have g8_c := MG_fr z8 (by omega) g7_c
      refine Er_inv0 (q' := w + 25) (ci := 0) (av := []) (rest := []) rfl rfl ⟨Nat.le_of_ble_eq_true rfl, Nat.le_of_ble_eq_true rfl⟩ rfl rfl w7.2.2.2.2.2.1.1.1 r8 ?_
      refine Er_run 1 (pc' := 71) (ls' := [some (.ref w), some (.ref c), none]) (st' := [.ref w]) rfl ?_
      refine Er_getR (x := w + 31) rfl w8.1.1 w8.1.2.2.2.2.2.2.2.2.2.1 ?_
      obtain ⟨h9, r9, p9, z9⟩ := s_Pairs_empty w8.2.2.2.2.2.2.2.1
      have w9 : WW h9 w s y (jw_sP (jw_sP (jw_sP (jw_sg (jw_sg (jw_sg (jw_sg (jw_sg (jw_sJ W (some j)) 13 t) 12 1) 15 0) 16 0) 17 4) 0 []) 1 []) 2 []) := WW_P2 z9 p9 w8
      have l9 := LL_fr z9 (by omega) l8
      have s9 := ST_fr z9 (by omega) s8
      have q9 : FW w y h h9 := FW.trans q8 (FW.ofW z9 (by omega) (by omega))
      have g9_c := MG_fr z9 (by omega) g8_c
      refine Er_inv0 (q' := w + 31) (ci := 0) (av := []) (rest := []) rfl rfl ⟨Nat.le_of_ble_eq_true rfl, Nat.le_of_ble_eq_true rfl⟩ rfl rfl w8.2.2.2.2.2.2.2.1.1.1 r9 ?_
      refine Er_run 1 (pc' := 78) (ls' := [some (.ref w), some (.ref c), none]) (st' := [.ref w]) rfl ?_
      refine Er_getR (x := w + 1) rfl w9.1.1 w9.1.2.2.2.1 ?_
      refine Er_inv1 (q' := w + 1) (ci := 7) (av := []) (rest := []) rfl rfl ⟨Nat.le_of_ble_eq_true rfl, Nat.le_of_ble_eq_true rfl⟩ rfl rfl w9.2.2.2.2.2.2.2.2.2.2.1.1 (s_Disk_spilled w9.2.2.2.2.2.2.2.2.2.2) ?_
      obtain ⟨h10, r10, p10, z10⟩ := s_Pairs_empty w9.2.2.2.2.2.2.2.2.2.2.2.2.1
      have w10 : WW h10 w s y (jw_sP (jw_sP (jw_sP (jw_sP (jw_sg (jw_sg (jw_sg (jw_sg (jw_sg (jw_sJ W (some j)) 13 t) 12 1) 15 0) 16 0) 17 4) 0 []) 1 []) 2 []) 3 []) := WW_P3 z10 p10 w9
      have l10 := LL_fr z10 (by omega) l9
      have s10 := ST_fr z10 (by omega) s9
      have q10 : FW w y h h10 := FW.trans q9 (FW.ofW z10 (by omega) (by omega))
      have g10_c := MG_fr z10 (by omega) g9_c
      refine Er_inv0 (q' := w + 2) (ci := 0) (av := []) (rest := []) rfl rfl ⟨Nat.le_of_ble_eq_true rfl, Nat.le_of_ble_eq_true rfl⟩ rfl rfl w9.2.2.2.2.2.2.2.2.2.2.2.2.1.1.1 r10 ?_
      refine Er_run 2 (pc' := 89) (ls' := [some (.ref w), some (.ref c), none]) (st' := [.ref c, .ref w]) rfl ?_
      refine Er_getI (v := Int32.ofNat k) rfl g10_c.1.1 (by rw [← e9]; exact (g10_c.2.2.2.1 9 (by omega) (by omega))) ?_
      refine Er_run 1 (pc' := 94) (ls' := [some (.ref w), some (.ref c), none]) (st' := [.int ((38 : Int32)), .int (Int32.ofNat k), .ref w]) rfl ?_
      have hmn := s_min (h := h10) (i := k) (j := 38) (by omega) (by omega)
      rw [Nat.min_eq_left hk38] at hmn
      refine Er_sta1 (av := [.int (Int32.ofNat k), .int ((38 : Int32))]) (rest := [.ref w]) rfl rfl ⟨Nat.le_of_ble_eq_true rfl, Nat.le_of_ble_eq_true rfl⟩ rfl rfl hmn ?_
      refine Er_putI rfl w10.1.1 ?_
      have z11 : Fr w (w + 1) h10 (setI h10 w 11 (Int32.ofNat k)) := Fr.setI (by omega) (by omega)
      have w11 : WW (setI h10 w 11 (Int32.ofNat k)) w s y (jw_sg (jw_sP (jw_sP (jw_sP (jw_sP (jw_sg (jw_sg (jw_sg (jw_sg (jw_sg (jw_sJ W (some j)) 13 t) 12 1) 15 0) 16 0) 17 4) 0 []) 1 []) 2 []) 3 []) 11 k) := WW_sg (x := k) (by omega) w10
      generalize setI h10 w 11 (Int32.ofNat k) = h11 at z11 w11 ⊢
      have l11 := LL_fr z11 (by omega) l10
      have s11 := ST_fr z11 (by omega) s10
      have q11 : FW w y h h11 := FW.trans q10 (FW.ofW z11 (by omega) (by omega))
      have g11_c := MG_fr z11 (by omega) g10_c
      refine Er_run 2 (pc' := 102) (ls' := [some (.ref w), some (.ref c), some (.int ((0 : Int32)))]) (st' := []) rfl ?_
      have hfin := l_start (W := jw_st0 W j t k) (m := m) hsy hyw (by omega) hk38 k 0 h11 (by show 0 + k = k; omega) (by rw [jw_hos0]; exact (show WW h11 w s y (jw_st0 W j t k) from by rw [jw_st0, if_pos hc]; exact w11)) l11 s11 g11_c
      exact sm_Ev.mono hfin (fun r h2 z => ⟨z.1, z.2.1, z.2.2.1, z.2.2.2.1, FW.trans q11 z.2.2.2.2⟩)
    · skip
      show Ev 95 0 [some (.ref w), some (.ref c), none] [] h _
      refine Er_run 2 (pc' := 2) (ls' := [some (.ref w), some (.ref c), none]) (st' := [.ref w, .ref w]) rfl ?_
      refine Er_getR (x := s) rfl hw.1.1 hw.1.2.1 ?_
      refine Er_run 1 (pc' := 6) (ls' := [some (.ref w), some (.ref c), none]) (st' := [.ref c, .ref s, .ref w]) rfl ?_
      refine Er_getI (v := Int32.ofNat p) rfl hm.1.1 (by rw [← e5]; exact (hm.2.2.2.1 5 (by omega) (by omega))) ?_
      refine Er_inv1 (q' := s) (ci := 3) (av := [.int (Int32.ofNat p)]) (rest := [.ref w]) rfl rfl ⟨Nat.le_of_ble_eq_true rfl, Nat.le_of_ble_eq_true rfl⟩ rfl rfl hs.1.1 (s_Store_jobAt hs.1 hs.2.1.2.1 hs.2.1.1 hpc (hs.2.1.2.2.2 p j hcp) hj8) ?_
      refine Er_putR rfl hw.1.1 ?_
      have z1 : Fr w (w + 1) h (setR h w 14 (some (s + 52 + 11 * j))) := Fr.setR (by omega) (by omega)
      have w1 : WW (setR h w 14 (some (s + 52 + 11 * j))) w s y (jw_sJ W (some j)) := WW_sJ (x := (some j)) hw
      generalize setR h w 14 (some (s + 52 + 11 * j)) = h1 at z1 w1 ⊢
      have l1 := LL_fr z1 (by omega) hl
      have s1 := ST_fr z1 (by omega) hs
      have q1 : FW w y h h1 := FW.trans (FW.refl w y h) (FW.ofW z1 (by omega) (by omega))
      have g1_c := MG_fr z1 (by omega) hm
      refine Er_run 2 (pc' := 17) (ls' := [some (.ref w), some (.ref c), none]) (st' := [.ref c, .ref w]) rfl ?_
      refine Er_getI (v := Int32.ofNat t) rfl g1_c.1.1 (by rw [← e6]; exact (g1_c.2.2.2.1 6 (by omega) (by omega))) ?_
      refine Er_putI rfl w1.1.1 ?_
      have z2 : Fr w (w + 1) h1 (setI h1 w 13 (Int32.ofNat t)) := Fr.setI (by omega) (by omega)
      have w2 : WW (setI h1 w 13 (Int32.ofNat t)) w s y (jw_sg (jw_sJ W (some j)) 13 t) := WW_sg (x := t) (by omega) w1
      generalize setI h1 w 13 (Int32.ofNat t) = h2 at z2 w2 ⊢
      have l2 := LL_fr z2 (by omega) l1
      have s2 := ST_fr z2 (by omega) s1
      have q2 : FW w y h h2 := FW.trans q1 (FW.ofW z2 (by omega) (by omega))
      have g2_c := MG_fr z2 (by omega) g1_c
      refine Er_run 2 (pc' := 25) (ls' := [some (.ref w), some (.ref c), none]) (st' := [.ref w, .ref w]) rfl ?_
      refine Er_getI (v := Int32.ofNat t) rfl w2.1.1 (show gI h2 w 13 = Int32.ofNat t from (w2.2.1 13 (by omega)).1) ?_
      refine Er_run 2 (pc' := bif decide (((38 : Int32)) ≤ (Int32.ofNat t)) then 37 else 33) (ls' := [some (.ref w), some (.ref c), none]) (st' := [.ref w]) rfl ?_
      refine Er_pc (t := 37) (show (bif decide (((38 : Int32)) ≤ (Int32.ofNat t)) then 37 else 33) = 37 from by rw [show (decide (((38 : Int32)) ≤ (Int32.ofNat t))) = true from by rw [show (38 : Int32) = Int32.ofNat 38 from rfl, jx_le (by omega) (by omega)]; exact decide_eq_true (by omega)]; rfl) ?_
      refine Er_run 1 (pc' := 38) (ls' := [some (.ref w), some (.ref c), none]) (st' := [.int ((3 : Int32)), .ref w]) rfl ?_
      refine Er_putI rfl w2.1.1 ?_
      have z3 : Fr w (w + 1) h2 (setI h2 w 12 ((3 : Int32))) := Fr.setI (by omega) (by omega)
      have w3 : WW (setI h2 w 12 ((3 : Int32))) w s y (jw_sg (jw_sg (jw_sJ W (some j)) 13 t) 12 3) := WW_sg (x := 3) (by omega) w2
      generalize setI h2 w 12 ((3 : Int32)) = h3 at z3 w3 ⊢
      have l3 := LL_fr z3 (by omega) l2
      have s3 := ST_fr z3 (by omega) s2
      have q3 : FW w y h h3 := FW.trans q2 (FW.ofW z3 (by omega) (by omega))
      have g3_c := MG_fr z3 (by omega) g2_c
      refine Er_run 2 (pc' := 43) (ls' := [some (.ref w), some (.ref c), none]) (st' := [.int ((0 : Int32)), .ref w]) rfl ?_
      refine Er_putI rfl w3.1.1 ?_
      have z4 : Fr w (w + 1) h3 (setI h3 w 15 ((0 : Int32))) := Fr.setI (by omega) (by omega)
      have w4 : WW (setI h3 w 15 ((0 : Int32))) w s y (jw_sg (jw_sg (jw_sg (jw_sJ W (some j)) 13 t) 12 3) 15 0) := WW_sg (x := 0) (by omega) w3
      generalize setI h3 w 15 ((0 : Int32)) = h4 at z4 w4 ⊢
      have l4 := LL_fr z4 (by omega) l3
      have s4 := ST_fr z4 (by omega) s3
      have q4 : FW w y h h4 := FW.trans q3 (FW.ofW z4 (by omega) (by omega))
      have g4_c := MG_fr z4 (by omega) g3_c
      refine Er_run 2 (pc' := 48) (ls' := [some (.ref w), some (.ref c), none]) (st' := [.int ((0 : Int32)), .ref w]) rfl ?_
      refine Er_putI rfl w4.1.1 ?_
      have z5 : Fr w (w + 1) h4 (setI h4 w 16 ((0 : Int32))) := Fr.setI (by omega) (by omega)
      have w5 : WW (setI h4 w 16 ((0 : Int32))) w s y (jw_sg (jw_sg (jw_sg (jw_sg (jw_sJ W (some j)) 13 t) 12 3) 15 0) 16 0) := WW_sg (x := 0) (by omega) w4
      generalize setI h4 w 16 ((0 : Int32)) = h5 at z5 w5 ⊢
      have l5 := LL_fr z5 (by omega) l4
      have s5 := ST_fr z5 (by omega) s4
      have q5 : FW w y h h5 := FW.trans q4 (FW.ofW z5 (by omega) (by omega))
      have g5_c := MG_fr z5 (by omega) g4_c
      refine Er_run 2 (pc' := 53) (ls' := [some (.ref w), some (.ref c), none]) (st' := [.int ((4 : Int32)), .ref w]) rfl ?_
      refine Er_putI rfl w5.1.1 ?_
      have z6 : Fr w (w + 1) h5 (setI h5 w 17 ((4 : Int32))) := Fr.setI (by omega) (by omega)
      have w6 : WW (setI h5 w 17 ((4 : Int32))) w s y (jw_sg (jw_sg (jw_sg (jw_sg (jw_sg (jw_sJ W (some j)) 13 t) 12 3) 15 0) 16 0) 17 4) := WW_sg (x := 4) (by omega) w5
      generalize setI h5 w 17 ((4 : Int32)) = h6 at z6 w6 ⊢
      have l6 := LL_fr z6 (by omega) l5
      have s6 := ST_fr z6 (by omega) s5
      have q6 : FW w y h h6 := FW.trans q5 (FW.ofW z6 (by omega) (by omega))
      have g6_c := MG_fr z6 (by omega) g5_c
      refine Er_run 1 (pc' := 57) (ls' := [some (.ref w), some (.ref c), none]) (st' := [.ref w]) rfl ?_
      refine Er_getR (x := w + 22) rfl w6.1.1 w6.1.2.2.2.2.2.2.1 ?_
      obtain ⟨h7, r7, p7, z7⟩ := s_Pairs_empty w6.2.2.2.2.1
      have w7 : WW h7 w s y (jw_sP (jw_sg (jw_sg (jw_sg (jw_sg (jw_sg (jw_sJ W (some j)) 13 t) 12 3) 15 0) 16 0) 17 4) 0 []) := WW_P0 z7 p7 w6
      have l7 := LL_fr z7 (by omega) l6
      have s7 := ST_fr z7 (by omega) s6
      have q7 : FW w y h h7 := FW.trans q6 (FW.ofW z7 (by omega) (by omega))
      have g7_c := MG_fr z7 (by omega) g6_c
      refine Er_inv0 (q' := w + 22) (ci := 0) (av := []) (rest := []) rfl rfl ⟨Nat.le_of_ble_eq_true rfl, Nat.le_of_ble_eq_true rfl⟩ rfl rfl w6.2.2.2.2.1.1.1 r7 ?_
      refine Er_run 1 (pc' := 64) (ls' := [some (.ref w), some (.ref c), none]) (st' := [.ref w]) rfl ?_
      refine Er_getR (x := w + 25) rfl w7.1.1 w7.1.2.2.2.2.2.2.2.1 ?_
      obtain ⟨h8, r8, p8, z8⟩ := s_Pairs_empty w7.2.2.2.2.2.1
      have w8 : WW h8 w s y (jw_sP (jw_sP (jw_sg (jw_sg (jw_sg (jw_sg (jw_sg (jw_sJ W (some j)) 13 t) 12 3) 15 0) 16 0) 17 4) 0 []) 1 []) := WW_P1 z8 p8 w7
      have l8 := LL_fr z8 (by omega) l7
      have s8 := ST_fr z8 (by omega) s7
      have q8 : FW w y h h8 := FW.trans q7 (FW.ofW z8 (by omega) (by omega))
      have g8_c := MG_fr z8 (by omega) g7_c
      refine Er_inv0 (q' := w + 25) (ci := 0) (av := []) (rest := []) rfl rfl ⟨Nat.le_of_ble_eq_true rfl, Nat.le_of_ble_eq_true rfl⟩ rfl rfl w7.2.2.2.2.2.1.1.1 r8 ?_
      refine Er_run 1 (pc' := 71) (ls' := [some (.ref w), some (.ref c), none]) (st' := [.ref w]) rfl ?_
      refine Er_getR (x := w + 31) rfl w8.1.1 w8.1.2.2.2.2.2.2.2.2.2.1 ?_
      obtain ⟨h9, r9, p9, z9⟩ := s_Pairs_empty w8.2.2.2.2.2.2.2.1
      have w9 : WW h9 w s y (jw_sP (jw_sP (jw_sP (jw_sg (jw_sg (jw_sg (jw_sg (jw_sg (jw_sJ W (some j)) 13 t) 12 3) 15 0) 16 0) 17 4) 0 []) 1 []) 2 []) := WW_P2 z9 p9 w8
      have l9 := LL_fr z9 (by omega) l8
      have s9 := ST_fr z9 (by omega) s8
      have q9 : FW w y h h9 := FW.trans q8 (FW.ofW z9 (by omega) (by omega))
      have g9_c := MG_fr z9 (by omega) g8_c
      refine Er_inv0 (q' := w + 31) (ci := 0) (av := []) (rest := []) rfl rfl ⟨Nat.le_of_ble_eq_true rfl, Nat.le_of_ble_eq_true rfl⟩ rfl rfl w8.2.2.2.2.2.2.2.1.1.1 r9 ?_
      refine Er_run 1 (pc' := 78) (ls' := [some (.ref w), some (.ref c), none]) (st' := [.ref w]) rfl ?_
      refine Er_getR (x := w + 1) rfl w9.1.1 w9.1.2.2.2.1 ?_
      refine Er_inv1 (q' := w + 1) (ci := 7) (av := []) (rest := []) rfl rfl ⟨Nat.le_of_ble_eq_true rfl, Nat.le_of_ble_eq_true rfl⟩ rfl rfl w9.2.2.2.2.2.2.2.2.2.2.1.1 (s_Disk_spilled w9.2.2.2.2.2.2.2.2.2.2) ?_
      obtain ⟨h10, r10, p10, z10⟩ := s_Pairs_empty w9.2.2.2.2.2.2.2.2.2.2.2.2.1
      have w10 : WW h10 w s y (jw_sP (jw_sP (jw_sP (jw_sP (jw_sg (jw_sg (jw_sg (jw_sg (jw_sg (jw_sJ W (some j)) 13 t) 12 3) 15 0) 16 0) 17 4) 0 []) 1 []) 2 []) 3 []) := WW_P3 z10 p10 w9
      have l10 := LL_fr z10 (by omega) l9
      have s10 := ST_fr z10 (by omega) s9
      have q10 : FW w y h h10 := FW.trans q9 (FW.ofW z10 (by omega) (by omega))
      have g10_c := MG_fr z10 (by omega) g9_c
      refine Er_inv0 (q' := w + 2) (ci := 0) (av := []) (rest := []) rfl rfl ⟨Nat.le_of_ble_eq_true rfl, Nat.le_of_ble_eq_true rfl⟩ rfl rfl w9.2.2.2.2.2.2.2.2.2.2.2.2.1.1.1 r10 ?_
      refine Er_run 2 (pc' := 89) (ls' := [some (.ref w), some (.ref c), none]) (st' := [.ref c, .ref w]) rfl ?_
      refine Er_getI (v := Int32.ofNat k) rfl g10_c.1.1 (by rw [← e9]; exact (g10_c.2.2.2.1 9 (by omega) (by omega))) ?_
      refine Er_run 1 (pc' := 94) (ls' := [some (.ref w), some (.ref c), none]) (st' := [.int ((38 : Int32)), .int (Int32.ofNat k), .ref w]) rfl ?_
      have hmn := s_min (h := h10) (i := k) (j := 38) (by omega) (by omega)
      rw [Nat.min_eq_left hk38] at hmn
      refine Er_sta1 (av := [.int (Int32.ofNat k), .int ((38 : Int32))]) (rest := [.ref w]) rfl rfl ⟨Nat.le_of_ble_eq_true rfl, Nat.le_of_ble_eq_true rfl⟩ rfl rfl hmn ?_
      refine Er_putI rfl w10.1.1 ?_
      have z11 : Fr w (w + 1) h10 (setI h10 w 11 (Int32.ofNat k)) := Fr.setI (by omega) (by omega)
      have w11 : WW (setI h10 w 11 (Int32.ofNat k)) w s y (jw_sg (jw_sP (jw_sP (jw_sP (jw_sP (jw_sg (jw_sg (jw_sg (jw_sg (jw_sg (jw_sJ W (some j)) 13 t) 12 3) 15 0) 16 0) 17 4) 0 []) 1 []) 2 []) 3 []) 11 k) := WW_sg (x := k) (by omega) w10
      generalize setI h10 w 11 (Int32.ofNat k) = h11 at z11 w11 ⊢
      have l11 := LL_fr z11 (by omega) l10
      have s11 := ST_fr z11 (by omega) s10
      have q11 : FW w y h h11 := FW.trans q10 (FW.ofW z11 (by omega) (by omega))
      have g11_c := MG_fr z11 (by omega) g10_c
      refine Er_run 2 (pc' := 102) (ls' := [some (.ref w), some (.ref c), some (.int ((0 : Int32)))]) (st' := []) rfl ?_
      have hfin := l_start (W := jw_st0 W j t k) (m := m) hsy hyw (by omega) hk38 k 0 h11 (by show 0 + k = k; omega) (by rw [jw_hos0]; exact (show WW h11 w s y (jw_st0 W j t k) from by rw [jw_st0, if_neg hc]; exact w11)) l11 s11 g11_c
      exact sm_Ev.mono hfin (fun r h2 z => ⟨z.1, z.2.1, z.2.2.1, z.2.2.2.1, FW.trans q11 z.2.2.2.2⟩)
  obtain ⟨r, h', hr, e, hq⟩ := Run_of (Nat.le_of_ble_eq_true rfl) hx
  subst e
  exact ⟨h', hr, hq⟩
def jw_wipe (W : Jw) (x : Int32) : Jw := jw_sD W x [] [] [] (fun _ => none)
def jw_take (W : Jw) (L : Jn) (m : Jm) (j t k : Nat) : Jw × Jn := if (W.2.2.2.2.2 t).isSome then (jw_rest W, jn_snd L (jw_let W 2 t) 6) else (jw_start W m j t k, L)
def jw_give (W : Jw) (L : Jn) (m : Jm) (p j t k : Nat) : Jw × Jn := if W.2.1.isSome then (W, L) else if Int32.ofNat p < W.2.2.2.2.1 then (W, L) else if W.2.2.2.2.1 < Int32.ofNat p then jw_take (jw_wipe W (Int32.ofNat p)) L m j t k else jw_take W L m j t k
theorem s_Worker_hearGive {c p t k : Nat} {m : Jm} (hm : MG h c m) (hcc : c + 2 ≤ w) (e5 : m.1 5 = Int32.ofNat p) (e6 : m.1 6 = Int32.ofNat t) (e9 : m.1 9 = Int32.ofNat k) (hk38 : k ≤ 38) (ht : t < 44) (hpc : p < cl.length) (hcp : cl[p]? = some j) (hj8 : j < 8) (hsy : s + 140 ≤ y) (hyw : y + 229 ≤ w) (hw : WW h w s y W) (hl : LL h y L) (hs : ST h s cl G PR F) : ∃ h', Run 94 [.ref w, .ref c] h (.inl none) h' ∧ WW h' w s y ((jw_give W L m p j t k).1) ∧ LL h' y ((jw_give W L m p j t k).2) ∧ ST h' s cl G PR F ∧ FW w y h h' := by
  have hx : Ev 94 0 (sm_pad (sm_ent [.ref w, .ref c]) (sm_prog.2.1 94)) [] h (fun r h1 => r = .inl none ∧ WW h1 w s y ((jw_give W L m p j t k).1) ∧ LL h1 y ((jw_give W L m p j t k).2) ∧ ST h1 s cl G PR F ∧ FW w y h h1) := by
    cases hj : W.2.1 with
    | some jj =>
      show Ev 94 0 [some (.ref w), some (.ref c)] [] h _
      refine Er_run 1 (pc' := 1) (ls' := [some (.ref w), some (.ref c)]) (st' := [.ref w]) rfl ?_
      refine Er_getR (x := s + 52 + 11 * jj) rfl hw.1.1 (Eq.trans hw.2.2.1 (by rw [hj]; rfl)) ?_
      refine Er_run 1 (pc' := 35) (ls' := [some (.ref w), some (.ref c)]) (st' := []) rfl ?_
      refine Er_fin rfl rfl ?_
      rw [jw_give, if_pos (by rw [hj]; rfl)]
      exact ⟨rfl, hw, hl, hs, (FW.refl w y h)⟩
    | none =>
      by_cases ho : Int32.ofNat p < W.2.2.2.2.1
      · skip
        show Ev 94 0 [some (.ref w), some (.ref c)] [] h _
        refine Er_run 1 (pc' := 1) (ls' := [some (.ref w), some (.ref c)]) (st' := [.ref w]) rfl ?_
        refine Er_getN rfl hw.1.1 (Eq.trans hw.2.2.1 (show (W).2.1.map (fun j => s + 52 + 11 * j) = none from by rw [show (W).2.1 = none from hj]; rfl)) ?_
        refine Er_run 2 (pc' := 8) (ls' := [some (.ref w), some (.ref c)]) (st' := [.ref w]) rfl ?_
        refine Er_getR (x := s) rfl hw.1.1 hw.1.2.1 ?_
        refine Er_run 1 (pc' := 12) (ls' := [some (.ref w), some (.ref c)]) (st' := [.ref c, .ref s]) rfl ?_
        refine Er_getI (v := Int32.ofNat p) rfl hm.1.1 (by rw [← e5]; exact (hm.2.2.2.1 5 (by omega) (by omega))) ?_
        refine Er_inv1 (q' := s) (ci := 3) (av := [.int (Int32.ofNat p)]) (rest := []) rfl rfl ⟨Nat.le_of_ble_eq_true rfl, Nat.le_of_ble_eq_true rfl⟩ rfl rfl hs.1.1 (s_Store_jobAt hs.1 hs.2.1.2.1 hs.2.1.1 hpc (hs.2.1.2.2.2 p j hcp) hj8) ?_
        refine Er_run 2 (pc' := 22) (ls' := [some (.ref w), some (.ref c)]) (st' := [.ref c]) rfl ?_
        refine Er_getI (v := Int32.ofNat p) rfl hm.1.1 (by rw [← e5]; exact (hm.2.2.2.1 5 (by omega) (by omega))) ?_
        refine Er_run 1 (pc' := 26) (ls' := [some (.ref w), some (.ref c)]) (st' := [.ref w, .int (Int32.ofNat p)]) rfl ?_
        refine Er_getR (x := w + 1) rfl hw.1.1 hw.1.2.2.2.1 ?_
        refine Er_inv1 (q' := w + 1) (ci := 7) (av := []) (rest := [.int (Int32.ofNat p)]) rfl rfl ⟨Nat.le_of_ble_eq_true rfl, Nat.le_of_ble_eq_true rfl⟩ rfl rfl hw.2.2.2.2.2.2.2.2.2.2.1.1 (s_Disk_position hw.2.2.2.2.2.2.2.2.2.2) ?_
        refine Er_run 1 (pc' := bif decide (W.2.2.2.2.1 ≤ (Int32.ofNat p)) then 36 else 35) (ls' := [some (.ref w), some (.ref c)]) (st' := []) rfl ?_
        refine Er_pc (t := 35) (show (bif decide (W.2.2.2.2.1 ≤ (Int32.ofNat p)) then 36 else 35) = 35 from by rw [show (decide (W.2.2.2.2.1 ≤ (Int32.ofNat p))) = false from decide_eq_false (Int32.not_le.2 ho)]; rfl) ?_
        refine Er_fin rfl rfl ?_
        rw [jw_give, if_neg (by rw [hj]; decide), if_pos ho]
        exact ⟨rfl, hw, hl, hs, (FW.refl w y h)⟩
      · by_cases hwp : W.2.2.2.2.1 < Int32.ofNat p
        · by_cases hd : ((jw_wipe W (Int32.ofNat p)).2.2.2.2.2 t).isSome = true
          · exact absurd hd (by show ¬ (none : Option Jl).isSome = true; decide)
          · skip
            show Ev 94 0 [some (.ref w), some (.ref c)] [] h _
            refine Er_run 1 (pc' := 1) (ls' := [some (.ref w), some (.ref c)]) (st' := [.ref w]) rfl ?_
            refine Er_getN rfl hw.1.1 (Eq.trans hw.2.2.1 (show (W).2.1.map (fun j => s + 52 + 11 * j) = none from by rw [show (W).2.1 = none from hj]; rfl)) ?_
            refine Er_run 2 (pc' := 8) (ls' := [some (.ref w), some (.ref c)]) (st' := [.ref w]) rfl ?_
            refine Er_getR (x := s) rfl hw.1.1 hw.1.2.1 ?_
            refine Er_run 1 (pc' := 12) (ls' := [some (.ref w), some (.ref c)]) (st' := [.ref c, .ref s]) rfl ?_
            refine Er_getI (v := Int32.ofNat p) rfl hm.1.1 (by rw [← e5]; exact (hm.2.2.2.1 5 (by omega) (by omega))) ?_
            refine Er_inv1 (q' := s) (ci := 3) (av := [.int (Int32.ofNat p)]) (rest := []) rfl rfl ⟨Nat.le_of_ble_eq_true rfl, Nat.le_of_ble_eq_true rfl⟩ rfl rfl hs.1.1 (s_Store_jobAt hs.1 hs.2.1.2.1 hs.2.1.1 hpc (hs.2.1.2.2.2 p j hcp) hj8) ?_
            refine Er_run 2 (pc' := 22) (ls' := [some (.ref w), some (.ref c)]) (st' := [.ref c]) rfl ?_
            refine Er_getI (v := Int32.ofNat p) rfl hm.1.1 (by rw [← e5]; exact (hm.2.2.2.1 5 (by omega) (by omega))) ?_
            refine Er_run 1 (pc' := 26) (ls' := [some (.ref w), some (.ref c)]) (st' := [.ref w, .int (Int32.ofNat p)]) rfl ?_
            refine Er_getR (x := w + 1) rfl hw.1.1 hw.1.2.2.2.1 ?_
            refine Er_inv1 (q' := w + 1) (ci := 7) (av := []) (rest := [.int (Int32.ofNat p)]) rfl rfl ⟨Nat.le_of_ble_eq_true rfl, Nat.le_of_ble_eq_true rfl⟩ rfl rfl hw.2.2.2.2.2.2.2.2.2.2.1.1 (s_Disk_position hw.2.2.2.2.2.2.2.2.2.2) ?_
            refine Er_run 1 (pc' := bif decide (W.2.2.2.2.1 ≤ (Int32.ofNat p)) then 36 else 35) (ls' := [some (.ref w), some (.ref c)]) (st' := []) rfl ?_
            refine Er_pc (t := 36) (show (bif decide (W.2.2.2.2.1 ≤ (Int32.ofNat p)) then 36 else 35) = 36 from by rw [show (decide (W.2.2.2.2.1 ≤ (Int32.ofNat p))) = true from decide_eq_true (Int32.not_lt.1 ho)]; rfl) ?_
            refine Er_run 1 (pc' := 37) (ls' := [some (.ref w), some (.ref c)]) (st' := [.ref c]) rfl ?_
            refine Er_getI (v := Int32.ofNat p) rfl hm.1.1 (by rw [← e5]; exact (hm.2.2.2.1 5 (by omega) (by omega))) ?_
            refine Er_run 1 (pc' := 41) (ls' := [some (.ref w), some (.ref c)]) (st' := [.ref w, .int (Int32.ofNat p)]) rfl ?_
            refine Er_getR (x := w + 1) rfl hw.1.1 hw.1.2.2.2.1 ?_
            refine Er_inv1 (q' := w + 1) (ci := 7) (av := []) (rest := [.int (Int32.ofNat p)]) rfl rfl ⟨Nat.le_of_ble_eq_true rfl, Nat.le_of_ble_eq_true rfl⟩ rfl rfl hw.2.2.2.2.2.2.2.2.2.2.1.1 (s_Disk_position hw.2.2.2.2.2.2.2.2.2.2) ?_
            refine Er_run 1 (pc' := bif decide ((Int32.ofNat p) ≤ W.2.2.2.2.1) then 61 else 50) (ls' := [some (.ref w), some (.ref c)]) (st' := []) rfl ?_
            refine Er_pc (t := 50) (show (bif decide ((Int32.ofNat p) ≤ W.2.2.2.2.1) then 61 else 50) = 50 from by rw [show (decide ((Int32.ofNat p) ≤ W.2.2.2.2.1)) = false from decide_eq_false (Int32.not_le.2 hwp)]; rfl) ?_
            refine Er_run 1 (pc' := 51) (ls' := [some (.ref w), some (.ref c)]) (st' := [.ref w]) rfl ?_
            refine Er_getR (x := w + 1) rfl hw.1.1 hw.1.2.2.2.1 ?_
            refine Er_run 1 (pc' := 55) (ls' := [some (.ref w), some (.ref c)]) (st' := [.ref c, .ref (w + 1)]) rfl ?_
            refine Er_getI (v := Int32.ofNat p) rfl hm.1.1 (by rw [← e5]; exact (hm.2.2.2.1 5 (by omega) (by omega))) ?_
            obtain ⟨h1, r1, p1, z1⟩ := s_Disk_wipe (x := Int32.ofNat p) hw.2.2.2.2.2.2.2.2.2.2
            have w1 : WW h1 w s y (jw_wipe W (Int32.ofNat p)) := WW_D z1 p1 hw
            have l1 := LL_fr z1 (by omega) hl
            have s1 := ST_fr z1 (by omega) hs
            have q1 : FW w y h h1 := FW.trans (FW.refl w y h) (FW.ofW z1 (by omega) (by omega))
            have g1_c := MG_fr z1 (by omega) hm
            refine Er_inv0 (q' := w + 1) (ci := 7) (av := [.int (Int32.ofNat p)]) (rest := []) rfl rfl ⟨Nat.le_of_ble_eq_true rfl, Nat.le_of_ble_eq_true rfl⟩ rfl rfl hw.2.2.2.2.2.2.2.2.2.2.1.1 r1 ?_
            refine Er_run 1 (pc' := 62) (ls' := [some (.ref w), some (.ref c)]) (st' := [.ref w]) rfl ?_
            refine Er_getR (x := w + 1) rfl w1.1.1 w1.1.2.2.2.1 ?_
            refine Er_run 1 (pc' := 66) (ls' := [some (.ref w), some (.ref c)]) (st' := [.ref c, .ref (w + 1)]) rfl ?_
            refine Er_getI (v := Int32.ofNat t) rfl g1_c.1.1 (by rw [← e6]; exact (g1_c.2.2.2.1 6 (by omega) (by omega))) ?_
            have hh := s_Disk_holds w1.2.2.2.2.2.2.2.2.2.2 ht
            rw [if_neg hd] at hh
            refine Er_inv1 (q' := w + 1) (ci := 7) (av := [.int (Int32.ofNat t)]) (rest := []) rfl rfl ⟨Nat.le_of_ble_eq_true rfl, Nat.le_of_ble_eq_true rfl⟩ rfl rfl w1.2.2.2.2.2.2.2.2.2.2.1.1 hh ?_
            refine Er_run 1 (pc' := bif decide (((0 : Int32)) = 0) then 87 else 75) (ls' := [some (.ref w), some (.ref c)]) (st' := []) rfl ?_
            refine Er_pc (t := 87) (show (bif decide (((0 : Int32)) = 0) then 87 else 75) = 87 from by rw [show (decide (((0 : Int32)) = 0)) = true from by decide]; rfl) ?_
            refine Er_run 2 (pc' := 89) (ls' := [some (.ref w), some (.ref c)]) (st' := [.ref c, .ref w]) rfl ?_
            obtain ⟨h2, r2, w2, l2, s2, zz2⟩ := s_Worker_start g1_c hcc e5 e6 e9 hk38 ht hpc hcp hj8 hsy hyw w1 l1 s1
            have q2 : FW w y h h2 := FW.trans q1 zz2
            refine Er_inv0 (q' := w) (ci := 8) (av := [.ref c]) (rest := []) rfl rfl ⟨Nat.le_of_ble_eq_true rfl, Nat.le_of_ble_eq_true rfl⟩ rfl rfl w1.1.1 r2 ?_
            refine Er_fin rfl rfl ?_
            rw [jw_give, if_neg (by rw [hj]; decide), if_neg ho, if_pos hwp, jw_take, if_neg hd]
            exact ⟨rfl, w2, l2, s2, q2⟩
        · by_cases hd : (W.2.2.2.2.2 t).isSome = true
          · skip
            show Ev 94 0 [some (.ref w), some (.ref c)] [] h _
            refine Er_run 1 (pc' := 1) (ls' := [some (.ref w), some (.ref c)]) (st' := [.ref w]) rfl ?_
            refine Er_getN rfl hw.1.1 (Eq.trans hw.2.2.1 (show (W).2.1.map (fun j => s + 52 + 11 * j) = none from by rw [show (W).2.1 = none from hj]; rfl)) ?_
            refine Er_run 2 (pc' := 8) (ls' := [some (.ref w), some (.ref c)]) (st' := [.ref w]) rfl ?_
            refine Er_getR (x := s) rfl hw.1.1 hw.1.2.1 ?_
            refine Er_run 1 (pc' := 12) (ls' := [some (.ref w), some (.ref c)]) (st' := [.ref c, .ref s]) rfl ?_
            refine Er_getI (v := Int32.ofNat p) rfl hm.1.1 (by rw [← e5]; exact (hm.2.2.2.1 5 (by omega) (by omega))) ?_
            refine Er_inv1 (q' := s) (ci := 3) (av := [.int (Int32.ofNat p)]) (rest := []) rfl rfl ⟨Nat.le_of_ble_eq_true rfl, Nat.le_of_ble_eq_true rfl⟩ rfl rfl hs.1.1 (s_Store_jobAt hs.1 hs.2.1.2.1 hs.2.1.1 hpc (hs.2.1.2.2.2 p j hcp) hj8) ?_
            refine Er_run 2 (pc' := 22) (ls' := [some (.ref w), some (.ref c)]) (st' := [.ref c]) rfl ?_
            refine Er_getI (v := Int32.ofNat p) rfl hm.1.1 (by rw [← e5]; exact (hm.2.2.2.1 5 (by omega) (by omega))) ?_
            refine Er_run 1 (pc' := 26) (ls' := [some (.ref w), some (.ref c)]) (st' := [.ref w, .int (Int32.ofNat p)]) rfl ?_
            refine Er_getR (x := w + 1) rfl hw.1.1 hw.1.2.2.2.1 ?_
            refine Er_inv1 (q' := w + 1) (ci := 7) (av := []) (rest := [.int (Int32.ofNat p)]) rfl rfl ⟨Nat.le_of_ble_eq_true rfl, Nat.le_of_ble_eq_true rfl⟩ rfl rfl hw.2.2.2.2.2.2.2.2.2.2.1.1 (s_Disk_position hw.2.2.2.2.2.2.2.2.2.2) ?_
            refine Er_run 1 (pc' := bif decide (W.2.2.2.2.1 ≤ (Int32.ofNat p)) then 36 else 35) (ls' := [some (.ref w), some (.ref c)]) (st' := []) rfl ?_
            refine Er_pc (t := 36) (show (bif decide (W.2.2.2.2.1 ≤ (Int32.ofNat p)) then 36 else 35) = 36 from by rw [show (decide (W.2.2.2.2.1 ≤ (Int32.ofNat p))) = true from decide_eq_true (Int32.not_lt.1 ho)]; rfl) ?_
            refine Er_run 1 (pc' := 37) (ls' := [some (.ref w), some (.ref c)]) (st' := [.ref c]) rfl ?_
            refine Er_getI (v := Int32.ofNat p) rfl hm.1.1 (by rw [← e5]; exact (hm.2.2.2.1 5 (by omega) (by omega))) ?_
            refine Er_run 1 (pc' := 41) (ls' := [some (.ref w), some (.ref c)]) (st' := [.ref w, .int (Int32.ofNat p)]) rfl ?_
            refine Er_getR (x := w + 1) rfl hw.1.1 hw.1.2.2.2.1 ?_
            refine Er_inv1 (q' := w + 1) (ci := 7) (av := []) (rest := [.int (Int32.ofNat p)]) rfl rfl ⟨Nat.le_of_ble_eq_true rfl, Nat.le_of_ble_eq_true rfl⟩ rfl rfl hw.2.2.2.2.2.2.2.2.2.2.1.1 (s_Disk_position hw.2.2.2.2.2.2.2.2.2.2) ?_
            refine Er_run 1 (pc' := bif decide ((Int32.ofNat p) ≤ W.2.2.2.2.1) then 61 else 50) (ls' := [some (.ref w), some (.ref c)]) (st' := []) rfl ?_
            refine Er_pc (t := 61) (show (bif decide ((Int32.ofNat p) ≤ W.2.2.2.2.1) then 61 else 50) = 61 from by rw [show (decide ((Int32.ofNat p) ≤ W.2.2.2.2.1)) = true from decide_eq_true (Int32.not_lt.1 hwp)]; rfl) ?_
            refine Er_run 1 (pc' := 62) (ls' := [some (.ref w), some (.ref c)]) (st' := [.ref w]) rfl ?_
            refine Er_getR (x := w + 1) rfl hw.1.1 hw.1.2.2.2.1 ?_
            refine Er_run 1 (pc' := 66) (ls' := [some (.ref w), some (.ref c)]) (st' := [.ref c, .ref (w + 1)]) rfl ?_
            refine Er_getI (v := Int32.ofNat t) rfl hm.1.1 (by rw [← e6]; exact (hm.2.2.2.1 6 (by omega) (by omega))) ?_
            have hh := s_Disk_holds hw.2.2.2.2.2.2.2.2.2.2 ht
            rw [if_pos hd] at hh
            refine Er_inv1 (q' := w + 1) (ci := 7) (av := [.int (Int32.ofNat t)]) (rest := []) rfl rfl ⟨Nat.le_of_ble_eq_true rfl, Nat.le_of_ble_eq_true rfl⟩ rfl rfl hw.2.2.2.2.2.2.2.2.2.2.1.1 hh ?_
            refine Er_run 1 (pc' := bif decide (((1 : Int32)) = 0) then 87 else 75) (ls' := [some (.ref w), some (.ref c)]) (st' := []) rfl ?_
            refine Er_pc (t := 75) (show (bif decide (((1 : Int32)) = 0) then 87 else 75) = 75 from by rw [show (decide (((1 : Int32)) = 0)) = false from by decide]; rfl) ?_
            refine Er_run 3 (pc' := 78) (ls' := [some (.ref w), some (.ref c)]) (st' := [.ref c, .int ((2 : Int32)), .ref w]) rfl ?_
            refine Er_getI (v := Int32.ofNat t) rfl hm.1.1 (by rw [← e6]; exact (hm.2.2.2.1 6 (by omega) (by omega))) ?_
            obtain ⟨h1, r1, w1, l1, s1, zz1⟩ := s_Worker_report (k := 2) ht hsy hyw hw hl hs
            have q1 : FW w y h h1 := FW.trans (FW.refl w y h) zz1
            refine Er_inv0 (q' := w) (ci := 8) (av := [.int ((2 : Int32)), .int (Int32.ofNat t)]) (rest := []) rfl rfl ⟨Nat.le_of_ble_eq_true rfl, Nat.le_of_ble_eq_true rfl⟩ rfl rfl hw.1.1 r1 ?_
            refine Er_run 1 (pc' := 92) (ls' := [some (.ref w), some (.ref c)]) (st' := []) rfl ?_
            refine Er_fin rfl rfl ?_
            rw [jw_give, if_neg (by rw [hj]; decide), if_neg ho, if_neg hwp, jw_take, if_pos hd]
            exact ⟨rfl, w1, l1, s1, q1⟩
          · skip
            show Ev 94 0 [some (.ref w), some (.ref c)] [] h _
            refine Er_run 1 (pc' := 1) (ls' := [some (.ref w), some (.ref c)]) (st' := [.ref w]) rfl ?_
            refine Er_getN rfl hw.1.1 (Eq.trans hw.2.2.1 (show (W).2.1.map (fun j => s + 52 + 11 * j) = none from by rw [show (W).2.1 = none from hj]; rfl)) ?_
            refine Er_run 2 (pc' := 8) (ls' := [some (.ref w), some (.ref c)]) (st' := [.ref w]) rfl ?_
            refine Er_getR (x := s) rfl hw.1.1 hw.1.2.1 ?_
            refine Er_run 1 (pc' := 12) (ls' := [some (.ref w), some (.ref c)]) (st' := [.ref c, .ref s]) rfl ?_
            refine Er_getI (v := Int32.ofNat p) rfl hm.1.1 (by rw [← e5]; exact (hm.2.2.2.1 5 (by omega) (by omega))) ?_
            refine Er_inv1 (q' := s) (ci := 3) (av := [.int (Int32.ofNat p)]) (rest := []) rfl rfl ⟨Nat.le_of_ble_eq_true rfl, Nat.le_of_ble_eq_true rfl⟩ rfl rfl hs.1.1 (s_Store_jobAt hs.1 hs.2.1.2.1 hs.2.1.1 hpc (hs.2.1.2.2.2 p j hcp) hj8) ?_
            refine Er_run 2 (pc' := 22) (ls' := [some (.ref w), some (.ref c)]) (st' := [.ref c]) rfl ?_
            refine Er_getI (v := Int32.ofNat p) rfl hm.1.1 (by rw [← e5]; exact (hm.2.2.2.1 5 (by omega) (by omega))) ?_
            refine Er_run 1 (pc' := 26) (ls' := [some (.ref w), some (.ref c)]) (st' := [.ref w, .int (Int32.ofNat p)]) rfl ?_
            refine Er_getR (x := w + 1) rfl hw.1.1 hw.1.2.2.2.1 ?_
            refine Er_inv1 (q' := w + 1) (ci := 7) (av := []) (rest := [.int (Int32.ofNat p)]) rfl rfl ⟨Nat.le_of_ble_eq_true rfl, Nat.le_of_ble_eq_true rfl⟩ rfl rfl hw.2.2.2.2.2.2.2.2.2.2.1.1 (s_Disk_position hw.2.2.2.2.2.2.2.2.2.2) ?_
            refine Er_run 1 (pc' := bif decide (W.2.2.2.2.1 ≤ (Int32.ofNat p)) then 36 else 35) (ls' := [some (.ref w), some (.ref c)]) (st' := []) rfl ?_
            refine Er_pc (t := 36) (show (bif decide (W.2.2.2.2.1 ≤ (Int32.ofNat p)) then 36 else 35) = 36 from by rw [show (decide (W.2.2.2.2.1 ≤ (Int32.ofNat p))) = true from decide_eq_true (Int32.not_lt.1 ho)]; rfl) ?_
            refine Er_run 1 (pc' := 37) (ls' := [some (.ref w), some (.ref c)]) (st' := [.ref c]) rfl ?_
            refine Er_getI (v := Int32.ofNat p) rfl hm.1.1 (by rw [← e5]; exact (hm.2.2.2.1 5 (by omega) (by omega))) ?_
            refine Er_run 1 (pc' := 41) (ls' := [some (.ref w), some (.ref c)]) (st' := [.ref w, .int (Int32.ofNat p)]) rfl ?_
            refine Er_getR (x := w + 1) rfl hw.1.1 hw.1.2.2.2.1 ?_
            refine Er_inv1 (q' := w + 1) (ci := 7) (av := []) (rest := [.int (Int32.ofNat p)]) rfl rfl ⟨Nat.le_of_ble_eq_true rfl, Nat.le_of_ble_eq_true rfl⟩ rfl rfl hw.2.2.2.2.2.2.2.2.2.2.1.1 (s_Disk_position hw.2.2.2.2.2.2.2.2.2.2) ?_
            refine Er_run 1 (pc' := bif decide ((Int32.ofNat p) ≤ W.2.2.2.2.1) then 61 else 50) (ls' := [some (.ref w), some (.ref c)]) (st' := []) rfl ?_
            refine Er_pc (t := 61) (show (bif decide ((Int32.ofNat p) ≤ W.2.2.2.2.1) then 61 else 50) = 61 from by rw [show (decide ((Int32.ofNat p) ≤ W.2.2.2.2.1)) = true from decide_eq_true (Int32.not_lt.1 hwp)]; rfl) ?_
            refine Er_run 1 (pc' := 62) (ls' := [some (.ref w), some (.ref c)]) (st' := [.ref w]) rfl ?_
            refine Er_getR (x := w + 1) rfl hw.1.1 hw.1.2.2.2.1 ?_
            refine Er_run 1 (pc' := 66) (ls' := [some (.ref w), some (.ref c)]) (st' := [.ref c, .ref (w + 1)]) rfl ?_
            refine Er_getI (v := Int32.ofNat t) rfl hm.1.1 (by rw [← e6]; exact (hm.2.2.2.1 6 (by omega) (by omega))) ?_
            have hh := s_Disk_holds hw.2.2.2.2.2.2.2.2.2.2 ht
            rw [if_neg hd] at hh
            refine Er_inv1 (q' := w + 1) (ci := 7) (av := [.int (Int32.ofNat t)]) (rest := []) rfl rfl ⟨Nat.le_of_ble_eq_true rfl, Nat.le_of_ble_eq_true rfl⟩ rfl rfl hw.2.2.2.2.2.2.2.2.2.2.1.1 hh ?_
            refine Er_run 1 (pc' := bif decide (((0 : Int32)) = 0) then 87 else 75) (ls' := [some (.ref w), some (.ref c)]) (st' := []) rfl ?_
            refine Er_pc (t := 87) (show (bif decide (((0 : Int32)) = 0) then 87 else 75) = 87 from by rw [show (decide (((0 : Int32)) = 0)) = true from by decide]; rfl) ?_
            refine Er_run 2 (pc' := 89) (ls' := [some (.ref w), some (.ref c)]) (st' := [.ref c, .ref w]) rfl ?_
            obtain ⟨h1, r1, w1, l1, s1, zz1⟩ := s_Worker_start hm hcc e5 e6 e9 hk38 ht hpc hcp hj8 hsy hyw hw hl hs
            have q1 : FW w y h h1 := FW.trans (FW.refl w y h) zz1
            refine Er_inv0 (q' := w) (ci := 8) (av := [.ref c]) (rest := []) rfl rfl ⟨Nat.le_of_ble_eq_true rfl, Nat.le_of_ble_eq_true rfl⟩ rfl rfl hw.1.1 r1 ?_
            refine Er_fin rfl rfl ?_
            rw [jw_give, if_neg (by rw [hj]; decide), if_neg ho, if_neg hwp, jw_take, if_neg hd]
            exact ⟨rfl, w1, l1, s1, q1⟩
  obtain ⟨r, h', hr, e, hq⟩ := Run_of (Nat.le_of_ble_eq_true rfl) hx
  subst e
  exact ⟨h', hr, hq⟩
end WORKD
