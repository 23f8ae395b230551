section WORKE
variable {h : sm_H} {w s y j : Nat} {W : Jw} {L : Jn} {cl : List Nat} {G : Nat → Nat → Int32} {PR : Nat → Nat → List (Int32 × Int64)} {F : Nat → Jl}
theorem jd_ld_f {np x t i : Nat} {f : Nat → Int32} {z : Option Jl} (h9 : i ≠ 9) (h10 : i ≠ 10) : (jd_ld np f x t z).1 i = f i := by
  cases z with
  | none => rfl
  | some l => show jx_up (jx_up f 9 _) 10 _ i = f i; rw [up_ne _ _ h10, up_ne _ _ h9]
def jw_gone (W : Jw) (x t : Nat) (p : Int32) : Jm := (jm_new 6 (Int32.ofNat (W.1 0)) (Int32.ofNat x) p (Int32.ofNat t), [])
def jw_fet (W : Jw) (L : Jn) (m : Jm) (np x t xo : Nat) : Jn := if m.1 5 < W.2.2.2.2.1 then jn_snd L (jw_gone W x t (m.1 5)) x else if m.1 5 = W.2.2.2.2.1 ∧ (W.2.2.2.2.2 t).isSome = true then jn_snd L (jw_pg W np (Int32.ofNat x) t (m.1 7) xo) x else L
/-- a JOB of THE CHAIN at place q, with its PARTS -/
def jc_at (cl : List Nat) (G : Nat → Nat → Int32) (q j np : Nat) : Prop := q < cl.length ∧ cl[q]? = some j ∧ j < 8 ∧ G j 5 = Int32.ofNat np ∧ (¬ Int32.ofNat np ≤ 0 ∧ (Int32.ofNat np).toInt64 ≠ 0)

theorem s_Worker_hearFetch {c np x t xo : Nat} {m : Jm} (hm : MG h c m) (hcc : c + 2 ≤ w) (e3 : m.1 3 = Int32.ofNat x) (e6 : m.1 6 = Int32.ofNat t) (e8 : m.1 8 = Int32.ofNat xo) (hx7 : x < 7) (ht : t < 44) (hxo : xo < 100000) (hB : m.1 5 = W.2.2.2.2.1 → (W.2.2.2.2.2 t).isSome = true → ∃ q, W.2.2.2.2.1 = Int32.ofNat q ∧ jc_at cl G q j np) (hsy : s + 140 ≤ y) (hyw : y + 229 ≤ w) (hw : WW h w s y W) (hl : LL h y L) (hs : ST h s cl G PR F) : ∃ h', Run 96 [.ref w, .ref c] h (.inl none) h' ∧ WW h' w s y (W) ∧ LL h' y (jw_fet W L m np x t xo) ∧ ST h' s cl G PR F ∧ FW w y h h' := by
  obtain ⟨m0, g0⟩ := hw.2.2.2.2.2.2.2.2.2.1
  have hx : Ev 96 0 (sm_pad (sm_ent [.ref w, .ref c]) (sm_prog.2.1 96)) [] h (fun r h1 => r = .inl none ∧ WW h1 w s y (W) ∧ LL h1 y (jw_fet W L m np x t xo) ∧ ST h1 s cl G PR F ∧ FW w y h h1) := by
    by_cases hlt : m.1 5 < W.2.2.2.2.1
    · skip
      show Ev 96 0 [some (.ref w), some (.ref c)] [] h _
      refine Er_run 1 (pc' := 1) (ls' := [some (.ref w), some (.ref c)]) (st' := [.ref c]) rfl ?_
      refine Er_getI (v := m.1 5) rfl hm.1.1 (hm.2.2.2.1 5 (by omega) (by omega)) ?_
      refine Er_run 1 (pc' := 5) (ls' := [some (.ref w), some (.ref c)]) (st' := [.ref w, .int (m.1 5)]) rfl ?_
      refine Er_getR (x := w + 1) rfl hw.1.1 hw.1.2.2.2.1 ?_
      refine Er_inv1 (q' := w + 1) (ci := 7) (av := []) (rest := [.int (m.1 5)]) rfl rfl ⟨Nat.le_of_ble_eq_true rfl, Nat.le_of_ble_eq_true rfl⟩ rfl rfl hw.2.2.2.2.2.2.2.2.2.2.1.1 (s_Disk_position hw.2.2.2.2.2.2.2.2.2.2) ?_
      refine Er_run 1 (pc' := bif decide (W.2.2.2.2.1 ≤ (m.1 5)) then 53 else 14) (ls' := [some (.ref w), some (.ref c)]) (st' := []) rfl ?_
      refine Er_pc (t := 14) (show (bif decide (W.2.2.2.2.1 ≤ (m.1 5)) then 53 else 14) = 14 from by rw [show (decide (W.2.2.2.2.1 ≤ (m.1 5))) = false from decide_eq_false (Int32.not_le.2 hlt)]; rfl) ?_
      refine Er_run 1 (pc' := 15) (ls' := [some (.ref w), some (.ref c)]) (st' := [.ref w]) rfl ?_
      refine Er_getR (x := w + 20) rfl hw.1.1 hw.1.2.2.2.2.2.1 ?_
      refine Er_run 2 (pc' := 21) (ls' := [some (.ref w), some (.ref c)]) (st' := [.ref w, .int ((6 : Int32)), .ref (w + 20)]) rfl ?_
      refine Er_getI (v := Int32.ofNat (W.1 0)) rfl hw.1.1 (show gI h w 0 = Int32.ofNat (W.1 0) from (hw.2.1 0 (by omega)).1) ?_
      refine Er_run 1 (pc' := 25) (ls' := [some (.ref w), some (.ref c)]) (st' := [.ref c, .int (Int32.ofNat (W.1 0)), .int ((6 : Int32)), .ref (w + 20)]) rfl ?_
      refine Er_getI (v := Int32.ofNat x) rfl hm.1.1 (by rw [← e3]; exact (hm.2.2.2.1 3 (by omega) (by omega))) ?_
      refine Er_run 1 (pc' := 29) (ls' := [some (.ref w), some (.ref c)]) (st' := [.ref c, .int (Int32.ofNat x), .int (Int32.ofNat (W.1 0)), .int ((6 : Int32)), .ref (w + 20)]) rfl ?_
      refine Er_getI (v := m.1 5) rfl hm.1.1 (hm.2.2.2.1 5 (by omega) (by omega)) ?_
      refine Er_run 1 (pc' := 33) (ls' := [some (.ref w), some (.ref c)]) (st' := [.ref c, .int (m.1 5), .int (Int32.ofNat x), .int (Int32.ofNat (W.1 0)), .int ((6 : Int32)), .ref (w + 20)]) rfl ?_
      refine Er_getI (v := Int32.ofNat t) rfl hm.1.1 (by rw [← e6]; exact (hm.2.2.2.1 6 (by omega) (by omega))) ?_
      obtain ⟨h1, r1, u1, z1⟩ := s_Message_write (k := (6 : Int32)) (s := Int32.ofNat (W.1 0)) (u := Int32.ofNat x) (p := m.1 5) (t := Int32.ofNat t) g0
      have w1 : WW h1 w s y W := WW_le z1 u1 hw
      have l1 := LL_fr z1 (by omega) hl
      have s1 := ST_fr z1 (by omega) hs
      have q1 : FW w y h h1 := FW.trans (FW.refl w y h) (FW.ofW z1 (by omega) (by omega))
      have g1_c := MG_fr z1 (by omega) hm
      refine Er_inv0 (q' := w + 20) (ci := 5) (av := [.int ((6 : Int32)), .int (Int32.ofNat (W.1 0)), .int (Int32.ofNat x), .int (m.1 5), .int (Int32.ofNat t)]) (rest := []) rfl rfl ⟨Nat.le_of_ble_eq_true rfl, Nat.le_of_ble_eq_true rfl⟩ rfl rfl g0.1.1 r1 ?_
      refine Er_run 1 (pc' := 40) (ls' := [some (.ref w), some (.ref c)]) (st' := [.ref w]) rfl ?_
      refine Er_getR (x := y) rfl w1.1.1 w1.1.2.2.1 ?_
      refine Er_run 1 (pc' := 44) (ls' := [some (.ref w), some (.ref c)]) (st' := [.ref w, .ref y]) rfl ?_
      refine Er_getR (x := w + 20) rfl w1.1.1 w1.1.2.2.2.2.2.1 ?_
      obtain ⟨h2, r2, l2, z2⟩ := s_Line_send (x := x) l1 u1 rfl hx7 (by omega)
      have w2 : WW h2 w s y W := WW_fr z2 (by omega) w1
      have s2 := ST_fr z2 (by omega) s1
      have q2 : FW w y h h2 := FW.trans q1 (FW.ofY z2 (by omega) (by omega))
      have u2 := MG_fr z2 (by omega) u1
      have l2 : LL h2 y (jn_snd L (jm_new ((6 : Int32)) (Int32.ofNat (W.1 0)) (Int32.ofNat x) (m.1 5) (Int32.ofNat t), []) x) := l2
      refine Er_inv0 (q' := y) (ci := 6) (av := [.ref (w + 20)]) (rest := []) rfl rfl ⟨Nat.le_of_ble_eq_true rfl, Nat.le_of_ble_eq_true rfl⟩ rfl rfl l1.1.1 r2 ?_
      refine Er_run 1 (pc' := 112) (ls' := [some (.ref w), some (.ref c)]) (st' := []) rfl ?_
      refine Er_fin rfl rfl ?_
      rw [jw_fet, if_pos hlt]
      exact ⟨rfl, w2, l2, s2, q2⟩
    · by_cases heq : m.1 5 = W.2.2.2.2.1
      · by_cases hd : (W.2.2.2.2.2 t).isSome = true
        · obtain ⟨q, hq, hqc, hcq, hj8, hG5, hnp⟩ := hB heq hd
          show Ev 96 0 [some (.ref w), some (.ref c)] [] h _
          refine Er_run 1 (pc' := 1) (ls' := [some (.ref w), some (.ref c)]) (st' := [.ref c]) rfl ?_
          refine Er_getI (v := m.1 5) rfl hm.1.1 (hm.2.2.2.1 5 (by omega) (by omega)) ?_
          refine Er_run 1 (pc' := 5) (ls' := [some (.ref w), some (.ref c)]) (st' := [.ref w, .int (m.1 5)]) rfl ?_
          refine Er_getR (x := w + 1) rfl hw.1.1 hw.1.2.2.2.1 ?_
          refine Er_inv1 (q' := w + 1) (ci := 7) (av := []) (rest := [.int (m.1 5)]) rfl rfl ⟨Nat.le_of_ble_eq_true rfl, Nat.le_of_ble_eq_true rfl⟩ rfl rfl hw.2.2.2.2.2.2.2.2.2.2.1.1 (s_Disk_position hw.2.2.2.2.2.2.2.2.2.2) ?_
          refine Er_run 1 (pc' := bif decide (W.2.2.2.2.1 ≤ (m.1 5)) then 53 else 14) (ls' := [some (.ref w), some (.ref c)]) (st' := []) rfl ?_
          refine Er_pc (t := 53) (show (bif decide (W.2.2.2.2.1 ≤ (m.1 5)) then 53 else 14) = 53 from by rw [show (decide (W.2.2.2.2.1 ≤ (m.1 5))) = true from decide_eq_true (Int32.not_lt.1 hlt)]; rfl) ?_
          refine Er_run 1 (pc' := 54) (ls' := [some (.ref w), some (.ref c)]) (st' := [.ref c]) rfl ?_
          refine Er_getI (v := m.1 5) rfl hm.1.1 (hm.2.2.2.1 5 (by omega) (by omega)) ?_
          refine Er_run 1 (pc' := 58) (ls' := [some (.ref w), some (.ref c)]) (st' := [.ref w, .int (m.1 5)]) rfl ?_
          refine Er_getR (x := w + 1) rfl hw.1.1 hw.1.2.2.2.1 ?_
          refine Er_inv1 (q' := w + 1) (ci := 7) (av := []) (rest := [.int (m.1 5)]) rfl rfl ⟨Nat.le_of_ble_eq_true rfl, Nat.le_of_ble_eq_true rfl⟩ rfl rfl hw.2.2.2.2.2.2.2.2.2.2.1.1 (s_Disk_position hw.2.2.2.2.2.2.2.2.2.2) ?_
          refine Er_run 1 (pc' := bif !decide ((m.1 5) = W.2.2.2.2.1) then 112 else 67) (ls' := [some (.ref w), some (.ref c)]) (st' := []) rfl ?_
          refine Er_pc (t := 67) (show (bif !decide ((m.1 5) = W.2.2.2.2.1) then 112 else 67) = 67 from by rw [show (!decide ((m.1 5) = W.2.2.2.2.1)) = false from by rw [decide_eq_true heq]; rfl]; rfl) ?_
          refine Er_run 1 (pc' := 68) (ls' := [some (.ref w), some (.ref c)]) (st' := [.ref w]) rfl ?_
          refine Er_getR (x := w + 1) rfl hw.1.1 hw.1.2.2.2.1 ?_
          refine Er_run 1 (pc' := 72) (ls' := [some (.ref w), some (.ref c)]) (st' := [.ref c, .ref (w + 1)]) rfl ?_
          refine Er_getI (v := Int32.ofNat t) rfl hm.1.1 (by rw [← e6]; exact (hm.2.2.2.1 6 (by omega) (by omega))) ?_
          have hh := s_Disk_holds hw.2.2.2.2.2.2.2.2.2.2 ht
          rw [if_pos hd] at hh
          refine Er_inv1 (q' := w + 1) (ci := 7) (av := [.int (Int32.ofNat t)]) (rest := []) rfl rfl ⟨Nat.le_of_ble_eq_true rfl, Nat.le_of_ble_eq_true rfl⟩ rfl rfl hw.2.2.2.2.2.2.2.2.2.2.1.1 hh ?_
          refine Er_run 1 (pc' := bif decide (((1 : Int32)) = 0) then 112 else 81) (ls' := [some (.ref w), some (.ref c)]) (st' := []) rfl ?_
          refine Er_pc (t := 81) (show (bif decide (((1 : Int32)) = 0) then 112 else 81) = 81 from by rw [show (decide (((1 : Int32)) = 0)) = false from by decide]; rfl) ?_
          refine Er_run 2 (pc' := 83) (ls' := [some (.ref w), some (.ref c)]) (st' := [.ref c, .ref w]) rfl ?_
          refine Er_getI (v := Int32.ofNat x) rfl hm.1.1 (by rw [← e3]; exact (hm.2.2.2.1 3 (by omega) (by omega))) ?_
          refine Er_run 1 (pc' := 87) (ls' := [some (.ref w), some (.ref c)]) (st' := [.ref c, .int (Int32.ofNat x), .ref w]) rfl ?_
          refine Er_getI (v := Int32.ofNat t) rfl hm.1.1 (by rw [← e6]; exact (hm.2.2.2.1 6 (by omega) (by omega))) ?_
          refine Er_run 1 (pc' := 91) (ls' := [some (.ref w), some (.ref c)]) (st' := [.ref c, .int (Int32.ofNat t), .int (Int32.ofNat x), .ref w]) rfl ?_
          refine Er_getI (v := m.1 7) rfl hm.1.1 (hm.2.2.2.1 7 (by omega) (by omega)) ?_
          refine Er_run 1 (pc' := 95) (ls' := [some (.ref w), some (.ref c)]) (st' := [.ref c, .int (m.1 7), .int (Int32.ofNat t), .int (Int32.ofNat x), .ref w]) rfl ?_
          refine Er_getI (v := Int32.ofNat xo) rfl hm.1.1 (by rw [← e8]; exact (hm.2.2.2.1 8 (by omega) (by omega))) ?_
          obtain ⟨h1, r1, w1, l1, s1, zz1, u1⟩ := s_Worker_writePage (u := Int32.ofNat x) (r := m.1 7) (x := xo) ht hxo hnp hq hqc hcq hj8 hG5 hsy hyw hw hl hs
          have q1 : FW w y h h1 := FW.trans (FW.refl w y h) zz1
          refine Er_inv0 (q' := w) (ci := 8) (av := [.int (Int32.ofNat x), .int (Int32.ofNat t), .int (m.1 7), .int (Int32.ofNat xo)]) (rest := []) rfl rfl ⟨Nat.le_of_ble_eq_true rfl, Nat.le_of_ble_eq_true rfl⟩ rfl rfl hw.1.1 r1 ?_
          refine Er_run 1 (pc' := 102) (ls' := [some (.ref w), some (.ref c)]) (st' := [.ref w]) rfl ?_
          refine Er_getR (x := y) rfl w1.1.1 w1.1.2.2.1 ?_
          refine Er_run 1 (pc' := 106) (ls' := [some (.ref w), some (.ref c)]) (st' := [.ref w, .ref y]) rfl ?_
          refine Er_getR (x := w + 20) rfl w1.1.1 w1.1.2.2.2.2.2.1 ?_
          obtain ⟨h2, r2, l2, z2⟩ := s_Line_send (x := x) l1 u1 (by rw [jw_pg, jd_ld_f (by decide) (by decide)]; rfl) hx7 (by omega)
          have w2 : WW h2 w s y W := WW_fr z2 (by omega) w1
          have s2 := ST_fr z2 (by omega) s1
          have q2 : FW w y h h2 := FW.trans q1 (FW.ofY z2 (by omega) (by omega))
          have u2 := MG_fr z2 (by omega) u1
          have l2 : LL h2 y (jn_snd L (jw_pg W np (Int32.ofNat x) t (m.1 7) xo) x) := l2
          refine Er_inv0 (q' := y) (ci := 6) (av := [.ref (w + 20)]) (rest := []) rfl rfl ⟨Nat.le_of_ble_eq_true rfl, Nat.le_of_ble_eq_true rfl⟩ rfl rfl l1.1.1 r2 ?_
          refine Er_fin rfl rfl ?_
          rw [jw_fet, if_neg hlt, if_pos ⟨heq, hd⟩]
          exact ⟨rfl, w2, l2, s2, q2⟩
        · skip
          show Ev 96 0 [some (.ref w), some (.ref c)] [] h _
          refine Er_run 1 (pc' := 1) (ls' := [some (.ref w), some (.ref c)]) (st' := [.ref c]) rfl ?_
          refine Er_getI (v := m.1 5) rfl hm.1.1 (hm.2.2.2.1 5 (by omega) (by omega)) ?_
          refine Er_run 1 (pc' := 5) (ls' := [some (.ref w), some (.ref c)]) (st' := [.ref w, .int (m.1 5)]) rfl ?_
          refine Er_getR (x := w + 1) rfl hw.1.1 hw.1.2.2.2.1 ?_
          refine Er_inv1 (q' := w + 1) (ci := 7) (av := []) (rest := [.int (m.1 5)]) rfl rfl ⟨Nat.le_of_ble_eq_true rfl, Nat.le_of_ble_eq_true rfl⟩ rfl rfl hw.2.2.2.2.2.2.2.2.2.2.1.1 (s_Disk_position hw.2.2.2.2.2.2.2.2.2.2) ?_
          refine Er_run 1 (pc' := bif decide (W.2.2.2.2.1 ≤ (m.1 5)) then 53 else 14) (ls' := [some (.ref w), some (.ref c)]) (st' := []) rfl ?_
          refine Er_pc (t := 53) (show (bif decide (W.2.2.2.2.1 ≤ (m.1 5)) then 53 else 14) = 53 from by rw [show (decide (W.2.2.2.2.1 ≤ (m.1 5))) = true from decide_eq_true (Int32.not_lt.1 hlt)]; rfl) ?_
          refine Er_run 1 (pc' := 54) (ls' := [some (.ref w), some (.ref c)]) (st' := [.ref c]) rfl ?_
          refine Er_getI (v := m.1 5) rfl hm.1.1 (hm.2.2.2.1 5 (by omega) (by omega)) ?_
          refine Er_run 1 (pc' := 58) (ls' := [some (.ref w), some (.ref c)]) (st' := [.ref w, .int (m.1 5)]) rfl ?_
          refine Er_getR (x := w + 1) rfl hw.1.1 hw.1.2.2.2.1 ?_
          refine Er_inv1 (q' := w + 1) (ci := 7) (av := []) (rest := [.int (m.1 5)]) rfl rfl ⟨Nat.le_of_ble_eq_true rfl, Nat.le_of_ble_eq_true rfl⟩ rfl rfl hw.2.2.2.2.2.2.2.2.2.2.1.1 (s_Disk_position hw.2.2.2.2.2.2.2.2.2.2) ?_
          refine Er_run 1 (pc' := bif !decide ((m.1 5) = W.2.2.2.2.1) then 112 else 67) (ls' := [some (.ref w), some (.ref c)]) (st' := []) rfl ?_
          refine Er_pc (t := 67) (show (bif !decide ((m.1 5) = W.2.2.2.2.1) then 112 else 67) = 67 from by rw [show (!decide ((m.1 5) = W.2.2.2.2.1)) = false from by rw [decide_eq_true heq]; rfl]; rfl) ?_
          refine Er_run 1 (pc' := 68) (ls' := [some (.ref w), some (.ref c)]) (st' := [.ref w]) rfl ?_
          refine Er_getR (x := w + 1) rfl hw.1.1 hw.1.2.2.2.1 ?_
          refine Er_run 1 (pc' := 72) (ls' := [some (.ref w), some (.ref c)]) (st' := [.ref c, .ref (w + 1)]) rfl ?_
          refine Er_getI (v := Int32.ofNat t) rfl hm.1.1 (by rw [← e6]; exact (hm.2.2.2.1 6 (by omega) (by omega))) ?_
          have hh := s_Disk_holds hw.2.2.2.2.2.2.2.2.2.2 ht
          rw [if_neg hd] at hh
          refine Er_inv1 (q' := w + 1) (ci := 7) (av := [.int (Int32.ofNat t)]) (rest := []) rfl rfl ⟨Nat.le_of_ble_eq_true rfl, Nat.le_of_ble_eq_true rfl⟩ rfl rfl hw.2.2.2.2.2.2.2.2.2.2.1.1 hh ?_
          refine Er_run 1 (pc' := bif decide (((0 : Int32)) = 0) then 112 else 81) (ls' := [some (.ref w), some (.ref c)]) (st' := []) rfl ?_
          refine Er_pc (t := 112) (show (bif decide (((0 : Int32)) = 0) then 112 else 81) = 112 from by rw [show (decide (((0 : Int32)) = 0)) = true from by decide]; rfl) ?_
          refine Er_fin rfl rfl ?_
          rw [jw_fet, if_neg hlt, if_neg (fun z => hd z.2)]
          exact ⟨rfl, hw, hl, hs, (FW.refl w y h)⟩
      · skip
        show Ev 96 0 [some (.ref w), some (.ref c)] [] h _
        refine Er_run 1 (pc' := 1) (ls' := [some (.ref w), some (.ref c)]) (st' := [.ref c]) rfl ?_
        refine Er_getI (v := m.1 5) rfl hm.1.1 (hm.2.2.2.1 5 (by omega) (by omega)) ?_
        refine Er_run 1 (pc' := 5) (ls' := [some (.ref w), some (.ref c)]) (st' := [.ref w, .int (m.1 5)]) rfl ?_
        refine Er_getR (x := w + 1) rfl hw.1.1 hw.1.2.2.2.1 ?_
        refine Er_inv1 (q' := w + 1) (ci := 7) (av := []) (rest := [.int (m.1 5)]) rfl rfl ⟨Nat.le_of_ble_eq_true rfl, Nat.le_of_ble_eq_true rfl⟩ rfl rfl hw.2.2.2.2.2.2.2.2.2.2.1.1 (s_Disk_position hw.2.2.2.2.2.2.2.2.2.2) ?_
        refine Er_run 1 (pc' := bif decide (W.2.2.2.2.1 ≤ (m.1 5)) then 53 else 14) (ls' := [some (.ref w), some (.ref c)]) (st' := []) rfl ?_
        refine Er_pc (t := 53) (show (bif decide (W.2.2.2.2.1 ≤ (m.1 5)) then 53 else 14) = 53 from by rw [show (decide (W.2.2.2.2.1 ≤ (m.1 5))) = true from decide_eq_true (Int32.not_lt.1 hlt)]; rfl) ?_
        refine Er_run 1 (pc' := 54) (ls' := [some (.ref w), some (.ref c)]) (st' := [.ref c]) rfl ?_
        refine Er_getI (v := m.1 5) rfl hm.1.1 (hm.2.2.2.1 5 (by omega) (by omega)) ?_
        refine Er_run 1 (pc' := 58) (ls' := [some (.ref w), some (.ref c)]) (st' := [.ref w, .int (m.1 5)]) rfl ?_
        refine Er_getR (x := w + 1) rfl hw.1.1 hw.1.2.2.2.1 ?_
        refine Er_inv1 (q' := w + 1) (ci := 7) (av := []) (rest := [.int (m.1 5)]) rfl rfl ⟨Nat.le_of_ble_eq_true rfl, Nat.le_of_ble_eq_true rfl⟩ rfl rfl hw.2.2.2.2.2.2.2.2.2.2.1.1 (s_Disk_position hw.2.2.2.2.2.2.2.2.2.2) ?_
        refine Er_run 1 (pc' := bif !decide ((m.1 5) = W.2.2.2.2.1) then 112 else 67) (ls' := [some (.ref w), some (.ref c)]) (st' := []) rfl ?_
        refine Er_pc (t := 112) (show (bif !decide ((m.1 5) = W.2.2.2.2.1) then 112 else 67) = 112 from by rw [show (!decide ((m.1 5) = W.2.2.2.2.1)) = true from by rw [decide_eq_false heq]; rfl]; rfl) ?_
        refine Er_fin rfl rfl ?_
        rw [jw_fet, if_neg hlt, if_neg (fun z => heq z.1)]
        exact ⟨rfl, hw, hl, hs, (FW.refl w y h)⟩
  obtain ⟨r, h', hr, e, hq⟩ := Run_of (Nat.le_of_ble_eq_true rfl) hx
  subst e
  exact ⟨h', hr, hq⟩
def jw_kpM (W : Jw) : Jw := jw_sD W W.2.2.2.2.1 (W.2.2.2.1 3) (W.2.2.2.1 4 ++ W.2.2.2.1 2) (W.2.2.2.1 5) (jx_up W.2.2.2.2.2 (W.1 13) (some (W.2.2.2.1 2)))
def jw_kpR (W : Jw) : Jw := jw_sD W W.2.2.2.2.1 (W.2.2.2.1 3) (W.2.2.2.1 4) (W.2.2.2.1 5 ++ W.2.2.2.1 2) (jx_up W.2.2.2.2.2 (W.1 13) (some (W.2.2.2.1 2)))
def jw_end (W : Jw) (L : Jn) (k : Int32) : Jw × Jn := (jw_rest W, jn_snd L (jw_let W k (W.1 13)) 6)
def jw_keep (W : Jw) (L : Jn) : Jw × Jn := if W.1 13 < 38 then (if (W.2.2.2.1 4).length + (W.2.2.2.1 2).length ≤ 1000 then jw_end (jw_kpM W) L 2 else jw_end W L 3) else (if (W.2.2.2.1 5).length + (W.2.2.2.1 2).length ≤ 300 then jw_end (jw_kpR W) L 2 else jw_end W L 3)
theorem s_Worker_keep (ht : W.1 13 < 44) (hta : W.2.2.2.2.2 (W.1 13) = none) (hsy : s + 140 ≤ y) (hyw : y + 229 ≤ w) (hw : WW h w s y W) (hl : LL h y L) (hs : ST h s cl G PR F) : ∃ h', Run 105 [.ref w, .ref (w + 31)] h (.inl none) h' ∧ WW h' w s y ((jw_keep W L).1) ∧ LL h' y ((jw_keep W L).2) ∧ ST h' s cl G PR F ∧ FW w y h h' := by
  have hx : Ev 105 0 (sm_pad (sm_ent [.ref w, .ref (w + 31)]) (sm_prog.2.1 105)) [] h (fun r h1 => r = .inl none ∧ WW h1 w s y ((jw_keep W L).1) ∧ LL h1 y ((jw_keep W L).2) ∧ ST h1 s cl G PR F ∧ FW w y h h1) := by
    by_cases hc : W.1 13 < 38
    · by_cases hf : (W.2.2.2.1 4).length + (W.2.2.2.1 2).length ≤ 1000
      · skip
        show Ev 105 0 [some (.ref w), some (.ref (w + 31))] [] h _
        refine Er_run 2 (pc' := 2) (ls' := [some (.ref w), some (.ref (w + 31))]) (st' := [.ref w, .ref w]) rfl ?_
        refine Er_getR (x := w + 1) rfl hw.1.1 hw.1.2.2.2.1 ?_
        refine Er_run 1 (pc' := 6) (ls' := [some (.ref w), some (.ref (w + 31))]) (st' := [.ref w, .ref (w + 1), .ref w]) rfl ?_
        refine Er_getI (v := Int32.ofNat (W.1 13)) rfl hw.1.1 (show gI h w 13 = Int32.ofNat (W.1 13) from (hw.2.1 13 (by omega)).1) ?_
        refine Er_run 1 (pc' := 10) (ls' := [some (.ref w), some (.ref (w + 31))]) (st' := [.ref (w + 31), .int (Int32.ofNat (W.1 13)), .ref (w + 1), .ref w]) rfl ?_
        obtain ⟨h1, r1, p1, z1⟩ := s_Disk_keepM hw.2.2.2.2.2.2.2.2.2.2 ht hc hta (show PL h (w + 31) 300 (W.2.2.2.1 2) from hw.2.2.2.2.2.2.2.1) (by omega) hf
        have w1 : WW h1 w s y (jw_kpM W) := WW_D z1 p1 hw
        have l1 := LL_fr z1 (by omega) hl
        have s1 := ST_fr z1 (by omega) hs
        have q1 : FW w y h h1 := FW.trans (FW.refl w y h) (FW.ofW z1 (by omega) (by omega))
        refine Er_inv1 (q' := w + 1) (ci := 7) (av := [.int (Int32.ofNat (W.1 13)), .ref (w + 31)]) (rest := [.ref w]) rfl rfl ⟨Nat.le_of_ble_eq_true rfl, Nat.le_of_ble_eq_true rfl⟩ rfl rfl hw.2.2.2.2.2.2.2.2.2.2.1.1 r1 ?_
        refine Er_run 1 (pc' := bif decide (((1 : Int32)) = 0) then 20 else 16) (ls' := [some (.ref w), some (.ref (w + 31))]) (st' := [.ref w]) rfl ?_
        refine Er_pc (t := 16) (show (bif decide (((1 : Int32)) = 0) then 20 else 16) = 16 from by rw [show (decide (((1 : Int32)) = 0)) = false from by decide]; rfl) ?_
        refine Er_run 3 (pc' := 22) (ls' := [some (.ref w), some (.ref (w + 31))]) (st' := [.ref w, .int ((2 : Int32)), .ref w]) rfl ?_
        refine Er_getI (v := Int32.ofNat (W.1 13)) rfl w1.1.1 (show gI h1 w 13 = Int32.ofNat (W.1 13) from (w1.2.1 13 (by omega)).1) ?_
        obtain ⟨h2, r2, w2, l2, s2, zz2⟩ := s_Worker_report (k := 2) (t := W.1 13) ht hsy hyw w1 l1 s1
        have q2 : FW w y h h2 := FW.trans q1 zz2
        refine Er_inv0 (q' := w) (ci := 8) (av := [.int ((2 : Int32)), .int (Int32.ofNat (W.1 13))]) (rest := []) rfl rfl ⟨Nat.le_of_ble_eq_true rfl, Nat.le_of_ble_eq_true rfl⟩ rfl rfl w1.1.1 r2 ?_
        refine Er_fin rfl rfl ?_
        rw [jw_keep, if_pos hc, if_pos hf]
        exact ⟨rfl, w2, l2, s2, q2⟩
      · skip
        show Ev 105 0 [some (.ref w), some (.ref (w + 31))] [] h _
        refine Er_run 2 (pc' := 2) (ls' := [some (.ref w), some (.ref (w + 31))]) (st' := [.ref w, .ref w]) rfl ?_
        refine Er_getR (x := w + 1) rfl hw.1.1 hw.1.2.2.2.1 ?_
        refine Er_run 1 (pc' := 6) (ls' := [some (.ref w), some (.ref (w + 31))]) (st' := [.ref w, .ref (w + 1), .ref w]) rfl ?_
        refine Er_getI (v := Int32.ofNat (W.1 13)) rfl hw.1.1 (show gI h w 13 = Int32.ofNat (W.1 13) from (hw.2.1 13 (by omega)).1) ?_
        refine Er_run 1 (pc' := 10) (ls' := [some (.ref w), some (.ref (w + 31))]) (st' := [.ref (w + 31), .int (Int32.ofNat (W.1 13)), .ref (w + 1), .ref w]) rfl ?_
        refine Er_inv1 (q' := w + 1) (ci := 7) (av := [.int (Int32.ofNat (W.1 13)), .ref (w + 31)]) (rest := [.ref w]) rfl rfl ⟨Nat.le_of_ble_eq_true rfl, Nat.le_of_ble_eq_true rfl⟩ rfl rfl hw.2.2.2.2.2.2.2.2.2.2.1.1 (s_Disk_keepM0 hw.2.2.2.2.2.2.2.2.2.2 ht hc hta (show PL h (w + 31) 300 (W.2.2.2.1 2) from hw.2.2.2.2.2.2.2.1) (by omega) (by omega)) ?_
        refine Er_run 1 (pc' := bif decide (((0 : Int32)) = 0) then 20 else 16) (ls' := [some (.ref w), some (.ref (w + 31))]) (st' := [.ref w]) rfl ?_
        refine Er_pc (t := 20) (show (bif decide (((0 : Int32)) = 0) then 20 else 16) = 20 from by rw [show (decide (((0 : Int32)) = 0)) = true from by decide]; rfl) ?_
        refine Er_run 2 (pc' := 22) (ls' := [some (.ref w), some (.ref (w + 31))]) (st' := [.ref w, .int ((3 : Int32)), .ref w]) rfl ?_
        refine Er_getI (v := Int32.ofNat (W.1 13)) rfl hw.1.1 (show gI h w 13 = Int32.ofNat (W.1 13) from (hw.2.1 13 (by omega)).1) ?_
        obtain ⟨h1, r1, w1, l1, s1, zz1⟩ := s_Worker_report (k := 3) (t := W.1 13) ht hsy hyw hw hl hs
        have q1 : FW w y h h1 := FW.trans (FW.refl w y h) zz1
        refine Er_inv0 (q' := w) (ci := 8) (av := [.int ((3 : Int32)), .int (Int32.ofNat (W.1 13))]) (rest := []) rfl rfl ⟨Nat.le_of_ble_eq_true rfl, Nat.le_of_ble_eq_true rfl⟩ rfl rfl hw.1.1 r1 ?_
        refine Er_fin rfl rfl ?_
        rw [jw_keep, if_pos hc, if_neg hf]
        exact ⟨rfl, w1, l1, s1, q1⟩
    · by_cases hf : (W.2.2.2.1 5).length + (W.2.2.2.1 2).length ≤ 300
      · skip
        show Ev 105 0 [some (.ref w), some (.ref (w + 31))] [] h _
        refine Er_run 2 (pc' := 2) (ls' := [some (.ref w), some (.ref (w + 31))]) (st' := [.ref w, .ref w]) rfl ?_
        refine Er_getR (x := w + 1) rfl hw.1.1 hw.1.2.2.2.1 ?_
        refine Er_run 1 (pc' := 6) (ls' := [some (.ref w), some (.ref (w + 31))]) (st' := [.ref w, .ref (w + 1), .ref w]) rfl ?_
        refine Er_getI (v := Int32.ofNat (W.1 13)) rfl hw.1.1 (show gI h w 13 = Int32.ofNat (W.1 13) from (hw.2.1 13 (by omega)).1) ?_
        refine Er_run 1 (pc' := 10) (ls' := [some (.ref w), some (.ref (w + 31))]) (st' := [.ref (w + 31), .int (Int32.ofNat (W.1 13)), .ref (w + 1), .ref w]) rfl ?_
        obtain ⟨h1, r1, p1, z1⟩ := s_Disk_keepR hw.2.2.2.2.2.2.2.2.2.2 ht hc hta (show PL h (w + 31) 300 (W.2.2.2.1 2) from hw.2.2.2.2.2.2.2.1) (by omega) hf
        have w1 : WW h1 w s y (jw_kpR W) := WW_D z1 p1 hw
        have l1 := LL_fr z1 (by omega) hl
        have s1 := ST_fr z1 (by omega) hs
        have q1 : FW w y h h1 := FW.trans (FW.refl w y h) (FW.ofW z1 (by omega) (by omega))
        refine Er_inv1 (q' := w + 1) (ci := 7) (av := [.int (Int32.ofNat (W.1 13)), .ref (w + 31)]) (rest := [.ref w]) rfl rfl ⟨Nat.le_of_ble_eq_true rfl, Nat.le_of_ble_eq_true rfl⟩ rfl rfl hw.2.2.2.2.2.2.2.2.2.2.1.1 r1 ?_
        refine Er_run 1 (pc' := bif decide (((1 : Int32)) = 0) then 20 else 16) (ls' := [some (.ref w), some (.ref (w + 31))]) (st' := [.ref w]) rfl ?_
        refine Er_pc (t := 16) (show (bif decide (((1 : Int32)) = 0) then 20 else 16) = 16 from by rw [show (decide (((1 : Int32)) = 0)) = false from by decide]; rfl) ?_
        refine Er_run 3 (pc' := 22) (ls' := [some (.ref w), some (.ref (w + 31))]) (st' := [.ref w, .int ((2 : Int32)), .ref w]) rfl ?_
        refine Er_getI (v := Int32.ofNat (W.1 13)) rfl w1.1.1 (show gI h1 w 13 = Int32.ofNat (W.1 13) from (w1.2.1 13 (by omega)).1) ?_
        obtain ⟨h2, r2, w2, l2, s2, zz2⟩ := s_Worker_report (k := 2) (t := W.1 13) ht hsy hyw w1 l1 s1
        have q2 : FW w y h h2 := FW.trans q1 zz2
        refine Er_inv0 (q' := w) (ci := 8) (av := [.int ((2 : Int32)), .int (Int32.ofNat (W.1 13))]) (rest := []) rfl rfl ⟨Nat.le_of_ble_eq_true rfl, Nat.le_of_ble_eq_true rfl⟩ rfl rfl w1.1.1 r2 ?_
        refine Er_fin rfl rfl ?_
        rw [jw_keep, if_neg hc, if_pos hf]
        exact ⟨rfl, w2, l2, s2, q2⟩
      · skip
        show Ev 105 0 [some (.ref w), some (.ref (w + 31))] [] h _
        refine Er_run 2 (pc' := 2) (ls' := [some (.ref w), some (.ref (w + 31))]) (st' := [.ref w, .ref w]) rfl ?_
        refine Er_getR (x := w + 1) rfl hw.1.1 hw.1.2.2.2.1 ?_
        refine Er_run 1 (pc' := 6) (ls' := [some (.ref w), some (.ref (w + 31))]) (st' := [.ref w, .ref (w + 1), .ref w]) rfl ?_
        refine Er_getI (v := Int32.ofNat (W.1 13)) rfl hw.1.1 (show gI h w 13 = Int32.ofNat (W.1 13) from (hw.2.1 13 (by omega)).1) ?_
        refine Er_run 1 (pc' := 10) (ls' := [some (.ref w), some (.ref (w + 31))]) (st' := [.ref (w + 31), .int (Int32.ofNat (W.1 13)), .ref (w + 1), .ref w]) rfl ?_
        refine Er_inv1 (q' := w + 1) (ci := 7) (av := [.int (Int32.ofNat (W.1 13)), .ref (w + 31)]) (rest := [.ref w]) rfl rfl ⟨Nat.le_of_ble_eq_true rfl, Nat.le_of_ble_eq_true rfl⟩ rfl rfl hw.2.2.2.2.2.2.2.2.2.2.1.1 (s_Disk_keepR0 hw.2.2.2.2.2.2.2.2.2.2 ht hc hta (show PL h (w + 31) 300 (W.2.2.2.1 2) from hw.2.2.2.2.2.2.2.1) (by omega) (by omega)) ?_
        refine Er_run 1 (pc' := bif decide (((0 : Int32)) = 0) then 20 else 16) (ls' := [some (.ref w), some (.ref (w + 31))]) (st' := [.ref w]) rfl ?_
        refine Er_pc (t := 20) (show (bif decide (((0 : Int32)) = 0) then 20 else 16) = 20 from by rw [show (decide (((0 : Int32)) = 0)) = true from by decide]; rfl) ?_
        refine Er_run 2 (pc' := 22) (ls' := [some (.ref w), some (.ref (w + 31))]) (st' := [.ref w, .int ((3 : Int32)), .ref w]) rfl ?_
        refine Er_getI (v := Int32.ofNat (W.1 13)) rfl hw.1.1 (show gI h w 13 = Int32.ofNat (W.1 13) from (hw.2.1 13 (by omega)).1) ?_
        obtain ⟨h1, r1, w1, l1, s1, zz1⟩ := s_Worker_report (k := 3) (t := W.1 13) ht hsy hyw hw hl hs
        have q1 : FW w y h h1 := FW.trans (FW.refl w y h) zz1
        refine Er_inv0 (q' := w) (ci := 8) (av := [.int ((3 : Int32)), .int (Int32.ofNat (W.1 13))]) (rest := []) rfl rfl ⟨Nat.le_of_ble_eq_true rfl, Nat.le_of_ble_eq_true rfl⟩ rfl rfl hw.1.1 r1 ?_
        refine Er_fin rfl rfl ?_
        rw [jw_keep, if_neg hc, if_neg hf]
        exact ⟨rfl, w1, l1, s1, q1⟩
  obtain ⟨r, h', hr, e, hq⟩ := Run_of (Nat.le_of_ble_eq_true rfl) hx
  subst e
  exact ⟨h', hr, hq⟩
def jw_red (W : Jw) : Jw := jw_sg (jw_sg (jw_sP W 1 (jx_ord 10 1 (W.2.2.2.1 1))) 15 0) 12 4
def jw_mine (W : Jw) (np : Nat) : Jm := jw_pg W np (Int32.ofNat (W.1 0)) (W.1 15) (Int32.ofNat (W.1 13) - 38) (W.1 16)
def jw_ftm (W : Jw) (v : Nat) : Jm := (jx_up (jx_up (jm_new 4 (Int32.ofNat (W.1 0)) (Int32.ofNat v) W.2.2.2.2.1 (Int32.ofNat (W.1 15))) 7 (Int32.ofNat (W.1 13) - 38)) 8 (Int32.ofNat (W.1 16)), [])
def jw_fo (W : Jw) (L : Jn) (np v k tt : Nat) : Jw × Jn := if W.1 15 < W.1 11 then (if v = W.1 0 then (jw_hp W (jw_mine W np) k tt, L) else if W.1 17 + 1 ≤ 4 then (jw_sg W 17 (W.1 17 + 1), L) else (jw_sg (jw_sg W 17 (W.1 17 + 1)) 17 0, jn_snd L (jw_ftm W v) v)) else (jw_red W, L)
theorem s_Worker_fetchOne {np v k tt : Nat} (h11 : W.1 11 ≤ 38) (hb17 : W.1 17 < 900000) (h16 : W.1 16 < 100000) (hev : W.1 15 < W.1 11 → W.2.2.1 (W.1 15) = Int32.ofNat v) (hv6 : W.1 15 < W.1 11 → v < 7) (hB : W.1 15 < W.1 11 → v = W.1 0 → ∃ q, W.2.2.2.2.1 = Int32.ofNat q ∧ jc_at cl G q j np) (hA : W.1 15 < W.1 11 → v = W.1 0 → W.1 12 = 3 → jw_an W (jw_mine W np) = true → (jw_mine W np).1 9 = Int32.ofNat k ∧ (jw_mine W np).1 10 = Int32.ofNat tt ∧ (W.2.2.2.1 1).length + k ≤ 1000 ∧ k ≤ 16 ∧ tt ≤ 1000 ∧ W.1 16 ≤ 2000 ∧ W.1 15 ≤ 2000) (hsy : s + 140 ≤ y) (hyw : y + 229 ≤ w) (hw : WW h w s y W) (hl : LL h y L) (hs : ST h s cl G PR F) : ∃ h', Run 103 [.ref w] h (.inl none) h' ∧ WW h' w s y ((jw_fo W L np v k tt).1) ∧ LL h' y ((jw_fo W L np v k tt).2) ∧ ST h' s cl G PR F ∧ FW w y h h' := by
  obtain ⟨m0, g0⟩ := hw.2.2.2.2.2.2.2.2.2.1
  have hx : Ev 103 0 (sm_pad (sm_ent [.ref w]) (sm_prog.2.1 103)) [] h (fun r h1 => r = .inl none ∧ WW h1 w s y ((jw_fo W L np v k tt).1) ∧ LL h1 y ((jw_fo W L np v k tt).2) ∧ ST h1 s cl G PR F ∧ FW w y h h1) := by
    have b0 := (hw.2.1 0 (by omega)).2
    have b11 := (hw.2.1 11 (by omega)).2
    have b13 := (hw.2.1 13 (by omega)).2
    have b15 := (hw.2.1 15 (by omega)).2
    by_cases hlt : W.1 15 < W.1 11
    · have hv7 := hv6 hlt
      by_cases hv : v = W.1 0
      · obtain ⟨q, hq, hqc, hcq, hj8, hG5, hnp⟩ := hB hlt hv
        show Ev 103 0 [some (.ref w)] [] h _
        refine Er_run 1 (pc' := 1) (ls' := [some (.ref w)]) (st' := [.ref w]) rfl ?_
        refine Er_getI (v := Int32.ofNat (W.1 15)) rfl hw.1.1 (show gI h w 15 = Int32.ofNat (W.1 15) from (hw.2.1 15 (by omega)).1) ?_
        refine Er_run 1 (pc' := 5) (ls' := [some (.ref w)]) (st' := [.ref w, .int (Int32.ofNat (W.1 15))]) rfl ?_
        refine Er_getI (v := Int32.ofNat (W.1 11)) rfl hw.1.1 (show gI h w 11 = Int32.ofNat (W.1 11) from (hw.2.1 11 (by omega)).1) ?_
        refine Er_run 1 (pc' := bif decide ((Int32.ofNat (W.1 15)) < (Int32.ofNat (W.1 11))) then 33 else 11) (ls' := [some (.ref w)]) (st' := []) rfl ?_
        refine Er_pc (t := 33) (show (bif decide ((Int32.ofNat (W.1 15)) < (Int32.ofNat (W.1 11))) then 33 else 11) = 33 from by rw [show (decide ((Int32.ofNat (W.1 15)) < (Int32.ofNat (W.1 11)))) = true from by rw [jx_lt (by omega) (by omega)]; exact decide_eq_true hlt]; rfl) ?_
        refine Er_run 1 (pc' := 34) (ls' := [some (.ref w)]) (st' := [.ref w]) rfl ?_
        refine Er_getR (x := w + 34) rfl hw.1.1 hw.1.2.2.2.2.2.2.2.2.2.2.1 ?_
        refine Er_run 1 (pc' := 38) (ls' := [some (.ref w)]) (st' := [.ref w, .ref (w + 34)]) rfl ?_
        refine Er_getI (v := Int32.ofNat (W.1 15)) rfl hw.1.1 (show gI h w 15 = Int32.ofNat (W.1 15) from (hw.2.1 15 (by omega)).1) ?_
        refine Er_iald (v := Int32.ofNat v) rfl hw.1.2.2.2.2.2.2.2.2.2.2.2.1 (by rw [hw.1.2.2.2.2.2.2.2.2.2.2.2.2]; exact sm_in_of (by rw [sm_ofNat_toInt (by omega)]; omega) (by rw [sm_ofNat_toInt (by omega)]; omega)) (by rw [jx_cn (by omega), hw.2.2.2.1 _ (by omega)]; exact hev hlt) ?_
        refine Er_run 1 (pc' := 43) (ls' := [some (.ref w)]) (st' := [.ref w, .int (Int32.ofNat v)]) rfl ?_
        refine Er_getI (v := Int32.ofNat (W.1 0)) rfl hw.1.1 (show gI h w 0 = Int32.ofNat (W.1 0) from (hw.2.1 0 (by omega)).1) ?_
        refine Er_run 1 (pc' := bif !decide ((Int32.ofNat v) = (Int32.ofNat (W.1 0))) then 81 else 49) (ls' := [some (.ref w)]) (st' := []) rfl ?_
        refine Er_pc (t := 49) (show (bif !decide ((Int32.ofNat v) = (Int32.ofNat (W.1 0))) then 81 else 49) = 49 from by rw [show (!decide ((Int32.ofNat v) = (Int32.ofNat (W.1 0)))) = false from by rw [hv]; exact (by rw [decide_eq_true rfl]; rfl)]; rfl) ?_
        refine Er_run 2 (pc' := 51) (ls' := [some (.ref w)]) (st' := [.ref w, .ref w]) rfl ?_
        refine Er_getI (v := Int32.ofNat (W.1 0)) rfl hw.1.1 (show gI h w 0 = Int32.ofNat (W.1 0) from (hw.2.1 0 (by omega)).1) ?_
        refine Er_run 1 (pc' := 55) (ls' := [some (.ref w)]) (st' := [.ref w, .int (Int32.ofNat (W.1 0)), .ref w]) rfl ?_
        refine Er_getI (v := Int32.ofNat (W.1 15)) rfl hw.1.1 (show gI h w 15 = Int32.ofNat (W.1 15) from (hw.2.1 15 (by omega)).1) ?_
        refine Er_run 1 (pc' := 59) (ls' := [some (.ref w)]) (st' := [.ref w, .int (Int32.ofNat (W.1 15)), .int (Int32.ofNat (W.1 0)), .ref w]) rfl ?_
        refine Er_getI (v := Int32.ofNat (W.1 13)) rfl hw.1.1 (show gI h w 13 = Int32.ofNat (W.1 13) from (hw.2.1 13 (by omega)).1) ?_
        refine Er_run 3 (pc' := 66) (ls' := [some (.ref w)]) (st' := [.ref w, .int ((Int32.ofNat (W.1 13)) - ((38 : Int32))), .int (Int32.ofNat (W.1 15)), .int (Int32.ofNat (W.1 0)), .ref w]) rfl ?_
        refine Er_getI (v := Int32.ofNat (W.1 16)) rfl hw.1.1 (show gI h w 16 = Int32.ofNat (W.1 16) from (hw.2.1 16 (by omega)).1) ?_
        obtain ⟨h1, r1, w1, l1, s1, zz1, u1⟩ := s_Worker_writePage (np := np) (q := q) (j := j) (u := Int32.ofNat (W.1 0)) (r := Int32.ofNat (W.1 13) - 38) (x := W.1 16) (t := W.1 15) (by omega) (by omega) hnp hq hqc hcq hj8 hG5 hsy hyw hw hl hs
        have q1 : FW w y h h1 := FW.trans (FW.refl w y h) zz1
        refine Er_inv0 (q' := w) (ci := 8) (av := [.int (Int32.ofNat (W.1 0)), .int (Int32.ofNat (W.1 15)), .int ((Int32.ofNat (W.1 13)) - ((38 : Int32))), .int (Int32.ofNat (W.1 16))]) (rest := []) rfl rfl ⟨Nat.le_of_ble_eq_true rfl, Nat.le_of_ble_eq_true rfl⟩ rfl rfl hw.1.1 r1 ?_
        refine Er_run 2 (pc' := 74) (ls' := [some (.ref w)]) (st' := [.ref w, .ref w]) rfl ?_
        refine Er_getR (x := w + 20) rfl w1.1.1 w1.1.2.2.2.2.2.1 ?_
        obtain ⟨h2, r2, w2, l2, s2, zz2⟩ := s_Worker_hearPage (m := jw_mine W np) (k := k) (tt := tt) u1 (Or.inr rfl) (hA hlt hv) hsy hyw w1 l1 s1
        have q2 : FW w y h h2 := FW.trans q1 zz2
        refine Er_inv0 (q' := w) (ci := 8) (av := [.ref (w + 20)]) (rest := []) rfl rfl ⟨Nat.le_of_ble_eq_true rfl, Nat.le_of_ble_eq_true rfl⟩ rfl rfl w1.1.1 r2 ?_
        refine Er_fin rfl rfl ?_
        rw [jw_fo, if_pos hlt, if_pos hv]
        exact ⟨rfl, w2, l2, s2, q2⟩
      · by_cases hwt : W.1 17 + 1 ≤ 4
        · skip
          show Ev 103 0 [some (.ref w)] [] h _
          refine Er_run 1 (pc' := 1) (ls' := [some (.ref w)]) (st' := [.ref w]) rfl ?_
          refine Er_getI (v := Int32.ofNat (W.1 15)) rfl hw.1.1 (show gI h w 15 = Int32.ofNat (W.1 15) from (hw.2.1 15 (by omega)).1) ?_
          refine Er_run 1 (pc' := 5) (ls' := [some (.ref w)]) (st' := [.ref w, .int (Int32.ofNat (W.1 15))]) rfl ?_
          refine Er_getI (v := Int32.ofNat (W.1 11)) rfl hw.1.1 (show gI h w 11 = Int32.ofNat (W.1 11) from (hw.2.1 11 (by omega)).1) ?_
          refine Er_run 1 (pc' := bif decide ((Int32.ofNat (W.1 15)) < (Int32.ofNat (W.1 11))) then 33 else 11) (ls' := [some (.ref w)]) (st' := []) rfl ?_
          refine Er_pc (t := 33) (show (bif decide ((Int32.ofNat (W.1 15)) < (Int32.ofNat (W.1 11))) then 33 else 11) = 33 from by rw [show (decide ((Int32.ofNat (W.1 15)) < (Int32.ofNat (W.1 11)))) = true from by rw [jx_lt (by omega) (by omega)]; exact decide_eq_true hlt]; rfl) ?_
          refine Er_run 1 (pc' := 34) (ls' := [some (.ref w)]) (st' := [.ref w]) rfl ?_
          refine Er_getR (x := w + 34) rfl hw.1.1 hw.1.2.2.2.2.2.2.2.2.2.2.1 ?_
          refine Er_run 1 (pc' := 38) (ls' := [some (.ref w)]) (st' := [.ref w, .ref (w + 34)]) rfl ?_
          refine Er_getI (v := Int32.ofNat (W.1 15)) rfl hw.1.1 (show gI h w 15 = Int32.ofNat (W.1 15) from (hw.2.1 15 (by omega)).1) ?_
          refine Er_iald (v := Int32.ofNat v) rfl hw.1.2.2.2.2.2.2.2.2.2.2.2.1 (by rw [hw.1.2.2.2.2.2.2.2.2.2.2.2.2]; exact sm_in_of (by rw [sm_ofNat_toInt (by omega)]; omega) (by rw [sm_ofNat_toInt (by omega)]; omega)) (by rw [jx_cn (by omega), hw.2.2.2.1 _ (by omega)]; exact hev hlt) ?_
          refine Er_run 1 (pc' := 43) (ls' := [some (.ref w)]) (st' := [.ref w, .int (Int32.ofNat v)]) rfl ?_
          refine Er_getI (v := Int32.ofNat (W.1 0)) rfl hw.1.1 (show gI h w 0 = Int32.ofNat (W.1 0) from (hw.2.1 0 (by omega)).1) ?_
          refine Er_run 1 (pc' := bif !decide ((Int32.ofNat v) = (Int32.ofNat (W.1 0))) then 81 else 49) (ls' := [some (.ref w)]) (st' := []) rfl ?_
          refine Er_pc (t := 81) (show (bif !decide ((Int32.ofNat v) = (Int32.ofNat (W.1 0))) then 81 else 49) = 81 from by rw [show (!decide ((Int32.ofNat v) = (Int32.ofNat (W.1 0)))) = true from by rw [jx_eq (by omega) (by omega), decide_eq_false hv]; rfl]; rfl) ?_
          refine Er_run 2 (pc' := 83) (ls' := [some (.ref w)]) (st' := [.ref w, .ref w]) rfl ?_
          refine Er_getI (v := Int32.ofNat (W.1 17)) rfl hw.1.1 (show gI h w 17 = Int32.ofNat (W.1 17) from (hw.2.1 17 (by omega)).1) ?_
          refine Er_run 2 (pc' := 88) (ls' := [some (.ref w)]) (st' := [.int ((Int32.ofNat (W.1 17)) + ((1 : Int32))), .ref w]) rfl ?_
          refine Er_putI rfl hw.1.1 ?_
          rw [jx_s1]
          have z1 : Fr w (w + 1) h (setI h w 17 (Int32.ofNat (W.1 17 + 1))) := Fr.setI (by omega) (by omega)
          have w1 : WW (setI h w 17 (Int32.ofNat (W.1 17 + 1))) w s y (jw_sg W 17 (W.1 17 + 1)) := WW_sg (x := W.1 17 + 1) (by omega) hw
          generalize setI h w 17 (Int32.ofNat (W.1 17 + 1)) = h1 at z1 w1 ⊢
          have l1 := LL_fr z1 (by omega) hl
          have s1 := ST_fr z1 (by omega) hs
          have q1 : FW w y h h1 := FW.trans (FW.refl w y h) (FW.ofW z1 (by omega) (by omega))
          have g1_w20 := MG_fr z1 (by omega) g0
          refine Er_run 1 (pc' := 92) (ls' := [some (.ref w)]) (st' := [.ref w]) rfl ?_
          refine Er_getI (v := Int32.ofNat (W.1 17 + 1)) rfl w1.1.1 (show gI h1 w 17 = Int32.ofNat (W.1 17 + 1) from (w1.2.1 17 (by omega)).1) ?_
          refine Er_run 2 (pc' := bif decide ((Int32.ofNat (W.1 17 + 1)) ≤ ((4 : Int32))) then 172 else 99) (ls' := [some (.ref w)]) (st' := []) rfl ?_
          refine Er_pc (t := 172) (show (bif decide ((Int32.ofNat (W.1 17 + 1)) ≤ ((4 : Int32))) then 172 else 99) = 172 from by rw [show (decide ((Int32.ofNat (W.1 17 + 1)) ≤ ((4 : Int32)))) = true from by rw [show (4 : Int32) = Int32.ofNat 4 from rfl, jx_le (by omega) (by omega)]; exact decide_eq_true (by omega)]; rfl) ?_
          refine Er_fin rfl rfl ?_
          rw [jw_fo, if_pos hlt, if_neg hv, if_pos hwt]
          exact ⟨rfl, w1, l1, s1, q1⟩
        · skip
          show Ev 103 0 [some (.ref w)] [] h _
          refine Er_run 1 (pc' := 1) (ls' := [some (.ref w)]) (st' := [.ref w]) rfl ?_
          refine Er_getI (v := Int32.ofNat (W.1 15)) rfl hw.1.1 (show gI h w 15 = Int32.ofNat (W.1 15) from (hw.2.1 15 (by omega)).1) ?_
          refine Er_run 1 (pc' := 5) (ls' := [some (.ref w)]) (st' := [.ref w, .int (Int32.ofNat (W.1 15))]) rfl ?_
          refine Er_getI (v := Int32.ofNat (W.1 11)) rfl hw.1.1 (show gI h w 11 = Int32.ofNat (W.1 11) from (hw.2.1 11 (by omega)).1) ?_
          refine Er_run 1 (pc' := bif decide ((Int32.ofNat (W.1 15)) < (Int32.ofNat (W.1 11))) then 33 else 11) (ls' := [some (.ref w)]) (st' := []) rfl ?_
          refine Er_pc (t := 33) (show (bif decide ((Int32.ofNat (W.1 15)) < (Int32.ofNat (W.1 11))) then 33 else 11) = 33 from by rw [show (decide ((Int32.ofNat (W.1 15)) < (Int32.ofNat (W.1 11)))) = true from by rw [jx_lt (by omega) (by omega)]; exact decide_eq_true hlt]; rfl) ?_
          refine Er_run 1 (pc' := 34) (ls' := [some (.ref w)]) (st' := [.ref w]) rfl ?_
          refine Er_getR (x := w + 34) rfl hw.1.1 hw.1.2.2.2.2.2.2.2.2.2.2.1 ?_
          refine Er_run 1 (pc' := 38) (ls' := [some (.ref w)]) (st' := [.ref w, .ref (w + 34)]) rfl ?_
          refine Er_getI (v := Int32.ofNat (W.1 15)) rfl hw.1.1 (show gI h w 15 = Int32.ofNat (W.1 15) from (hw.2.1 15 (by omega)).1) ?_
          refine Er_iald (v := Int32.ofNat v) rfl hw.1.2.2.2.2.2.2.2.2.2.2.2.1 (by rw [hw.1.2.2.2.2.2.2.2.2.2.2.2.2]; exact sm_in_of (by rw [sm_ofNat_toInt (by omega)]; omega) (by rw [sm_ofNat_toInt (by omega)]; omega)) (by rw [jx_cn (by omega), hw.2.2.2.1 _ (by omega)]; exact hev hlt) ?_
          refine Er_run 1 (pc' := 43) (ls' := [some (.ref w)]) (st' := [.ref w, .int (Int32.ofNat v)]) rfl ?_
          refine Er_getI (v := Int32.ofNat (W.1 0)) rfl hw.1.1 (show gI h w 0 = Int32.ofNat (W.1 0) from (hw.2.1 0 (by omega)).1) ?_
          refine Er_run 1 (pc' := bif !decide ((Int32.ofNat v) = (Int32.ofNat (W.1 0))) then 81 else 49) (ls' := [some (.ref w)]) (st' := []) rfl ?_
          refine Er_pc (t := 81) (show (bif !decide ((Int32.ofNat v) = (Int32.ofNat (W.1 0))) then 81 else 49) = 81 from by rw [show (!decide ((Int32.ofNat v) = (Int32.ofNat (W.1 0)))) = true from by rw [jx_eq (by omega) (by omega), decide_eq_false hv]; rfl]; rfl) ?_
          refine Er_run 2 (pc' := 83) (ls' := [some (.ref w)]) (st' := [.ref w, .ref w]) rfl ?_
          refine Er_getI (v := Int32.ofNat (W.1 17)) rfl hw.1.1 (show gI h w 17 = Int32.ofNat (W.1 17) from (hw.2.1 17 (by omega)).1) ?_
          refine Er_run 2 (pc' := 88) (ls' := [some (.ref w)]) (st' := [.int ((Int32.ofNat (W.1 17)) + ((1 : Int32))), .ref w]) rfl ?_
          refine Er_putI rfl hw.1.1 ?_
          rw [jx_s1]
          have z1 : Fr w (w + 1) h (setI h w 17 (Int32.ofNat (W.1 17 + 1))) := Fr.setI (by omega) (by omega)
          have w1 : WW (setI h w 17 (Int32.ofNat (W.1 17 + 1))) w s y (jw_sg W 17 (W.1 17 + 1)) := WW_sg (x := W.1 17 + 1) (by omega) hw
          generalize setI h w 17 (Int32.ofNat (W.1 17 + 1)) = h1 at z1 w1 ⊢
          have l1 := LL_fr z1 (by omega) hl
          have s1 := ST_fr z1 (by omega) hs
          have q1 : FW w y h h1 := FW.trans (FW.refl w y h) (FW.ofW z1 (by omega) (by omega))
          have g1_w20 := MG_fr z1 (by omega) g0
          refine Er_run 1 (pc' := 92) (ls' := [some (.ref w)]) (st' := [.ref w]) rfl ?_
          refine Er_getI (v := Int32.ofNat (W.1 17 + 1)) rfl w1.1.1 (show gI h1 w 17 = Int32.ofNat (W.1 17 + 1) from (w1.2.1 17 (by omega)).1) ?_
          refine Er_run 2 (pc' := bif decide ((Int32.ofNat (W.1 17 + 1)) ≤ ((4 : Int32))) then 172 else 99) (ls' := [some (.ref w)]) (st' := []) rfl ?_
          refine Er_pc (t := 99) (show (bif decide ((Int32.ofNat (W.1 17 + 1)) ≤ ((4 : Int32))) then 172 else 99) = 99 from by rw [show (decide ((Int32.ofNat (W.1 17 + 1)) ≤ ((4 : Int32)))) = false from by rw [show (4 : Int32) = Int32.ofNat 4 from rfl, jx_le (by omega) (by omega)]; exact decide_eq_false (by omega)]; rfl) ?_
          refine Er_run 2 (pc' := 101) (ls' := [some (.ref w)]) (st' := [.int ((0 : Int32)), .ref w]) rfl ?_
          refine Er_putI rfl w1.1.1 ?_
          have z2 : Fr w (w + 1) h1 (setI h1 w 17 ((0 : Int32))) := Fr.setI (by omega) (by omega)
          have w2 : WW (setI h1 w 17 ((0 : Int32))) w s y (jw_sg (jw_sg W 17 (W.1 17 + 1)) 17 0) := WW_sg (x := 0) (by omega) w1
          generalize setI h1 w 17 ((0 : Int32)) = h2 at z2 w2 ⊢
          have l2 := LL_fr z2 (by omega) l1
          have s2 := ST_fr z2 (by omega) s1
          have q2 : FW w y h h2 := FW.trans q1 (FW.ofW z2 (by omega) (by omega))
          have g2_w20 := MG_fr z2 (by omega) g1_w20
          refine Er_run 1 (pc' := 105) (ls' := [some (.ref w)]) (st' := [.ref w]) rfl ?_
          refine Er_getR (x := w + 20) rfl w2.1.1 w2.1.2.2.2.2.2.1 ?_
          refine Er_run 2 (pc' := 110) (ls' := [some (.ref w)]) (st' := [.ref w, .int ((4 : Int32)), .ref (w + 20)]) rfl ?_
          refine Er_getI (v := Int32.ofNat (W.1 0)) rfl w2.1.1 (show gI h2 w 0 = Int32.ofNat (W.1 0) from (w2.2.1 0 (by omega)).1) ?_
          refine Er_run 1 (pc' := 114) (ls' := [some (.ref w)]) (st' := [.ref w, .int (Int32.ofNat (W.1 0)), .int ((4 : Int32)), .ref (w + 20)]) rfl ?_
          refine Er_getR (x := w + 34) rfl w2.1.1 w2.1.2.2.2.2.2.2.2.2.2.2.1 ?_
          refine Er_run 1 (pc' := 118) (ls' := [some (.ref w)]) (st' := [.ref w, .ref (w + 34), .int (Int32.ofNat (W.1 0)), .int ((4 : Int32)), .ref (w + 20)]) rfl ?_
          refine Er_getI (v := Int32.ofNat (W.1 15)) rfl w2.1.1 (show gI h2 w 15 = Int32.ofNat (W.1 15) from (w2.2.1 15 (by omega)).1) ?_
          refine Er_iald (v := Int32.ofNat v) rfl w2.1.2.2.2.2.2.2.2.2.2.2.2.1 (by rw [w2.1.2.2.2.2.2.2.2.2.2.2.2.2]; exact sm_in_of (by rw [sm_ofNat_toInt (by omega)]; omega) (by rw [sm_ofNat_toInt (by omega)]; omega)) (by rw [jx_cn (by omega), w2.2.2.2.1 _ (by omega)]; exact hev hlt) ?_
          refine Er_run 1 (pc' := 123) (ls' := [some (.ref w)]) (st' := [.ref w, .int (Int32.ofNat v), .int (Int32.ofNat (W.1 0)), .int ((4 : Int32)), .ref (w + 20)]) rfl ?_
          refine Er_getR (x := w + 1) rfl w2.1.1 w2.1.2.2.2.1 ?_
          refine Er_inv1 (q' := w + 1) (ci := 7) (av := []) (rest := [.int (Int32.ofNat v), .int (Int32.ofNat (W.1 0)), .int ((4 : Int32)), .ref (w + 20)]) rfl rfl ⟨Nat.le_of_ble_eq_true rfl, Nat.le_of_ble_eq_true rfl⟩ rfl rfl w2.2.2.2.2.2.2.2.2.2.2.1.1 (s_Disk_position w2.2.2.2.2.2.2.2.2.2.2) ?_
          refine Er_run 1 (pc' := 130) (ls' := [some (.ref w)]) (st' := [.ref w, .int (W.2.2.2.2.1), .int (Int32.ofNat v), .int (Int32.ofNat (W.1 0)), .int ((4 : Int32)), .ref (w + 20)]) rfl ?_
          refine Er_getI (v := Int32.ofNat (W.1 15)) rfl w2.1.1 (show gI h2 w 15 = Int32.ofNat (W.1 15) from (w2.2.1 15 (by omega)).1) ?_
          obtain ⟨h3, r3, u3, z3⟩ := s_Message_write (k := (4 : Int32)) (s := Int32.ofNat (W.1 0)) (u := Int32.ofNat v) (p := W.2.2.2.2.1) (t := Int32.ofNat (W.1 15)) g2_w20
          have w3 : WW h3 w s y (jw_sg (jw_sg W 17 (W.1 17 + 1)) 17 0) := WW_le z3 u3 w2
          have l3 := LL_fr z3 (by omega) l2
          have s3 := ST_fr z3 (by omega) s2
          have q3 : FW w y h h3 := FW.trans q2 (FW.ofW z3 (by omega) (by omega))
          refine Er_inv0 (q' := w + 20) (ci := 5) (av := [.int ((4 : Int32)), .int (Int32.ofNat (W.1 0)), .int (Int32.ofNat v), .int (W.2.2.2.2.1), .int (Int32.ofNat (W.1 15))]) (rest := []) rfl rfl ⟨Nat.le_of_ble_eq_true rfl, Nat.le_of_ble_eq_true rfl⟩ rfl rfl g2_w20.1.1 r3 ?_
          refine Er_run 1 (pc' := 137) (ls' := [some (.ref w)]) (st' := [.ref w]) rfl ?_
          refine Er_getR (x := w + 20) rfl w3.1.1 w3.1.2.2.2.2.2.1 ?_
          refine Er_run 1 (pc' := 141) (ls' := [some (.ref w)]) (st' := [.ref w, .ref (w + 20)]) rfl ?_
          refine Er_getI (v := Int32.ofNat (W.1 13)) rfl w3.1.1 (show gI h3 w 13 = Int32.ofNat (W.1 13) from (w3.2.1 13 (by omega)).1) ?_
          refine Er_run 2 (pc' := 147) (ls' := [some (.ref w)]) (st' := [.int ((Int32.ofNat (W.1 13)) - ((38 : Int32))), .ref (w + 20)]) rfl ?_
          refine Er_putI rfl u3.1.1 ?_
          have z4 : Fr (w + 20) (w + 22) h3 (setI h3 (w + 20) 7 ((Int32.ofNat (W.1 13)) - ((38 : Int32)))) := Fr.setI (by omega) (by omega)
          have u4 : MG (setI h3 (w + 20) 7 ((Int32.ofNat (W.1 13)) - ((38 : Int32)))) (w + 20) (jx_up ((jm_new ((4 : Int32)) (Int32.ofNat (W.1 0)) (Int32.ofNat v) W.2.2.2.2.1 (Int32.ofNat (W.1 15)), [])).1 7 ((Int32.ofNat (W.1 13)) - ((38 : Int32))), ((jm_new ((4 : Int32)) (Int32.ofNat (W.1 0)) (Int32.ofNat v) W.2.2.2.2.1 (Int32.ofNat (W.1 15)), [])).2) := MG_set (by omega) u3
          generalize setI h3 (w + 20) 7 ((Int32.ofNat (W.1 13)) - ((38 : Int32))) = h4 at z4 u4 ⊢
          have w4 : WW h4 w s y (jw_sg (jw_sg W 17 (W.1 17 + 1)) 17 0) := WW_le z4 u4 w3
          have l4 := LL_fr z4 (by omega) l3
          have s4 := ST_fr z4 (by omega) s3
          have q4 : FW w y h h4 := FW.trans q3 (FW.ofW z4 (by omega) (by omega))
          refine Er_run 1 (pc' := 151) (ls' := [some (.ref w)]) (st' := [.ref w]) rfl ?_
          refine Er_getR (x := w + 20) rfl w4.1.1 w4.1.2.2.2.2.2.1 ?_
          refine Er_run 1 (pc' := 155) (ls' := [some (.ref w)]) (st' := [.ref w, .ref (w + 20)]) rfl ?_
          refine Er_getI (v := Int32.ofNat (W.1 16)) rfl w4.1.1 (show gI h4 w 16 = Int32.ofNat (W.1 16) from (w4.2.1 16 (by omega)).1) ?_
          refine Er_putI rfl u4.1.1 ?_
          have z5 : Fr (w + 20) (w + 22) h4 (setI h4 (w + 20) 8 (Int32.ofNat (W.1 16))) := Fr.setI (by omega) (by omega)
          have u5 : MG (setI h4 (w + 20) 8 (Int32.ofNat (W.1 16))) (w + 20) (jx_up ((jx_up ((jm_new ((4 : Int32)) (Int32.ofNat (W.1 0)) (Int32.ofNat v) W.2.2.2.2.1 (Int32.ofNat (W.1 15)), [])).1 7 ((Int32.ofNat (W.1 13)) - ((38 : Int32))), ((jm_new ((4 : Int32)) (Int32.ofNat (W.1 0)) (Int32.ofNat v) W.2.2.2.2.1 (Int32.ofNat (W.1 15)), [])).2)).1 8 (Int32.ofNat (W.1 16)), ((jx_up ((jm_new ((4 : Int32)) (Int32.ofNat (W.1 0)) (Int32.ofNat v) W.2.2.2.2.1 (Int32.ofNat (W.1 15)), [])).1 7 ((Int32.ofNat (W.1 13)) - ((38 : Int32))), ((jm_new ((4 : Int32)) (Int32.ofNat (W.1 0)) (Int32.ofNat v) W.2.2.2.2.1 (Int32.ofNat (W.1 15)), [])).2)).2) := MG_set (by omega) u4
          generalize setI h4 (w + 20) 8 (Int32.ofNat (W.1 16)) = h5 at z5 u5 ⊢
          have w5 : WW h5 w s y (jw_sg (jw_sg W 17 (W.1 17 + 1)) 17 0) := WW_le z5 u5 w4
          have l5 := LL_fr z5 (by omega) l4
          have s5 := ST_fr z5 (by omega) s4
          have q5 : FW w y h h5 := FW.trans q4 (FW.ofW z5 (by omega) (by omega))
          refine Er_run 1 (pc' := 162) (ls' := [some (.ref w)]) (st' := [.ref w]) rfl ?_
          refine Er_getR (x := y) rfl w5.1.1 w5.1.2.2.1 ?_
          refine Er_run 1 (pc' := 166) (ls' := [some (.ref w)]) (st' := [.ref w, .ref y]) rfl ?_
          refine Er_getR (x := w + 20) rfl w5.1.1 w5.1.2.2.2.2.2.1 ?_
          obtain ⟨h6, r6, l6, z6⟩ := s_Line_send (x := v) l5 u5 rfl (by omega) (by omega)
          have w6 : WW h6 w s y (jw_sg (jw_sg W 17 (W.1 17 + 1)) 17 0) := WW_fr z6 (by omega) w5
          have s6 := ST_fr z6 (by omega) s5
          have q6 : FW w y h h6 := FW.trans q5 (FW.ofY z6 (by omega) (by omega))
          have u6 := MG_fr z6 (by omega) u5
          have l6 : LL h6 y (jn_snd L (jx_up ((jx_up ((jm_new ((4 : Int32)) (Int32.ofNat (W.1 0)) (Int32.ofNat v) W.2.2.2.2.1 (Int32.ofNat (W.1 15)), [])).1 7 ((Int32.ofNat (W.1 13)) - ((38 : Int32))), ((jm_new ((4 : Int32)) (Int32.ofNat (W.1 0)) (Int32.ofNat v) W.2.2.2.2.1 (Int32.ofNat (W.1 15)), [])).2)).1 8 (Int32.ofNat (W.1 16)), ((jx_up ((jm_new ((4 : Int32)) (Int32.ofNat (W.1 0)) (Int32.ofNat v) W.2.2.2.2.1 (Int32.ofNat (W.1 15)), [])).1 7 ((Int32.ofNat (W.1 13)) - ((38 : Int32))), ((jm_new ((4 : Int32)) (Int32.ofNat (W.1 0)) (Int32.ofNat v) W.2.2.2.2.1 (Int32.ofNat (W.1 15)), [])).2)).2) v) := l6
          refine Er_inv0 (q' := y) (ci := 6) (av := [.ref (w + 20)]) (rest := []) rfl rfl ⟨Nat.le_of_ble_eq_true rfl, Nat.le_of_ble_eq_true rfl⟩ rfl rfl l5.1.1 r6 ?_
          refine Er_fin rfl rfl ?_
          rw [jw_fo, if_pos hlt, if_neg hv, if_neg hwt]
          exact ⟨rfl, w6, l6, s6, q6⟩
    · skip
      show Ev 103 0 [some (.ref w)] [] h _
      refine Er_run 1 (pc' := 1) (ls' := [some (.ref w)]) (st' := [.ref w]) rfl ?_
      refine Er_getI (v := Int32.ofNat (W.1 15)) rfl hw.1.1 (show gI h w 15 = Int32.ofNat (W.1 15) from (hw.2.1 15 (by omega)).1) ?_
      refine Er_run 1 (pc' := 5) (ls' := [some (.ref w)]) (st' := [.ref w, .int (Int32.ofNat (W.1 15))]) rfl ?_
      refine Er_getI (v := Int32.ofNat (W.1 11)) rfl hw.1.1 (show gI h w 11 = Int32.ofNat (W.1 11) from (hw.2.1 11 (by omega)).1) ?_
      refine Er_run 1 (pc' := bif decide ((Int32.ofNat (W.1 15)) < (Int32.ofNat (W.1 11))) then 33 else 11) (ls' := [some (.ref w)]) (st' := []) rfl ?_
      refine Er_pc (t := 11) (show (bif decide ((Int32.ofNat (W.1 15)) < (Int32.ofNat (W.1 11))) then 33 else 11) = 11 from by rw [show (decide ((Int32.ofNat (W.1 15)) < (Int32.ofNat (W.1 11)))) = false from by rw [jx_lt (by omega) (by omega)]; exact decide_eq_false hlt]; rfl) ?_
      refine Er_run 1 (pc' := 12) (ls' := [some (.ref w)]) (st' := [.ref w]) rfl ?_
      refine Er_getR (x := w + 25) rfl hw.1.1 hw.1.2.2.2.2.2.2.2.1 ?_
      refine Er_run 1 (pc' := 16) (ls' := [some (.ref w)]) (st' := [.ref w, .ref (w + 25)]) rfl ?_
      refine Er_getR (x := w + 28) rfl hw.1.1 hw.1.2.2.2.2.2.2.2.2.1 ?_
      obtain ⟨h1, r1, p1, y1⟩ := s_Pairs_order (show PL h (w + 25) 1000 (W.2.2.2.1 1) from hw.2.2.2.2.2.1) (show isP h (w + 28) 1000 from hw.2.2.2.2.2.2.1) (by omega) (by omega) (by have := hw.2.2.2.2.2.1.2.2.1; omega)
      have z1 : Fr (w + 22) (w + 31) h h1 := Fr2_fr y1 (by omega) (by omega) (by omega) (by omega)
      have w1 : WW h1 w s y (jw_sP W 1 (jx_ord 10 1 (W.2.2.2.1 1))) := WW_o1 y1 p1 hw
      have l1 := LL_fr z1 (by omega) hl
      have s1 := ST_fr z1 (by omega) hs
      have q1 : FW w y h h1 := FW.trans (FW.refl w y h) (FW.ofW z1 (by omega) (by omega))
      have g1_w20 := MG_fr z1 (by omega) g0
      refine Er_inv0 (q' := w + 25) (ci := 0) (av := [.ref (w + 28)]) (rest := []) rfl rfl ⟨Nat.le_of_ble_eq_true rfl, Nat.le_of_ble_eq_true rfl⟩ rfl rfl hw.2.2.2.2.2.1.1.1 r1 ?_
      refine Er_run 2 (pc' := 24) (ls' := [some (.ref w)]) (st' := [.int ((0 : Int32)), .ref w]) rfl ?_
      refine Er_putI rfl w1.1.1 ?_
      have z2 : Fr w (w + 1) h1 (setI h1 w 15 ((0 : Int32))) := Fr.setI (by omega) (by omega)
      have w2 : WW (setI h1 w 15 ((0 : Int32))) w s y (jw_sg (jw_sP W 1 (jx_ord 10 1 (W.2.2.2.1 1))) 15 0) := WW_sg (x := 0) (by omega) w1
      generalize setI h1 w 15 ((0 : Int32)) = h2 at z2 w2 ⊢
      have l2 := LL_fr z2 (by omega) l1
      have s2 := ST_fr z2 (by omega) s1
      have q2 : FW w y h h2 := FW.trans q1 (FW.ofW z2 (by omega) (by omega))
      have g2_w20 := MG_fr z2 (by omega) g1_w20
      refine Er_run 2 (pc' := 29) (ls' := [some (.ref w)]) (st' := [.int ((4 : Int32)), .ref w]) rfl ?_
      refine Er_putI rfl w2.1.1 ?_
      have z3 : Fr w (w + 1) h2 (setI h2 w 12 ((4 : Int32))) := Fr.setI (by omega) (by omega)
      have w3 : WW (setI h2 w 12 ((4 : Int32))) w s y (jw_sg (jw_sg (jw_sP W 1 (jx_ord 10 1 (W.2.2.2.1 1))) 15 0) 12 4) := WW_sg (x := 4) (by omega) w2
      generalize setI h2 w 12 ((4 : Int32)) = h3 at z3 w3 ⊢
      have l3 := LL_fr z3 (by omega) l2
      have s3 := ST_fr z3 (by omega) s2
      have q3 : FW w y h h3 := FW.trans q2 (FW.ofW z3 (by omega) (by omega))
      have g3_w20 := MG_fr z3 (by omega) g2_w20
      refine Er_fin rfl rfl ?_
      rw [jw_fo, if_neg hlt]
      exact ⟨rfl, w3, l3, s3, q3⟩
  obtain ⟨r, h', hr, e, hq⟩ := Run_of (Nat.le_of_ble_eq_true rfl) hx
  subst e
  exact ⟨h', hr, hq⟩
end WORKE
