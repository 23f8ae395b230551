section MILF
variable {h : sm_H} {cl : List Nat} {G : Nat → Nat → Int32} {PR : Nat → Nat → List (Int32 × Int64)} {F : Nat → Jl} {D : List (Int32 × Int64)} {L : Jn} {R : Jr} {K : Jk} {Ws : Nat → Jw} {n v : Nat} {x : Int32} {b : Bool}
abbrev jx_pl (h : sm_H) : Bool × List Nat := jx_plan h 1 ((List.range' 0 8).countP (jx_md h 1)) []
theorem ST_pl {h' : sm_H} {c2 : List Nat} (z : Fr 1 (1 + 4) h h') (hi : isS h' 1) (hc : CH h' 1 c2) (hp : ST h 1 cl G PR F) : ST h' 1 c2 G PR F :=
  ⟨hi, hc, fun f hf => PL_fr z (by omega) (hp.2.2.1 f hf), fun j hj => ⟨isJ_fr z (by omega) (hp.2.2.2 j hj).1, fun i h1 h2 => by rw [(z.2.2.2.2 (1 + 52 + 11 * j) (by omega)).1]; exact (hp.2.2.2 j hj).2.1 i h1 h2, GL_fr z (by omega) (hp.2.2.2 j hj).2.2.1, GL_fr z (by omega) (hp.2.2.2 j hj).2.2.2.1, GL_fr z (by omega) (hp.2.2.2 j hj).2.2.2.2⟩⟩

theorem s_Mill_begin_r (hx : isX h) (hr : gI h 0 6 = 1) : Run 141 [.ref 0] h (.inr 2) (hjunk h) := by
  refine ⟨Nat.le_of_ble_eq_true rfl, ?_⟩
  show Ev 141 0 [some (.ref 0), none] [] h _
  refine Er_run 1 (pc' := 1) (ls' := [some (.ref 0), none]) (st' := [.ref 0]) rfl ?_
  exact Er_invX (q' := 0) (ci := 11) (av := []) rfl rfl ⟨Nat.le_of_ble_eq_true rfl, Nat.le_of_ble_eq_true rfl⟩ rfl hx.1 (s_Mill_needRest0 hx hr) rfl ⟨rfl, rfl⟩
theorem s_Mill_begin_u (hp : XS h cl G PR F D L R K Ws false n) (hok : ¬ (jx_pl h).1 = true) : ∃ h1, Run 141 [.ref 0] h (.inr 3) (hjunk h1) ∧ XS h1 (jx_pl h).2 G PR F D L R K Ws false n ∧ SZ h h1 := by
  have hx : Ev 141 0 (sm_pad (sm_ent [.ref 0]) (sm_prog.2.1 141)) [] h (fun r h9 => r = .inr 3 ∧ ∃ h1, h9 = hjunk h1 ∧ XS h1 (jx_pl h).2 G PR F D L R K Ws false n ∧ SZ h h1) := by
    show Ev 141 0 [some (.ref 0), none] [] h _
    refine Er_run 1 (pc' := 1) (ls' := [some (.ref 0), none]) (st' := [.ref 0]) rfl ?_
    refine Er_inv0 (q' := 0) (ci := 11) (av := []) (rest := []) rfl rfl ⟨Nat.le_of_ble_eq_true rfl, Nat.le_of_ble_eq_true rfl⟩ rfl rfl hp.1.1.1 (s_Mill_needRest1 hp.1.1 hp.1.2.2.1) ?_
    refine Er_run 1 (pc' := 5) (ls' := [some (.ref 0), none]) (st' := [.ref 0]) rfl ?_
    refine Er_getR (x := 1) rfl hp.1.1.1 hp.1.1.2.1 ?_
    obtain ⟨h1, r1, c1, z1, i1⟩ := s_Store_plan hp.2.1.1 (fun j hj => (hp.2.1.2.2.2 j hj).1)
    rw [if_neg hok] at r1
    obtain ⟨p1, y1⟩ := XS_st z1 (by omega) (by omega) (ST_pl z1 i1 c1 hp.2.1) hp
    refine Er_inv1 (q' := 1) (ci := 3) (av := []) (rest := []) rfl rfl ⟨Nat.le_of_ble_eq_true rfl, Nat.le_of_ble_eq_true rfl⟩ rfl rfl hp.2.1.1.1 r1 ?_
    refine Er_run 1 (pc' := bif !decide (((0 : Int32)) = 0) then 24 else 14) (ls' := [some (.ref 0), none]) (st' := []) rfl ?_
    refine Er_pc (t := 14) (show (bif !decide (((0 : Int32)) = 0) then 24 else 14) = 14 from by rw [show (!decide (((0 : Int32)) = 0)) = false from by decide]; rfl) ?_
    exact Er_fin rfl rfl ⟨rfl, h1, rfl, p1, y1⟩
  obtain ⟨r, h', hr, e, h1, e1, hq⟩ := Run_of (Nat.le_of_ble_eq_true rfl) hx
  subst e
  subst e1
  exact ⟨h1, hr, hq⟩
theorem l_begin {Q : sm_R → sm_H → Prop} : ∀ (k v : Nat) (h : sm_H), v + k = 6 → XS h cl G PR F D L R K ((fun u => if u < v then jw_reset (Ws u) else Ws u)) false n → (∀ h', XS h' cl G PR F D L R K ((fun u => if u < 6 then jw_reset (Ws u) else Ws u)) false n → SZ h h' → Ev 141 61 [some (.ref 0), some (.int (Int32.ofNat 6))] [] h' Q) → Ev 141 40 [some (.ref 0), some (.int (Int32.ofNat v))] [] h Q := by
  intro k
  induction k with
  | zero =>
    intro v h hvk hp kk
    refine Er_run 3 (pc' := bif decide (((6 : Int32)) ≤ (Int32.ofNat v)) then 61 else 46) (ls' := [some (.ref 0), some (.int (Int32.ofNat v))]) (st' := []) rfl ?_
    refine Er_pc (t := 61) (show (bif decide (((6 : Int32)) ≤ (Int32.ofNat v)) then 61 else 46) = 61 from by rw [show (decide (((6 : Int32)) ≤ (Int32.ofNat v))) = true from by rw [show (6 : Int32) = Int32.ofNat 6 from rfl, jx_le (by omega) (by omega)]; exact decide_eq_true (by omega)]; rfl) ?_
    have e : v = 6 := by omega
    subst e
    exact kk h hp (SZ.refl h)
  | succ k ih =>
    intro v h hvk hp kk
    have hv : v < 6 := by omega
    refine Er_run 3 (pc' := bif decide (((6 : Int32)) ≤ (Int32.ofNat v)) then 61 else 46) (ls' := [some (.ref 0), some (.int (Int32.ofNat v))]) (st' := []) rfl ?_
    refine Er_pc (t := 46) (show (bif decide (((6 : Int32)) ≤ (Int32.ofNat v)) then 61 else 46) = 46 from by rw [show (decide (((6 : Int32)) ≤ (Int32.ofNat v))) = false from by rw [show (6 : Int32) = Int32.ofNat 6 from rfl, jx_le (by omega) (by omega)]; exact decide_eq_false (by omega)]; rfl) ?_
    refine Er_run 1 (pc' := 47) (ls' := [some (.ref 0), some (.int (Int32.ofNat v))]) (st' := [.ref 0]) rfl ?_
    refine Er_getR (x := 378) rfl hp.1.1.1 hp.1.1.2.2.2.2.2.1 ?_
    refine Er_run 1 (pc' := 51) (ls' := [some (.ref 0), some (.int (Int32.ofNat v))]) (st' := [.int (Int32.ofNat v), .ref 378]) rfl ?_
    refine Er_aald (x := 388 + 35 * v) rfl hp.1.1.2.2.2.2.2.2.2.1 (by rw [hp.1.1.2.2.2.2.2.2.2.2.1]; exact sm_in_of (by rw [sm_ofNat_toInt (by omega)]; omega) (by rw [sm_ofNat_toInt (by omega)]; omega)) (by rw [jx_cn (by omega)]; exact hp.1.1.2.2.2.2.2.2.2.2.2 v hv) ?_
    obtain ⟨h1, r1, w1, l1, s1, z1⟩ := s_Worker_reset (by omega) (by omega) (hp.2.2.2.2.2 v hv) hp.2.2.1 hp.2.1
    obtain ⟨p1, y1⟩ := XS_w hv z1 w1 l1 s1 hp
    have e0 : (fun u => if u < v then jw_reset (Ws u) else Ws u) v = Ws v := if_neg (Nat.lt_irrefl v)
    rw [e0] at p1
    refine Er_inv0 (q' := 388 + 35 * v) (ci := 8) (av := []) (rest := []) rfl rfl ⟨Nat.le_of_ble_eq_true rfl, Nat.le_of_ble_eq_true rfl⟩ rfl rfl (hp.2.2.2.2.2 v hv).1.1 r1 ?_
    refine Er_run 2 (pc' := 40) (ls' := [some (.ref 0), some (.int ((Int32.ofNat v) + (1 : Int32)))]) (st' := []) rfl ?_
    rw [jx_s1]
    refine ih (v + 1) h1 (by omega) ?_ (fun h9 a1 a2 => kk h9 a1 (y1.trans a2))
    have e : jx_up (fun u => if u < v then jw_reset (Ws u) else Ws u) v (jw_reset (Ws v)) = (fun u => if u < v + 1 then jw_reset (Ws u) else Ws u) := by
      funext u
      rw [jx_up]
      by_cases hu : u = v
      · subst hu; rw [if_pos rfl, if_pos (by omega)]
      · rw [if_neg hu]
        by_cases h2 : u < v
        · rw [if_pos h2, if_pos (by omega)]
        · rw [if_neg h2, if_neg (by omega)]
    rw [← e]; exact p1
theorem s_Mill_begin (hp : XS h cl G PR F D L R K Ws false n) (hok : (jx_pl h).1 = true) (hca : jc_all (jx_pl h).2 G) (hF : jf_ok F) : ∃ h', Run 141 [.ref 0] h (.inl (some (.int (Int32.ofNat (jx_pl h).2.length)))) h' ∧ ∃ ib dn, XS h' (jx_pl h).2 G PR F D ((ib, dn, 0, 0)) (([], 0, 0)) (jk_forget (jx_pl h).2 G F K) ((fun u => if u < 6 then jw_reset (Ws u) else Ws u)) true (n + 1) ∧ (∀ x, x < 7 → ib x = [] ∧ dn x = false) ∧ SZ h h' := by
  have hx : Ev 141 0 (sm_pad (sm_ent [.ref 0]) (sm_prog.2.1 141)) [] h (fun r h9 => r = .inl (some (.int (Int32.ofNat (jx_pl h).2.length))) ∧ ∃ ib dn, XS h9 (jx_pl h).2 G PR F D ((ib, dn, 0, 0)) (([], 0, 0)) (jk_forget (jx_pl h).2 G F K) ((fun u => if u < 6 then jw_reset (Ws u) else Ws u)) true (n + 1) ∧ (∀ x, x < 7 → ib x = [] ∧ dn x = false) ∧ SZ h h9) := by
    show Ev 141 0 [some (.ref 0), none] [] h _
    refine Er_run 1 (pc' := 1) (ls' := [some (.ref 0), none]) (st' := [.ref 0]) rfl ?_
    refine Er_inv0 (q' := 0) (ci := 11) (av := []) (rest := []) rfl rfl ⟨Nat.le_of_ble_eq_true rfl, Nat.le_of_ble_eq_true rfl⟩ rfl rfl hp.1.1.1 (s_Mill_needRest1 hp.1.1 hp.1.2.2.1) ?_
    refine Er_run 1 (pc' := 5) (ls' := [some (.ref 0), none]) (st' := [.ref 0]) rfl ?_
    refine Er_getR (x := 1) rfl hp.1.1.1 hp.1.1.2.1 ?_
    obtain ⟨h1, r1, c1, z1, i1⟩ := s_Store_plan hp.2.1.1 (fun j hj => (hp.2.1.2.2.2 j hj).1)
    rw [if_pos hok] at r1
    obtain ⟨p1, y1⟩ := XS_st z1 (by omega) (by omega) (ST_pl z1 i1 c1 hp.2.1) hp
    refine Er_inv1 (q' := 1) (ci := 3) (av := []) (rest := []) rfl rfl ⟨Nat.le_of_ble_eq_true rfl, Nat.le_of_ble_eq_true rfl⟩ rfl rfl hp.2.1.1.1 r1 ?_
    refine Er_run 1 (pc' := bif !decide (((1 : Int32)) = 0) then 24 else 14) (ls' := [some (.ref 0), none]) (st' := []) rfl ?_
    refine Er_pc (t := 24) (show (bif !decide (((1 : Int32)) = 0) then 24 else 14) = 24 from by rw [show (!decide (((1 : Int32)) = 0)) = true from by decide]; rfl) ?_
    refine Er_run 1 (pc' := 25) (ls' := [some (.ref 0), none]) (st' := [.ref 0]) rfl ?_
    refine Er_getR (x := 144) rfl p1.1.1.1 p1.1.1.2.2.2.1 ?_
    obtain ⟨h2, r2, ib2, dn2, n2, e2, z2⟩ := s_Line_reset p1.2.2.1
    obtain ⟨p2, y2⟩ := XS_line (L' := (ib2, dn2, 0, 0)) z2 n2 p1
    refine Er_inv0 (q' := 144) (ci := 6) (av := []) (rest := []) rfl rfl ⟨Nat.le_of_ble_eq_true rfl, Nat.le_of_ble_eq_true rfl⟩ rfl rfl p1.2.2.1.1.1 r2 ?_
    refine Er_run 1 (pc' := 32) (ls' := [some (.ref 0), none]) (st' := [.ref 0]) rfl ?_
    refine Er_getR (x := 373) rfl p2.1.1.1 p2.1.1.2.2.2.2.1 ?_
    obtain ⟨h3, r3, j3, z3⟩ := s_Journal_empty p2.2.2.2.1
    obtain ⟨p3, y3⟩ := XS_jr z3 j3 p2
    refine Er_inv0 (q' := 373) (ci := 9) (av := []) (rest := []) rfl rfl ⟨Nat.le_of_ble_eq_true rfl, Nat.le_of_ble_eq_true rfl⟩ rfl rfl p2.2.2.2.1.1.1 r3 ?_
    refine Er_run 2 (pc' := 40) (ls' := [some (.ref 0), some (.int ((0 : Int32)))]) (st' := []) rfl ?_
    refine l_begin 6 0 h3 rfl (show XS h3 _ _ _ _ _ _ _ _ (fun u => if u < 0 then jw_reset (Ws u) else Ws u) _ _ from p3) (fun h4 p4 y4 => ?_)
    refine Er_run 1 (pc' := 62) (ls' := [some (.ref 0), some (.int (Int32.ofNat 6))]) (st' := [.ref 0]) rfl ?_
    refine Er_getR (x := 379) rfl p4.1.1.1 p4.1.1.2.2.2.2.2.2.1 ?_
    obtain ⟨h5, r5, k5, l5, s5, j5, z5⟩ := s_Master_recall (R := ([], 0, 0)) hca hF trivial (by omega) (by omega) (by omega) p4.2.2.2.2.1 p4.2.2.1 p4.2.1 p4.2.2.2.1
    obtain ⟨p5, y5⟩ := XS_m z5 k5 l5 s5 j5 p4
    refine Er_inv0 (q' := 379) (ci := 10) (av := []) (rest := []) rfl rfl ⟨Nat.le_of_ble_eq_true rfl, Nat.le_of_ble_eq_true rfl⟩ rfl rfl p4.2.2.2.2.1.1.1 r5 ?_
    refine Er_run 2 (pc' := 70) (ls' := [some (.ref 0), some (.int (Int32.ofNat 6))]) (st' := [.int ((1 : Int32)), .ref 0]) rfl ?_
    refine Er_putZ rfl p5.1.1.1 (by decide) ?_
    obtain ⟨p6, y6⟩ := XS_run (b' := true) p5
    have p6 : XS (setI h5 0 6 1) _ _ _ _ _ _ _ _ _ _ _ := p6
    have y6 : SZ h5 (setI h5 0 6 1) := y6
    generalize setI h5 0 6 1 = h6 at p6 y6 ⊢
    refine Er_run 2 (pc' := 75) (ls' := [some (.ref 0), some (.int (Int32.ofNat 6))]) (st' := [.ref 0, .ref 0]) rfl ?_
    refine Er_getI (v := Int32.ofNat n) rfl p6.1.1.1 p6.1.2.2.2 ?_
    refine Er_run 2 (pc' := 80) (ls' := [some (.ref 0), some (.int (Int32.ofNat 6))]) (st' := [.int ((Int32.ofNat n) + ((1 : Int32))), .ref 0]) rfl ?_
    refine Er_putI rfl p6.1.1.1 ?_
    rw [jx_s1]
    obtain ⟨p7, y7⟩ := XS_runs (n' := n + 1) p6
    generalize setI h6 0 7 (Int32.ofNat (n + 1)) = h7 at p7 y7 ⊢
    refine Er_run 1 (pc' := 84) (ls' := [some (.ref 0), some (.int (Int32.ofNat 6))]) (st' := [.ref 0]) rfl ?_
    refine Er_getR (x := 1) rfl p7.1.1.1 p7.1.1.2.1 ?_
    have hch := s_Store_chained p7.2.1.1
    rw [p7.2.1.2.1.2.1] at hch
    refine Er_inv1 (q' := 1) (ci := 3) (av := []) (rest := []) rfl rfl ⟨Nat.le_of_ble_eq_true rfl, Nat.le_of_ble_eq_true rfl⟩ rfl rfl p7.2.1.1.1 hch ?_
    exact Er_fin rfl rfl ⟨rfl, ib2, dn2, p7, e2, ((((((y1.trans y2).trans y3).trans y4).trans y5).trans y6).trans y7)⟩
  obtain ⟨r, h', hr, e, hq⟩ := Run_of (Nat.le_of_ble_eq_true rfl) hx
  subst e
  exact ⟨h', hr, hq⟩
end MILF
