section MASTF
variable {h : sm_H} {a s y r j : Nat} {K : Jk} {L : Jn} {R : Jr} {cl : List Nat} {G : Nat → Nat → Int32} {PR : Nat → Nat → List (Int32 × Int64)} {F : Nat → Jl}
def jk_hears (cl : List Nat) (G : Nat → Nat → Int32) : Nat → Jy → Jy
  | 0, z => z
  | n + 1, z => match z.2.1.1 6 with
    | [] => jk_hears cl G n z
    | m :: l => if jk_over cl z.1 then jk_hears cl G n (z.1, jn_pop z.2.1 6 l, z.2.2) else jk_hears cl G n (jk_hear cl G z.1 (jn_pop z.2.1 6 l) z.2.2 m)
def jk_hok (cl : List Nat) (G : Nat → Nat → Int32) : Nat → Jy → Prop
  | 0, _ => True
  | n + 1, z => match z.2.1.1 6 with
    | [] => jk_hok cl G n z
    | m :: l => if jk_over cl z.1 then jk_hok cl G n (z.1, jn_pop z.2.1 6 l, z.2.2) else jk_mok cl G z.1 z.2.2 m ∧ jk_hok cl G n (jk_hear cl G z.1 (jn_pop z.2.1 6 l) z.2.2 m)
/-- behind the messages -/
def jk_fin (cl : List Nat) (G : Nat → Nat → Int32) (F : Nat → Jl) (K : Jk) (L : Jn) (R : Jr) : Jz := if jk_over cl K then (K, L, R, F) else match K.2.2.1 with
  | none => (K, L, R, F)
  | some j => if K.1 13 = ji (G j 5) then jk_gath cl G K L R F (ji (G j 5)) (ji (G j 4)) (ji (K.2.2.2.1 (38 + K.1 17))) else (K, L, R, F)
def jk_gok (cl : List Nat) (G : Nat → Nat → Int32) (F : Nat → Jl) (K : Jk) (R : Jr) : Prop := jk_over cl K = false → ∀ j, K.2.2.1 = some j → j < 8 ∧ jn0 (G j 5) ∧ ji (G j 5) ≤ 6 ∧ (K.1 13 = ji (G j 5) → K.1 19 < 900000 ∧ (K.1 17 < ji (G j 5) → jn0 (K.2.2.2.1 (38 + K.1 17))) ∧ (K.1 17 < ji (G j 5) → ji (K.2.2.2.1 (38 + K.1 17)) < 7) ∧ ji (G j 4) < 16 ∧ jn0 (G j 4) ∧ R.1.length < 360 ∧ R.2.1 < 900000 ∧ K.1 9 < 90 ∧ jf_ok (jx_up F (ji (G j 4)) K.2.2.2.2.2.2))

theorem l_mfin {x1 x2 x3 : Option Value} (hca : jc_all cl G) (hgo : jk_gok cl G F K R) (hsy : s + 140 ≤ y) (hyr : y + 229 ≤ r) (hra : r + 5 ≤ a) (hk : KK h a s y r K) (hl : LL h y L) (hs : ST h s cl G PR F) (hr : JR h r R) : Ev 127 75 [some (.ref a), x1, x2, x3] [] h (fun r9 h1 => r9 = .inl none ∧ KK h1 a s y r ((jk_fin cl G F K L R).1) ∧ LL h1 y ((jk_fin cl G F K L R).2.1) ∧ ST h1 s cl G PR ((jk_fin cl G F K L R).2.2.2) ∧ JR h1 r ((jk_fin cl G F K L R).2.2.1) ∧ FK a y r s h h1) := by
  cases hv : jk_over cl K with
  | true =>
    have hev : jk_fin cl G F K L R = (K, L, R, F) := by rw [jk_fin, if_pos hv]
    refine Er_run 1 (pc' := 76) (ls' := [some (.ref a), x1, x2, x3]) (st' := [.ref a]) rfl ?_
    have hov := s_Master_isOver hk hs
    rw [hv] at hov
    refine Er_inv1 (q' := a) (ci := 10) (av := []) (rest := []) rfl rfl ⟨Nat.le_of_ble_eq_true rfl, Nat.le_of_ble_eq_true rfl⟩ rfl rfl hk.1.1 hov ?_
    refine Er_run 1 (pc' := bif !decide (((1 : Int32)) = 0) then 107 else 82) (ls' := [some (.ref a), x1, x2, x3]) (st' := []) rfl ?_
    refine Er_pc (t := 107) (show (bif !decide (((1 : Int32)) = 0) then 107 else 82) = 107 from by rw [show (!decide (((1 : Int32)) = 0)) = true from by decide]; rfl) ?_
    refine Er_fin rfl rfl ?_
    rw [hev]
    exact ⟨rfl, hk, hl, hs, hr, (FK.refl a y r s h)⟩
  | false =>
    cases hj : K.2.2.1 with
    | none =>
      have hev : jk_fin cl G F K L R = (K, L, R, F) := by rw [jk_fin, if_neg (by rw [hv]; decide), hj]
      refine Er_run 1 (pc' := 76) (ls' := [some (.ref a), x1, x2, x3]) (st' := [.ref a]) rfl ?_
      have hov := s_Master_isOver hk hs
      rw [hv] at hov
      refine Er_inv1 (q' := a) (ci := 10) (av := []) (rest := []) rfl rfl ⟨Nat.le_of_ble_eq_true rfl, Nat.le_of_ble_eq_true rfl⟩ rfl rfl hk.1.1 hov ?_
      refine Er_run 1 (pc' := bif !decide (((0 : Int32)) = 0) then 107 else 82) (ls' := [some (.ref a), x1, x2, x3]) (st' := []) rfl ?_
      refine Er_pc (t := 82) (show (bif !decide (((0 : Int32)) = 0) then 107 else 82) = 82 from by rw [show (!decide (((0 : Int32)) = 0)) = false from by decide]; rfl) ?_
      refine Er_run 1 (pc' := 83) (ls' := [some (.ref a), x1, x2, x3]) (st' := [.ref a]) rfl ?_
      refine Er_getN rfl hk.1.1 (Eq.trans hk.2.2.2.1 (by rw [hj]; rfl)) ?_
      refine Er_run 1 (pc' := 107) (ls' := [some (.ref a), x1, x2, x3]) (st' := []) rfl ?_
      refine Er_fin rfl rfl ?_
      rw [hev]
      exact ⟨rfl, hk, hl, hs, hr, (FK.refl a y r s h)⟩
    | some j =>
      obtain ⟨hj8, hG5, hnp6, hg⟩ := hgo hv j hj
      have b13 := (hk.2.1 13 (by omega)).2
      by_cases hpd : K.1 13 = ji (G j 5)
      · obtain ⟨c1, c2, c3, c4, c5, c6, c7, c8, c9⟩ := hg hpd
        have hev : jk_fin cl G F K L R = jk_gath cl G K L R F (ji (G j 5)) (ji (G j 4)) (ji (K.2.2.2.1 (38 + K.1 17))) := by rw [jk_fin, if_neg (by rw [hv]; decide), hj]; show (if _ then _ else _) = _; rw [if_pos hpd]
        refine Er_run 1 (pc' := 76) (ls' := [some (.ref a), x1, x2, x3]) (st' := [.ref a]) rfl ?_
        have hov := s_Master_isOver hk hs
        rw [hv] at hov
        refine Er_inv1 (q' := a) (ci := 10) (av := []) (rest := []) rfl rfl ⟨Nat.le_of_ble_eq_true rfl, Nat.le_of_ble_eq_true rfl⟩ rfl rfl hk.1.1 hov ?_
        refine Er_run 1 (pc' := bif !decide (((0 : Int32)) = 0) then 107 else 82) (ls' := [some (.ref a), x1, x2, x3]) (st' := []) rfl ?_
        refine Er_pc (t := 82) (show (bif !decide (((0 : Int32)) = 0) then 107 else 82) = 82 from by rw [show (!decide (((0 : Int32)) = 0)) = false from by decide]; rfl) ?_
        refine Er_run 1 (pc' := 83) (ls' := [some (.ref a), x1, x2, x3]) (st' := [.ref a]) rfl ?_
        refine Er_getR (x := s + 52 + 11 * j) rfl hk.1.1 (Eq.trans hk.2.2.2.1 (by rw [hj]; rfl)) ?_
        refine Er_run 2 (pc' := 90) (ls' := [some (.ref a), x1, x2, x3]) (st' := [.ref a]) rfl ?_
        refine Er_getI (v := Int32.ofNat (K.1 13)) rfl hk.1.1 (show gI h a 13 = Int32.ofNat (K.1 13) from (hk.2.1 13 (by omega)).1) ?_
        refine Er_run 1 (pc' := 94) (ls' := [some (.ref a), x1, x2, x3]) (st' := [.ref a, .int (Int32.ofNat (K.1 13))]) rfl ?_
        refine Er_getR (x := s + 52 + 11 * j) rfl hk.1.1 (Eq.trans hk.2.2.2.1 (by rw [hj]; rfl)) ?_
        have hpt := s_Job_parts (hs.2.2.2 j hj8).1
        rw [(hs.2.2.2 j hj8).2.1 5 (by omega) (by omega), show G j 5 = Int32.ofNat (ji (G j 5)) from hG5] at hpt
        refine Er_inv1 (q' := s + 52 + 11 * j) (ci := 2) (av := []) (rest := [.int (Int32.ofNat (K.1 13))]) rfl rfl ⟨Nat.le_of_ble_eq_true rfl, Nat.le_of_ble_eq_true rfl⟩ rfl rfl (hs.2.2.2 j hj8).1.1 hpt ?_
        refine Er_run 1 (pc' := bif !decide ((Int32.ofNat (K.1 13)) = (Int32.ofNat (ji (G j 5)))) then 107 else 103) (ls' := [some (.ref a), x1, x2, x3]) (st' := []) rfl ?_
        refine Er_pc (t := 103) (show (bif !decide ((Int32.ofNat (K.1 13)) = (Int32.ofNat (ji (G j 5)))) then 107 else 103) = 103 from by rw [show (!decide ((Int32.ofNat (K.1 13)) = (Int32.ofNat (ji (G j 5))))) = false from by rw [hpd]; exact (by rw [decide_eq_true rfl]; rfl)]; rfl) ?_
        refine Er_run 1 (pc' := 104) (ls' := [some (.ref a), x1, x2, x3]) (st' := [.ref a]) rfl ?_
        obtain ⟨h1, rn1, kk1, ll1, ss1, jj1, zq1⟩ := s_Master_gatherParts (np := ji (G j 5)) (f := ji (G j 4)) (v := ji (K.2.2.2.1 (38 + K.1 17))) hj hj8 hG5 hnp6 c1 c2 c3 c4 c5 c6 c7 c8 hca c9 hsy hyr hra hk hl hs hr
        have qq1 : FK a y r s h h1 := FK.trans (FK.refl a y r s h) zq1
        refine Er_inv0 (q' := a) (ci := 10) (av := []) (rest := []) rfl rfl ⟨Nat.le_of_ble_eq_true rfl, Nat.le_of_ble_eq_true rfl⟩ rfl rfl hk.1.1 rn1 ?_
        refine Er_fin rfl rfl ?_
        rw [hev]
        exact ⟨rfl, kk1, ll1, ss1, jj1, qq1⟩
      · have hev : jk_fin cl G F K L R = (K, L, R, F) := by rw [jk_fin, if_neg (by rw [hv]; decide), hj]; show (if _ then _ else _) = _; rw [if_neg hpd]
        refine Er_run 1 (pc' := 76) (ls' := [some (.ref a), x1, x2, x3]) (st' := [.ref a]) rfl ?_
        have hov := s_Master_isOver hk hs
        rw [hv] at hov
        refine Er_inv1 (q' := a) (ci := 10) (av := []) (rest := []) rfl rfl ⟨Nat.le_of_ble_eq_true rfl, Nat.le_of_ble_eq_true rfl⟩ rfl rfl hk.1.1 hov ?_
        refine Er_run 1 (pc' := bif !decide (((0 : Int32)) = 0) then 107 else 82) (ls' := [some (.ref a), x1, x2, x3]) (st' := []) rfl ?_
        refine Er_pc (t := 82) (show (bif !decide (((0 : Int32)) = 0) then 107 else 82) = 82 from by rw [show (!decide (((0 : Int32)) = 0)) = false from by decide]; rfl) ?_
        refine Er_run 1 (pc' := 83) (ls' := [some (.ref a), x1, x2, x3]) (st' := [.ref a]) rfl ?_
        refine Er_getR (x := s + 52 + 11 * j) rfl hk.1.1 (Eq.trans hk.2.2.2.1 (by rw [hj]; rfl)) ?_
        refine Er_run 2 (pc' := 90) (ls' := [some (.ref a), x1, x2, x3]) (st' := [.ref a]) rfl ?_
        refine Er_getI (v := Int32.ofNat (K.1 13)) rfl hk.1.1 (show gI h a 13 = Int32.ofNat (K.1 13) from (hk.2.1 13 (by omega)).1) ?_
        refine Er_run 1 (pc' := 94) (ls' := [some (.ref a), x1, x2, x3]) (st' := [.ref a, .int (Int32.ofNat (K.1 13))]) rfl ?_
        refine Er_getR (x := s + 52 + 11 * j) rfl hk.1.1 (Eq.trans hk.2.2.2.1 (by rw [hj]; rfl)) ?_
        have hpt := s_Job_parts (hs.2.2.2 j hj8).1
        rw [(hs.2.2.2 j hj8).2.1 5 (by omega) (by omega), show G j 5 = Int32.ofNat (ji (G j 5)) from hG5] at hpt
        refine Er_inv1 (q' := s + 52 + 11 * j) (ci := 2) (av := []) (rest := [.int (Int32.ofNat (K.1 13))]) rfl rfl ⟨Nat.le_of_ble_eq_true rfl, Nat.le_of_ble_eq_true rfl⟩ rfl rfl (hs.2.2.2 j hj8).1.1 hpt ?_
        refine Er_run 1 (pc' := bif !decide ((Int32.ofNat (K.1 13)) = (Int32.ofNat (ji (G j 5)))) then 107 else 103) (ls' := [some (.ref a), x1, x2, x3]) (st' := []) rfl ?_
        refine Er_pc (t := 107) (show (bif !decide ((Int32.ofNat (K.1 13)) = (Int32.ofNat (ji (G j 5)))) then 107 else 103) = 107 from by rw [show (!decide ((Int32.ofNat (K.1 13)) = (Int32.ofNat (ji (G j 5))))) = true from by rw [jx_eq (by omega) (by omega), decide_eq_false hpd]; rfl]; rfl) ?_
        refine Er_fin rfl rfl ?_
        rw [hev]
        exact ⟨rfl, hk, hl, hs, hr, (FK.refl a y r s h)⟩
theorem l_mhears {n : Nat} {Q : sm_R → sm_H → Prop} (hn : n < 100) (hsy : s + 140 ≤ y) (hyr : y + 229 ≤ r) (hra : r + 5 ≤ a) : ∀ (f i : Nat) (h : sm_H) (K : Jk) (L : Jn) (R : Jr) (x3 : Option Value), i + f = n → KK h a s y r K → LL h y L → ST h s cl G PR F → JR h r R → jk_hok cl G f (K, L, R) → (∀ h' x3, KK h' a s y r (jk_hears cl G f (K, L, R)).1 → LL h' y (jk_hears cl G f (K, L, R)).2.1 → ST h' s cl G PR F → JR h' r (jk_hears cl G f (K, L, R)).2.2 → FK a y r s h h' → Ev 127 75 [some (.ref a), some (.int (Int32.ofNat n)), some (.int (Int32.ofNat n)), x3] [] h' Q) → Ev 127 38 [some (.ref a), some (.int (Int32.ofNat n)), some (.int (Int32.ofNat i)), x3] [] h Q := by
  intro f
  induction f with
  | zero =>
    intro i h K L R x3 hi hk hl hs hr hok kk
    refine Er_run 3 (pc' := bif decide ((Int32.ofNat n) ≤ (Int32.ofNat i)) then 75 else 43) (ls' := [some (.ref a), some (.int (Int32.ofNat n)), some (.int (Int32.ofNat i)), x3]) (st' := []) rfl ?_
    refine Er_pc (t := 75) (show (bif decide ((Int32.ofNat n) ≤ (Int32.ofNat i)) then 75 else 43) = 75 from by rw [show (decide ((Int32.ofNat n) ≤ (Int32.ofNat i))) = true from by rw [jx_le (by omega) (by omega)]; exact decide_eq_true (by omega)]; rfl) ?_
    have e : i = n := by omega
    subst e
    exact kk h x3 hk hl hs hr (FK.refl a y r s h)
  | succ f ih =>
    intro i h K L R x3 hi hk hl hs hr hok kk
    rw [jk_hok] at hok
    rw [jk_hears] at kk
    cases hib : L.1 6 with
    | nil =>
      simp only [hib] at kk hok
      refine Er_run 3 (pc' := bif decide ((Int32.ofNat n) ≤ (Int32.ofNat i)) then 75 else 43) (ls' := [some (.ref a), some (.int (Int32.ofNat n)), some (.int (Int32.ofNat i)), x3]) (st' := []) rfl ?_
      refine Er_pc (t := 43) (show (bif decide ((Int32.ofNat n) ≤ (Int32.ofNat i)) then 75 else 43) = 43 from by rw [show (decide ((Int32.ofNat n) ≤ (Int32.ofNat i))) = false from by rw [jx_le (by omega) (by omega)]; exact decide_eq_false (by omega)]; rfl) ?_
      refine Er_run 1 (pc' := 44) (ls' := [some (.ref a), some (.int (Int32.ofNat n)), some (.int (Int32.ofNat i)), x3]) (st' := [.ref a]) rfl ?_
      refine Er_getR (x := y) rfl hk.1.1 hk.1.2.2.1 ?_
      refine Er_run 1 (pc' := 49) (ls' := [some (.ref a), some (.int (Int32.ofNat n)), some (.int (Int32.ofNat i)), x3]) (st' := [.int ((6 : Int32)), .ref y]) rfl ?_
      refine Er_inv1 (q' := y) (ci := 6) (av := [.int ((6 : Int32))]) (rest := []) rfl rfl ⟨Nat.le_of_ble_eq_true rfl, Nat.le_of_ble_eq_true rfl⟩ rfl rfl hl.1.1 (s_Line_next0 (x := 6) hl (by omega) hib) ?_
      refine Er_run 5 (pc' := 38) (ls' := [some (.ref a), some (.int (Int32.ofNat n)), some (.int ((Int32.ofNat i) + (1 : Int32))), some (.null)]) (st' := []) rfl ?_
      rw [jx_s1]
      exact ih (i + 1) h _ _ _ _ (by omega) hk hl hs hr hok kk
    | cons m lr =>
      simp only [hib] at kk hok
      cases hv : jk_over cl K with
      | true =>
        rw [if_pos hv] at hok kk
        refine Er_run 3 (pc' := bif decide ((Int32.ofNat n) ≤ (Int32.ofNat i)) then 75 else 43) (ls' := [some (.ref a), some (.int (Int32.ofNat n)), some (.int (Int32.ofNat i)), x3]) (st' := []) rfl ?_
        refine Er_pc (t := 43) (show (bif decide ((Int32.ofNat n) ≤ (Int32.ofNat i)) then 75 else 43) = 43 from by rw [show (decide ((Int32.ofNat n) ≤ (Int32.ofNat i))) = false from by rw [jx_le (by omega) (by omega)]; exact decide_eq_false (by omega)]; rfl) ?_
        refine Er_run 1 (pc' := 44) (ls' := [some (.ref a), some (.int (Int32.ofNat n)), some (.int (Int32.ofNat i)), x3]) (st' := [.ref a]) rfl ?_
        refine Er_getR (x := y) rfl hk.1.1 hk.1.2.2.1 ?_
        refine Er_run 1 (pc' := 49) (ls' := [some (.ref a), some (.int (Int32.ofNat n)), some (.int (Int32.ofNat i)), x3]) (st' := [.int ((6 : Int32)), .ref y]) rfl ?_
        obtain ⟨c, h1, rn1, hc1, hc2, ll1, g1, z1⟩ := s_Line_next1 (x := 6) hl (by omega) hib
        have kk1 : KK h1 a s y r K := KK_fr z1 (by omega) hk
        have ll1 : LL h1 y (jn_pop L 6 lr) := ll1
        have ss1 := ST_fr z1 (by omega) hs
        have jj1 := JR_fr z1 (by omega) hr
        have qq1 : FK a y r s h h1 := FK.trans (FK.refl a y r s h) (FK.of z1 (by omega))
        refine Er_inv1 (q' := y) (ci := 6) (av := [.int ((6 : Int32))]) (rest := []) rfl rfl ⟨Nat.le_of_ble_eq_true rfl, Nat.le_of_ble_eq_true rfl⟩ rfl rfl hl.1.1 rn1 ?_
        refine Er_run 4 (pc' := 58) (ls' := [some (.ref a), some (.int (Int32.ofNat n)), some (.int (Int32.ofNat i)), some (.ref c)]) (st' := [.ref a]) rfl ?_
        have hov := s_Master_isOver kk1 ss1
        rw [hv] at hov
        refine Er_inv1 (q' := a) (ci := 10) (av := []) (rest := []) rfl rfl ⟨Nat.le_of_ble_eq_true rfl, Nat.le_of_ble_eq_true rfl⟩ rfl rfl kk1.1.1 hov ?_
        refine Er_run 1 (pc' := bif !decide (((1 : Int32)) = 0) then 69 else 64) (ls' := [some (.ref a), some (.int (Int32.ofNat n)), some (.int (Int32.ofNat i)), some (.ref c)]) (st' := []) rfl ?_
        refine Er_pc (t := 69) (show (bif !decide (((1 : Int32)) = 0) then 69 else 64) = 69 from by rw [show (!decide (((1 : Int32)) = 0)) = true from by decide]; rfl) ?_
        refine Er_run 2 (pc' := 38) (ls' := [some (.ref a), some (.int (Int32.ofNat n)), some (.int ((Int32.ofNat i) + (1 : Int32))), some (.ref c)]) (st' := []) rfl ?_
        rw [jx_s1]
        exact ih (i + 1) h1 _ _ _ _ (by omega) kk1 ll1 ss1 jj1 hok (fun h9 x9 a1 a2 a3 a4 a5 => kk h9 x9 a1 a2 a3 a4 (FK.trans qq1 a5))
      | false =>
        rw [if_neg (by rw [hv]; decide)] at hok kk
        refine Er_run 3 (pc' := bif decide ((Int32.ofNat n) ≤ (Int32.ofNat i)) then 75 else 43) (ls' := [some (.ref a), some (.int (Int32.ofNat n)), some (.int (Int32.ofNat i)), x3]) (st' := []) rfl ?_
        refine Er_pc (t := 43) (show (bif decide ((Int32.ofNat n) ≤ (Int32.ofNat i)) then 75 else 43) = 43 from by rw [show (decide ((Int32.ofNat n) ≤ (Int32.ofNat i))) = false from by rw [jx_le (by omega) (by omega)]; exact decide_eq_false (by omega)]; rfl) ?_
        refine Er_run 1 (pc' := 44) (ls' := [some (.ref a), some (.int (Int32.ofNat n)), some (.int (Int32.ofNat i)), x3]) (st' := [.ref a]) rfl ?_
        refine Er_getR (x := y) rfl hk.1.1 hk.1.2.2.1 ?_
        refine Er_run 1 (pc' := 49) (ls' := [some (.ref a), some (.int (Int32.ofNat n)), some (.int (Int32.ofNat i)), x3]) (st' := [.int ((6 : Int32)), .ref y]) rfl ?_
        obtain ⟨c, h1, rn1, hc1, hc2, ll1, g1, z1⟩ := s_Line_next1 (x := 6) hl (by omega) hib
        have kk1 : KK h1 a s y r K := KK_fr z1 (by omega) hk
        have ll1 : LL h1 y (jn_pop L 6 lr) := ll1
        have ss1 := ST_fr z1 (by omega) hs
        have jj1 := JR_fr z1 (by omega) hr
        have qq1 : FK a y r s h h1 := FK.trans (FK.refl a y r s h) (FK.of z1 (by omega))
        refine Er_inv1 (q' := y) (ci := 6) (av := [.int ((6 : Int32))]) (rest := []) rfl rfl ⟨Nat.le_of_ble_eq_true rfl, Nat.le_of_ble_eq_true rfl⟩ rfl rfl hl.1.1 rn1 ?_
        refine Er_run 4 (pc' := 58) (ls' := [some (.ref a), some (.int (Int32.ofNat n)), some (.int (Int32.ofNat i)), some (.ref c)]) (st' := [.ref a]) rfl ?_
        have hov := s_Master_isOver kk1 ss1
        rw [hv] at hov
        refine Er_inv1 (q' := a) (ci := 10) (av := []) (rest := []) rfl rfl ⟨Nat.le_of_ble_eq_true rfl, Nat.le_of_ble_eq_true rfl⟩ rfl rfl kk1.1.1 hov ?_
        refine Er_run 1 (pc' := bif !decide (((0 : Int32)) = 0) then 69 else 64) (ls' := [some (.ref a), some (.int (Int32.ofNat n)), some (.int (Int32.ofNat i)), some (.ref c)]) (st' := []) rfl ?_
        refine Er_pc (t := 64) (show (bif !decide (((0 : Int32)) = 0) then 69 else 64) = 64 from by rw [show (!decide (((0 : Int32)) = 0)) = false from by decide]; rfl) ?_
        refine Er_run 2 (pc' := 66) (ls' := [some (.ref a), some (.int (Int32.ofNat n)), some (.int (Int32.ofNat i)), some (.ref c)]) (st' := [.ref c, .ref a]) rfl ?_
        obtain ⟨h2, rn2, kk2, ll2, ss2, jj2, zq2⟩ := s_Master_hear g1 (by omega) hok.1 hsy hyr hra kk1 ll1 ss1 jj1
        have qq2 : FK a y r s h h2 := FK.trans qq1 zq2
        refine Er_inv0 (q' := a) (ci := 10) (av := [.ref c]) (rest := []) rfl rfl ⟨Nat.le_of_ble_eq_true rfl, Nat.le_of_ble_eq_true rfl⟩ rfl rfl kk1.1.1 rn2 ?_
        refine Er_run 2 (pc' := 38) (ls' := [some (.ref a), some (.int (Int32.ofNat n)), some (.int ((Int32.ofNat i) + (1 : Int32))), some (.ref c)]) (st' := []) rfl ?_
        rw [jx_s1]
        exact ih (i + 1) h2 _ _ _ _ (by omega) kk2 ll2 ss2 jj2 hok.2 (fun h9 x9 a1 a2 a3 a4 a5 => kk h9 x9 a1 a2 a3 a4 (FK.trans qq2 a5))
def jk_tick (K : Jk) : Jk := jk_sg K 16 (K.1 16 + 1)
def jk_heard (cl : List Nat) (G : Nat → Nat → Int32) (K : Jk) (L : Jn) (R : Jr) : Jy := jk_hears cl G (L.1 6).length (jk_tick K, L, R)
def jk_body (cl : List Nat) (G : Nat → Nat → Int32) (F : Nat → Jl) (K : Jk) (L : Jn) (R : Jr) : Jz := jk_fin cl G F (jk_heard cl G K L R).1 (jk_heard cl G K L R).2.1 (jk_heard cl G K L R).2.2
def jk_bok (cl : List Nat) (G : Nat → Nat → Int32) (F : Nat → Jl) (K : Jk) (L : Jn) (R : Jr) : Prop := K.1 16 < 90000000 ∧ jk_hok cl G (L.1 6).length (jk_tick K, L, R) ∧ jk_gok cl G F (jk_heard cl G K L R).1 (jk_heard cl G K L R).2.2
def jk_up (cl : List Nat) (G : Nat → Nat → Int32) (F : Nat → Jl) (K : Jk) (L : Jn) (R : Jr) : Jk := if L.2.1 6 then jk_recall cl G F K R else K
/-- a tick of the Master -/
def jk_work (cl : List Nat) (G : Nat → Nat → Int32) (F : Nat → Jl) (K : Jk) (L : Jn) (R : Jr) : Jz := jk_body cl G F (jk_up cl G F K L R) (jn_up L 6) R
theorem l_mbody (hca : jc_all cl G) (hbo : jk_bok cl G F K L R) (hsy : s + 140 ≤ y) (hyr : y + 229 ≤ r) (hra : r + 5 ≤ a) (hk : KK h a s y r K) (hl : LL h y L) (hs : ST h s cl G PR F) (hr : JR h r R) : Ev 127 16 [some (.ref a), none, none, none] [] h (fun r9 h1 => r9 = .inl none ∧ KK h1 a s y r ((jk_body cl G F K L R).1) ∧ LL h1 y ((jk_body cl G F K L R).2.1) ∧ ST h1 s cl G PR ((jk_body cl G F K L R).2.2.2) ∧ JR h1 r ((jk_body cl G F K L R).2.2.1) ∧ FK a y r s h h1) := by
  have hlen := (hl.2.1 6 (by omega)).1.1
  have hck := hbo.1
  refine Er_run 2 (pc' := 18) (ls' := [some (.ref a), none, none, none]) (st' := [.ref a, .ref a]) rfl ?_
  refine Er_getI (v := Int32.ofNat (K.1 16)) rfl hk.1.1 (show gI h a 16 = Int32.ofNat (K.1 16) from (hk.2.1 16 (by omega)).1) ?_
  refine Er_run 2 (pc' := 23) (ls' := [some (.ref a), none, none, none]) (st' := [.int ((Int32.ofNat (K.1 16)) + ((1 : Int32))), .ref a]) rfl ?_
  refine Er_putI rfl hk.1.1 ?_
  rw [jx_s1]
  have z1 : Fr a (a + 1) h (setI h a 16 (Int32.ofNat (K.1 16 + 1))) := Fr.setI (by omega) (by omega)
  have kk1 : KK (setI h a 16 (Int32.ofNat (K.1 16 + 1))) a s y r (jk_sg K 16 (K.1 16 + 1)) := KK_sg (x := K.1 16 + 1) (by decide) (by omega) hk
  generalize setI h a 16 (Int32.ofNat (K.1 16 + 1)) = h1 at z1 kk1 ⊢
  have ll1 := LL_fr z1 (by omega) hl
  have ss1 := ST_fr z1 (by omega) hs
  have jj1 := JR_fr z1 (by omega) hr
  have qq1 : FK a y r s h h1 := FK.trans (FK.refl a y r s h) (FK.of z1 (by omega))
  refine Er_run 1 (pc' := 27) (ls' := [some (.ref a), none, none, none]) (st' := [.ref a]) rfl ?_
  refine Er_getR (x := y) rfl kk1.1.1 kk1.1.2.2.1 ?_
  refine Er_run 1 (pc' := 32) (ls' := [some (.ref a), none, none, none]) (st' := [.int ((6 : Int32)), .ref y]) rfl ?_
  refine Er_inv1 (q' := y) (ci := 6) (av := [.int ((6 : Int32))]) (rest := []) rfl rfl ⟨Nat.le_of_ble_eq_true rfl, Nat.le_of_ble_eq_true rfl⟩ rfl rfl ll1.1.1 (s_Line_waiting (x := 6) ll1 (by omega)) ?_
  refine Er_run 3 (pc' := 38) (ls' := [some (.ref a), some (.int (Int32.ofNat (L.1 6).length)), some (.int ((0 : Int32))), none]) (st' := []) rfl ?_
  refine l_mhears (by omega) hsy hyr hra (L.1 6).length 0 h1 (jk_tick K) L R none (by omega) kk1 ll1 ss1 jj1 hbo.2.1 (fun h9 x9 a1 a2 a3 a4 a5 => ?_)
  exact sm_Ev.mono (l_mfin hca hbo.2.2 hsy hyr hra a1 a2 a3 a4) (fun r9 h2 z => ⟨z.1, z.2.1, z.2.2.1, z.2.2.2.1, z.2.2.2.2.1, FK.trans (FK.trans qq1 a5) z.2.2.2.2.2⟩)
theorem s_Master_work (hca : jc_all cl G) (hF : jf_ok F) (hrc : L.2.1 6 = true → jk_rok cl G F R.1 (jk_forget cl G F K)) (hbo : jk_bok cl G F (jk_up cl G F K L R) (jn_up L 6) R) (hsy : s + 140 ≤ y) (hyr : y + 229 ≤ r) (hra : r + 5 ≤ a) (hk : KK h a s y r K) (hl : LL h y L) (hs : ST h s cl G PR F) (hr : JR h r R) : ∃ h', Run 127 [.ref a] h (.inl none) h' ∧ KK h' a s y r ((jk_work cl G F K L R).1) ∧ LL h' y ((jk_work cl G F K L R).2.1) ∧ ST h' s cl G PR ((jk_work cl G F K L R).2.2.2) ∧ JR h' r ((jk_work cl G F K L R).2.2.1) ∧ FK a y r s h h' := by
  have hx : Ev 127 0 (sm_pad (sm_ent [.ref a]) (sm_prog.2.1 127)) [] h (fun r9 h1 => r9 = .inl none ∧ KK h1 a s y r ((jk_work cl G F K L R).1) ∧ LL h1 y ((jk_work cl G F K L R).2.1) ∧ ST h1 s cl G PR ((jk_work cl G F K L R).2.2.2) ∧ JR h1 r ((jk_work cl G F K L R).2.2.1) ∧ FK a y r s h h1) := by
    cases hd : L.2.1 6 with
    | true =>
      show Ev 127 0 [some (.ref a), none, none, none] [] h _
      refine Er_run 1 (pc' := 1) (ls' := [some (.ref a), none, none, none]) (st' := [.ref a]) rfl ?_
      refine Er_getR (x := y) rfl hk.1.1 hk.1.2.2.1 ?_
      refine Er_run 1 (pc' := 6) (ls' := [some (.ref a), none, none, none]) (st' := [.int ((6 : Int32)), .ref y]) rfl ?_
      have hrj := s_Line_rejoin (x := 6) hl (by omega)
      rw [hd] at hrj
      obtain ⟨h1, rn1, ll1, z1⟩ := hrj
      have kk1 : KK h1 a s y r K := KK_fr z1 (by omega) hk
      have ll1 : LL h1 y (jn_up L 6) := ll1
      have ss1 := ST_fr z1 (by omega) hs
      have jj1 := JR_fr z1 (by omega) hr
      have qq1 : FK a y r s h h1 := FK.trans (FK.refl a y r s h) (FK.of z1 (by omega))
      refine Er_inv1 (q' := y) (ci := 6) (av := [.int ((6 : Int32))]) (rest := []) rfl rfl ⟨Nat.le_of_ble_eq_true rfl, Nat.le_of_ble_eq_true rfl⟩ rfl rfl hl.1.1 rn1 ?_
      refine Er_run 1 (pc' := bif decide (((1 : Int32)) = 0) then 16 else 12) (ls' := [some (.ref a), none, none, none]) (st' := []) rfl ?_
      refine Er_pc (t := 12) (show (bif decide (((1 : Int32)) = 0) then 16 else 12) = 12 from by rw [show (decide (((1 : Int32)) = 0)) = false from by decide]; rfl) ?_
      refine Er_run 1 (pc' := 13) (ls' := [some (.ref a), none, none, none]) (st' := [.ref a]) rfl ?_
      obtain ⟨h2, rn2, kk2, ll2, ss2, jj2, zq2⟩ := s_Master_recall hca hF (hrc hd) hsy hyr hra kk1 ll1 ss1 jj1
      have qq2 : FK a y r s h h2 := FK.trans qq1 zq2
      refine Er_inv0 (q' := a) (ci := 10) (av := []) (rest := []) rfl rfl ⟨Nat.le_of_ble_eq_true rfl, Nat.le_of_ble_eq_true rfl⟩ rfl rfl kk1.1.1 rn2 ?_
      have hbo2 := hbo
      rw [jk_up, if_pos hd] at hbo2
      rw [jk_work, jk_up, if_pos hd]
      exact sm_Ev.mono (l_mbody hca hbo2 hsy hyr hra kk2 ll2 ss2 jj2) (fun r9 h9 z => ⟨z.1, z.2.1, z.2.2.1, z.2.2.2.1, z.2.2.2.2.1, FK.trans qq2 z.2.2.2.2.2⟩)
    | false =>
      show Ev 127 0 [some (.ref a), none, none, none] [] h _
      refine Er_run 1 (pc' := 1) (ls' := [some (.ref a), none, none, none]) (st' := [.ref a]) rfl ?_
      refine Er_getR (x := y) rfl hk.1.1 hk.1.2.2.1 ?_
      refine Er_run 1 (pc' := 6) (ls' := [some (.ref a), none, none, none]) (st' := [.int ((6 : Int32)), .ref y]) rfl ?_
      have hrj := s_Line_rejoin (x := 6) hl (by omega)
      rw [hd] at hrj
      obtain ⟨h1, rn1, ll1, z1⟩ := hrj
      have kk1 : KK h1 a s y r K := KK_fr z1 (by omega) hk
      have ll1 : LL h1 y (jn_up L 6) := ll1
      have ss1 := ST_fr z1 (by omega) hs
      have jj1 := JR_fr z1 (by omega) hr
      have qq1 : FK a y r s h h1 := FK.trans (FK.refl a y r s h) (FK.of z1 (by omega))
      refine Er_inv1 (q' := y) (ci := 6) (av := [.int ((6 : Int32))]) (rest := []) rfl rfl ⟨Nat.le_of_ble_eq_true rfl, Nat.le_of_ble_eq_true rfl⟩ rfl rfl hl.1.1 rn1 ?_
      refine Er_run 1 (pc' := bif decide (((0 : Int32)) = 0) then 16 else 12) (ls' := [some (.ref a), none, none, none]) (st' := []) rfl ?_
      refine Er_pc (t := 16) (show (bif decide (((0 : Int32)) = 0) then 16 else 12) = 16 from by rw [show (decide (((0 : Int32)) = 0)) = true from by decide]; rfl) ?_
      have hbo2 := hbo
      rw [jk_up, if_neg (by rw [hd]; decide)] at hbo2
      rw [jk_work, jk_up, if_neg (by rw [hd]; decide)]
      exact sm_Ev.mono (l_mbody hca hbo2 hsy hyr hra kk1 ll1 ss1 jj1) (fun r9 h9 z => ⟨z.1, z.2.1, z.2.2.1, z.2.2.2.1, z.2.2.2.2.1, FK.trans qq1 z.2.2.2.2.2⟩)
  obtain ⟨r9, h', hrr, e, hq⟩ := Run_of (Nat.le_of_ble_eq_true rfl) hx
  subst e
  exact ⟨h', hrr, hq⟩
end MASTF
