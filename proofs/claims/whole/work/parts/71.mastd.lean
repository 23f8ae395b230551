section MASTD
variable {h : sm_H} {a s y r j : Nat} {K : Jk} {L : Jn} {R : Jr} {cl : List Nat} {G : Nat → Nat → Int32} {PR : Nat → Nat → List (Int32 × Int64)} {F : Nat → Jl}
def jk_pg1 (K : Jk) (m : Jm) (k : Nat) : Jk := jk_sg (jk_sg (jk_sP K ((K.2.2.2.2.2.2 ++ jm_prs m k).take 300)) 18 (K.1 18 + k)) 19 4
def jk_pg2 (K : Jk) (m : Jm) (k tt : Nat) : Jk := if K.1 18 + k < tt then jk_pg1 K m k else jk_sg (jk_sg (jk_pg1 K m k) 17 (K.1 17 + 1)) 18 0
def jk_an (K : Jk) (m : Jm) : Bool := jm_ans m (Int32.ofNat (K.1 9)) (Int32.ofNat (38 + K.1 17)) (Int32.ofNat (K.1 17)) (Int32.ofNat (K.1 18))
def jk_hp (K : Jk) (m : Jm) (k tt : Nat) : Jk := if jk_an K m then jk_pg2 K m k tt else K

/-- unload, where the row may be full -/
theorem l_unloadT {c b n k : Nat} {m : Jm} {l : Jl} (hk : m.1 9 = Int32.ofNat k) (hk2 : k < 1000000) (hcb : c + 2 ≤ b ∨ b + 3 ≤ c) : ∀ (f i : Nat) (h : sm_H), i + f = k → MG h c m → PL h b n ((l ++ jm_prs m i).take n) → Ev 68 2 [some (.ref c), some (.ref b), some (.int (Int32.ofNat i))] [] h (fun r h1 => r = .inl none ∧ PL h1 b n ((l ++ jm_prs m k).take n) ∧ Fr b (b + 3) h h1) := by
  intro f
  induction f with
  | zero =>
    intro i h hi hm hp
    have e : i = k := by omega
    subst e
    refine Er_run 2 (pc' := 4) (ls' := [some (.ref c), some (.ref b), some (.int (Int32.ofNat i))]) (st' := [.ref c, .int (Int32.ofNat i)]) rfl ?_
    refine Er_getI (v := Int32.ofNat i) rfl hm.1.1 (by rw [← hk]; exact hm.2.2.2.1 9 (by omega) (by omega)) ?_
    refine Er_run 1 (pc' := bif decide ((Int32.ofNat i) ≤ (Int32.ofNat i)) then 37 else 10) (ls' := [some (.ref c), some (.ref b), some (.int (Int32.ofNat i))]) (st' := []) rfl ?_
    refine Er_pc (t := 37) (show (bif decide ((Int32.ofNat i) ≤ (Int32.ofNat i)) then 37 else 10) = 37 from by rw [show (decide ((Int32.ofNat i) ≤ (Int32.ofNat i))) = true from by rw [jx_le (by omega) (by omega)]; exact decide_eq_true (by omega)]; rfl) ?_
    exact Er_fin rfl rfl ⟨rfl, hp, Fr.refl _ _ _⟩
  | succ f ih =>
    intro i h hi hm hp
    have hle := hp.2.2.1
    by_cases hfl : ((l ++ jm_prs m i).take n).length < n
    · skip
      refine Er_run 2 (pc' := 4) (ls' := [some (.ref c), some (.ref b), some (.int (Int32.ofNat i))]) (st' := [.ref c, .int (Int32.ofNat i)]) rfl ?_
      refine Er_getI (v := Int32.ofNat k) rfl hm.1.1 (by rw [← hk]; exact hm.2.2.2.1 9 (by omega) (by omega)) ?_
      refine Er_run 1 (pc' := bif decide ((Int32.ofNat k) ≤ (Int32.ofNat i)) then 37 else 10) (ls' := [some (.ref c), some (.ref b), some (.int (Int32.ofNat i))]) (st' := []) rfl ?_
      refine Er_pc (t := 10) (show (bif decide ((Int32.ofNat k) ≤ (Int32.ofNat i)) then 37 else 10) = 10 from by rw [show (decide ((Int32.ofNat k) ≤ (Int32.ofNat i))) = false from by rw [jx_le (by omega) (by omega)]; exact decide_eq_false (by omega)]; rfl) ?_
      refine Er_run 5 (pc' := 15) (ls' := [some (.ref c), some (.ref b), some (.int (Int32.ofNat i))]) (st' := [.int (((2 : Int32)) * (Int32.ofNat i)), .ref c, .ref b]) rfl ?_
      refine Er_inv1 (q' := c) (ci := 5) (av := [.int (((2 : Int32)) * (Int32.ofNat i))]) (rest := [.ref b]) rfl rfl ⟨Nat.le_of_ble_eq_true rfl, Nat.le_of_ble_eq_true rfl⟩ rfl rfl hm.1.1 (show Run 66 [.ref c, .int ((2 : Int32) * Int32.ofNat i)] h (.inl (some (.long (jm_get m (2 * i))))) h from by rw [show (2 : Int32) * Int32.ofNat i = Int32.ofNat (2 * i) from (Int32.ofNat_mul 2 i).symm]; exact s_Message_get hm (by omega)) ?_
      refine Er_run 6 (pc' := 24) (ls' := [some (.ref c), some (.ref b), some (.int (Int32.ofNat i))]) (st' := [.int ((((2 : Int32)) * (Int32.ofNat i)) + ((1 : Int32))), .ref c, .long (jm_get m (2 * i)), .ref b]) rfl ?_
      refine Er_inv1 (q' := c) (ci := 5) (av := [.int ((((2 : Int32)) * (Int32.ofNat i)) + ((1 : Int32)))]) (rest := [.long (jm_get m (2 * i)), .ref b]) rfl rfl ⟨Nat.le_of_ble_eq_true rfl, Nat.le_of_ble_eq_true rfl⟩ rfl rfl hm.1.1 (show Run 66 [.ref c, .int ((2 : Int32) * Int32.ofNat i + 1)] h (.inl (some (.long (jm_get m (2 * i + 1))))) h from by rw [show (2 : Int32) * Int32.ofNat i = Int32.ofNat (2 * i) from (Int32.ofNat_mul 2 i).symm, jx_s1]; exact s_Message_get hm (by omega)) ?_
      obtain ⟨h1, r1, p1, f1⟩ := s_Pairs_add1 (k := jm_get m (2 * i)) (v := jm_get m (2 * i + 1)) hp hfl
      refine Er_inv1 (q' := b) (ci := 0) (av := [.long (jm_get m (2 * i)), .long (jm_get m (2 * i + 1))]) (rest := []) rfl rfl ⟨Nat.le_of_ble_eq_true rfl, Nat.le_of_ble_eq_true rfl⟩ rfl rfl hp.1.1 r1 ?_
      refine Er_run 3 (pc' := 2) (ls' := [some (.ref c), some (.ref b), some (.int ((Int32.ofNat i) + (1 : Int32)))]) (st' := []) rfl ?_
      rw [jx_s1]
      refine sm_Ev.mono (ih (i + 1) h1 (by omega) (MG_fr f1 (by omega) hm) ?_) (fun r h2 y => ⟨y.1, y.2.1, f1.trans y.2.2⟩)
      rw [List.length_take] at hfl
      rw [List.take_of_length_le (by omega)] at p1
      rw [jm_prs_succ, ← List.append_assoc, List.take_of_length_le (by rw [List.length_append, List.length_singleton]; omega)]
      exact p1
    · have hfl : ((l ++ jm_prs m i).take n).length = n := by omega
      refine Er_run 2 (pc' := 4) (ls' := [some (.ref c), some (.ref b), some (.int (Int32.ofNat i))]) (st' := [.ref c, .int (Int32.ofNat i)]) rfl ?_
      refine Er_getI (v := Int32.ofNat k) rfl hm.1.1 (by rw [← hk]; exact hm.2.2.2.1 9 (by omega) (by omega)) ?_
      refine Er_run 1 (pc' := bif decide ((Int32.ofNat k) ≤ (Int32.ofNat i)) then 37 else 10) (ls' := [some (.ref c), some (.ref b), some (.int (Int32.ofNat i))]) (st' := []) rfl ?_
      refine Er_pc (t := 10) (show (bif decide ((Int32.ofNat k) ≤ (Int32.ofNat i)) then 37 else 10) = 10 from by rw [show (decide ((Int32.ofNat k) ≤ (Int32.ofNat i))) = false from by rw [jx_le (by omega) (by omega)]; exact decide_eq_false (by omega)]; rfl) ?_
      refine Er_run 5 (pc' := 15) (ls' := [some (.ref c), some (.ref b), some (.int (Int32.ofNat i))]) (st' := [.int (((2 : Int32)) * (Int32.ofNat i)), .ref c, .ref b]) rfl ?_
      refine Er_inv1 (q' := c) (ci := 5) (av := [.int (((2 : Int32)) * (Int32.ofNat i))]) (rest := [.ref b]) rfl rfl ⟨Nat.le_of_ble_eq_true rfl, Nat.le_of_ble_eq_true rfl⟩ rfl rfl hm.1.1 (show Run 66 [.ref c, .int ((2 : Int32) * Int32.ofNat i)] h (.inl (some (.long (jm_get m (2 * i))))) h from by rw [show (2 : Int32) * Int32.ofNat i = Int32.ofNat (2 * i) from (Int32.ofNat_mul 2 i).symm]; exact s_Message_get hm (by omega)) ?_
      refine Er_run 6 (pc' := 24) (ls' := [some (.ref c), some (.ref b), some (.int (Int32.ofNat i))]) (st' := [.int ((((2 : Int32)) * (Int32.ofNat i)) + ((1 : Int32))), .ref c, .long (jm_get m (2 * i)), .ref b]) rfl ?_
      refine Er_inv1 (q' := c) (ci := 5) (av := [.int ((((2 : Int32)) * (Int32.ofNat i)) + ((1 : Int32)))]) (rest := [.long (jm_get m (2 * i)), .ref b]) rfl rfl ⟨Nat.le_of_ble_eq_true rfl, Nat.le_of_ble_eq_true rfl⟩ rfl rfl hm.1.1 (show Run 66 [.ref c, .int ((2 : Int32) * Int32.ofNat i + 1)] h (.inl (some (.long (jm_get m (2 * i + 1))))) h from by rw [show (2 : Int32) * Int32.ofNat i = Int32.ofNat (2 * i) from (Int32.ofNat_mul 2 i).symm, jx_s1]; exact s_Message_get hm (by omega)) ?_
      refine Er_inv1 (q' := b) (ci := 0) (av := [.long (jm_get m (2 * i)), .long (jm_get m (2 * i + 1))]) (rest := []) rfl rfl ⟨Nat.le_of_ble_eq_true rfl, Nat.le_of_ble_eq_true rfl⟩ rfl rfl hp.1.1 (s_Pairs_add0 hp hfl) ?_
      refine Er_run 3 (pc' := 2) (ls' := [some (.ref c), some (.ref b), some (.int ((Int32.ofNat i) + (1 : Int32)))]) (st' := []) rfl ?_
      rw [jx_s1]
      exact ih (i + 1) h (by omega) hm (by rw [jm_prs_succ, ← List.append_assoc, List.take_append_of_le_length (by rw [List.length_take] at hfl; omega)]; exact hp)
theorem s_Message_unloadT {c b n k : Nat} {m : Jm} {l : Jl} (hm : MG h c m) (hp : PL h b n l) (hk : m.1 9 = Int32.ofNat k) (hk2 : k < 1000000) (hcb : c + 2 ≤ b ∨ b + 3 ≤ c) : ∃ h', Run 68 [.ref c, .ref b] h (.inl none) h' ∧ PL h' b n ((l ++ jm_prs m k).take n) ∧ Fr b (b + 3) h h' := by
  have hx : Ev 68 0 (sm_pad (sm_ent [.ref c, .ref b]) (sm_prog.2.1 68)) [] h (fun r h1 => r = .inl none ∧ PL h1 b n ((l ++ jm_prs m k).take n) ∧ Fr b (b + 3) h h1) := by
    show Ev 68 0 [some (.ref c), some (.ref b), none] [] h _
    refine Er_run 2 (pc' := 2) (ls' := [some (.ref c), some (.ref b), some (.int ((0 : Int32)))]) (st' := []) rfl ?_
    exact l_unloadT hk hk2 hcb k 0 h (by omega) hm (by rw [show jm_prs m 0 = [] from rfl, List.append_nil, List.take_of_length_le hp.2.2.1]; exact hp)
  obtain ⟨r, h', hr, e, hq⟩ := Run_of (Nat.le_of_ble_eq_true rfl) hx
  subst e
  exact ⟨h', hr, hq⟩
theorem s_Master_hearPage {c k tt : Nat} {m : Jm} (hm : MG h c m) (hcc : c + 2 ≤ r) (hA : jk_an K m = true → m.1 9 = Int32.ofNat k ∧ m.1 10 = Int32.ofNat tt ∧ k ≤ 16 ∧ tt ≤ 100000 ∧ K.1 18 ≤ 100000 ∧ K.1 17 ≤ 2000) (hsy : s + 140 ≤ y) (hyr : y + 229 ≤ r) (hra : r + 5 ≤ a) (hk : KK h a s y r K) (hl : LL h y L) (hs : ST h s cl G PR F) (hr : JR h r R) : ∃ h', Run 133 [.ref a, .ref c] h (.inl none) h' ∧ KK h' a s y r (jk_hp K m k tt) ∧ LL h' y (L) ∧ ST h' s cl G PR (F) ∧ JR h' r (R) ∧ FK a y r s h h' := by
  have hx : Ev 133 0 (sm_pad (sm_ent [.ref a, .ref c]) (sm_prog.2.1 133)) [] h (fun r9 h1 => r9 = .inl none ∧ KK h1 a s y r (jk_hp K m k tt) ∧ LL h1 y (L) ∧ ST h1 s cl G PR (F) ∧ JR h1 r (R) ∧ FK a y r s h h1) := by
    by_cases ha : jk_an K m = true
    · obtain ⟨e9, htt, hk16, ht1, ho1, ha1⟩ := hA ha
      by_cases hlt : K.1 18 + k < tt
      · skip
        show Ev 133 0 [some (.ref a), some (.ref c)] [] h _
        refine Er_run 2 (pc' := 2) (ls' := [some (.ref a), some (.ref c)]) (st' := [.ref a, .ref c]) rfl ?_
        refine Er_getI (v := Int32.ofNat (K.1 9)) rfl hk.1.1 (show gI h a 9 = Int32.ofNat (K.1 9) from (hk.2.1 9 (by omega)).1) ?_
        refine Er_run 2 (pc' := 8) (ls' := [some (.ref a), some (.ref c)]) (st' := [.ref a, .int ((38 : Int32)), .int (Int32.ofNat (K.1 9)), .ref c]) rfl ?_
        refine Er_getI (v := Int32.ofNat (K.1 17)) rfl hk.1.1 (show gI h a 17 = Int32.ofNat (K.1 17) from (hk.2.1 17 (by omega)).1) ?_
        refine Er_run 2 (pc' := 13) (ls' := [some (.ref a), some (.ref c)]) (st' := [.ref a, .int (((38 : Int32)) + (Int32.ofNat (K.1 17))), .int (Int32.ofNat (K.1 9)), .ref c]) rfl ?_
        refine Er_getI (v := Int32.ofNat (K.1 17)) rfl hk.1.1 (show gI h a 17 = Int32.ofNat (K.1 17) from (hk.2.1 17 (by omega)).1) ?_
        refine Er_run 1 (pc' := 17) (ls' := [some (.ref a), some (.ref c)]) (st' := [.ref a, .int (Int32.ofNat (K.1 17)), .int (((38 : Int32)) + (Int32.ofNat (K.1 17))), .int (Int32.ofNat (K.1 9)), .ref c]) rfl ?_
        refine Er_getI (v := Int32.ofNat (K.1 18)) rfl hk.1.1 (show gI h a 18 = Int32.ofNat (K.1 18) from (hk.2.1 18 (by omega)).1) ?_
        have han : Run 67 [.ref c, .int (Int32.ofNat (K.1 9)), .int (Int32.ofNat (38 + K.1 17)), .int (Int32.ofNat (K.1 17)), .int (Int32.ofNat (K.1 18))] h (.inl (some (.int (if jk_an K m then 1 else 0)))) h := s_Message_answers hm
        rw [if_pos ha] at han
        refine Er_inv1 (q' := c) (ci := 5) (av := [.int (Int32.ofNat (K.1 9)), .int (((38 : Int32)) + (Int32.ofNat (K.1 17))), .int (Int32.ofNat (K.1 17)), .int (Int32.ofNat (K.1 18))]) (rest := []) rfl rfl ⟨Nat.le_of_ble_eq_true rfl, Nat.le_of_ble_eq_true rfl⟩ rfl rfl hm.1.1 (show Run 67 [.ref c, .int (Int32.ofNat (K.1 9)), .int ((38 : Int32) + Int32.ofNat (K.1 17)), .int (Int32.ofNat (K.1 17)), .int (Int32.ofNat (K.1 18))] h _ h from by rw [(show (38 : Int32) + Int32.ofNat (K.1 17) = Int32.ofNat (38 + K.1 17) from by rw [show (38 : Int32) = Int32.ofNat 38 from rfl, jx_add])]; exact han) ?_
        refine Er_run 1 (pc' := bif !decide (((1 : Int32)) = 0) then 27 else 26) (ls' := [some (.ref a), some (.ref c)]) (st' := []) rfl ?_
        refine Er_pc (t := 27) (show (bif !decide (((1 : Int32)) = 0) then 27 else 26) = 27 from by rw [show (!decide (((1 : Int32)) = 0)) = true from by decide]; rfl) ?_
        refine Er_run 2 (pc' := 29) (ls' := [some (.ref a), some (.ref c)]) (st' := [.ref a, .ref c]) rfl ?_
        refine Er_getR (x := a + 3) rfl hk.1.1 hk.1.2.2.2.2.2.1 ?_
        obtain ⟨h1, rn1, p1, z1⟩ := s_Message_unloadT (k := k) hm (show PL h (a + 3) 300 (K.2.2.2.2.2.2) from hk.2.2.2.2.2.2.2.1) e9 (by omega) (by omega)
        have kk1 : KK h1 a s y r (jk_sP K ((K.2.2.2.2.2.2 ++ jm_prs m k).take 300)) := KK_P z1 p1 hk
        have ll1 := LL_fr z1 (by omega) hl
        have ss1 := ST_fr z1 (by omega) hs
        have jj1 := JR_fr z1 (by omega) hr
        have qq1 : FK a y r s h h1 := FK.trans (FK.refl a y r s h) (FK.of z1 (by omega))
        have g1_c := MG_fr z1 (by omega) hm
        refine Er_inv0 (q' := c) (ci := 5) (av := [.ref (a + 3)]) (rest := []) rfl rfl ⟨Nat.le_of_ble_eq_true rfl, Nat.le_of_ble_eq_true rfl⟩ rfl rfl hm.1.1 rn1 ?_
        refine Er_run 2 (pc' := 37) (ls' := [some (.ref a), some (.ref c)]) (st' := [.ref a, .ref a]) rfl ?_
        refine Er_getI (v := Int32.ofNat (K.1 18)) rfl kk1.1.1 (show gI h1 a 18 = Int32.ofNat (K.1 18) from (kk1.2.1 18 (by omega)).1) ?_
        refine Er_run 1 (pc' := 41) (ls' := [some (.ref a), some (.ref c)]) (st' := [.ref c, .int (Int32.ofNat (K.1 18)), .ref a]) rfl ?_
        refine Er_getI (v := Int32.ofNat k) rfl g1_c.1.1 (by rw [← e9]; exact (g1_c.2.2.2.1 9 (by omega) (by omega))) ?_
        refine Er_run 1 (pc' := 45) (ls' := [some (.ref a), some (.ref c)]) (st' := [.int ((Int32.ofNat (K.1 18)) + (Int32.ofNat k)), .ref a]) rfl ?_
        refine Er_putI rfl kk1.1.1 ?_
        rw [jx_add]
        have z2 : Fr a (a + 1) h1 (setI h1 a 18 (Int32.ofNat (K.1 18 + k))) := Fr.setI (by omega) (by omega)
        have kk2 : KK (setI h1 a 18 (Int32.ofNat (K.1 18 + k))) a s y r (jk_sg (jk_sP K ((K.2.2.2.2.2.2 ++ jm_prs m k).take 300)) 18 (K.1 18 + k)) := KK_sg (x := K.1 18 + k) (by decide) (by omega) kk1
        generalize setI h1 a 18 (Int32.ofNat (K.1 18 + k)) = h2 at z2 kk2 ⊢
        have ll2 := LL_fr z2 (by omega) ll1
        have ss2 := ST_fr z2 (by omega) ss1
        have jj2 := JR_fr z2 (by omega) jj1
        have qq2 : FK a y r s h h2 := FK.trans qq1 (FK.of z2 (by omega))
        have g2_c := MG_fr z2 (by omega) g1_c
        refine Er_run 2 (pc' := 50) (ls' := [some (.ref a), some (.ref c)]) (st' := [.int ((4 : Int32)), .ref a]) rfl ?_
        refine Er_putI rfl kk2.1.1 ?_
        have z3 : Fr a (a + 1) h2 (setI h2 a 19 ((4 : Int32))) := Fr.setI (by omega) (by omega)
        have kk3 : KK (setI h2 a 19 ((4 : Int32))) a s y r (jk_sg (jk_sg (jk_sP K ((K.2.2.2.2.2.2 ++ jm_prs m k).take 300)) 18 (K.1 18 + k)) 19 4) := KK_sg (x := 4) (by decide) (by omega) kk2
        generalize setI h2 a 19 ((4 : Int32)) = h3 at z3 kk3 ⊢
        have ll3 := LL_fr z3 (by omega) ll2
        have ss3 := ST_fr z3 (by omega) ss2
        have jj3 := JR_fr z3 (by omega) jj2
        have qq3 : FK a y r s h h3 := FK.trans qq2 (FK.of z3 (by omega))
        have g3_c := MG_fr z3 (by omega) g2_c
        refine Er_run 1 (pc' := 54) (ls' := [some (.ref a), some (.ref c)]) (st' := [.ref a]) rfl ?_
        refine Er_getI (v := Int32.ofNat (K.1 18 + k)) rfl kk3.1.1 (show gI h3 a 18 = Int32.ofNat (K.1 18 + k) from (kk3.2.1 18 (by omega)).1) ?_
        refine Er_run 1 (pc' := 58) (ls' := [some (.ref a), some (.ref c)]) (st' := [.ref c, .int (Int32.ofNat (K.1 18 + k))]) rfl ?_
        refine Er_getI (v := Int32.ofNat tt) rfl g3_c.1.1 (by rw [← htt]; exact (g3_c.2.2.2.1 10 (by omega) (by omega))) ?_
        refine Er_run 1 (pc' := bif decide ((Int32.ofNat (K.1 18 + k)) < (Int32.ofNat tt)) then 79 else 64) (ls' := [some (.ref a), some (.ref c)]) (st' := []) rfl ?_
        refine Er_pc (t := 79) (show (bif decide ((Int32.ofNat (K.1 18 + k)) < (Int32.ofNat tt)) then 79 else 64) = 79 from by rw [show (decide ((Int32.ofNat (K.1 18 + k)) < (Int32.ofNat tt))) = true from by rw [jx_lt (by omega) (by omega)]; exact decide_eq_true hlt]; rfl) ?_
        refine Er_fin rfl rfl ?_
        rw [jk_hp, if_pos ha, jk_pg2, if_pos hlt]
        exact ⟨rfl, kk3, ll3, ss3, jj3, qq3⟩
      · skip
        show Ev 133 0 [some (.ref a), some (.ref c)] [] h _
        refine Er_run 2 (pc' := 2) (ls' := [some (.ref a), some (.ref c)]) (st' := [.ref a, .ref c]) rfl ?_
        refine Er_getI (v := Int32.ofNat (K.1 9)) rfl hk.1.1 (show gI h a 9 = Int32.ofNat (K.1 9) from (hk.2.1 9 (by omega)).1) ?_
        refine Er_run 2 (pc' := 8) (ls' := [some (.ref a), some (.ref c)]) (st' := [.ref a, .int ((38 : Int32)), .int (Int32.ofNat (K.1 9)), .ref c]) rfl ?_
        refine Er_getI (v := Int32.ofNat (K.1 17)) rfl hk.1.1 (show gI h a 17 = Int32.ofNat (K.1 17) from (hk.2.1 17 (by omega)).1) ?_
        refine Er_run 2 (pc' := 13) (ls' := [some (.ref a), some (.ref c)]) (st' := [.ref a, .int (((38 : Int32)) + (Int32.ofNat (K.1 17))), .int (Int32.ofNat (K.1 9)), .ref c]) rfl ?_
        refine Er_getI (v := Int32.ofNat (K.1 17)) rfl hk.1.1 (show gI h a 17 = Int32.ofNat (K.1 17) from (hk.2.1 17 (by omega)).1) ?_
        refine Er_run 1 (pc' := 17) (ls' := [some (.ref a), some (.ref c)]) (st' := [.ref a, .int (Int32.ofNat (K.1 17)), .int (((38 : Int32)) + (Int32.ofNat (K.1 17))), .int (Int32.ofNat (K.1 9)), .ref c]) rfl ?_
        refine Er_getI (v := Int32.ofNat (K.1 18)) rfl hk.1.1 (show gI h a 18 = Int32.ofNat (K.1 18) from (hk.2.1 18 (by omega)).1) ?_
        have han : Run 67 [.ref c, .int (Int32.ofNat (K.1 9)), .int (Int32.ofNat (38 + K.1 17)), .int (Int32.ofNat (K.1 17)), .int (Int32.ofNat (K.1 18))] h (.inl (some (.int (if jk_an K m then 1 else 0)))) h := s_Message_answers hm
        rw [if_pos ha] at han
        refine Er_inv1 (q' := c) (ci := 5) (av := [.int (Int32.ofNat (K.1 9)), .int (((38 : Int32)) + (Int32.ofNat (K.1 17))), .int (Int32.ofNat (K.1 17)), .int (Int32.ofNat (K.1 18))]) (rest := []) rfl rfl ⟨Nat.le_of_ble_eq_true rfl, Nat.le_of_ble_eq_true rfl⟩ rfl rfl hm.1.1 (show Run 67 [.ref c, .int (Int32.ofNat (K.1 9)), .int ((38 : Int32) + Int32.ofNat (K.1 17)), .int (Int32.ofNat (K.1 17)), .int (Int32.ofNat (K.1 18))] h _ h from by rw [(show (38 : Int32) + Int32.ofNat (K.1 17) = Int32.ofNat (38 + K.1 17) from by rw [show (38 : Int32) = Int32.ofNat 38 from rfl, jx_add])]; exact han) ?_
        refine Er_run 1 (pc' := bif !decide (((1 : Int32)) = 0) then 27 else 26) (ls' := [some (.ref a), some (.ref c)]) (st' := []) rfl ?_
        refine Er_pc (t := 27) (show (bif !decide (((1 : Int32)) = 0) then 27 else 26) = 27 from by rw [show (!decide (((1 : Int32)) = 0)) = true from by decide]; rfl) ?_
        refine Er_run 2 (pc' := 29) (ls' := [some (.ref a), some (.ref c)]) (st' := [.ref a, .ref c]) rfl ?_
        refine Er_getR (x := a + 3) rfl hk.1.1 hk.1.2.2.2.2.2.1 ?_
        obtain ⟨h1, rn1, p1, z1⟩ := s_Message_unloadT (k := k) hm (show PL h (a + 3) 300 (K.2.2.2.2.2.2) from hk.2.2.2.2.2.2.2.1) e9 (by omega) (by omega)
        have kk1 : KK h1 a s y r (jk_sP K ((K.2.2.2.2.2.2 ++ jm_prs m k).take 300)) := KK_P z1 p1 hk
        have ll1 := LL_fr z1 (by omega) hl
        have ss1 := ST_fr z1 (by omega) hs
        have jj1 := JR_fr z1 (by omega) hr
        have qq1 : FK a y r s h h1 := FK.trans (FK.refl a y r s h) (FK.of z1 (by omega))
        have g1_c := MG_fr z1 (by omega) hm
        refine Er_inv0 (q' := c) (ci := 5) (av := [.ref (a + 3)]) (rest := []) rfl rfl ⟨Nat.le_of_ble_eq_true rfl, Nat.le_of_ble_eq_true rfl⟩ rfl rfl hm.1.1 rn1 ?_
        refine Er_run 2 (pc' := 37) (ls' := [some (.ref a), some (.ref c)]) (st' := [.ref a, .ref a]) rfl ?_
        refine Er_getI (v := Int32.ofNat (K.1 18)) rfl kk1.1.1 (show gI h1 a 18 = Int32.ofNat (K.1 18) from (kk1.2.1 18 (by omega)).1) ?_
        refine Er_run 1 (pc' := 41) (ls' := [some (.ref a), some (.ref c)]) (st' := [.ref c, .int (Int32.ofNat (K.1 18)), .ref a]) rfl ?_
        refine Er_getI (v := Int32.ofNat k) rfl g1_c.1.1 (by rw [← e9]; exact (g1_c.2.2.2.1 9 (by omega) (by omega))) ?_
        refine Er_run 1 (pc' := 45) (ls' := [some (.ref a), some (.ref c)]) (st' := [.int ((Int32.ofNat (K.1 18)) + (Int32.ofNat k)), .ref a]) rfl ?_
        refine Er_putI rfl kk1.1.1 ?_
        rw [jx_add]
        have z2 : Fr a (a + 1) h1 (setI h1 a 18 (Int32.ofNat (K.1 18 + k))) := Fr.setI (by omega) (by omega)
        have kk2 : KK (setI h1 a 18 (Int32.ofNat (K.1 18 + k))) a s y r (jk_sg (jk_sP K ((K.2.2.2.2.2.2 ++ jm_prs m k).take 300)) 18 (K.1 18 + k)) := KK_sg (x := K.1 18 + k) (by decide) (by omega) kk1
        generalize setI h1 a 18 (Int32.ofNat (K.1 18 + k)) = h2 at z2 kk2 ⊢
        have ll2 := LL_fr z2 (by omega) ll1
        have ss2 := ST_fr z2 (by omega) ss1
        have jj2 := JR_fr z2 (by omega) jj1
        have qq2 : FK a y r s h h2 := FK.trans qq1 (FK.of z2 (by omega))
        have g2_c := MG_fr z2 (by omega) g1_c
        refine Er_run 2 (pc' := 50) (ls' := [some (.ref a), some (.ref c)]) (st' := [.int ((4 : Int32)), .ref a]) rfl ?_
        refine Er_putI rfl kk2.1.1 ?_
        have z3 : Fr a (a + 1) h2 (setI h2 a 19 ((4 : Int32))) := Fr.setI (by omega) (by omega)
        have kk3 : KK (setI h2 a 19 ((4 : Int32))) a s y r (jk_sg (jk_sg (jk_sP K ((K.2.2.2.2.2.2 ++ jm_prs m k).take 300)) 18 (K.1 18 + k)) 19 4) := KK_sg (x := 4) (by decide) (by omega) kk2
        generalize setI h2 a 19 ((4 : Int32)) = h3 at z3 kk3 ⊢
        have ll3 := LL_fr z3 (by omega) ll2
        have ss3 := ST_fr z3 (by omega) ss2
        have jj3 := JR_fr z3 (by omega) jj2
        have qq3 : FK a y r s h h3 := FK.trans qq2 (FK.of z3 (by omega))
        have g3_c := MG_fr z3 (by omega) g2_c
        refine Er_run 1 (pc' := 54) (ls' := [some (.ref a), some (.ref c)]) (st' := [.ref a]) rfl ?_
        refine Er_getI (v := Int32.ofNat (K.1 18 + k)) rfl kk3.1.1 (show gI h3 a 18 = Int32.ofNat (K.1 18 + k) from (kk3.2.1 18 (by omega)).1) ?_
        refine Er_run 1 (pc' := 58) (ls' := [some (.ref a), some (.ref c)]) (st' := [.ref c, .int (Int32.ofNat (K.1 18 + k))]) rfl ?_
        refine Er_getI (v := Int32.ofNat tt) rfl g3_c.1.1 (by rw [← htt]; exact (g3_c.2.2.2.1 10 (by omega) (by omega))) ?_
        refine Er_run 1 (pc' := bif decide ((Int32.ofNat (K.1 18 + k)) < (Int32.ofNat tt)) then 79 else 64) (ls' := [some (.ref a), some (.ref c)]) (st' := []) rfl ?_
        refine Er_pc (t := 64) (show (bif decide ((Int32.ofNat (K.1 18 + k)) < (Int32.ofNat tt)) then 79 else 64) = 64 from by rw [show (decide ((Int32.ofNat (K.1 18 + k)) < (Int32.ofNat tt))) = false from by rw [jx_lt (by omega) (by omega)]; exact decide_eq_false hlt]; rfl) ?_
        refine Er_run 2 (pc' := 66) (ls' := [some (.ref a), some (.ref c)]) (st' := [.ref a, .ref a]) rfl ?_
        refine Er_getI (v := Int32.ofNat (K.1 17)) rfl kk3.1.1 (show gI h3 a 17 = Int32.ofNat (K.1 17) from (kk3.2.1 17 (by omega)).1) ?_
        refine Er_run 2 (pc' := 71) (ls' := [some (.ref a), some (.ref c)]) (st' := [.int ((Int32.ofNat (K.1 17)) + ((1 : Int32))), .ref a]) rfl ?_
        refine Er_putI rfl kk3.1.1 ?_
        rw [jx_s1]
        have z4 : Fr a (a + 1) h3 (setI h3 a 17 (Int32.ofNat (K.1 17 + 1))) := Fr.setI (by omega) (by omega)
        have kk4 : KK (setI h3 a 17 (Int32.ofNat (K.1 17 + 1))) a s y r (jk_sg (jk_sg (jk_sg (jk_sP K ((K.2.2.2.2.2.2 ++ jm_prs m k).take 300)) 18 (K.1 18 + k)) 19 4) 17 (K.1 17 + 1)) := KK_sg (x := K.1 17 + 1) (by decide) (by omega) kk3
        generalize setI h3 a 17 (Int32.ofNat (K.1 17 + 1)) = h4 at z4 kk4 ⊢
        have ll4 := LL_fr z4 (by omega) ll3
        have ss4 := ST_fr z4 (by omega) ss3
        have jj4 := JR_fr z4 (by omega) jj3
        have qq4 : FK a y r s h h4 := FK.trans qq3 (FK.of z4 (by omega))
        have g4_c := MG_fr z4 (by omega) g3_c
        refine Er_run 2 (pc' := 76) (ls' := [some (.ref a), some (.ref c)]) (st' := [.int ((0 : Int32)), .ref a]) rfl ?_
        refine Er_putI rfl kk4.1.1 ?_
        have z5 : Fr a (a + 1) h4 (setI h4 a 18 ((0 : Int32))) := Fr.setI (by omega) (by omega)
        have kk5 : KK (setI h4 a 18 ((0 : Int32))) a s y r (jk_sg (jk_sg (jk_sg (jk_sg (jk_sP K ((K.2.2.2.2.2.2 ++ jm_prs m k).take 300)) 18 (K.1 18 + k)) 19 4) 17 (K.1 17 + 1)) 18 0) := KK_sg (x := 0) (by decide) (by omega) kk4
        generalize setI h4 a 18 ((0 : Int32)) = h5 at z5 kk5 ⊢
        have ll5 := LL_fr z5 (by omega) ll4
        have ss5 := ST_fr z5 (by omega) ss4
        have jj5 := JR_fr z5 (by omega) jj4
        have qq5 : FK a y r s h h5 := FK.trans qq4 (FK.of z5 (by omega))
        have g5_c := MG_fr z5 (by omega) g4_c
        refine Er_fin rfl rfl ?_
        rw [jk_hp, if_pos ha, jk_pg2, if_neg hlt]
        exact ⟨rfl, kk5, ll5, ss5, jj5, qq5⟩
    · skip
      show Ev 133 0 [some (.ref a), some (.ref c)] [] h _
      refine Er_run 2 (pc' := 2) (ls' := [some (.ref a), some (.ref c)]) (st' := [.ref a, .ref c]) rfl ?_
      refine Er_getI (v := Int32.ofNat (K.1 9)) rfl hk.1.1 (show gI h a 9 = Int32.ofNat (K.1 9) from (hk.2.1 9 (by omega)).1) ?_
      refine Er_run 2 (pc' := 8) (ls' := [some (.ref a), some (.ref c)]) (st' := [.ref a, .int ((38 : Int32)), .int (Int32.ofNat (K.1 9)), .ref c]) rfl ?_
      refine Er_getI (v := Int32.ofNat (K.1 17)) rfl hk.1.1 (show gI h a 17 = Int32.ofNat (K.1 17) from (hk.2.1 17 (by omega)).1) ?_
      refine Er_run 2 (pc' := 13) (ls' := [some (.ref a), some (.ref c)]) (st' := [.ref a, .int (((38 : Int32)) + (Int32.ofNat (K.1 17))), .int (Int32.ofNat (K.1 9)), .ref c]) rfl ?_
      refine Er_getI (v := Int32.ofNat (K.1 17)) rfl hk.1.1 (show gI h a 17 = Int32.ofNat (K.1 17) from (hk.2.1 17 (by omega)).1) ?_
      refine Er_run 1 (pc' := 17) (ls' := [some (.ref a), some (.ref c)]) (st' := [.ref a, .int (Int32.ofNat (K.1 17)), .int (((38 : Int32)) + (Int32.ofNat (K.1 17))), .int (Int32.ofNat (K.1 9)), .ref c]) rfl ?_
      refine Er_getI (v := Int32.ofNat (K.1 18)) rfl hk.1.1 (show gI h a 18 = Int32.ofNat (K.1 18) from (hk.2.1 18 (by omega)).1) ?_
      have han : Run 67 [.ref c, .int (Int32.ofNat (K.1 9)), .int (Int32.ofNat (38 + K.1 17)), .int (Int32.ofNat (K.1 17)), .int (Int32.ofNat (K.1 18))] h (.inl (some (.int (if jk_an K m then 1 else 0)))) h := s_Message_answers hm
      rw [if_neg ha] at han
      refine Er_inv1 (q' := c) (ci := 5) (av := [.int (Int32.ofNat (K.1 9)), .int (((38 : Int32)) + (Int32.ofNat (K.1 17))), .int (Int32.ofNat (K.1 17)), .int (Int32.ofNat (K.1 18))]) (rest := []) rfl rfl ⟨Nat.le_of_ble_eq_true rfl, Nat.le_of_ble_eq_true rfl⟩ rfl rfl hm.1.1 (show Run 67 [.ref c, .int (Int32.ofNat (K.1 9)), .int ((38 : Int32) + Int32.ofNat (K.1 17)), .int (Int32.ofNat (K.1 17)), .int (Int32.ofNat (K.1 18))] h _ h from by rw [(show (38 : Int32) + Int32.ofNat (K.1 17) = Int32.ofNat (38 + K.1 17) from by rw [show (38 : Int32) = Int32.ofNat 38 from rfl, jx_add])]; exact han) ?_
      refine Er_run 1 (pc' := bif !decide (((0 : Int32)) = 0) then 27 else 26) (ls' := [some (.ref a), some (.ref c)]) (st' := []) rfl ?_
      refine Er_pc (t := 26) (show (bif !decide (((0 : Int32)) = 0) then 27 else 26) = 26 from by rw [show (!decide (((0 : Int32)) = 0)) = false from by decide]; rfl) ?_
      refine Er_fin rfl rfl ?_
      rw [jk_hp, if_neg ha]
      exact ⟨rfl, hk, hl, hs, hr, (FK.refl a y r s h)⟩
  obtain ⟨r9, h', hrr, e, hq⟩ := Run_of (Nat.le_of_ble_eq_true rfl) hx
  subst e
  exact ⟨h', hrr, hq⟩
def jk_ftm (K : Jk) (v : Nat) : Jm := (jx_up (jx_up (jm_new 4 6 (Int32.ofNat v) (Int32.ofNat (K.1 9)) (Int32.ofNat (38 + K.1 17))) 7 (Int32.ofNat (K.1 17))) 8 (Int32.ofNat (K.1 18)), [])
abbrev Jz := Jk × Jn × Jr × (Nat → Jl)
/-- commit: the OUTPUT is FILE f -/
def jk_commit (cl : List Nat) (G : Nat → Nat → Int32) (K : Jk) (L : Jn) (R : Jr) (F : Nat → Jl) (f : Nat) : Jz := (jk_open cl G (jx_up F f K.2.2.2.2.2.2) K (K.1 9 + 1), L, jr_w R (1, -1, -1, Int32.ofNat (K.2.2.2.2.2.2).length), jx_up F f K.2.2.2.2.2.2)
def jk_gath (cl : List Nat) (G : Nat → Nat → Int32) (K : Jk) (L : Jn) (R : Jr) (F : Nat → Jl) (np f v : Nat) : Jz := if K.1 17 < np then (if K.1 19 + 1 ≤ 4 then (jk_sg K 19 (K.1 19 + 1), L, R, F) else (jk_sg (jk_sg K 19 (K.1 19 + 1)) 19 0, jn_snd L (jk_ftm K v) v, R, F)) else jk_commit cl G K L R F f
theorem s_Master_gatherParts {np f v : Nat} (hj : K.2.2.1 = some j) (hj8 : j < 8) (hG5 : G j 5 = Int32.ofNat np) (hnp6 : np ≤ 6) (hb19 : K.1 19 < 900000) (hv : K.1 17 < np → K.2.2.2.1 (38 + K.1 17) = Int32.ofNat v) (hv7 : K.1 17 < np → v < 7) (hf : f < 16) (hG4 : G j 4 = Int32.ofNat f) (hr360 : R.1.length < 360) (hcm : R.2.1 < 900000) (hp9 : K.1 9 < 90) (hca : jc_all cl G) (hF2 : jf_ok (jx_up F f K.2.2.2.2.2.2)) (hsy : s + 140 ≤ y) (hyr : y + 229 ≤ r) (hra : r + 5 ≤ a) (hk : KK h a s y r K) (hl : LL h y L) (hs : ST h s cl G PR F) (hr : JR h r R) : ∃ h', Run 132 [.ref a] h (.inl none) h' ∧ KK h' a s y r ((jk_gath cl G K L R F np f v).1) ∧ LL h' y ((jk_gath cl G K L R F np f v).2.1) ∧ ST h' s cl G PR ((jk_gath cl G K L R F np f v).2.2.2) ∧ JR h' r ((jk_gath cl G K L R F np f v).2.2.1) ∧ FK a y r s h h' := by
  obtain ⟨m0, g0⟩ := hk.2.2.2.2.2.2.2.2
  have hx : Ev 132 0 (sm_pad (sm_ent [.ref a]) (sm_prog.2.1 132)) [] h (fun r9 h1 => r9 = .inl none ∧ KK h1 a s y r ((jk_gath cl G K L R F np f v).1) ∧ LL h1 y ((jk_gath cl G K L R F np f v).2.1) ∧ ST h1 s cl G PR ((jk_gath cl G K L R F np f v).2.2.2) ∧ JR h1 r ((jk_gath cl G K L R F np f v).2.2.1) ∧ FK a y r s h h1) := by
    have b17 := (hk.2.1 17 (by omega)).2
    by_cases hlt : K.1 17 < np
    · have hv77 := hv7 hlt
      by_cases hwt : K.1 19 + 1 ≤ 4
      · skip
        show Ev 132 0 [some (.ref a)] [] h _
        refine Er_run 1 (pc' := 1) (ls' := [some (.ref a)]) (st' := [.ref a]) rfl ?_
        refine Er_getI (v := Int32.ofNat (K.1 17)) rfl hk.1.1 (show gI h a 17 = Int32.ofNat (K.1 17) from (hk.2.1 17 (by omega)).1) ?_
        refine Er_run 1 (pc' := 5) (ls' := [some (.ref a)]) (st' := [.ref a, .int (Int32.ofNat (K.1 17))]) rfl ?_
        refine Er_getR (x := s + 52 + 11 * j) rfl hk.1.1 (Eq.trans hk.2.2.2.1 (show (K).2.2.1.map (fun j => s + 52 + 11 * j) = some (s + 52 + 11 * j) from by rw [show (K).2.2.1 = some j from hj]; rfl)) ?_
        have hpt := s_Job_parts (hs.2.2.2 j hj8).1
        rw [(hs.2.2.2 j hj8).2.1 5 (by omega) (by omega), hG5] at hpt
        refine Er_inv1 (q' := s + 52 + 11 * j) (ci := 2) (av := []) (rest := [.int (Int32.ofNat (K.1 17))]) rfl rfl ⟨Nat.le_of_ble_eq_true rfl, Nat.le_of_ble_eq_true rfl⟩ rfl rfl (hs.2.2.2 j hj8).1.1 hpt ?_
        refine Er_run 1 (pc' := bif decide ((Int32.ofNat (K.1 17)) < (Int32.ofNat np)) then 19 else 14) (ls' := [some (.ref a)]) (st' := []) rfl ?_
        refine Er_pc (t := 19) (show (bif decide ((Int32.ofNat (K.1 17)) < (Int32.ofNat np)) then 19 else 14) = 19 from by rw [show (decide ((Int32.ofNat (K.1 17)) < (Int32.ofNat np))) = true from by rw [jx_lt (by omega) (by omega)]; exact decide_eq_true hlt]; rfl) ?_
        refine Er_run 2 (pc' := 21) (ls' := [some (.ref a)]) (st' := [.ref a, .ref a]) rfl ?_
        refine Er_getI (v := Int32.ofNat (K.1 19)) rfl hk.1.1 (show gI h a 19 = Int32.ofNat (K.1 19) from (hk.2.1 19 (by omega)).1) ?_
        refine Er_run 2 (pc' := 26) (ls' := [some (.ref a)]) (st' := [.int ((Int32.ofNat (K.1 19)) + ((1 : Int32))), .ref a]) rfl ?_
        refine Er_putI rfl hk.1.1 ?_
        rw [jx_s1]
        have z1 : Fr a (a + 1) h (setI h a 19 (Int32.ofNat (K.1 19 + 1))) := Fr.setI (by omega) (by omega)
        have kk1 : KK (setI h a 19 (Int32.ofNat (K.1 19 + 1))) a s y r (jk_sg K 19 (K.1 19 + 1)) := KK_sg (x := K.1 19 + 1) (by decide) (by omega) hk
        generalize setI h a 19 (Int32.ofNat (K.1 19 + 1)) = h1 at z1 kk1 ⊢
        have ll1 := LL_fr z1 (by omega) hl
        have ss1 := ST_fr z1 (by omega) hs
        have jj1 := JR_fr z1 (by omega) hr
        have qq1 : FK a y r s h h1 := FK.trans (FK.refl a y r s h) (FK.of z1 (by omega))
        have g1_a1 := MG_fr z1 (by omega) g0
        refine Er_run 1 (pc' := 30) (ls' := [some (.ref a)]) (st' := [.ref a]) rfl ?_
        refine Er_getI (v := Int32.ofNat (K.1 19 + 1)) rfl kk1.1.1 (show gI h1 a 19 = Int32.ofNat (K.1 19 + 1) from (kk1.2.1 19 (by omega)).1) ?_
        refine Er_run 2 (pc' := bif decide ((Int32.ofNat (K.1 19 + 1)) ≤ ((4 : Int32))) then 108 else 37) (ls' := [some (.ref a)]) (st' := []) rfl ?_
        refine Er_pc (t := 108) (show (bif decide ((Int32.ofNat (K.1 19 + 1)) ≤ ((4 : Int32))) then 108 else 37) = 108 from by rw [show (decide ((Int32.ofNat (K.1 19 + 1)) ≤ ((4 : Int32)))) = true from by rw [show (4 : Int32) = Int32.ofNat 4 from rfl, jx_le (by omega) (by omega)]; exact decide_eq_true (by omega)]; rfl) ?_
        refine Er_fin rfl rfl ?_
        rw [jk_gath, if_pos hlt, if_pos hwt]
        exact ⟨rfl, kk1, ll1, ss1, jj1, qq1⟩
      · skip
        show Ev 132 0 [some (.ref a)] [] h _
        refine Er_run 1 (pc' := 1) (ls' := [some (.ref a)]) (st' := [.ref a]) rfl ?_
        refine Er_getI (v := Int32.ofNat (K.1 17)) rfl hk.1.1 (show gI h a 17 = Int32.ofNat (K.1 17) from (hk.2.1 17 (by omega)).1) ?_
        refine Er_run 1 (pc' := 5) (ls' := [some (.ref a)]) (st' := [.ref a, .int (Int32.ofNat (K.1 17))]) rfl ?_
        refine Er_getR (x := s + 52 + 11 * j) rfl hk.1.1 (Eq.trans hk.2.2.2.1 (show (K).2.2.1.map (fun j => s + 52 + 11 * j) = some (s + 52 + 11 * j) from by rw [show (K).2.2.1 = some j from hj]; rfl)) ?_
        have hpt := s_Job_parts (hs.2.2.2 j hj8).1
        rw [(hs.2.2.2 j hj8).2.1 5 (by omega) (by omega), hG5] at hpt
        refine Er_inv1 (q' := s + 52 + 11 * j) (ci := 2) (av := []) (rest := [.int (Int32.ofNat (K.1 17))]) rfl rfl ⟨Nat.le_of_ble_eq_true rfl, Nat.le_of_ble_eq_true rfl⟩ rfl rfl (hs.2.2.2 j hj8).1.1 hpt ?_
        refine Er_run 1 (pc' := bif decide ((Int32.ofNat (K.1 17)) < (Int32.ofNat np)) then 19 else 14) (ls' := [some (.ref a)]) (st' := []) rfl ?_
        refine Er_pc (t := 19) (show (bif decide ((Int32.ofNat (K.1 17)) < (Int32.ofNat np)) then 19 else 14) = 19 from by rw [show (decide ((Int32.ofNat (K.1 17)) < (Int32.ofNat np))) = true from by rw [jx_lt (by omega) (by omega)]; exact decide_eq_true hlt]; rfl) ?_
        refine Er_run 2 (pc' := 21) (ls' := [some (.ref a)]) (st' := [.ref a, .ref a]) rfl ?_
        refine Er_getI (v := Int32.ofNat (K.1 19)) rfl hk.1.1 (show gI h a 19 = Int32.ofNat (K.1 19) from (hk.2.1 19 (by omega)).1) ?_
        refine Er_run 2 (pc' := 26) (ls' := [some (.ref a)]) (st' := [.int ((Int32.ofNat (K.1 19)) + ((1 : Int32))), .ref a]) rfl ?_
        refine Er_putI rfl hk.1.1 ?_
        rw [jx_s1]
        have z1 : Fr a (a + 1) h (setI h a 19 (Int32.ofNat (K.1 19 + 1))) := Fr.setI (by omega) (by omega)
        have kk1 : KK (setI h a 19 (Int32.ofNat (K.1 19 + 1))) a s y r (jk_sg K 19 (K.1 19 + 1)) := KK_sg (x := K.1 19 + 1) (by decide) (by omega) hk
        generalize setI h a 19 (Int32.ofNat (K.1 19 + 1)) = h1 at z1 kk1 ⊢
        have ll1 := LL_fr z1 (by omega) hl
        have ss1 := ST_fr z1 (by omega) hs
        have jj1 := JR_fr z1 (by omega) hr
        have qq1 : FK a y r s h h1 := FK.trans (FK.refl a y r s h) (FK.of z1 (by omega))
        have g1_a1 := MG_fr z1 (by omega) g0
        refine Er_run 1 (pc' := 30) (ls' := [some (.ref a)]) (st' := [.ref a]) rfl ?_
        refine Er_getI (v := Int32.ofNat (K.1 19 + 1)) rfl kk1.1.1 (show gI h1 a 19 = Int32.ofNat (K.1 19 + 1) from (kk1.2.1 19 (by omega)).1) ?_
        refine Er_run 2 (pc' := bif decide ((Int32.ofNat (K.1 19 + 1)) ≤ ((4 : Int32))) then 108 else 37) (ls' := [some (.ref a)]) (st' := []) rfl ?_
        refine Er_pc (t := 37) (show (bif decide ((Int32.ofNat (K.1 19 + 1)) ≤ ((4 : Int32))) then 108 else 37) = 37 from by rw [show (decide ((Int32.ofNat (K.1 19 + 1)) ≤ ((4 : Int32)))) = false from by rw [show (4 : Int32) = Int32.ofNat 4 from rfl, jx_le (by omega) (by omega)]; exact decide_eq_false (by omega)]; rfl) ?_
        refine Er_run 2 (pc' := 39) (ls' := [some (.ref a)]) (st' := [.int ((0 : Int32)), .ref a]) rfl ?_
        refine Er_putI rfl kk1.1.1 ?_
        have z2 : Fr a (a + 1) h1 (setI h1 a 19 ((0 : Int32))) := Fr.setI (by omega) (by omega)
        have kk2 : KK (setI h1 a 19 ((0 : Int32))) a s y r (jk_sg (jk_sg K 19 (K.1 19 + 1)) 19 0) := KK_sg (x := 0) (by decide) (by omega) kk1
        generalize setI h1 a 19 ((0 : Int32)) = h2 at z2 kk2 ⊢
        have ll2 := LL_fr z2 (by omega) ll1
        have ss2 := ST_fr z2 (by omega) ss1
        have jj2 := JR_fr z2 (by omega) jj1
        have qq2 : FK a y r s h h2 := FK.trans qq1 (FK.of z2 (by omega))
        have g2_a1 := MG_fr z2 (by omega) g1_a1
        refine Er_run 1 (pc' := 43) (ls' := [some (.ref a)]) (st' := [.ref a]) rfl ?_
        refine Er_getR (x := a + 1) rfl kk2.1.1 kk2.1.2.2.2.2.1 ?_
        refine Er_run 3 (pc' := 50) (ls' := [some (.ref a)]) (st' := [.ref a, .int ((6 : Int32)), .int ((4 : Int32)), .ref (a + 1)]) rfl ?_
        refine Er_getR (x := a + 6) rfl kk2.1.1 kk2.1.2.2.2.2.2.2.1 ?_
        refine Er_run 2 (pc' := 56) (ls' := [some (.ref a)]) (st' := [.ref a, .int ((38 : Int32)), .ref (a + 6), .int ((6 : Int32)), .int ((4 : Int32)), .ref (a + 1)]) rfl ?_
        refine Er_getI (v := Int32.ofNat (K.1 17)) rfl kk2.1.1 (show gI h2 a 17 = Int32.ofNat (K.1 17) from (kk2.2.1 17 (by omega)).1) ?_
        refine Er_run 1 (pc' := 60) (ls' := [some (.ref a)]) (st' := [.int (((38 : Int32)) + (Int32.ofNat (K.1 17))), .ref (a + 6), .int ((6 : Int32)), .int ((4 : Int32)), .ref (a + 1)]) rfl ?_
        refine Er_iald (v := Int32.ofNat v) rfl kk2.1.2.2.2.2.2.2.2.2.2.1 (by rw [kk2.1.2.2.2.2.2.2.2.2.2.2.1, (show (38 : Int32) + Int32.ofNat (K.1 17) = Int32.ofNat (38 + K.1 17) from by rw [show (38 : Int32) = Int32.ofNat 38 from rfl, jx_add])]; exact sm_in_of (by rw [sm_ofNat_toInt (by omega)]; omega) (by rw [sm_ofNat_toInt (by omega)]; omega)) (by rw [(show (38 : Int32) + Int32.ofNat (K.1 17) = Int32.ofNat (38 + K.1 17) from by rw [show (38 : Int32) = Int32.ofNat 38 from rfl, jx_add]), jx_cn (by omega), kk2.2.2.2.2.1 _ (by omega)]; exact hv hlt) ?_
        refine Er_run 1 (pc' := 62) (ls' := [some (.ref a)]) (st' := [.ref a, .int (Int32.ofNat v), .int ((6 : Int32)), .int ((4 : Int32)), .ref (a + 1)]) rfl ?_
        refine Er_getI (v := Int32.ofNat (K.1 9)) rfl kk2.1.1 (show gI h2 a 9 = Int32.ofNat (K.1 9) from (kk2.2.1 9 (by omega)).1) ?_
        refine Er_run 2 (pc' := 68) (ls' := [some (.ref a)]) (st' := [.ref a, .int ((38 : Int32)), .int (Int32.ofNat (K.1 9)), .int (Int32.ofNat v), .int ((6 : Int32)), .int ((4 : Int32)), .ref (a + 1)]) rfl ?_
        refine Er_getI (v := Int32.ofNat (K.1 17)) rfl kk2.1.1 (show gI h2 a 17 = Int32.ofNat (K.1 17) from (kk2.2.1 17 (by omega)).1) ?_
        refine Er_run 1 (pc' := 72) (ls' := [some (.ref a)]) (st' := [.int (((38 : Int32)) + (Int32.ofNat (K.1 17))), .int (Int32.ofNat (K.1 9)), .int (Int32.ofNat v), .int ((6 : Int32)), .int ((4 : Int32)), .ref (a + 1)]) rfl ?_
        obtain ⟨h3, rn3, u3, z3⟩ := s_Message_write (k := (4 : Int32)) (s := (6 : Int32)) (u := Int32.ofNat v) (p := Int32.ofNat (K.1 9)) (t := Int32.ofNat (38 + K.1 17)) g2_a1
        have kk3 : KK h3 a s y r (jk_sg (jk_sg K 19 (K.1 19 + 1)) 19 0) := KK_le z3 u3 kk2
        have ll3 := LL_fr z3 (by omega) ll2
        have ss3 := ST_fr z3 (by omega) ss2
        have jj3 := JR_fr z3 (by omega) jj2
        have qq3 : FK a y r s h h3 := FK.trans qq2 (FK.of z3 (by omega))
        refine Er_inv0 (q' := a + 1) (ci := 5) (av := [.int ((4 : Int32)), .int ((6 : Int32)), .int (Int32.ofNat v), .int (Int32.ofNat (K.1 9)), .int (((38 : Int32)) + (Int32.ofNat (K.1 17)))]) (rest := []) rfl rfl ⟨Nat.le_of_ble_eq_true rfl, Nat.le_of_ble_eq_true rfl⟩ rfl rfl g2_a1.1.1 (by rw [(show (38 : Int32) + Int32.ofNat (K.1 17) = Int32.ofNat (38 + K.1 17) from by rw [show (38 : Int32) = Int32.ofNat 38 from rfl, jx_add])]; exact rn3) ?_
        refine Er_run 1 (pc' := 76) (ls' := [some (.ref a)]) (st' := [.ref a]) rfl ?_
        refine Er_getR (x := a + 1) rfl kk3.1.1 kk3.1.2.2.2.2.1 ?_
        refine Er_run 1 (pc' := 80) (ls' := [some (.ref a)]) (st' := [.ref a, .ref (a + 1)]) rfl ?_
        refine Er_getI (v := Int32.ofNat (K.1 17)) rfl kk3.1.1 (show gI h3 a 17 = Int32.ofNat (K.1 17) from (kk3.2.1 17 (by omega)).1) ?_
        refine Er_putI rfl u3.1.1 ?_
        have z4 : Fr (a + 1) (a + 3) h3 (setI h3 (a + 1) 7 (Int32.ofNat (K.1 17))) := Fr.setI (by omega) (by omega)
        have u4 : MG (setI h3 (a + 1) 7 (Int32.ofNat (K.1 17))) (a + 1) (jx_up ((jm_new ((4 : Int32)) ((6 : Int32)) (Int32.ofNat v) (Int32.ofNat (K.1 9)) (Int32.ofNat (38 + K.1 17)), [])).1 7 (Int32.ofNat (K.1 17)), ((jm_new ((4 : Int32)) ((6 : Int32)) (Int32.ofNat v) (Int32.ofNat (K.1 9)) (Int32.ofNat (38 + K.1 17)), [])).2) := MG_set (by omega) u3
        generalize setI h3 (a + 1) 7 (Int32.ofNat (K.1 17)) = h4 at z4 u4 ⊢
        have kk4 : KK h4 a s y r (jk_sg (jk_sg K 19 (K.1 19 + 1)) 19 0) := KK_le z4 u4 kk3
        have ll4 := LL_fr z4 (by omega) ll3
        have ss4 := ST_fr z4 (by omega) ss3
        have jj4 := JR_fr z4 (by omega) jj3
        have qq4 : FK a y r s h h4 := FK.trans qq3 (FK.of z4 (by omega))
        refine Er_run 1 (pc' := 87) (ls' := [some (.ref a)]) (st' := [.ref a]) rfl ?_
        refine Er_getR (x := a + 1) rfl kk4.1.1 kk4.1.2.2.2.2.1 ?_
        refine Er_run 1 (pc' := 91) (ls' := [some (.ref a)]) (st' := [.ref a, .ref (a + 1)]) rfl ?_
        refine Er_getI (v := Int32.ofNat (K.1 18)) rfl kk4.1.1 (show gI h4 a 18 = Int32.ofNat (K.1 18) from (kk4.2.1 18 (by omega)).1) ?_
        refine Er_putI rfl u4.1.1 ?_
        have z5 : Fr (a + 1) (a + 3) h4 (setI h4 (a + 1) 8 (Int32.ofNat (K.1 18))) := Fr.setI (by omega) (by omega)
        have u5 : MG (setI h4 (a + 1) 8 (Int32.ofNat (K.1 18))) (a + 1) (jx_up ((jx_up ((jm_new ((4 : Int32)) ((6 : Int32)) (Int32.ofNat v) (Int32.ofNat (K.1 9)) (Int32.ofNat (38 + K.1 17)), [])).1 7 (Int32.ofNat (K.1 17)), ((jm_new ((4 : Int32)) ((6 : Int32)) (Int32.ofNat v) (Int32.ofNat (K.1 9)) (Int32.ofNat (38 + K.1 17)), [])).2)).1 8 (Int32.ofNat (K.1 18)), ((jx_up ((jm_new ((4 : Int32)) ((6 : Int32)) (Int32.ofNat v) (Int32.ofNat (K.1 9)) (Int32.ofNat (38 + K.1 17)), [])).1 7 (Int32.ofNat (K.1 17)), ((jm_new ((4 : Int32)) ((6 : Int32)) (Int32.ofNat v) (Int32.ofNat (K.1 9)) (Int32.ofNat (38 + K.1 17)), [])).2)).2) := MG_set (by omega) u4
        generalize setI h4 (a + 1) 8 (Int32.ofNat (K.1 18)) = h5 at z5 u5 ⊢
        have kk5 : KK h5 a s y r (jk_sg (jk_sg K 19 (K.1 19 + 1)) 19 0) := KK_le z5 u5 kk4
        have ll5 := LL_fr z5 (by omega) ll4
        have ss5 := ST_fr z5 (by omega) ss4
        have jj5 := JR_fr z5 (by omega) jj4
        have qq5 : FK a y r s h h5 := FK.trans qq4 (FK.of z5 (by omega))
        refine Er_run 1 (pc' := 98) (ls' := [some (.ref a)]) (st' := [.ref a]) rfl ?_
        refine Er_getR (x := y) rfl kk5.1.1 kk5.1.2.2.1 ?_
        refine Er_run 1 (pc' := 102) (ls' := [some (.ref a)]) (st' := [.ref a, .ref y]) rfl ?_
        refine Er_getR (x := a + 1) rfl kk5.1.1 kk5.1.2.2.2.2.1 ?_
        obtain ⟨h6, rn6, ll6, z6⟩ := s_Line_send (x := v) ll5 u5 rfl (by omega) (by omega)
        have kk6 : KK h6 a s y r (jk_sg (jk_sg K 19 (K.1 19 + 1)) 19 0) := KK_fr z6 (by omega) kk5
        have ll6 : LL h6 y (jn_snd L (jx_up ((jx_up ((jm_new ((4 : Int32)) ((6 : Int32)) (Int32.ofNat v) (Int32.ofNat (K.1 9)) (Int32.ofNat (38 + K.1 17)), [])).1 7 (Int32.ofNat (K.1 17)), ((jm_new ((4 : Int32)) ((6 : Int32)) (Int32.ofNat v) (Int32.ofNat (K.1 9)) (Int32.ofNat (38 + K.1 17)), [])).2)).1 8 (Int32.ofNat (K.1 18)), ((jx_up ((jm_new ((4 : Int32)) ((6 : Int32)) (Int32.ofNat v) (Int32.ofNat (K.1 9)) (Int32.ofNat (38 + K.1 17)), [])).1 7 (Int32.ofNat (K.1 17)), ((jm_new ((4 : Int32)) ((6 : Int32)) (Int32.ofNat v) (Int32.ofNat (K.1 9)) (Int32.ofNat (38 + K.1 17)), [])).2)).2) v) := ll6
        have ss6 := ST_fr z6 (by omega) ss5
        have jj6 := JR_fr z6 (by omega) jj5
        have qq6 : FK a y r s h h6 := FK.trans qq5 (FK.of z6 (by omega))
        refine Er_inv0 (q' := y) (ci := 6) (av := [.ref (a + 1)]) (rest := []) rfl rfl ⟨Nat.le_of_ble_eq_true rfl, Nat.le_of_ble_eq_true rfl⟩ rfl rfl ll5.1.1 rn6 ?_
        refine Er_fin rfl rfl ?_
        rw [jk_gath, if_pos hlt, if_neg hwt]
        exact ⟨rfl, kk6, ll6, ss6, jj6, qq6⟩
    · skip
      show Ev 132 0 [some (.ref a)] [] h _
      refine Er_run 1 (pc' := 1) (ls' := [some (.ref a)]) (st' := [.ref a]) rfl ?_
      refine Er_getI (v := Int32.ofNat (K.1 17)) rfl hk.1.1 (show gI h a 17 = Int32.ofNat (K.1 17) from (hk.2.1 17 (by omega)).1) ?_
      refine Er_run 1 (pc' := 5) (ls' := [some (.ref a)]) (st' := [.ref a, .int (Int32.ofNat (K.1 17))]) rfl ?_
      refine Er_getR (x := s + 52 + 11 * j) rfl hk.1.1 (Eq.trans hk.2.2.2.1 (show (K).2.2.1.map (fun j => s + 52 + 11 * j) = some (s + 52 + 11 * j) from by rw [show (K).2.2.1 = some j from hj]; rfl)) ?_
      have hpt := s_Job_parts (hs.2.2.2 j hj8).1
      rw [(hs.2.2.2 j hj8).2.1 5 (by omega) (by omega), hG5] at hpt
      refine Er_inv1 (q' := s + 52 + 11 * j) (ci := 2) (av := []) (rest := [.int (Int32.ofNat (K.1 17))]) rfl rfl ⟨Nat.le_of_ble_eq_true rfl, Nat.le_of_ble_eq_true rfl⟩ rfl rfl (hs.2.2.2 j hj8).1.1 hpt ?_
      refine Er_run 1 (pc' := bif decide ((Int32.ofNat (K.1 17)) < (Int32.ofNat np)) then 19 else 14) (ls' := [some (.ref a)]) (st' := []) rfl ?_
      refine Er_pc (t := 14) (show (bif decide ((Int32.ofNat (K.1 17)) < (Int32.ofNat np)) then 19 else 14) = 14 from by rw [show (decide ((Int32.ofNat (K.1 17)) < (Int32.ofNat np))) = false from by rw [jx_lt (by omega) (by omega)]; exact decide_eq_false hlt]; rfl) ?_
      refine Er_run 1 (pc' := 15) (ls' := [some (.ref a)]) (st' := [.ref a]) rfl ?_
      obtain ⟨h1, rn1, kk1, ll1, ss1, jj1, zq1⟩ := s_Master_commit hj hj8 hf hG4 hr360 hcm hp9 hca hF2 hsy hyr hra hk hl hs hr
      have qq1 : FK a y r s h h1 := FK.trans (FK.refl a y r s h) zq1
      refine Er_inv0 (q' := a) (ci := 10) (av := []) (rest := []) rfl rfl ⟨Nat.le_of_ble_eq_true rfl, Nat.le_of_ble_eq_true rfl⟩ rfl rfl hk.1.1 rn1 ?_
      refine Er_fin rfl rfl ?_
      rw [jk_gath, if_neg hlt]
      exact ⟨rfl, kk1, ll1, ss1, jj1, qq1⟩
  obtain ⟨r9, h', hrr, e, hq⟩ := Run_of (Nat.le_of_ble_eq_true rfl) hx
  subst e
  exact ⟨h', hrr, hq⟩
def jk_av (K : Jk) (t : Nat) : Prop := K.2.2.2.2.1 t = -1 ∨ 300 < Int32.ofNat (K.1 16) - K.2.2.2.2.2.1 t
/-- the JOB's tasks from t on: the first that this worker was given, else the first that may be given -/
def jk_scan (K : Jk) (x : Int32) : Nat → Nat → Option Nat → Option Nat
  | 0, _, f => f
  | n + 1, t, f => if K.2.2.2.1 t = -1 then (if K.2.2.2.2.1 t = x then some t else jk_scan K x n (t + 1) (if f = none ∧ (K.2.2.2.2.1 t = -1 ∨ 300 < Int32.ofNat (K.1 16) - K.2.2.2.2.2.1 t) then some t else f)) else jk_scan K x n (t + 1) f
def jk_o (x : Option Nat) : Int32 := match x with
  | none => -1
  | some t => Int32.ofNat t
def jk_tf (K : Jk) (x : Int32) (np : Nat) : Option Nat := if K.1 12 < K.1 11 then jk_scan K x (K.1 11) 0 none else jk_scan K x np 38 none
theorem jk_scan_lt {x : Int32} : ∀ (n t : Nat) (f : Option Nat), (∀ q, f = some q → q < t + n) → ∀ q, jk_scan K x n t f = some q → q < t + n := by
  intro n
  induction n with
  | zero => intro t f hf q e; exact hf q e
  | succ n ih =>
    intro t f hf q e
    rw [jk_scan] at e
    split at e
    · split at e
      · cases e; omega
      · have := ih (t + 1) _ (fun q hq => by split at hq; · cases hq; omega
                                             have := hf q hq; omega) q e
        omega
    · have := ih (t + 1) f (fun q hq => by have := hf q hq; omega) q e
      omega

theorem l_taskFor {x x3 : Int32} {x2 : Option Value} {e : Nat} (he : e ≤ 44) (hk : KK h a s y r K) : ∀ (n t : Nat) (f : Option Nat), t + n = e → (∀ q, f = some q → q < 44) → Ev 130 68 [some (.ref a), some (.int x), x2, some (.int x3), some (.int (Int32.ofNat e)), some (.int (jk_o f)), some (.int (Int32.ofNat t))] [] h (fun r9 h1 => r9 = .inl (some (.int (jk_o (jk_scan K x n t f)))) ∧ h1 = h) := by
  intro n
  induction n with
  | zero =>
    intro t f ht hfq
    have e1 : e = t := by omega
    refine Er_run 3 (pc' := bif decide ((Int32.ofNat e) ≤ (Int32.ofNat t)) then 145 else 75) (ls' := [some (.ref a), some (.int x), x2, some (.int x3), some (.int (Int32.ofNat e)), some (.int (jk_o f)), some (.int (Int32.ofNat t))]) (st' := []) rfl ?_
    refine Er_pc (t := 145) (show (bif decide ((Int32.ofNat e) ≤ (Int32.ofNat t)) then 145 else 75) = 145 from by rw [show (decide ((Int32.ofNat e) ≤ (Int32.ofNat t))) = true from by rw [jx_le (by omega) (by omega)]; exact decide_eq_true (by omega)]; rfl) ?_
    refine Er_run 1 (pc' := 147) (ls' := [some (.ref a), some (.int x), x2, some (.int x3), some (.int (Int32.ofNat e)), some (.int (jk_o f)), some (.int (Int32.ofNat t))]) (st' := [.int (jk_o f)]) rfl ?_
    exact Er_fin rfl rfl ⟨rfl, rfl⟩
  | succ n ih =>
    intro t f ht hfq
    by_cases hd : K.2.2.2.1 t = -1
    · by_cases hg : K.2.2.2.2.1 t = x
      · skip
        refine Er_run 3 (pc' := bif decide ((Int32.ofNat e) ≤ (Int32.ofNat t)) then 145 else 75) (ls' := [some (.ref a), some (.int x), x2, some (.int x3), some (.int (Int32.ofNat e)), some (.int (jk_o f)), some (.int (Int32.ofNat t))]) (st' := []) rfl ?_
        refine Er_pc (t := 75) (show (bif decide ((Int32.ofNat e) ≤ (Int32.ofNat t)) then 145 else 75) = 75 from by rw [show (decide ((Int32.ofNat e) ≤ (Int32.ofNat t))) = false from by rw [jx_le (by omega) (by omega)]; exact decide_eq_false (by omega)]; rfl) ?_
        refine Er_run 1 (pc' := 76) (ls' := [some (.ref a), some (.int x), x2, some (.int x3), some (.int (Int32.ofNat e)), some (.int (jk_o f)), some (.int (Int32.ofNat t))]) (st' := [.ref a]) rfl ?_
        refine Er_getR (x := a + 6) rfl hk.1.1 hk.1.2.2.2.2.2.2.1 ?_
        refine Er_run 1 (pc' := 81) (ls' := [some (.ref a), some (.int x), x2, some (.int x3), some (.int (Int32.ofNat e)), some (.int (jk_o f)), some (.int (Int32.ofNat t))]) (st' := [.int (Int32.ofNat t), .ref (a + 6)]) rfl ?_
        refine Er_iald (v := K.2.2.2.1 t) rfl hk.1.2.2.2.2.2.2.2.2.2.1 (by rw [hk.1.2.2.2.2.2.2.2.2.2.2.1]; exact sm_in_of (by rw [sm_ofNat_toInt (by omega)]; omega) (by rw [sm_ofNat_toInt (by omega)]; omega)) (by rw [jx_cn (by omega)]; exact (show gI h (a + 6) t = K.2.2.2.1 t from hk.2.2.2.2.1 t (by omega))) ?_
        refine Er_run 2 (pc' := bif !decide ((K.2.2.2.1 t) = ((-1 : Int32))) then 139 else 86) (ls' := [some (.ref a), some (.int x), x2, some (.int x3), some (.int (Int32.ofNat e)), some (.int (jk_o f)), some (.int (Int32.ofNat t))]) (st' := []) rfl ?_
        refine Er_pc (t := 86) (show (bif !decide ((K.2.2.2.1 t) = ((-1 : Int32))) then 139 else 86) = 86 from by rw [show (!decide ((K.2.2.2.1 t) = ((-1 : Int32)))) = false from by rw [decide_eq_true hd]; rfl]; rfl) ?_
        refine Er_run 1 (pc' := 87) (ls' := [some (.ref a), some (.int x), x2, some (.int x3), some (.int (Int32.ofNat e)), some (.int (jk_o f)), some (.int (Int32.ofNat t))]) (st' := [.ref a]) rfl ?_
        refine Er_getR (x := a + 7) rfl hk.1.1 hk.1.2.2.2.2.2.2.2.1 ?_
        refine Er_run 1 (pc' := 92) (ls' := [some (.ref a), some (.int x), x2, some (.int x3), some (.int (Int32.ofNat e)), some (.int (jk_o f)), some (.int (Int32.ofNat t))]) (st' := [.int (Int32.ofNat t), .ref (a + 7)]) rfl ?_
        refine Er_iald (v := K.2.2.2.2.1 t) rfl hk.1.2.2.2.2.2.2.2.2.2.2.2.1 (by rw [hk.1.2.2.2.2.2.2.2.2.2.2.2.2.1]; exact sm_in_of (by rw [sm_ofNat_toInt (by omega)]; omega) (by rw [sm_ofNat_toInt (by omega)]; omega)) (by rw [jx_cn (by omega)]; exact (show gI h (a + 7) t = K.2.2.2.2.1 t from hk.2.2.2.2.2.1 t (by omega))) ?_
        refine Er_run 2 (pc' := bif !decide ((K.2.2.2.2.1 t) = x) then 100 else 97) (ls' := [some (.ref a), some (.int x), x2, some (.int x3), some (.int (Int32.ofNat e)), some (.int (jk_o f)), some (.int (Int32.ofNat t))]) (st' := []) rfl ?_
        refine Er_pc (t := 97) (show (bif !decide ((K.2.2.2.2.1 t) = x) then 100 else 97) = 97 from by rw [show (!decide ((K.2.2.2.2.1 t) = x)) = false from by rw [decide_eq_true hg]; rfl]; rfl) ?_
        refine Er_run 1 (pc' := 99) (ls' := [some (.ref a), some (.int x), x2, some (.int x3), some (.int (Int32.ofNat e)), some (.int (jk_o f)), some (.int (Int32.ofNat t))]) (st' := [.int (Int32.ofNat t)]) rfl ?_
        refine Er_fin rfl rfl ?_
        rw [jk_scan, if_pos hd, if_pos hg]
        exact ⟨rfl, rfl⟩
      · by_cases hfn : jk_o f = -1
        · by_cases hf0 : f = none
          · by_cases hn1 : K.2.2.2.2.1 t = -1
            · skip
              refine Er_run 3 (pc' := bif decide ((Int32.ofNat e) ≤ (Int32.ofNat t)) then 145 else 75) (ls' := [some (.ref a), some (.int x), x2, some (.int x3), some (.int (Int32.ofNat e)), some (.int (jk_o f)), some (.int (Int32.ofNat t))]) (st' := []) rfl ?_
              refine Er_pc (t := 75) (show (bif decide ((Int32.ofNat e) ≤ (Int32.ofNat t)) then 145 else 75) = 75 from by rw [show (decide ((Int32.ofNat e) ≤ (Int32.ofNat t))) = false from by rw [jx_le (by omega) (by omega)]; exact decide_eq_false (by omega)]; rfl) ?_
              refine Er_run 1 (pc' := 76) (ls' := [some (.ref a), some (.int x), x2, some (.int x3), some (.int (Int32.ofNat e)), some (.int (jk_o f)), some (.int (Int32.ofNat t))]) (st' := [.ref a]) rfl ?_
              refine Er_getR (x := a + 6) rfl hk.1.1 hk.1.2.2.2.2.2.2.1 ?_
              refine Er_run 1 (pc' := 81) (ls' := [some (.ref a), some (.int x), x2, some (.int x3), some (.int (Int32.ofNat e)), some (.int (jk_o f)), some (.int (Int32.ofNat t))]) (st' := [.int (Int32.ofNat t), .ref (a + 6)]) rfl ?_
              refine Er_iald (v := K.2.2.2.1 t) rfl hk.1.2.2.2.2.2.2.2.2.2.1 (by rw [hk.1.2.2.2.2.2.2.2.2.2.2.1]; exact sm_in_of (by rw [sm_ofNat_toInt (by omega)]; omega) (by rw [sm_ofNat_toInt (by omega)]; omega)) (by rw [jx_cn (by omega)]; exact (show gI h (a + 6) t = K.2.2.2.1 t from hk.2.2.2.2.1 t (by omega))) ?_
              refine Er_run 2 (pc' := bif !decide ((K.2.2.2.1 t) = ((-1 : Int32))) then 139 else 86) (ls' := [some (.ref a), some (.int x), x2, some (.int x3), some (.int (Int32.ofNat e)), some (.int (jk_o f)), some (.int (Int32.ofNat t))]) (st' := []) rfl ?_
              refine Er_pc (t := 86) (show (bif !decide ((K.2.2.2.1 t) = ((-1 : Int32))) then 139 else 86) = 86 from by rw [show (!decide ((K.2.2.2.1 t) = ((-1 : Int32)))) = false from by rw [decide_eq_true hd]; rfl]; rfl) ?_
              refine Er_run 1 (pc' := 87) (ls' := [some (.ref a), some (.int x), x2, some (.int x3), some (.int (Int32.ofNat e)), some (.int (jk_o f)), some (.int (Int32.ofNat t))]) (st' := [.ref a]) rfl ?_
              refine Er_getR (x := a + 7) rfl hk.1.1 hk.1.2.2.2.2.2.2.2.1 ?_
              refine Er_run 1 (pc' := 92) (ls' := [some (.ref a), some (.int x), x2, some (.int x3), some (.int (Int32.ofNat e)), some (.int (jk_o f)), some (.int (Int32.ofNat t))]) (st' := [.int (Int32.ofNat t), .ref (a + 7)]) rfl ?_
              refine Er_iald (v := K.2.2.2.2.1 t) rfl hk.1.2.2.2.2.2.2.2.2.2.2.2.1 (by rw [hk.1.2.2.2.2.2.2.2.2.2.2.2.2.1]; exact sm_in_of (by rw [sm_ofNat_toInt (by omega)]; omega) (by rw [sm_ofNat_toInt (by omega)]; omega)) (by rw [jx_cn (by omega)]; exact (show gI h (a + 7) t = K.2.2.2.2.1 t from hk.2.2.2.2.2.1 t (by omega))) ?_
              refine Er_run 2 (pc' := bif !decide ((K.2.2.2.2.1 t) = x) then 100 else 97) (ls' := [some (.ref a), some (.int x), x2, some (.int x3), some (.int (Int32.ofNat e)), some (.int (jk_o f)), some (.int (Int32.ofNat t))]) (st' := []) rfl ?_
              refine Er_pc (t := 100) (show (bif !decide ((K.2.2.2.2.1 t) = x) then 100 else 97) = 100 from by rw [show (!decide ((K.2.2.2.2.1 t) = x)) = true from by rw [decide_eq_false hg]; rfl]; rfl) ?_
              refine Er_run 3 (pc' := bif !decide ((jk_o f) = ((-1 : Int32))) then 139 else 106) (ls' := [some (.ref a), some (.int x), x2, some (.int x3), some (.int (Int32.ofNat e)), some (.int (jk_o f)), some (.int (Int32.ofNat t))]) (st' := []) rfl ?_
              refine Er_pc (t := 106) (show (bif !decide ((jk_o f) = ((-1 : Int32))) then 139 else 106) = 106 from by rw [show (!decide ((jk_o f) = ((-1 : Int32)))) = false from by rw [decide_eq_true hfn]; rfl]; rfl) ?_
              refine Er_run 1 (pc' := 107) (ls' := [some (.ref a), some (.int x), x2, some (.int x3), some (.int (Int32.ofNat e)), some (.int (jk_o f)), some (.int (Int32.ofNat t))]) (st' := [.ref a]) rfl ?_
              refine Er_getR (x := a + 7) rfl hk.1.1 hk.1.2.2.2.2.2.2.2.1 ?_
              refine Er_run 1 (pc' := 112) (ls' := [some (.ref a), some (.int x), x2, some (.int x3), some (.int (Int32.ofNat e)), some (.int (jk_o f)), some (.int (Int32.ofNat t))]) (st' := [.int (Int32.ofNat t), .ref (a + 7)]) rfl ?_
              refine Er_iald (v := K.2.2.2.2.1 t) rfl hk.1.2.2.2.2.2.2.2.2.2.2.2.1 (by rw [hk.1.2.2.2.2.2.2.2.2.2.2.2.2.1]; exact sm_in_of (by rw [sm_ofNat_toInt (by omega)]; omega) (by rw [sm_ofNat_toInt (by omega)]; omega)) (by rw [jx_cn (by omega)]; exact (show gI h (a + 7) t = K.2.2.2.2.1 t from hk.2.2.2.2.2.1 t (by omega))) ?_
              refine Er_run 2 (pc' := bif decide ((K.2.2.2.2.1 t) = ((-1 : Int32))) then 135 else 117) (ls' := [some (.ref a), some (.int x), x2, some (.int x3), some (.int (Int32.ofNat e)), some (.int (jk_o f)), some (.int (Int32.ofNat t))]) (st' := []) rfl ?_
              refine Er_pc (t := 135) (show (bif decide ((K.2.2.2.2.1 t) = ((-1 : Int32))) then 135 else 117) = 135 from by rw [show (decide ((K.2.2.2.2.1 t) = ((-1 : Int32)))) = true from decide_eq_true hn1]; rfl) ?_
              refine Er_run 4 (pc' := 68) (ls' := [some (.ref a), some (.int x), x2, some (.int x3), some (.int (Int32.ofNat e)), some (.int (Int32.ofNat t)), some (.int ((Int32.ofNat t) + (1 : Int32)))]) (st' := []) rfl ?_
              rw [jx_s1]
              rw [jk_scan, if_pos hd, if_neg hg, if_pos ⟨hf0, Or.inl hn1⟩]
              exact ih (t + 1) (some t) (by omega) (fun q hq => by cases hq; omega)
            · by_cases hn2 : 300 < Int32.ofNat (K.1 16) - K.2.2.2.2.2.1 t
              · skip
                refine Er_run 3 (pc' := bif decide ((Int32.ofNat e) ≤ (Int32.ofNat t)) then 145 else 75) (ls' := [some (.ref a), some (.int x), x2, some (.int x3), some (.int (Int32.ofNat e)), some (.int (jk_o f)), some (.int (Int32.ofNat t))]) (st' := []) rfl ?_
                refine Er_pc (t := 75) (show (bif decide ((Int32.ofNat e) ≤ (Int32.ofNat t)) then 145 else 75) = 75 from by rw [show (decide ((Int32.ofNat e) ≤ (Int32.ofNat t))) = false from by rw [jx_le (by omega) (by omega)]; exact decide_eq_false (by omega)]; rfl) ?_
                refine Er_run 1 (pc' := 76) (ls' := [some (.ref a), some (.int x), x2, some (.int x3), some (.int (Int32.ofNat e)), some (.int (jk_o f)), some (.int (Int32.ofNat t))]) (st' := [.ref a]) rfl ?_
                refine Er_getR (x := a + 6) rfl hk.1.1 hk.1.2.2.2.2.2.2.1 ?_
                refine Er_run 1 (pc' := 81) (ls' := [some (.ref a), some (.int x), x2, some (.int x3), some (.int (Int32.ofNat e)), some (.int (jk_o f)), some (.int (Int32.ofNat t))]) (st' := [.int (Int32.ofNat t), .ref (a + 6)]) rfl ?_
                refine Er_iald (v := K.2.2.2.1 t) rfl hk.1.2.2.2.2.2.2.2.2.2.1 (by rw [hk.1.2.2.2.2.2.2.2.2.2.2.1]; exact sm_in_of (by rw [sm_ofNat_toInt (by omega)]; omega) (by rw [sm_ofNat_toInt (by omega)]; omega)) (by rw [jx_cn (by omega)]; exact (show gI h (a + 6) t = K.2.2.2.1 t from hk.2.2.2.2.1 t (by omega))) ?_
                refine Er_run 2 (pc' := bif !decide ((K.2.2.2.1 t) = ((-1 : Int32))) then 139 else 86) (ls' := [some (.ref a), some (.int x), x2, some (.int x3), some (.int (Int32.ofNat e)), some (.int (jk_o f)), some (.int (Int32.ofNat t))]) (st' := []) rfl ?_
                refine Er_pc (t := 86) (show (bif !decide ((K.2.2.2.1 t) = ((-1 : Int32))) then 139 else 86) = 86 from by rw [show (!decide ((K.2.2.2.1 t) = ((-1 : Int32)))) = false from by rw [decide_eq_true hd]; rfl]; rfl) ?_
                refine Er_run 1 (pc' := 87) (ls' := [some (.ref a), some (.int x), x2, some (.int x3), some (.int (Int32.ofNat e)), some (.int (jk_o f)), some (.int (Int32.ofNat t))]) (st' := [.ref a]) rfl ?_
                refine Er_getR (x := a + 7) rfl hk.1.1 hk.1.2.2.2.2.2.2.2.1 ?_
                refine Er_run 1 (pc' := 92) (ls' := [some (.ref a), some (.int x), x2, some (.int x3), some (.int (Int32.ofNat e)), some (.int (jk_o f)), some (.int (Int32.ofNat t))]) (st' := [.int (Int32.ofNat t), .ref (a + 7)]) rfl ?_
                refine Er_iald (v := K.2.2.2.2.1 t) rfl hk.1.2.2.2.2.2.2.2.2.2.2.2.1 (by rw [hk.1.2.2.2.2.2.2.2.2.2.2.2.2.1]; exact sm_in_of (by rw [sm_ofNat_toInt (by omega)]; omega) (by rw [sm_ofNat_toInt (by omega)]; omega)) (by rw [jx_cn (by omega)]; exact (show gI h (a + 7) t = K.2.2.2.2.1 t from hk.2.2.2.2.2.1 t (by omega))) ?_
                refine Er_run 2 (pc' := bif !decide ((K.2.2.2.2.1 t) = x) then 100 else 97) (ls' := [some (.ref a), some (.int x), x2, some (.int x3), some (.int (Int32.ofNat e)), some (.int (jk_o f)), some (.int (Int32.ofNat t))]) (st' := []) rfl ?_
                refine Er_pc (t := 100) (show (bif !decide ((K.2.2.2.2.1 t) = x) then 100 else 97) = 100 from by rw [show (!decide ((K.2.2.2.2.1 t) = x)) = true from by rw [decide_eq_false hg]; rfl]; rfl) ?_
                refine Er_run 3 (pc' := bif !decide ((jk_o f) = ((-1 : Int32))) then 139 else 106) (ls' := [some (.ref a), some (.int x), x2, some (.int x3), some (.int (Int32.ofNat e)), some (.int (jk_o f)), some (.int (Int32.ofNat t))]) (st' := []) rfl ?_
                refine Er_pc (t := 106) (show (bif !decide ((jk_o f) = ((-1 : Int32))) then 139 else 106) = 106 from by rw [show (!decide ((jk_o f) = ((-1 : Int32)))) = false from by rw [decide_eq_true hfn]; rfl]; rfl) ?_
                refine Er_run 1 (pc' := 107) (ls' := [some (.ref a), some (.int x), x2, some (.int x3), some (.int (Int32.ofNat e)), some (.int (jk_o f)), some (.int (Int32.ofNat t))]) (st' := [.ref a]) rfl ?_
                refine Er_getR (x := a + 7) rfl hk.1.1 hk.1.2.2.2.2.2.2.2.1 ?_
                refine Er_run 1 (pc' := 112) (ls' := [some (.ref a), some (.int x), x2, some (.int x3), some (.int (Int32.ofNat e)), some (.int (jk_o f)), some (.int (Int32.ofNat t))]) (st' := [.int (Int32.ofNat t), .ref (a + 7)]) rfl ?_
                refine Er_iald (v := K.2.2.2.2.1 t) rfl hk.1.2.2.2.2.2.2.2.2.2.2.2.1 (by rw [hk.1.2.2.2.2.2.2.2.2.2.2.2.2.1]; exact sm_in_of (by rw [sm_ofNat_toInt (by omega)]; omega) (by rw [sm_ofNat_toInt (by omega)]; omega)) (by rw [jx_cn (by omega)]; exact (show gI h (a + 7) t = K.2.2.2.2.1 t from hk.2.2.2.2.2.1 t (by omega))) ?_
                refine Er_run 2 (pc' := bif decide ((K.2.2.2.2.1 t) = ((-1 : Int32))) then 135 else 117) (ls' := [some (.ref a), some (.int x), x2, some (.int x3), some (.int (Int32.ofNat e)), some (.int (jk_o f)), some (.int (Int32.ofNat t))]) (st' := []) rfl ?_
                refine Er_pc (t := 117) (show (bif decide ((K.2.2.2.2.1 t) = ((-1 : Int32))) then 135 else 117) = 117 from by rw [show (decide ((K.2.2.2.2.1 t) = ((-1 : Int32)))) = false from decide_eq_false hn1]; rfl) ?_
                refine Er_run 1 (pc' := 118) (ls' := [some (.ref a), some (.int x), x2, some (.int x3), some (.int (Int32.ofNat e)), some (.int (jk_o f)), some (.int (Int32.ofNat t))]) (st' := [.ref a]) rfl ?_
                refine Er_getI (v := Int32.ofNat (K.1 16)) rfl hk.1.1 (show gI h a 16 = Int32.ofNat (K.1 16) from (hk.2.1 16 (by omega)).1) ?_
                refine Er_run 1 (pc' := 122) (ls' := [some (.ref a), some (.int x), x2, some (.int x3), some (.int (Int32.ofNat e)), some (.int (jk_o f)), some (.int (Int32.ofNat t))]) (st' := [.ref a, .int (Int32.ofNat (K.1 16))]) rfl ?_
                refine Er_getR (x := a + 8) rfl hk.1.1 hk.1.2.2.2.2.2.2.2.2.1 ?_
                refine Er_run 1 (pc' := 127) (ls' := [some (.ref a), some (.int x), x2, some (.int x3), some (.int (Int32.ofNat e)), some (.int (jk_o f)), some (.int (Int32.ofNat t))]) (st' := [.int (Int32.ofNat t), .ref (a + 8), .int (Int32.ofNat (K.1 16))]) rfl ?_
                refine Er_iald (v := K.2.2.2.2.2.1 t) rfl hk.1.2.2.2.2.2.2.2.2.2.2.2.2.2.1 (by rw [hk.1.2.2.2.2.2.2.2.2.2.2.2.2.2.2]; exact sm_in_of (by rw [sm_ofNat_toInt (by omega)]; omega) (by rw [sm_ofNat_toInt (by omega)]; omega)) (by rw [jx_cn (by omega)]; exact (show gI h (a + 8) t = K.2.2.2.2.2.1 t from hk.2.2.2.2.2.2.1 t (by omega))) ?_
                refine Er_run 3 (pc' := bif decide (((Int32.ofNat (K.1 16)) - (K.2.2.2.2.2.1 t)) ≤ ((300 : Int32))) then 139 else 135) (ls' := [some (.ref a), some (.int x), x2, some (.int x3), some (.int (Int32.ofNat e)), some (.int (jk_o f)), some (.int (Int32.ofNat t))]) (st' := []) rfl ?_
                refine Er_pc (t := 135) (show (bif decide (((Int32.ofNat (K.1 16)) - (K.2.2.2.2.2.1 t)) ≤ ((300 : Int32))) then 139 else 135) = 135 from by rw [show (decide (((Int32.ofNat (K.1 16)) - (K.2.2.2.2.2.1 t)) ≤ ((300 : Int32)))) = false from decide_eq_false (Int32.not_le.2 hn2)]; rfl) ?_
                refine Er_run 4 (pc' := 68) (ls' := [some (.ref a), some (.int x), x2, some (.int x3), some (.int (Int32.ofNat e)), some (.int (Int32.ofNat t)), some (.int ((Int32.ofNat t) + (1 : Int32)))]) (st' := []) rfl ?_
                rw [jx_s1]
                rw [jk_scan, if_pos hd, if_neg hg, if_pos ⟨hf0, Or.inr hn2⟩]
                exact ih (t + 1) (some t) (by omega) (fun q hq => by cases hq; omega)
              · skip
                refine Er_run 3 (pc' := bif decide ((Int32.ofNat e) ≤ (Int32.ofNat t)) then 145 else 75) (ls' := [some (.ref a), some (.int x), x2, some (.int x3), some (.int (Int32.ofNat e)), some (.int (jk_o f)), some (.int (Int32.ofNat t))]) (st' := []) rfl ?_
                refine Er_pc (t := 75) (show (bif decide ((Int32.ofNat e) ≤ (Int32.ofNat t)) then 145 else 75) = 75 from by rw [show (decide ((Int32.ofNat e) ≤ (Int32.ofNat t))) = false from by rw [jx_le (by omega) (by omega)]; exact decide_eq_false (by omega)]; rfl) ?_
                refine Er_run 1 (pc' := 76) (ls' := [some (.ref a), some (.int x), x2, some (.int x3), some (.int (Int32.ofNat e)), some (.int (jk_o f)), some (.int (Int32.ofNat t))]) (st' := [.ref a]) rfl ?_
                refine Er_getR (x := a + 6) rfl hk.1.1 hk.1.2.2.2.2.2.2.1 ?_
                refine Er_run 1 (pc' := 81) (ls' := [some (.ref a), some (.int x), x2, some (.int x3), some (.int (Int32.ofNat e)), some (.int (jk_o f)), some (.int (Int32.ofNat t))]) (st' := [.int (Int32.ofNat t), .ref (a + 6)]) rfl ?_
                refine Er_iald (v := K.2.2.2.1 t) rfl hk.1.2.2.2.2.2.2.2.2.2.1 (by rw [hk.1.2.2.2.2.2.2.2.2.2.2.1]; exact sm_in_of (by rw [sm_ofNat_toInt (by omega)]; omega) (by rw [sm_ofNat_toInt (by omega)]; omega)) (by rw [jx_cn (by omega)]; exact (show gI h (a + 6) t = K.2.2.2.1 t from hk.2.2.2.2.1 t (by omega))) ?_
                refine Er_run 2 (pc' := bif !decide ((K.2.2.2.1 t) = ((-1 : Int32))) then 139 else 86) (ls' := [some (.ref a), some (.int x), x2, some (.int x3), some (.int (Int32.ofNat e)), some (.int (jk_o f)), some (.int (Int32.ofNat t))]) (st' := []) rfl ?_
                refine Er_pc (t := 86) (show (bif !decide ((K.2.2.2.1 t) = ((-1 : Int32))) then 139 else 86) = 86 from by rw [show (!decide ((K.2.2.2.1 t) = ((-1 : Int32)))) = false from by rw [decide_eq_true hd]; rfl]; rfl) ?_
                refine Er_run 1 (pc' := 87) (ls' := [some (.ref a), some (.int x), x2, some (.int x3), some (.int (Int32.ofNat e)), some (.int (jk_o f)), some (.int (Int32.ofNat t))]) (st' := [.ref a]) rfl ?_
                refine Er_getR (x := a + 7) rfl hk.1.1 hk.1.2.2.2.2.2.2.2.1 ?_
                refine Er_run 1 (pc' := 92) (ls' := [some (.ref a), some (.int x), x2, some (.int x3), some (.int (Int32.ofNat e)), some (.int (jk_o f)), some (.int (Int32.ofNat t))]) (st' := [.int (Int32.ofNat t), .ref (a + 7)]) rfl ?_
                refine Er_iald (v := K.2.2.2.2.1 t) rfl hk.1.2.2.2.2.2.2.2.2.2.2.2.1 (by rw [hk.1.2.2.2.2.2.2.2.2.2.2.2.2.1]; exact sm_in_of (by rw [sm_ofNat_toInt (by omega)]; omega) (by rw [sm_ofNat_toInt (by omega)]; omega)) (by rw [jx_cn (by omega)]; exact (show gI h (a + 7) t = K.2.2.2.2.1 t from hk.2.2.2.2.2.1 t (by omega))) ?_
                refine Er_run 2 (pc' := bif !decide ((K.2.2.2.2.1 t) = x) then 100 else 97) (ls' := [some (.ref a), some (.int x), x2, some (.int x3), some (.int (Int32.ofNat e)), some (.int (jk_o f)), some (.int (Int32.ofNat t))]) (st' := []) rfl ?_
                refine Er_pc (t := 100) (show (bif !decide ((K.2.2.2.2.1 t) = x) then 100 else 97) = 100 from by rw [show (!decide ((K.2.2.2.2.1 t) = x)) = true from by rw [decide_eq_false hg]; rfl]; rfl) ?_
                refine Er_run 3 (pc' := bif !decide ((jk_o f) = ((-1 : Int32))) then 139 else 106) (ls' := [some (.ref a), some (.int x), x2, some (.int x3), some (.int (Int32.ofNat e)), some (.int (jk_o f)), some (.int (Int32.ofNat t))]) (st' := []) rfl ?_
                refine Er_pc (t := 106) (show (bif !decide ((jk_o f) = ((-1 : Int32))) then 139 else 106) = 106 from by rw [show (!decide ((jk_o f) = ((-1 : Int32)))) = false from by rw [decide_eq_true hfn]; rfl]; rfl) ?_
                refine Er_run 1 (pc' := 107) (ls' := [some (.ref a), some (.int x), x2, some (.int x3), some (.int (Int32.ofNat e)), some (.int (jk_o f)), some (.int (Int32.ofNat t))]) (st' := [.ref a]) rfl ?_
                refine Er_getR (x := a + 7) rfl hk.1.1 hk.1.2.2.2.2.2.2.2.1 ?_
                refine Er_run 1 (pc' := 112) (ls' := [some (.ref a), some (.int x), x2, some (.int x3), some (.int (Int32.ofNat e)), some (.int (jk_o f)), some (.int (Int32.ofNat t))]) (st' := [.int (Int32.ofNat t), .ref (a + 7)]) rfl ?_
                refine Er_iald (v := K.2.2.2.2.1 t) rfl hk.1.2.2.2.2.2.2.2.2.2.2.2.1 (by rw [hk.1.2.2.2.2.2.2.2.2.2.2.2.2.1]; exact sm_in_of (by rw [sm_ofNat_toInt (by omega)]; omega) (by rw [sm_ofNat_toInt (by omega)]; omega)) (by rw [jx_cn (by omega)]; exact (show gI h (a + 7) t = K.2.2.2.2.1 t from hk.2.2.2.2.2.1 t (by omega))) ?_
                refine Er_run 2 (pc' := bif decide ((K.2.2.2.2.1 t) = ((-1 : Int32))) then 135 else 117) (ls' := [some (.ref a), some (.int x), x2, some (.int x3), some (.int (Int32.ofNat e)), some (.int (jk_o f)), some (.int (Int32.ofNat t))]) (st' := []) rfl ?_
                refine Er_pc (t := 117) (show (bif decide ((K.2.2.2.2.1 t) = ((-1 : Int32))) then 135 else 117) = 117 from by rw [show (decide ((K.2.2.2.2.1 t) = ((-1 : Int32)))) = false from decide_eq_false hn1]; rfl) ?_
                refine Er_run 1 (pc' := 118) (ls' := [some (.ref a), some (.int x), x2, some (.int x3), some (.int (Int32.ofNat e)), some (.int (jk_o f)), some (.int (Int32.ofNat t))]) (st' := [.ref a]) rfl ?_
                refine Er_getI (v := Int32.ofNat (K.1 16)) rfl hk.1.1 (show gI h a 16 = Int32.ofNat (K.1 16) from (hk.2.1 16 (by omega)).1) ?_
                refine Er_run 1 (pc' := 122) (ls' := [some (.ref a), some (.int x), x2, some (.int x3), some (.int (Int32.ofNat e)), some (.int (jk_o f)), some (.int (Int32.ofNat t))]) (st' := [.ref a, .int (Int32.ofNat (K.1 16))]) rfl ?_
                refine Er_getR (x := a + 8) rfl hk.1.1 hk.1.2.2.2.2.2.2.2.2.1 ?_
                refine Er_run 1 (pc' := 127) (ls' := [some (.ref a), some (.int x), x2, some (.int x3), some (.int (Int32.ofNat e)), some (.int (jk_o f)), some (.int (Int32.ofNat t))]) (st' := [.int (Int32.ofNat t), .ref (a + 8), .int (Int32.ofNat (K.1 16))]) rfl ?_
                refine Er_iald (v := K.2.2.2.2.2.1 t) rfl hk.1.2.2.2.2.2.2.2.2.2.2.2.2.2.1 (by rw [hk.1.2.2.2.2.2.2.2.2.2.2.2.2.2.2]; exact sm_in_of (by rw [sm_ofNat_toInt (by omega)]; omega) (by rw [sm_ofNat_toInt (by omega)]; omega)) (by rw [jx_cn (by omega)]; exact (show gI h (a + 8) t = K.2.2.2.2.2.1 t from hk.2.2.2.2.2.2.1 t (by omega))) ?_
                refine Er_run 3 (pc' := bif decide (((Int32.ofNat (K.1 16)) - (K.2.2.2.2.2.1 t)) ≤ ((300 : Int32))) then 139 else 135) (ls' := [some (.ref a), some (.int x), x2, some (.int x3), some (.int (Int32.ofNat e)), some (.int (jk_o f)), some (.int (Int32.ofNat t))]) (st' := []) rfl ?_
                refine Er_pc (t := 139) (show (bif decide (((Int32.ofNat (K.1 16)) - (K.2.2.2.2.2.1 t)) ≤ ((300 : Int32))) then 139 else 135) = 139 from by rw [show (decide (((Int32.ofNat (K.1 16)) - (K.2.2.2.2.2.1 t)) ≤ ((300 : Int32)))) = true from decide_eq_true (Int32.not_lt.1 hn2)]; rfl) ?_
                refine Er_run 2 (pc' := 68) (ls' := [some (.ref a), some (.int x), x2, some (.int x3), some (.int (Int32.ofNat e)), some (.int (jk_o f)), some (.int ((Int32.ofNat t) + (1 : Int32)))]) (st' := []) rfl ?_
                rw [jx_s1]
                rw [jk_scan, if_pos hd, if_neg hg, if_neg (fun z => z.2.elim hn1 hn2)]
                exact ih (t + 1) f (by omega) hfq
          · exfalso
            obtain ⟨q, hq⟩ := Option.ne_none_iff_exists'.1 hf0
            rw [hq] at hfn
            exact jx_m1 (by have := hfq q hq; omega) hfn
        · skip
          refine Er_run 3 (pc' := bif decide ((Int32.ofNat e) ≤ (Int32.ofNat t)) then 145 else 75) (ls' := [some (.ref a), some (.int x), x2, some (.int x3), some (.int (Int32.ofNat e)), some (.int (jk_o f)), some (.int (Int32.ofNat t))]) (st' := []) rfl ?_
          refine Er_pc (t := 75) (show (bif decide ((Int32.ofNat e) ≤ (Int32.ofNat t)) then 145 else 75) = 75 from by rw [show (decide ((Int32.ofNat e) ≤ (Int32.ofNat t))) = false from by rw [jx_le (by omega) (by omega)]; exact decide_eq_false (by omega)]; rfl) ?_
          refine Er_run 1 (pc' := 76) (ls' := [some (.ref a), some (.int x), x2, some (.int x3), some (.int (Int32.ofNat e)), some (.int (jk_o f)), some (.int (Int32.ofNat t))]) (st' := [.ref a]) rfl ?_
          refine Er_getR (x := a + 6) rfl hk.1.1 hk.1.2.2.2.2.2.2.1 ?_
          refine Er_run 1 (pc' := 81) (ls' := [some (.ref a), some (.int x), x2, some (.int x3), some (.int (Int32.ofNat e)), some (.int (jk_o f)), some (.int (Int32.ofNat t))]) (st' := [.int (Int32.ofNat t), .ref (a + 6)]) rfl ?_
          refine Er_iald (v := K.2.2.2.1 t) rfl hk.1.2.2.2.2.2.2.2.2.2.1 (by rw [hk.1.2.2.2.2.2.2.2.2.2.2.1]; exact sm_in_of (by rw [sm_ofNat_toInt (by omega)]; omega) (by rw [sm_ofNat_toInt (by omega)]; omega)) (by rw [jx_cn (by omega)]; exact (show gI h (a + 6) t = K.2.2.2.1 t from hk.2.2.2.2.1 t (by omega))) ?_
          refine Er_run 2 (pc' := bif !decide ((K.2.2.2.1 t) = ((-1 : Int32))) then 139 else 86) (ls' := [some (.ref a), some (.int x), x2, some (.int x3), some (.int (Int32.ofNat e)), some (.int (jk_o f)), some (.int (Int32.ofNat t))]) (st' := []) rfl ?_
          refine Er_pc (t := 86) (show (bif !decide ((K.2.2.2.1 t) = ((-1 : Int32))) then 139 else 86) = 86 from by rw [show (!decide ((K.2.2.2.1 t) = ((-1 : Int32)))) = false from by rw [decide_eq_true hd]; rfl]; rfl) ?_
          refine Er_run 1 (pc' := 87) (ls' := [some (.ref a), some (.int x), x2, some (.int x3), some (.int (Int32.ofNat e)), some (.int (jk_o f)), some (.int (Int32.ofNat t))]) (st' := [.ref a]) rfl ?_
          refine Er_getR (x := a + 7) rfl hk.1.1 hk.1.2.2.2.2.2.2.2.1 ?_
          refine Er_run 1 (pc' := 92) (ls' := [some (.ref a), some (.int x), x2, some (.int x3), some (.int (Int32.ofNat e)), some (.int (jk_o f)), some (.int (Int32.ofNat t))]) (st' := [.int (Int32.ofNat t), .ref (a + 7)]) rfl ?_
          refine Er_iald (v := K.2.2.2.2.1 t) rfl hk.1.2.2.2.2.2.2.2.2.2.2.2.1 (by rw [hk.1.2.2.2.2.2.2.2.2.2.2.2.2.1]; exact sm_in_of (by rw [sm_ofNat_toInt (by omega)]; omega) (by rw [sm_ofNat_toInt (by omega)]; omega)) (by rw [jx_cn (by omega)]; exact (show gI h (a + 7) t = K.2.2.2.2.1 t from hk.2.2.2.2.2.1 t (by omega))) ?_
          refine Er_run 2 (pc' := bif !decide ((K.2.2.2.2.1 t) = x) then 100 else 97) (ls' := [some (.ref a), some (.int x), x2, some (.int x3), some (.int (Int32.ofNat e)), some (.int (jk_o f)), some (.int (Int32.ofNat t))]) (st' := []) rfl ?_
          refine Er_pc (t := 100) (show (bif !decide ((K.2.2.2.2.1 t) = x) then 100 else 97) = 100 from by rw [show (!decide ((K.2.2.2.2.1 t) = x)) = true from by rw [decide_eq_false hg]; rfl]; rfl) ?_
          refine Er_run 3 (pc' := bif !decide ((jk_o f) = ((-1 : Int32))) then 139 else 106) (ls' := [some (.ref a), some (.int x), x2, some (.int x3), some (.int (Int32.ofNat e)), some (.int (jk_o f)), some (.int (Int32.ofNat t))]) (st' := []) rfl ?_
          refine Er_pc (t := 139) (show (bif !decide ((jk_o f) = ((-1 : Int32))) then 139 else 106) = 139 from by rw [show (!decide ((jk_o f) = ((-1 : Int32)))) = true from by rw [decide_eq_false hfn]; rfl]; rfl) ?_
          refine Er_run 2 (pc' := 68) (ls' := [some (.ref a), some (.int x), x2, some (.int x3), some (.int (Int32.ofNat e)), some (.int (jk_o f)), some (.int ((Int32.ofNat t) + (1 : Int32)))]) (st' := []) rfl ?_
          rw [jx_s1]
          rw [jk_scan, if_pos hd, if_neg hg, if_neg (fun z => hfn (by rw [z.1]; rfl))]
          exact ih (t + 1) f (by omega) hfq
    · skip
      refine Er_run 3 (pc' := bif decide ((Int32.ofNat e) ≤ (Int32.ofNat t)) then 145 else 75) (ls' := [some (.ref a), some (.int x), x2, some (.int x3), some (.int (Int32.ofNat e)), some (.int (jk_o f)), some (.int (Int32.ofNat t))]) (st' := []) rfl ?_
      refine Er_pc (t := 75) (show (bif decide ((Int32.ofNat e) ≤ (Int32.ofNat t)) then 145 else 75) = 75 from by rw [show (decide ((Int32.ofNat e) ≤ (Int32.ofNat t))) = false from by rw [jx_le (by omega) (by omega)]; exact decide_eq_false (by omega)]; rfl) ?_
      refine Er_run 1 (pc' := 76) (ls' := [some (.ref a), some (.int x), x2, some (.int x3), some (.int (Int32.ofNat e)), some (.int (jk_o f)), some (.int (Int32.ofNat t))]) (st' := [.ref a]) rfl ?_
      refine Er_getR (x := a + 6) rfl hk.1.1 hk.1.2.2.2.2.2.2.1 ?_
      refine Er_run 1 (pc' := 81) (ls' := [some (.ref a), some (.int x), x2, some (.int x3), some (.int (Int32.ofNat e)), some (.int (jk_o f)), some (.int (Int32.ofNat t))]) (st' := [.int (Int32.ofNat t), .ref (a + 6)]) rfl ?_
      refine Er_iald (v := K.2.2.2.1 t) rfl hk.1.2.2.2.2.2.2.2.2.2.1 (by rw [hk.1.2.2.2.2.2.2.2.2.2.2.1]; exact sm_in_of (by rw [sm_ofNat_toInt (by omega)]; omega) (by rw [sm_ofNat_toInt (by omega)]; omega)) (by rw [jx_cn (by omega)]; exact (show gI h (a + 6) t = K.2.2.2.1 t from hk.2.2.2.2.1 t (by omega))) ?_
      refine Er_run 2 (pc' := bif !decide ((K.2.2.2.1 t) = ((-1 : Int32))) then 139 else 86) (ls' := [some (.ref a), some (.int x), x2, some (.int x3), some (.int (Int32.ofNat e)), some (.int (jk_o f)), some (.int (Int32.ofNat t))]) (st' := []) rfl ?_
      refine Er_pc (t := 139) (show (bif !decide ((K.2.2.2.1 t) = ((-1 : Int32))) then 139 else 86) = 139 from by rw [show (!decide ((K.2.2.2.1 t) = ((-1 : Int32)))) = true from by rw [decide_eq_false hd]; rfl]; rfl) ?_
      refine Er_run 2 (pc' := 68) (ls' := [some (.ref a), some (.int x), x2, some (.int x3), some (.int (Int32.ofNat e)), some (.int (jk_o f)), some (.int ((Int32.ofNat t) + (1 : Int32)))]) (st' := []) rfl ?_
      rw [jx_s1]
      rw [jk_scan, if_neg hd]
      exact ih (t + 1) f (by omega) hfq
theorem s_Master_taskFor {x : Int32} {np : Nat} (hj : K.2.2.1 = some j) (hj8 : j < 8) (hG5 : G j 5 = Int32.ofNat np) (hnp6 : np ≤ 6) (h11 : K.1 11 ≤ 38) (hk : KK h a s y r K) (hs : ST h s cl G PR F) : Run 130 [.ref a, .int x] h (.inl (some (.int (jk_o (jk_tf K x np))))) h := by
  have b12 := (hk.2.1 12 (by omega)).2
  by_cases hc : K.1 12 < K.1 11
  · rw [jk_tf, if_pos hc]
    refine ⟨Nat.le_of_ble_eq_true rfl, ?_⟩
    show Ev 130 0 [some (.ref a), some (.int x), none, none, none, none, none] [] h _
    refine Er_run 1 (pc' := 1) (ls' := [some (.ref a), some (.int x), none, none, none, none, none]) (st' := [.ref a]) rfl ?_
    refine Er_getI (v := Int32.ofNat (K.1 12)) rfl hk.1.1 (show gI h a 12 = Int32.ofNat (K.1 12) from (hk.2.1 12 (by omega)).1) ?_
    refine Er_run 1 (pc' := 5) (ls' := [some (.ref a), some (.int x), none, none, none, none, none]) (st' := [.ref a, .int (Int32.ofNat (K.1 12))]) rfl ?_
    refine Er_getI (v := Int32.ofNat (K.1 11)) rfl hk.1.1 (show gI h a 11 = Int32.ofNat (K.1 11) from (hk.2.1 11 (by omega)).1) ?_
    refine Er_run 1 (pc' := bif decide ((Int32.ofNat (K.1 11)) ≤ (Int32.ofNat (K.1 12))) then 15 else 11) (ls' := [some (.ref a), some (.int x), none, none, none, none, none]) (st' := []) rfl ?_
    refine Er_pc (t := 11) (show (bif decide ((Int32.ofNat (K.1 11)) ≤ (Int32.ofNat (K.1 12))) then 15 else 11) = 11 from by rw [show (decide ((Int32.ofNat (K.1 11)) ≤ (Int32.ofNat (K.1 12)))) = false from by rw [jx_le (by omega) (by omega)]; exact decide_eq_false (by omega)]; rfl) ?_
    refine Er_run 5 (pc' := bif decide (((1 : Int32)) = 0) then 25 else 21) (ls' := [some (.ref a), some (.int x), some (.int ((1 : Int32))), none, none, none, none]) (st' := []) rfl ?_
    refine Er_pc (t := 21) (show (bif decide (((1 : Int32)) = 0) then 25 else 21) = 21 from by rw [show (decide (((1 : Int32)) = 0)) = false from by decide]; rfl) ?_
    refine Er_run 5 (pc' := bif decide (((1 : Int32)) = 0) then 39 else 32) (ls' := [some (.ref a), some (.int x), some (.int ((1 : Int32))), some (.int ((0 : Int32))), none, none, none]) (st' := []) rfl ?_
    refine Er_pc (t := 32) (show (bif decide (((1 : Int32)) = 0) then 39 else 32) = 32 from by rw [show (decide (((1 : Int32)) = 0)) = false from by decide]; rfl) ?_
    refine Er_run 1 (pc' := 33) (ls' := [some (.ref a), some (.int x), some (.int ((1 : Int32))), some (.int ((0 : Int32))), none, none, none]) (st' := [.ref a]) rfl ?_
    refine Er_getI (v := Int32.ofNat (K.1 11)) rfl hk.1.1 (show gI h a 11 = Int32.ofNat (K.1 11) from (hk.2.1 11 (by omega)).1) ?_
    refine Er_run 6 (pc' := 68) (ls' := [some (.ref a), some (.int x), some (.int ((1 : Int32))), some (.int ((0 : Int32))), some (.int (Int32.ofNat (K.1 11))), some (.int ((-1 : Int32))), some (.int ((0 : Int32)))]) (st' := []) rfl ?_
    have hlt := l_taskFor (x := x) (x2 := some (.int 1)) (x3 := 0) (e := K.1 11) (by omega) hk (K.1 11) 0 none (by omega) (fun q hq => by cases hq)
    exact hlt
  · rw [jk_tf, if_neg hc]
    refine ⟨Nat.le_of_ble_eq_true rfl, ?_⟩
    show Ev 130 0 [some (.ref a), some (.int x), none, none, none, none, none] [] h _
    refine Er_run 1 (pc' := 1) (ls' := [some (.ref a), some (.int x), none, none, none, none, none]) (st' := [.ref a]) rfl ?_
    refine Er_getI (v := Int32.ofNat (K.1 12)) rfl hk.1.1 (show gI h a 12 = Int32.ofNat (K.1 12) from (hk.2.1 12 (by omega)).1) ?_
    refine Er_run 1 (pc' := 5) (ls' := [some (.ref a), some (.int x), none, none, none, none, none]) (st' := [.ref a, .int (Int32.ofNat (K.1 12))]) rfl ?_
    refine Er_getI (v := Int32.ofNat (K.1 11)) rfl hk.1.1 (show gI h a 11 = Int32.ofNat (K.1 11) from (hk.2.1 11 (by omega)).1) ?_
    refine Er_run 1 (pc' := bif decide ((Int32.ofNat (K.1 11)) ≤ (Int32.ofNat (K.1 12))) then 15 else 11) (ls' := [some (.ref a), some (.int x), none, none, none, none, none]) (st' := []) rfl ?_
    refine Er_pc (t := 15) (show (bif decide ((Int32.ofNat (K.1 11)) ≤ (Int32.ofNat (K.1 12))) then 15 else 11) = 15 from by rw [show (decide ((Int32.ofNat (K.1 11)) ≤ (Int32.ofNat (K.1 12)))) = true from by rw [jx_le (by omega) (by omega)]; exact decide_eq_true (by omega)]; rfl) ?_
    refine Er_run 4 (pc' := bif decide (((0 : Int32)) = 0) then 25 else 21) (ls' := [some (.ref a), some (.int x), some (.int ((0 : Int32))), none, none, none, none]) (st' := []) rfl ?_
    refine Er_pc (t := 25) (show (bif decide (((0 : Int32)) = 0) then 25 else 21) = 25 from by rw [show (decide (((0 : Int32)) = 0)) = true from by decide]; rfl) ?_
    refine Er_run 4 (pc' := bif decide (((0 : Int32)) = 0) then 39 else 32) (ls' := [some (.ref a), some (.int x), some (.int ((0 : Int32))), some (.int ((38 : Int32))), none, none, none]) (st' := []) rfl ?_
    refine Er_pc (t := 39) (show (bif decide (((0 : Int32)) = 0) then 39 else 32) = 39 from by rw [show (decide (((0 : Int32)) = 0)) = true from by decide]; rfl) ?_
    refine Er_run 2 (pc' := 42) (ls' := [some (.ref a), some (.int x), some (.int ((0 : Int32))), some (.int ((38 : Int32))), none, none, none]) (st' := [.ref a, .int ((38 : Int32))]) rfl ?_
    refine Er_getR (x := s + 52 + 11 * j) rfl hk.1.1 (Eq.trans hk.2.2.2.1 (show (K).2.2.1.map (fun j => s + 52 + 11 * j) = some (s + 52 + 11 * j) from by rw [show (K).2.2.1 = some j from hj]; rfl)) ?_
    refine Er_run 2 (pc' := 53) (ls' := [some (.ref a), some (.int x), some (.int ((0 : Int32))), some (.int ((38 : Int32))), none, none, none]) (st' := [.ref a, .int ((38 : Int32))]) rfl ?_
    refine Er_getR (x := s + 52 + 11 * j) rfl hk.1.1 (Eq.trans hk.2.2.2.1 (show (K).2.2.1.map (fun j => s + 52 + 11 * j) = some (s + 52 + 11 * j) from by rw [show (K).2.2.1 = some j from hj]; rfl)) ?_
    have hpt := s_Job_parts (hs.2.2.2 j hj8).1
    rw [(hs.2.2.2 j hj8).2.1 5 (by omega) (by omega), hG5] at hpt
    refine Er_inv1 (q' := s + 52 + 11 * j) (ci := 2) (av := []) (rest := [.int ((38 : Int32))]) rfl rfl ⟨Nat.le_of_ble_eq_true rfl, Nat.le_of_ble_eq_true rfl⟩ rfl rfl (hs.2.2.2 j hj8).1.1 hpt ?_
    refine Er_run 6 (pc' := 68) (ls' := [some (.ref a), some (.int x), some (.int ((0 : Int32))), some (.int ((38 : Int32))), some (.int (((38 : Int32)) + (Int32.ofNat np))), some (.int ((-1 : Int32))), some (.int ((38 : Int32)))]) (st' := []) rfl ?_
    rw [show (38 : Int32) + Int32.ofNat np = Int32.ofNat (38 + np) from by rw [show (38 : Int32) = Int32.ofNat 38 from rfl, jx_add]]
    have hlt := l_taskFor (x := x) (x2 := some (.int 0)) (x3 := 38) (e := 38 + np) (by omega) hk np 38 none (by omega) (fun q hq => by cases hq)
    exact hlt
end MASTD
