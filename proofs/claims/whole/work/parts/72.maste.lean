section MASTE
variable {h : sm_H} {a s y r j : Nat} {K : Jk} {L : Jn} {R : Jr} {cl : List Nat} {G : Nat → Nat → Int32} {PR : Nat → Nat → List (Int32 × Int64)} {F : Nat → Jl}
def jk_hl (K : Jk) (n : Nat) : List Int64 := (List.range n).map (fun i => (K.2.2.2.1 i).toInt64)
def jk_give (K : Jk) (t v : Nat) : Jk := jk_sa (jk_st K (jx_up K.2.2.2.2.1 t (Int32.ofNat v))) (jx_up K.2.2.2.2.2.1 t (Int32.ofNat (K.1 16)))
def jk_gm (K : Jk) (t v : Nat) : Jm := (jx_up (jm_new 1 6 (Int32.ofNat v) (Int32.ofNat (K.1 9)) (Int32.ofNat t)) 9 (Int32.ofNat (K.1 11)), jk_hl K (K.1 11))
def jk_ask (K : Jk) (L : Jn) (np v : Nat) : Jk × Jn := match jk_tf K (Int32.ofNat v) np with
  | none => (K, L)
  | some t => (jk_give K t v, jn_snd L (jk_gm K t v) v)

theorem l_ask {x1 x2 : Int32} {g : Nat → Int32} {Q : sm_R → sm_H → Prop} (hsy : s + 140 ≤ y) (hyr : y + 229 ≤ r) (hra : r + 5 ≤ a) (h11 : K.1 11 ≤ 38) : ∀ (n i : Nat) (h : sm_H), i + n = K.1 11 → KK h a s y r K → LL h y L → ST h s cl G PR F → JR h r R → MG h (a + 1) (g, jk_hl K i) → (∀ h', KK h' a s y r K → LL h' y L → ST h' s cl G PR F → JR h' r R → MG h' (a + 1) (g, jk_hl K (K.1 11)) → FK a y r s h h' → Ev 129 86 [some (.ref a), some (.int x1), some (.int x2), some (.int (Int32.ofNat (K.1 11)))] [] h' Q) → Ev 129 58 [some (.ref a), some (.int x1), some (.int x2), some (.int (Int32.ofNat i))] [] h Q := by
  intro n
  induction n with
  | zero =>
    intro i h hi hk hl hs hr hg kk
    refine Er_run 2 (pc' := 60) (ls' := [some (.ref a), some (.int x1), some (.int x2), some (.int (Int32.ofNat i))]) (st' := [.ref a, .int (Int32.ofNat i)]) rfl ?_
    refine Er_getI (v := Int32.ofNat (K.1 11)) rfl hk.1.1 (show gI h a 11 = Int32.ofNat (K.1 11) from (hk.2.1 11 (by omega)).1) ?_
    refine Er_run 1 (pc' := bif decide ((Int32.ofNat (K.1 11)) ≤ (Int32.ofNat i)) then 86 else 66) (ls' := [some (.ref a), some (.int x1), some (.int x2), some (.int (Int32.ofNat i))]) (st' := []) rfl ?_
    refine Er_pc (t := 86) (show (bif decide ((Int32.ofNat (K.1 11)) ≤ (Int32.ofNat i)) then 86 else 66) = 86 from by rw [show (decide ((Int32.ofNat (K.1 11)) ≤ (Int32.ofNat i))) = true from by rw [jx_le (by omega) (by omega)]; exact decide_eq_true (by omega)]; rfl) ?_
    have hi2 : i = K.1 11 := by omega
    subst hi2
    exact kk h hk hl hs hr hg (FK.refl a y r s h)
  | succ n ih =>
    intro i h hi hk hl hs hr hg kk
    refine Er_run 2 (pc' := 60) (ls' := [some (.ref a), some (.int x1), some (.int x2), some (.int (Int32.ofNat i))]) (st' := [.ref a, .int (Int32.ofNat i)]) rfl ?_
    refine Er_getI (v := Int32.ofNat (K.1 11)) rfl hk.1.1 (show gI h a 11 = Int32.ofNat (K.1 11) from (hk.2.1 11 (by omega)).1) ?_
    refine Er_run 1 (pc' := bif decide ((Int32.ofNat (K.1 11)) ≤ (Int32.ofNat i)) then 86 else 66) (ls' := [some (.ref a), some (.int x1), some (.int x2), some (.int (Int32.ofNat i))]) (st' := []) rfl ?_
    refine Er_pc (t := 66) (show (bif decide ((Int32.ofNat (K.1 11)) ≤ (Int32.ofNat i)) then 86 else 66) = 66 from by rw [show (decide ((Int32.ofNat (K.1 11)) ≤ (Int32.ofNat i))) = false from by rw [jx_le (by omega) (by omega)]; exact decide_eq_false (by omega)]; rfl) ?_
    refine Er_run 1 (pc' := 67) (ls' := [some (.ref a), some (.int x1), some (.int x2), some (.int (Int32.ofNat i))]) (st' := [.ref a]) rfl ?_
    refine Er_getR (x := a + 1) rfl hk.1.1 hk.1.2.2.2.2.1 ?_
    refine Er_run 1 (pc' := 71) (ls' := [some (.ref a), some (.int x1), some (.int x2), some (.int (Int32.ofNat i))]) (st' := [.ref a, .ref (a + 1)]) rfl ?_
    refine Er_getR (x := a + 6) rfl hk.1.1 hk.1.2.2.2.2.2.2.1 ?_
    refine Er_run 1 (pc' := 75) (ls' := [some (.ref a), some (.int x1), some (.int x2), some (.int (Int32.ofNat i))]) (st' := [.int (Int32.ofNat i), .ref (a + 6), .ref (a + 1)]) rfl ?_
    refine Er_iald (v := K.2.2.2.1 i) rfl hk.1.2.2.2.2.2.2.2.2.2.1 (by rw [hk.1.2.2.2.2.2.2.2.2.2.2.1]; exact sm_in_of (by rw [sm_ofNat_toInt (by omega)]; omega) (by rw [sm_ofNat_toInt (by omega)]; omega)) (by rw [jx_cn (by omega)]; exact (show gI h (a + 6) i = K.2.2.2.1 i from hk.2.2.2.2.1 i (by omega))) ?_
    refine Er_run 1 (pc' := 77) (ls' := [some (.ref a), some (.int x1), some (.int x2), some (.int (Int32.ofNat i))]) (st' := [.long (Int32.toInt64 (K.2.2.2.1 i)), .ref (a + 1)]) rfl ?_
    obtain ⟨h1, rn1, u1, z1⟩ := s_Message_put (x := (K.2.2.2.1 i).toInt64) hg (by show (jk_hl K i).length < 38; rw [jk_hl, List.length_map, List.length_range]; omega)
    have u1 : MG h1 (a + 1) (g, jk_hl K (i + 1)) := by rw [jk_hl, List.range_succ, List.map_append]; exact u1
    have kk1 : KK h1 a s y r K := KK_le z1 u1 hk
    have ll1 := LL_fr z1 (by omega) hl
    have ss1 := ST_fr z1 (by omega) hs
    have jj1 := JR_fr z1 (by omega) hr
    have qq1 : FK a y r s h h1 := FK.trans (FK.refl a y r s h) (FK.of z1 (by omega))
    refine Er_inv0 (q' := a + 1) (ci := 5) (av := [.long (Int32.toInt64 (K.2.2.2.1 i))]) (rest := []) rfl rfl ⟨Nat.le_of_ble_eq_true rfl, Nat.le_of_ble_eq_true rfl⟩ rfl rfl hg.1.1 rn1 ?_
    refine Er_run 2 (pc' := 58) (ls' := [some (.ref a), some (.int x1), some (.int x2), some (.int ((Int32.ofNat i) + (1 : Int32)))]) (st' := []) rfl ?_
    rw [jx_s1]
    exact ih (i + 1) h1 (by omega) kk1 ll1 ss1 jj1 u1 (fun h9 a1 a2 a3 a4 a5 a6 => kk h9 a1 a2 a3 a4 a5 (FK.trans qq1 a6))
theorem s_Master_hearAsk {np v : Nat} (hv7 : v < 7) (hj : K.2.2.1 = some j) (hj8 : j < 8) (hG5 : G j 5 = Int32.ofNat np) (hnp6 : np ≤ 6) (h11 : K.1 11 ≤ 38) (hsy : s + 140 ≤ y) (hyr : y + 229 ≤ r) (hra : r + 5 ≤ a) (hk : KK h a s y r K) (hl : LL h y L) (hs : ST h s cl G PR F) (hr : JR h r R) : ∃ h', Run 129 [.ref a, .int (Int32.ofNat v)] h (.inl none) h' ∧ KK h' a s y r ((jk_ask K L np v).1) ∧ LL h' y ((jk_ask K L np v).2) ∧ ST h' s cl G PR (F) ∧ JR h' r (R) ∧ FK a y r s h h' := by
  obtain ⟨m0, g0⟩ := hk.2.2.2.2.2.2.2.2
  have hx : Ev 129 0 (sm_pad (sm_ent [.ref a, .int (Int32.ofNat v)]) (sm_prog.2.1 129)) [] h (fun r9 h1 => r9 = .inl none ∧ KK h1 a s y r ((jk_ask K L np v).1) ∧ LL h1 y ((jk_ask K L np v).2) ∧ ST h1 s cl G PR (F) ∧ JR h1 r (R) ∧ FK a y r s h h1) := by
    cases e : jk_tf K (Int32.ofNat v) np with
    | none =>
      show Ev 129 0 [some (.ref a), some (.int (Int32.ofNat v)), none, none] [] h _
      refine Er_run 2 (pc' := 2) (ls' := [some (.ref a), some (.int (Int32.ofNat v)), none, none]) (st' := [.int (Int32.ofNat v), .ref a]) rfl ?_
      have htf := s_Master_taskFor (x := Int32.ofNat v) hj hj8 hG5 hnp6 h11 hk hs
      rw [e] at htf
      refine Er_inv1 (q' := a) (ci := 10) (av := [.int (Int32.ofNat v)]) (rest := []) rfl rfl ⟨Nat.le_of_ble_eq_true rfl, Nat.le_of_ble_eq_true rfl⟩ rfl rfl hk.1.1 htf ?_
      refine Er_run 4 (pc' := bif !decide (((-1 : Int32)) = ((-1 : Int32))) then 12 else 11) (ls' := [some (.ref a), some (.int (Int32.ofNat v)), some (.int ((-1 : Int32))), none]) (st' := []) rfl ?_
      refine Er_pc (t := 11) (show (bif !decide (((-1 : Int32)) = ((-1 : Int32))) then 12 else 11) = 11 from by rw [show (!decide (((-1 : Int32)) = ((-1 : Int32)))) = false from by decide]; rfl) ?_
      refine Er_fin rfl rfl ?_
      rw [jk_ask, e]
      exact ⟨rfl, hk, hl, hs, hr, (FK.refl a y r s h)⟩
    | some t =>
      have ht44 : t < 44 := by
        rw [jk_tf] at e
        split at e
        · have := jk_scan_lt (K.1 11) 0 none (fun q hq => by cases hq) t e; omega
        · have := jk_scan_lt np 38 none (fun q hq => by cases hq) t e; omega
      show Ev 129 0 [some (.ref a), some (.int (Int32.ofNat v)), none, none] [] h _
      refine Er_run 2 (pc' := 2) (ls' := [some (.ref a), some (.int (Int32.ofNat v)), none, none]) (st' := [.int (Int32.ofNat v), .ref a]) rfl ?_
      have htf := s_Master_taskFor (x := Int32.ofNat v) hj hj8 hG5 hnp6 h11 hk hs
      rw [e] at htf
      refine Er_inv1 (q' := a) (ci := 10) (av := [.int (Int32.ofNat v)]) (rest := []) rfl rfl ⟨Nat.le_of_ble_eq_true rfl, Nat.le_of_ble_eq_true rfl⟩ rfl rfl hk.1.1 htf ?_
      refine Er_run 4 (pc' := bif !decide ((Int32.ofNat t) = ((-1 : Int32))) then 12 else 11) (ls' := [some (.ref a), some (.int (Int32.ofNat v)), some (.int (Int32.ofNat t)), none]) (st' := []) rfl ?_
      refine Er_pc (t := 12) (show (bif !decide ((Int32.ofNat t) = ((-1 : Int32))) then 12 else 11) = 12 from by rw [show (!decide ((Int32.ofNat t) = ((-1 : Int32)))) = true from by rw [decide_eq_false (jx_m1 (by omega))]; rfl]; rfl) ?_
      refine Er_run 1 (pc' := 13) (ls' := [some (.ref a), some (.int (Int32.ofNat v)), some (.int (Int32.ofNat t)), none]) (st' := [.ref a]) rfl ?_
      refine Er_getR (x := a + 7) rfl hk.1.1 hk.1.2.2.2.2.2.2.2.1 ?_
      refine Er_run 2 (pc' := 18) (ls' := [some (.ref a), some (.int (Int32.ofNat v)), some (.int (Int32.ofNat t)), none]) (st' := [.int (Int32.ofNat v), .int (Int32.ofNat t), .ref (a + 7)]) rfl ?_
      refine Er_iast rfl hk.1.2.2.2.2.2.2.2.2.2.2.2.1 (by rw [hk.1.2.2.2.2.2.2.2.2.2.2.2.2.1]; exact sm_in_of (by rw [sm_ofNat_toInt (by omega)]; omega) (by rw [sm_ofNat_toInt (by omega)]; omega)) ?_
      rw [jx_cn (by omega)]
      have z1 : Fr (a + 7) (a + 8) h (setI h (a + 7) t (Int32.ofNat v)) := Fr.setI (by omega) (by omega)
      have kk1 : KK (setI h (a + 7) t (Int32.ofNat v)) a s y r (jk_st K (jx_up K.2.2.2.2.1 t (Int32.ofNat v))) := KK_st z1 (fun i hi => jk_row (hk.2.2.2.2.2.1 i hi)) hk
      generalize setI h (a + 7) t (Int32.ofNat v) = h1 at z1 kk1 ⊢
      have ll1 := LL_fr z1 (by omega) hl
      have ss1 := ST_fr z1 (by omega) hs
      have jj1 := JR_fr z1 (by omega) hr
      have qq1 : FK a y r s h h1 := FK.trans (FK.refl a y r s h) (FK.of z1 (by omega))
      have g1_a1 := MG_fr z1 (by omega) g0
      refine Er_run 1 (pc' := 20) (ls' := [some (.ref a), some (.int (Int32.ofNat v)), some (.int (Int32.ofNat t)), none]) (st' := [.ref a]) rfl ?_
      refine Er_getR (x := a + 8) rfl kk1.1.1 kk1.1.2.2.2.2.2.2.2.2.1 ?_
      refine Er_run 2 (pc' := 25) (ls' := [some (.ref a), some (.int (Int32.ofNat v)), some (.int (Int32.ofNat t)), none]) (st' := [.ref a, .int (Int32.ofNat t), .ref (a + 8)]) rfl ?_
      refine Er_getI (v := Int32.ofNat (K.1 16)) rfl kk1.1.1 (show gI h1 a 16 = Int32.ofNat (K.1 16) from (kk1.2.1 16 (by omega)).1) ?_
      refine Er_iast rfl kk1.1.2.2.2.2.2.2.2.2.2.2.2.2.2.1 (by rw [kk1.1.2.2.2.2.2.2.2.2.2.2.2.2.2.2]; exact sm_in_of (by rw [sm_ofNat_toInt (by omega)]; omega) (by rw [sm_ofNat_toInt (by omega)]; omega)) ?_
      rw [jx_cn (by omega)]
      have z2 : Fr (a + 8) (a + 9) h1 (setI h1 (a + 8) t (Int32.ofNat (K.1 16))) := Fr.setI (by omega) (by omega)
      have kk2 : KK (setI h1 (a + 8) t (Int32.ofNat (K.1 16))) a s y r (jk_sa (jk_st K (jx_up K.2.2.2.2.1 t (Int32.ofNat v))) (jx_up K.2.2.2.2.2.1 t (Int32.ofNat (K.1 16)))) := KK_sa z2 (fun i hi => jk_row (kk1.2.2.2.2.2.2.1 i hi)) kk1
      generalize setI h1 (a + 8) t (Int32.ofNat (K.1 16)) = h2 at z2 kk2 ⊢
      have ll2 := LL_fr z2 (by omega) ll1
      have ss2 := ST_fr z2 (by omega) ss1
      have jj2 := JR_fr z2 (by omega) jj1
      have qq2 : FK a y r s h h2 := FK.trans qq1 (FK.of z2 (by omega))
      have g2_a1 := MG_fr z2 (by omega) g1_a1
      refine Er_run 1 (pc' := 30) (ls' := [some (.ref a), some (.int (Int32.ofNat v)), some (.int (Int32.ofNat t)), none]) (st' := [.ref a]) rfl ?_
      refine Er_getR (x := a + 1) rfl kk2.1.1 kk2.1.2.2.2.2.1 ?_
      refine Er_run 4 (pc' := 38) (ls' := [some (.ref a), some (.int (Int32.ofNat v)), some (.int (Int32.ofNat t)), none]) (st' := [.ref a, .int (Int32.ofNat v), .int ((6 : Int32)), .int ((1 : Int32)), .ref (a + 1)]) rfl ?_
      refine Er_getI (v := Int32.ofNat (K.1 9)) rfl kk2.1.1 (show gI h2 a 9 = Int32.ofNat (K.1 9) from (kk2.2.1 9 (by omega)).1) ?_
      refine Er_run 1 (pc' := 42) (ls' := [some (.ref a), some (.int (Int32.ofNat v)), some (.int (Int32.ofNat t)), none]) (st' := [.int (Int32.ofNat t), .int (Int32.ofNat (K.1 9)), .int (Int32.ofNat v), .int ((6 : Int32)), .int ((1 : Int32)), .ref (a + 1)]) rfl ?_
      obtain ⟨h3, rn3, u3, z3⟩ := s_Message_write (k := (1 : Int32)) (s := (6 : Int32)) (u := Int32.ofNat v) (p := Int32.ofNat (K.1 9)) (t := Int32.ofNat t) g2_a1
      have kk3 : KK h3 a s y r (jk_sa (jk_st K (jx_up K.2.2.2.2.1 t (Int32.ofNat v))) (jx_up K.2.2.2.2.2.1 t (Int32.ofNat (K.1 16)))) := KK_le z3 u3 kk2
      have ll3 := LL_fr z3 (by omega) ll2
      have ss3 := ST_fr z3 (by omega) ss2
      have jj3 := JR_fr z3 (by omega) jj2
      have qq3 : FK a y r s h h3 := FK.trans qq2 (FK.of z3 (by omega))
      refine Er_inv0 (q' := a + 1) (ci := 5) (av := [.int ((1 : Int32)), .int ((6 : Int32)), .int (Int32.ofNat v), .int (Int32.ofNat (K.1 9)), .int (Int32.ofNat t)]) (rest := []) rfl rfl ⟨Nat.le_of_ble_eq_true rfl, Nat.le_of_ble_eq_true rfl⟩ rfl rfl g2_a1.1.1 rn3 ?_
      refine Er_run 1 (pc' := 46) (ls' := [some (.ref a), some (.int (Int32.ofNat v)), some (.int (Int32.ofNat t)), none]) (st' := [.ref a]) rfl ?_
      refine Er_getR (x := a + 1) rfl kk3.1.1 kk3.1.2.2.2.2.1 ?_
      refine Er_run 1 (pc' := 50) (ls' := [some (.ref a), some (.int (Int32.ofNat v)), some (.int (Int32.ofNat t)), none]) (st' := [.ref a, .ref (a + 1)]) rfl ?_
      refine Er_getI (v := Int32.ofNat (K.1 11)) rfl kk3.1.1 (show gI h3 a 11 = Int32.ofNat (K.1 11) from (kk3.2.1 11 (by omega)).1) ?_
      refine Er_putI rfl u3.1.1 ?_
      have z4 : Fr (a + 1) (a + 3) h3 (setI h3 (a + 1) 9 (Int32.ofNat (K.1 11))) := Fr.setI (by omega) (by omega)
      have u4 : MG (setI h3 (a + 1) 9 (Int32.ofNat (K.1 11))) (a + 1) (jx_up ((jm_new ((1 : Int32)) ((6 : Int32)) (Int32.ofNat v) (Int32.ofNat (K.1 9)) (Int32.ofNat t), [])).1 9 (Int32.ofNat (K.1 11)), ((jm_new ((1 : Int32)) ((6 : Int32)) (Int32.ofNat v) (Int32.ofNat (K.1 9)) (Int32.ofNat t), [])).2) := MG_set (by omega) u3
      generalize setI h3 (a + 1) 9 (Int32.ofNat (K.1 11)) = h4 at z4 u4 ⊢
      have kk4 : KK h4 a s y r (jk_sa (jk_st K (jx_up K.2.2.2.2.1 t (Int32.ofNat v))) (jx_up K.2.2.2.2.2.1 t (Int32.ofNat (K.1 16)))) := KK_le z4 u4 kk3
      have ll4 := LL_fr z4 (by omega) ll3
      have ss4 := ST_fr z4 (by omega) ss3
      have jj4 := JR_fr z4 (by omega) jj3
      have qq4 : FK a y r s h h4 := FK.trans qq3 (FK.of z4 (by omega))
      refine Er_run 2 (pc' := 58) (ls' := [some (.ref a), some (.int (Int32.ofNat v)), some (.int (Int32.ofNat t)), some (.int ((0 : Int32)))]) (st' := []) rfl ?_
      have ug : MG h4 (a + 1) (jx_up (jm_new 1 6 (Int32.ofNat v) (Int32.ofNat (K.1 9)) (Int32.ofNat t)) 9 (Int32.ofNat (K.1 11)), jk_hl (jk_give K t v) 0) := u4
      refine l_ask (K := jk_give K t v) (g := jx_up (jm_new 1 6 (Int32.ofNat v) (Int32.ofNat (K.1 9)) (Int32.ofNat t)) 9 (Int32.ofNat (K.1 11))) hsy hyr hra h11 (K.1 11) 0 h4 (by show 0 + K.1 11 = K.1 11; omega) kk4 ll4 ss4 jj4 ug (fun h20 b1 b2 b3 b4 b5 b6 => ?_)
      have b7 : FK a y r s h h20 := FK.trans qq4 b6
      refine Er_run 1 (pc' := 87) (ls' := [some (.ref a), some (.int (Int32.ofNat v)), some (.int (Int32.ofNat t)), some (.int (Int32.ofNat (K.1 11)))]) (st' := [.ref a]) rfl ?_
      refine Er_getR (x := y) rfl b1.1.1 b1.1.2.2.1 ?_
      refine Er_run 1 (pc' := 91) (ls' := [some (.ref a), some (.int (Int32.ofNat v)), some (.int (Int32.ofNat t)), some (.int (Int32.ofNat (K.1 11)))]) (st' := [.ref a, .ref y]) rfl ?_
      refine Er_getR (x := a + 1) rfl b1.1.1 b1.1.2.2.2.2.1 ?_
      obtain ⟨h21, rn21, ll21, z21⟩ := s_Line_send (x := v) b2 b5 rfl hv7 (by omega)
      have kk21 : KK h21 a s y r ((jk_give K t v)) := KK_fr z21 (by omega) b1
      have ll21 : LL h21 y (jn_snd L (jk_gm K t v) v) := ll21
      have ss21 := ST_fr z21 (by omega) b3
      have jj21 := JR_fr z21 (by omega) b4
      have qq21 : FK a y r s h h21 := FK.trans b7 (FK.of z21 (by omega))
      refine Er_inv0 (q' := y) (ci := 6) (av := [.ref (a + 1)]) (rest := []) rfl rfl ⟨Nat.le_of_ble_eq_true rfl, Nat.le_of_ble_eq_true rfl⟩ rfl rfl b2.1.1 rn21 ?_
      refine Er_fin rfl rfl ?_
      rw [jk_ask, e]
      exact ⟨rfl, kk21, ll21, ss21, jj21, qq21⟩
  obtain ⟨r9, h', hrr, e, hq⟩ := Run_of (Nat.le_of_ble_eq_true rfl) hx
  subst e
  exact ⟨h', hrr, hq⟩
abbrev Jy := Jk × Jn × Jr
def jk_np (G : Nat → Nat → Int32) (K : Jk) : Nat := ji (G ((K.2.2.1).getD 0) 5)
def jk_hear (cl : List Nat) (G : Nat → Nat → Int32) (K : Jk) (L : Jn) (R : Jr) (m : Jm) : Jy :=
  if m.1 2 = 0 then ((jk_ask K L (jk_np G K) (ji (m.1 3))).1, (jk_ask K L (jk_np G K) (ji (m.1 3))).2, R)
  else if m.1 5 = Int32.ofNat (K.1 9) then (if m.1 2 = 2 then ((jk_done cl K R m (ji (m.1 6)) (ji (m.1 9))).1, L, (jk_done cl K R m (ji (m.1 6)) (ji (m.1 9))).2)
    else if m.1 2 = 3 then (jk_sf K (Int32.ofNat ((cl[K.1 9]?).getD 0)), L, jr_w R (2, -1, -1, 0))
    else if m.1 2 = 5 then (jk_hp K m (ji (m.1 9)) (ji (m.1 10)), L, R) else (K, L, R))
  else (K, L, R)
/-- the Master's JOB is that at its place -/
def jk_jok (cl : List Nat) (G : Nat → Nat → Int32) (K : Jk) : Prop := K.1 9 < cl.length ∧ K.2.2.1 = cl[K.1 9]? ∧ (∀ j, K.2.2.1 = some j → j < 8 ∧ jn0 (G j 5) ∧ ji (G j 5) ≤ 6) ∧ K.1 11 ≤ 38
/-- the messages that the Master may get -/
def jk_mok (cl : List Nat) (G : Nat → Nat → Int32) (K : Jk) (R : Jr) (m : Jm) : Prop :=
  (m.1 2 = 0 ∨ m.1 2 = 2 ∨ m.1 2 = 3 ∨ m.1 2 = 5 ∨ m.1 2 = 6) ∧ jk_jok cl G K ∧ R.1.length < 360 ∧ R.2.1 < 800000
  ∧ (m.1 2 = 0 → jn0 (m.1 3) ∧ ji (m.1 3) < 7)
  ∧ (m.1 2 = 2 → m.1 5 = Int32.ofNat (K.1 9) → jn0 (m.1 6) ∧ ji (m.1 6) < 44 ∧ jn0 (m.1 9) ∧ ji (m.1 9) < 10000 ∧ K.1 12 < 10000 ∧ K.1 13 < 10000 ∧ K.1 14 < 10000000 ∧ K.1 15 < 10000000 ∧ (K.2.2.2.1 (ji (m.1 6)) = -1 → R.1.length < 359))
  ∧ (m.1 2 = 5 → m.1 5 = Int32.ofNat (K.1 9) → jk_an K m = true → jn0 (m.1 9) ∧ jn0 (m.1 10) ∧ ji (m.1 9) ≤ 16 ∧ ji (m.1 10) ≤ 100000 ∧ K.1 18 ≤ 100000 ∧ K.1 17 ≤ 2000)

theorem s_Master_hear {c : Nat} {m : Jm} (hm : MG h c m) (hcc : c + 2 ≤ r) (hmk : jk_mok cl G K R m) (hsy : s + 140 ≤ y) (hyr : y + 229 ≤ r) (hra : r + 5 ≤ a) (hk : KK h a s y r K) (hl : LL h y L) (hs : ST h s cl G PR F) (hr : JR h r R) : ∃ h', Run 128 [.ref a, .ref c] h (.inl none) h' ∧ KK h' a s y r ((jk_hear cl G K L R m).1) ∧ LL h' y ((jk_hear cl G K L R m).2.1) ∧ ST h' s cl G PR (F) ∧ JR h' r ((jk_hear cl G K L R m).2.2) ∧ FK a y r s h h' := by
  have hx : Ev 128 0 (sm_pad (sm_ent [.ref a, .ref c]) (sm_prog.2.1 128)) [] h (fun r9 h1 => r9 = .inl none ∧ KK h1 a s y r ((jk_hear cl G K L R m).1) ∧ LL h1 y ((jk_hear cl G K L R m).2.1) ∧ ST h1 s cl G PR (F) ∧ JR h1 r ((jk_hear cl G K L R m).2.2) ∧ FK a y r s h h1) := by
    obtain ⟨hpc, hjc, hjk, h11⟩ := hmk.2.1
    obtain ⟨j, hcp⟩ : ∃ j, cl[K.1 9]? = some j := ⟨_, List.getElem?_eq_getElem hpc⟩
    have hj : K.2.2.1 = some j := hjc.trans hcp
    obtain ⟨hj8, hG5a, hnp6a⟩ := hjk j hj
    have hnpe : jk_np G K = ji (G j 5) := by rw [jk_np, hj]; rfl
    have hG5 : G j 5 = Int32.ofNat (jk_np G K) := by rw [hnpe]; exact hG5a
    have hnp6 : jk_np G K ≤ 6 := by rw [hnpe]; exact hnp6a
    have hr358 := hmk.2.2.1
    have hcm8 := hmk.2.2.2.1
    rcases hmk.1 with e2 | e2 | e2 | e2 | e2
    · skip
      obtain ⟨c0, c1⟩ := hmk.2.2.2.2.1 e2
      have hev : ((jk_ask K L (jk_np G K) (ji (m.1 3))).1, (jk_ask K L (jk_np G K) (ji (m.1 3))).2, R) = jk_hear cl G K L R m := by rw [jk_hear, if_pos e2]
      show Ev 128 0 [some (.ref a), some (.ref c)] [] h _
      refine Er_run 1 (pc' := 1) (ls' := [some (.ref a), some (.ref c)]) (st' := [.ref c]) rfl ?_
      refine Er_getI (v := (0 : Int32)) rfl hm.1.1 (by rw [← e2]; exact (hm.2.2.2.1 2 (by omega) (by omega))) ?_
      refine Er_run 1 (pc' := bif !decide (((0 : Int32)) = 0) then 18 else 7) (ls' := [some (.ref a), some (.ref c)]) (st' := []) rfl ?_
      refine Er_pc (t := 7) (show (bif !decide (((0 : Int32)) = 0) then 18 else 7) = 7 from by rw [show (!decide (((0 : Int32)) = 0)) = false from by decide]; rfl) ?_
      refine Er_run 2 (pc' := 9) (ls' := [some (.ref a), some (.ref c)]) (st' := [.ref c, .ref a]) rfl ?_
      refine Er_getI (v := Int32.ofNat (ji (m.1 3))) rfl hm.1.1 (by rw [← c0]; exact (hm.2.2.2.1 3 (by omega) (by omega))) ?_
      obtain ⟨h1, rn1, kk1, ll1, ss1, jj1, zq1⟩ := s_Master_hearAsk (np := jk_np G K) (v := ji (m.1 3)) c1 hj hj8 hG5 hnp6 h11 hsy hyr hra hk hl hs hr
      have qq1 : FK a y r s h h1 := FK.trans (FK.refl a y r s h) zq1
      refine Er_inv0 (q' := a) (ci := 10) (av := [.int (Int32.ofNat (ji (m.1 3)))]) (rest := []) rfl rfl ⟨Nat.le_of_ble_eq_true rfl, Nat.le_of_ble_eq_true rfl⟩ rfl rfl hk.1.1 rn1 ?_
      refine Er_run 1 (pc' := 87) (ls' := [some (.ref a), some (.ref c)]) (st' := []) rfl ?_
      refine Er_fin rfl rfl ?_
      rw [← hev]
      exact ⟨rfl, kk1, ll1, ss1, jj1, qq1⟩
    · skip
      by_cases hp : m.1 5 = Int32.ofNat (K.1 9)
      · have hev : ((jk_done cl K R m (ji (m.1 6)) (ji (m.1 9))).1, L, (jk_done cl K R m (ji (m.1 6)) (ji (m.1 9))).2) = jk_hear cl G K L R m := by rw [jk_hear, if_neg (by rw [e2]; decide), if_pos hp, if_pos e2]
        obtain ⟨c1, c2, c3, c4, c5, c6, c7, c8, c9⟩ := hmk.2.2.2.2.2.1 e2 hp
        show Ev 128 0 [some (.ref a), some (.ref c)] [] h _
        refine Er_run 1 (pc' := 1) (ls' := [some (.ref a), some (.ref c)]) (st' := [.ref c]) rfl ?_
        refine Er_getI (v := (2 : Int32)) rfl hm.1.1 (by rw [← e2]; exact (hm.2.2.2.1 2 (by omega) (by omega))) ?_
        refine Er_run 1 (pc' := bif !decide (((2 : Int32)) = 0) then 18 else 7) (ls' := [some (.ref a), some (.ref c)]) (st' := []) rfl ?_
        refine Er_pc (t := 18) (show (bif !decide (((2 : Int32)) = 0) then 18 else 7) = 18 from by rw [show (!decide (((2 : Int32)) = 0)) = true from by decide]; rfl) ?_
        refine Er_run 1 (pc' := 19) (ls' := [some (.ref a), some (.ref c)]) (st' := [.ref c]) rfl ?_
        refine Er_getI (v := m.1 5) rfl hm.1.1 (hm.2.2.2.1 5 (by omega) (by omega)) ?_
        refine Er_run 1 (pc' := 23) (ls' := [some (.ref a), some (.ref c)]) (st' := [.ref a, .int (m.1 5)]) rfl ?_
        refine Er_getI (v := Int32.ofNat (K.1 9)) rfl hk.1.1 (show gI h a 9 = Int32.ofNat (K.1 9) from (hk.2.1 9 (by omega)).1) ?_
        refine Er_run 1 (pc' := bif !decide ((m.1 5) = (Int32.ofNat (K.1 9))) then 87 else 29) (ls' := [some (.ref a), some (.ref c)]) (st' := []) rfl ?_
        refine Er_pc (t := 29) (show (bif !decide ((m.1 5) = (Int32.ofNat (K.1 9))) then 87 else 29) = 29 from by rw [show (!decide ((m.1 5) = (Int32.ofNat (K.1 9)))) = false from by rw [decide_eq_true hp]; rfl]; rfl) ?_
        refine Er_run 1 (pc' := 30) (ls' := [some (.ref a), some (.ref c)]) (st' := [.ref c]) rfl ?_
        refine Er_getI (v := (2 : Int32)) rfl hm.1.1 (by rw [← e2]; exact (hm.2.2.2.1 2 (by omega) (by omega))) ?_
        refine Er_run 3 (pc' := 66) (ls' := [some (.ref a), some (.ref c)]) (st' := [.ref c, .ref a]) rfl ?_
        obtain ⟨h1, rn1, kk1, ll1, ss1, jj1, zq1⟩ := s_Master_hearDone (t := ji (m.1 6)) (n := ji (m.1 9)) hm hcc c1 c3 c2 c4 hpc c9 hmk.2.2.2.1 c5 c6 c7 c8 hsy hyr hra hk hl hs hr
        have qq1 : FK a y r s h h1 := FK.trans (FK.refl a y r s h) zq1
        refine Er_inv0 (q' := a) (ci := 10) (av := [.ref c]) (rest := []) rfl rfl ⟨Nat.le_of_ble_eq_true rfl, Nat.le_of_ble_eq_true rfl⟩ rfl rfl hk.1.1 rn1 ?_
        refine Er_run 1 (pc' := 87) (ls' := [some (.ref a), some (.ref c)]) (st' := []) rfl ?_
        refine Er_fin rfl rfl ?_
        rw [← hev]
        exact ⟨rfl, kk1, ll1, ss1, jj1, qq1⟩
      · have hev : (K, L, R) = jk_hear cl G K L R m := by rw [jk_hear, if_neg (by rw [e2]; decide), if_neg hp]
        show Ev 128 0 [some (.ref a), some (.ref c)] [] h _
        refine Er_run 1 (pc' := 1) (ls' := [some (.ref a), some (.ref c)]) (st' := [.ref c]) rfl ?_
        refine Er_getI (v := (2 : Int32)) rfl hm.1.1 (by rw [← e2]; exact (hm.2.2.2.1 2 (by omega) (by omega))) ?_
        refine Er_run 1 (pc' := bif !decide (((2 : Int32)) = 0) then 18 else 7) (ls' := [some (.ref a), some (.ref c)]) (st' := []) rfl ?_
        refine Er_pc (t := 18) (show (bif !decide (((2 : Int32)) = 0) then 18 else 7) = 18 from by rw [show (!decide (((2 : Int32)) = 0)) = true from by decide]; rfl) ?_
        refine Er_run 1 (pc' := 19) (ls' := [some (.ref a), some (.ref c)]) (st' := [.ref c]) rfl ?_
        refine Er_getI (v := m.1 5) rfl hm.1.1 (hm.2.2.2.1 5 (by omega) (by omega)) ?_
        refine Er_run 1 (pc' := 23) (ls' := [some (.ref a), some (.ref c)]) (st' := [.ref a, .int (m.1 5)]) rfl ?_
        refine Er_getI (v := Int32.ofNat (K.1 9)) rfl hk.1.1 (show gI h a 9 = Int32.ofNat (K.1 9) from (hk.2.1 9 (by omega)).1) ?_
        refine Er_run 1 (pc' := bif !decide ((m.1 5) = (Int32.ofNat (K.1 9))) then 87 else 29) (ls' := [some (.ref a), some (.ref c)]) (st' := []) rfl ?_
        refine Er_pc (t := 87) (show (bif !decide ((m.1 5) = (Int32.ofNat (K.1 9))) then 87 else 29) = 87 from by rw [show (!decide ((m.1 5) = (Int32.ofNat (K.1 9)))) = true from by rw [decide_eq_false hp]; rfl]; rfl) ?_
        refine Er_fin rfl rfl ?_
        rw [← hev]
        exact ⟨rfl, hk, hl, hs, hr, (FK.refl a y r s h)⟩
    · skip
      by_cases hp : m.1 5 = Int32.ofNat (K.1 9)
      · have hev : (jk_sf K (Int32.ofNat ((cl[K.1 9]?).getD 0)), L, jr_w R (2, -1, -1, 0)) = jk_hear cl G K L R m := by rw [jk_hear, if_neg (by rw [e2]; decide), if_pos hp, if_neg (by rw [e2]; decide), if_pos e2]
        skip
        show Ev 128 0 [some (.ref a), some (.ref c)] [] h _
        refine Er_run 1 (pc' := 1) (ls' := [some (.ref a), some (.ref c)]) (st' := [.ref c]) rfl ?_
        refine Er_getI (v := (3 : Int32)) rfl hm.1.1 (by rw [← e2]; exact (hm.2.2.2.1 2 (by omega) (by omega))) ?_
        refine Er_run 1 (pc' := bif !decide (((3 : Int32)) = 0) then 18 else 7) (ls' := [some (.ref a), some (.ref c)]) (st' := []) rfl ?_
        refine Er_pc (t := 18) (show (bif !decide (((3 : Int32)) = 0) then 18 else 7) = 18 from by rw [show (!decide (((3 : Int32)) = 0)) = true from by decide]; rfl) ?_
        refine Er_run 1 (pc' := 19) (ls' := [some (.ref a), some (.ref c)]) (st' := [.ref c]) rfl ?_
        refine Er_getI (v := m.1 5) rfl hm.1.1 (hm.2.2.2.1 5 (by omega) (by omega)) ?_
        refine Er_run 1 (pc' := 23) (ls' := [some (.ref a), some (.ref c)]) (st' := [.ref a, .int (m.1 5)]) rfl ?_
        refine Er_getI (v := Int32.ofNat (K.1 9)) rfl hk.1.1 (show gI h a 9 = Int32.ofNat (K.1 9) from (hk.2.1 9 (by omega)).1) ?_
        refine Er_run 1 (pc' := bif !decide ((m.1 5) = (Int32.ofNat (K.1 9))) then 87 else 29) (ls' := [some (.ref a), some (.ref c)]) (st' := []) rfl ?_
        refine Er_pc (t := 29) (show (bif !decide ((m.1 5) = (Int32.ofNat (K.1 9))) then 87 else 29) = 29 from by rw [show (!decide ((m.1 5) = (Int32.ofNat (K.1 9)))) = false from by rw [decide_eq_true hp]; rfl]; rfl) ?_
        refine Er_run 1 (pc' := 30) (ls' := [some (.ref a), some (.ref c)]) (st' := [.ref c]) rfl ?_
        refine Er_getI (v := (3 : Int32)) rfl hm.1.1 (by rw [← e2]; exact (hm.2.2.2.1 2 (by omega) (by omega))) ?_
        refine Er_run 2 (pc' := 73) (ls' := [some (.ref a), some (.ref c)]) (st' := [.ref a]) rfl ?_
        obtain ⟨h1, rn1, kk1, ll1, ss1, jj1, zq1⟩ := s_Master_fail (j := (cl[K.1 9]?).getD 0) (by omega) (by omega) hpc (by rw [hcp]; rfl) hsy hyr hra hk hl hs hr
        have qq1 : FK a y r s h h1 := FK.trans (FK.refl a y r s h) zq1
        refine Er_inv0 (q' := a) (ci := 10) (av := []) (rest := []) rfl rfl ⟨Nat.le_of_ble_eq_true rfl, Nat.le_of_ble_eq_true rfl⟩ rfl rfl hk.1.1 rn1 ?_
        refine Er_run 1 (pc' := 87) (ls' := [some (.ref a), some (.ref c)]) (st' := []) rfl ?_
        refine Er_fin rfl rfl ?_
        rw [← hev]
        exact ⟨rfl, kk1, ll1, ss1, jj1, qq1⟩
      · have hev : (K, L, R) = jk_hear cl G K L R m := by rw [jk_hear, if_neg (by rw [e2]; decide), if_neg hp]
        show Ev 128 0 [some (.ref a), some (.ref c)] [] h _
        refine Er_run 1 (pc' := 1) (ls' := [some (.ref a), some (.ref c)]) (st' := [.ref c]) rfl ?_
        refine Er_getI (v := (3 : Int32)) rfl hm.1.1 (by rw [← e2]; exact (hm.2.2.2.1 2 (by omega) (by omega))) ?_
        refine Er_run 1 (pc' := bif !decide (((3 : Int32)) = 0) then 18 else 7) (ls' := [some (.ref a), some (.ref c)]) (st' := []) rfl ?_
        refine Er_pc (t := 18) (show (bif !decide (((3 : Int32)) = 0) then 18 else 7) = 18 from by rw [show (!decide (((3 : Int32)) = 0)) = true from by decide]; rfl) ?_
        refine Er_run 1 (pc' := 19) (ls' := [some (.ref a), some (.ref c)]) (st' := [.ref c]) rfl ?_
        refine Er_getI (v := m.1 5) rfl hm.1.1 (hm.2.2.2.1 5 (by omega) (by omega)) ?_
        refine Er_run 1 (pc' := 23) (ls' := [some (.ref a), some (.ref c)]) (st' := [.ref a, .int (m.1 5)]) rfl ?_
        refine Er_getI (v := Int32.ofNat (K.1 9)) rfl hk.1.1 (show gI h a 9 = Int32.ofNat (K.1 9) from (hk.2.1 9 (by omega)).1) ?_
        refine Er_run 1 (pc' := bif !decide ((m.1 5) = (Int32.ofNat (K.1 9))) then 87 else 29) (ls' := [some (.ref a), some (.ref c)]) (st' := []) rfl ?_
        refine Er_pc (t := 87) (show (bif !decide ((m.1 5) = (Int32.ofNat (K.1 9))) then 87 else 29) = 87 from by rw [show (!decide ((m.1 5) = (Int32.ofNat (K.1 9)))) = true from by rw [decide_eq_false hp]; rfl]; rfl) ?_
        refine Er_fin rfl rfl ?_
        rw [← hev]
        exact ⟨rfl, hk, hl, hs, hr, (FK.refl a y r s h)⟩
    · skip
      by_cases hp : m.1 5 = Int32.ofNat (K.1 9)
      · have hev : (jk_hp K m (ji (m.1 9)) (ji (m.1 10)), L, R) = jk_hear cl G K L R m := by rw [jk_hear, if_neg (by rw [e2]; decide), if_pos hp, if_neg (by rw [e2]; decide), if_neg (by rw [e2]; decide), if_pos e2]
        have cA := hmk.2.2.2.2.2.2 e2 hp
        show Ev 128 0 [some (.ref a), some (.ref c)] [] h _
        refine Er_run 1 (pc' := 1) (ls' := [some (.ref a), some (.ref c)]) (st' := [.ref c]) rfl ?_
        refine Er_getI (v := (5 : Int32)) rfl hm.1.1 (by rw [← e2]; exact (hm.2.2.2.1 2 (by omega) (by omega))) ?_
        refine Er_run 1 (pc' := bif !decide (((5 : Int32)) = 0) then 18 else 7) (ls' := [some (.ref a), some (.ref c)]) (st' := []) rfl ?_
        refine Er_pc (t := 18) (show (bif !decide (((5 : Int32)) = 0) then 18 else 7) = 18 from by rw [show (!decide (((5 : Int32)) = 0)) = true from by decide]; rfl) ?_
        refine Er_run 1 (pc' := 19) (ls' := [some (.ref a), some (.ref c)]) (st' := [.ref c]) rfl ?_
        refine Er_getI (v := m.1 5) rfl hm.1.1 (hm.2.2.2.1 5 (by omega) (by omega)) ?_
        refine Er_run 1 (pc' := 23) (ls' := [some (.ref a), some (.ref c)]) (st' := [.ref a, .int (m.1 5)]) rfl ?_
        refine Er_getI (v := Int32.ofNat (K.1 9)) rfl hk.1.1 (show gI h a 9 = Int32.ofNat (K.1 9) from (hk.2.1 9 (by omega)).1) ?_
        refine Er_run 1 (pc' := bif !decide ((m.1 5) = (Int32.ofNat (K.1 9))) then 87 else 29) (ls' := [some (.ref a), some (.ref c)]) (st' := []) rfl ?_
        refine Er_pc (t := 29) (show (bif !decide ((m.1 5) = (Int32.ofNat (K.1 9))) then 87 else 29) = 29 from by rw [show (!decide ((m.1 5) = (Int32.ofNat (K.1 9)))) = false from by rw [decide_eq_true hp]; rfl]; rfl) ?_
        refine Er_run 1 (pc' := 30) (ls' := [some (.ref a), some (.ref c)]) (st' := [.ref c]) rfl ?_
        refine Er_getI (v := (5 : Int32)) rfl hm.1.1 (by rw [← e2]; exact (hm.2.2.2.1 2 (by omega) (by omega))) ?_
        refine Er_run 3 (pc' := 81) (ls' := [some (.ref a), some (.ref c)]) (st' := [.ref c, .ref a]) rfl ?_
        obtain ⟨h1, rn1, kk1, ll1, ss1, jj1, zq1⟩ := s_Master_hearPage (k := ji (m.1 9)) (tt := ji (m.1 10)) hm hcc cA hsy hyr hra hk hl hs hr
        have qq1 : FK a y r s h h1 := FK.trans (FK.refl a y r s h) zq1
        refine Er_inv0 (q' := a) (ci := 10) (av := [.ref c]) (rest := []) rfl rfl ⟨Nat.le_of_ble_eq_true rfl, Nat.le_of_ble_eq_true rfl⟩ rfl rfl hk.1.1 rn1 ?_
        refine Er_run 1 (pc' := 87) (ls' := [some (.ref a), some (.ref c)]) (st' := []) rfl ?_
        refine Er_fin rfl rfl ?_
        rw [← hev]
        exact ⟨rfl, kk1, ll1, ss1, jj1, qq1⟩
      · have hev : (K, L, R) = jk_hear cl G K L R m := by rw [jk_hear, if_neg (by rw [e2]; decide), if_neg hp]
        show Ev 128 0 [some (.ref a), some (.ref c)] [] h _
        refine Er_run 1 (pc' := 1) (ls' := [some (.ref a), some (.ref c)]) (st' := [.ref c]) rfl ?_
        refine Er_getI (v := (5 : Int32)) rfl hm.1.1 (by rw [← e2]; exact (hm.2.2.2.1 2 (by omega) (by omega))) ?_
        refine Er_run 1 (pc' := bif !decide (((5 : Int32)) = 0) then 18 else 7) (ls' := [some (.ref a), some (.ref c)]) (st' := []) rfl ?_
        refine Er_pc (t := 18) (show (bif !decide (((5 : Int32)) = 0) then 18 else 7) = 18 from by rw [show (!decide (((5 : Int32)) = 0)) = true from by decide]; rfl) ?_
        refine Er_run 1 (pc' := 19) (ls' := [some (.ref a), some (.ref c)]) (st' := [.ref c]) rfl ?_
        refine Er_getI (v := m.1 5) rfl hm.1.1 (hm.2.2.2.1 5 (by omega) (by omega)) ?_
        refine Er_run 1 (pc' := 23) (ls' := [some (.ref a), some (.ref c)]) (st' := [.ref a, .int (m.1 5)]) rfl ?_
        refine Er_getI (v := Int32.ofNat (K.1 9)) rfl hk.1.1 (show gI h a 9 = Int32.ofNat (K.1 9) from (hk.2.1 9 (by omega)).1) ?_
        refine Er_run 1 (pc' := bif !decide ((m.1 5) = (Int32.ofNat (K.1 9))) then 87 else 29) (ls' := [some (.ref a), some (.ref c)]) (st' := []) rfl ?_
        refine Er_pc (t := 87) (show (bif !decide ((m.1 5) = (Int32.ofNat (K.1 9))) then 87 else 29) = 87 from by rw [show (!decide ((m.1 5) = (Int32.ofNat (K.1 9)))) = true from by rw [decide_eq_false hp]; rfl]; rfl) ?_
        refine Er_fin rfl rfl ?_
        rw [← hev]
        exact ⟨rfl, hk, hl, hs, hr, (FK.refl a y r s h)⟩
    · skip
      by_cases hp : m.1 5 = Int32.ofNat (K.1 9)
      · have hev : (K, L, R) = jk_hear cl G K L R m := by rw [jk_hear, if_neg (by rw [e2]; decide), if_pos hp, if_neg (by rw [e2]; decide), if_neg (by rw [e2]; decide), if_neg (by rw [e2]; decide)]
        skip
        show Ev 128 0 [some (.ref a), some (.ref c)] [] h _
        refine Er_run 1 (pc' := 1) (ls' := [some (.ref a), some (.ref c)]) (st' := [.ref c]) rfl ?_
        refine Er_getI (v := (6 : Int32)) rfl hm.1.1 (by rw [← e2]; exact (hm.2.2.2.1 2 (by omega) (by omega))) ?_
        refine Er_run 1 (pc' := bif !decide (((6 : Int32)) = 0) then 18 else 7) (ls' := [some (.ref a), some (.ref c)]) (st' := []) rfl ?_
        refine Er_pc (t := 18) (show (bif !decide (((6 : Int32)) = 0) then 18 else 7) = 18 from by rw [show (!decide (((6 : Int32)) = 0)) = true from by decide]; rfl) ?_
        refine Er_run 1 (pc' := 19) (ls' := [some (.ref a), some (.ref c)]) (st' := [.ref c]) rfl ?_
        refine Er_getI (v := m.1 5) rfl hm.1.1 (hm.2.2.2.1 5 (by omega) (by omega)) ?_
        refine Er_run 1 (pc' := 23) (ls' := [some (.ref a), some (.ref c)]) (st' := [.ref a, .int (m.1 5)]) rfl ?_
        refine Er_getI (v := Int32.ofNat (K.1 9)) rfl hk.1.1 (show gI h a 9 = Int32.ofNat (K.1 9) from (hk.2.1 9 (by omega)).1) ?_
        refine Er_run 1 (pc' := bif !decide ((m.1 5) = (Int32.ofNat (K.1 9))) then 87 else 29) (ls' := [some (.ref a), some (.ref c)]) (st' := []) rfl ?_
        refine Er_pc (t := 29) (show (bif !decide ((m.1 5) = (Int32.ofNat (K.1 9))) then 87 else 29) = 29 from by rw [show (!decide ((m.1 5) = (Int32.ofNat (K.1 9)))) = false from by rw [decide_eq_true hp]; rfl]; rfl) ?_
        refine Er_run 1 (pc' := 30) (ls' := [some (.ref a), some (.ref c)]) (st' := [.ref c]) rfl ?_
        refine Er_getI (v := (6 : Int32)) rfl hm.1.1 (by rw [← e2]; exact (hm.2.2.2.1 2 (by omega) (by omega))) ?_
        refine Er_run 1 (pc' := 87) (ls' := [some (.ref a), some (.ref c)]) (st' := []) rfl ?_
        refine Er_fin rfl rfl ?_
        rw [← hev]
        exact ⟨rfl, hk, hl, hs, hr, (FK.refl a y r s h)⟩
      · have hev : (K, L, R) = jk_hear cl G K L R m := by rw [jk_hear, if_neg (by rw [e2]; decide), if_neg hp]
        show Ev 128 0 [some (.ref a), some (.ref c)] [] h _
        refine Er_run 1 (pc' := 1) (ls' := [some (.ref a), some (.ref c)]) (st' := [.ref c]) rfl ?_
        refine Er_getI (v := (6 : Int32)) rfl hm.1.1 (by rw [← e2]; exact (hm.2.2.2.1 2 (by omega) (by omega))) ?_
        refine Er_run 1 (pc' := bif !decide (((6 : Int32)) = 0) then 18 else 7) (ls' := [some (.ref a), some (.ref c)]) (st' := []) rfl ?_
        refine Er_pc (t := 18) (show (bif !decide (((6 : Int32)) = 0) then 18 else 7) = 18 from by rw [show (!decide (((6 : Int32)) = 0)) = true from by decide]; rfl) ?_
        refine Er_run 1 (pc' := 19) (ls' := [some (.ref a), some (.ref c)]) (st' := [.ref c]) rfl ?_
        refine Er_getI (v := m.1 5) rfl hm.1.1 (hm.2.2.2.1 5 (by omega) (by omega)) ?_
        refine Er_run 1 (pc' := 23) (ls' := [some (.ref a), some (.ref c)]) (st' := [.ref a, .int (m.1 5)]) rfl ?_
        refine Er_getI (v := Int32.ofNat (K.1 9)) rfl hk.1.1 (show gI h a 9 = Int32.ofNat (K.1 9) from (hk.2.1 9 (by omega)).1) ?_
        refine Er_run 1 (pc' := bif !decide ((m.1 5) = (Int32.ofNat (K.1 9))) then 87 else 29) (ls' := [some (.ref a), some (.ref c)]) (st' := []) rfl ?_
        refine Er_pc (t := 87) (show (bif !decide ((m.1 5) = (Int32.ofNat (K.1 9))) then 87 else 29) = 87 from by rw [show (!decide ((m.1 5) = (Int32.ofNat (K.1 9)))) = true from by rw [decide_eq_false hp]; rfl]; rfl) ?_
        refine Er_fin rfl rfl ?_
        rw [← hev]
        exact ⟨rfl, hk, hl, hs, hr, (FK.refl a y r s h)⟩
  obtain ⟨r9, h', hrr, e, hq⟩ := Run_of (Nat.le_of_ble_eq_true rfl) hx
  subst e
  exact ⟨h', hrr, hq⟩
end MASTE
