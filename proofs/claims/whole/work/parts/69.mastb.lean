section MASTB
variable {h : sm_H} {a s y r j : Nat} {K : Jk} {L : Jn} {R : Jr} {cl : List Nat} {G : Nat → Nat → Int32} {PR : Nat → Nat → List (Int32 × Int64)} {F : Nat → Jl}
theorem jk_row {c n i : Nat} {x : Int32} {f : Nat → Int32} (e : gI h c i = f i) : gI (setI h c n x) c i = jx_up f n x i := by
  rw [gI_set, jx_up]
  by_cases hi : i = n
  · rw [if_pos ⟨rfl, hi⟩, if_pos hi]
  · rw [if_neg (fun t => hi t.2), if_neg hi]; exact e
/-- how many SPLITS -/
def jk_spl (G : Nat → Nat → Int32) (F : Nat → Jl) (x : Option Nat) : Nat := match x with
  | none => 0
  | some j => ((jb_in G F j).length + 15) / 16
def jk_open (cl : List Nat) (G : Nat → Nat → Int32) (F : Nat → Jl) (K : Jk) (p : Nat) : Jk :=
  jk_st (jk_sd (jk_sP (jk_sg (jk_sg (jk_sg (jk_sg (jk_sg (jk_sg (jk_sg (jk_sg (jk_sJ (jk_sg K 9 p) cl[p]?) 11 (jk_spl G F cl[p]?)) 12 0) 13 0) 14 0) 15 0) 17 0) 18 0) 19 4) []) (fun _ => -1)) (fun _ => -1)
/-- THE CHAIN's JOBS are as job made them -/
def jc_all (cl : List Nat) (G : Nat → Nat → Int32) : Prop := ∀ (p j : Nat), cl[p]? = some j → j < 8 ∧ jb_ok G j ∧ ∃ f, f < 16 ∧ G j 4 = Int32.ofNat f
def jf_ok (F : Nat → Jl) : Prop := ∀ f, (F f).length ≤ 300
theorem jb_len (hF : jf_ok F) : (jb_in G F j).length ≤ 600 := by
  rw [jb_in, List.length_append]
  have h1 := hF (G j 2).toNatClampNeg
  have h2 := hF (G j 3).toNatClampNeg
  split
  · simp; omega
  · omega

theorem s_Master_open {p : Nat} (hp9 : p < 100) (hca : jc_all cl G) (hF : jf_ok F) (hsy : s + 140 ≤ y) (hyr : y + 229 ≤ r) (hra : r + 5 ≤ a) (hk : KK h a s y r K) (hl : LL h y L) (hs : ST h s cl G PR F) (hr : JR h r R) : ∃ h', Run 126 [.ref a, .int (Int32.ofNat p)] h (.inl none) h' ∧ KK h' a s y r (jk_open cl G F K p) ∧ LL h' y (L) ∧ ST h' s cl G PR (F) ∧ JR h' r (R) ∧ FK a y r s h h' := by
  have hx : Ev 126 0 (sm_pad (sm_ent [.ref a, .int (Int32.ofNat p)]) (sm_prog.2.1 126)) [] h (fun r9 h1 => r9 = .inl none ∧ KK h1 a s y r (jk_open cl G F K p) ∧ LL h1 y (L) ∧ ST h1 s cl G PR (F) ∧ JR h1 r (R) ∧ FK a y r s h h1) := by
    cases hcp : cl[p]? with
    | some j =>
      have hpc : p < cl.length := (List.getElem?_eq_some_iff.1 hcp).1
      obtain ⟨hj8, hbo, _⟩ := hca p j hcp
      show Ev 126 0 [some (.ref a), some (.int (Int32.ofNat p))] [] h _
      refine Er_run 2 (pc' := 2) (ls' := [some (.ref a), some (.int (Int32.ofNat p))]) (st' := [.int (Int32.ofNat p), .ref a]) rfl ?_
      refine Er_putI rfl hk.1.1 ?_
      have z1 : Fr a (a + 1) h (setI h a 9 (Int32.ofNat p)) := Fr.setI (by omega) (by omega)
      have kk1 : KK (setI h a 9 (Int32.ofNat p)) a s y r (jk_sg K 9 p) := KK_sg (x := p) (by decide) (by omega) hk
      generalize setI h a 9 (Int32.ofNat p) = h1 at z1 kk1 ⊢
      have ll1 := LL_fr z1 (by omega) hl
      have ss1 := ST_fr z1 (by omega) hs
      have jj1 := JR_fr z1 (by omega) hr
      have qq1 : FK a y r s h h1 := FK.trans (FK.refl a y r s h) (FK.of z1 (by omega))
      refine Er_run 2 (pc' := 7) (ls' := [some (.ref a), some (.int (Int32.ofNat p))]) (st' := [.ref a, .ref a]) rfl ?_
      refine Er_getR (x := s) rfl kk1.1.1 kk1.1.2.1 ?_
      refine Er_run 1 (pc' := 11) (ls' := [some (.ref a), some (.int (Int32.ofNat p))]) (st' := [.int (Int32.ofNat p), .ref s, .ref a]) rfl ?_
      refine Er_inv1 (q' := s) (ci := 3) (av := [.int (Int32.ofNat p)]) (rest := [.ref a]) rfl rfl ⟨Nat.le_of_ble_eq_true rfl, Nat.le_of_ble_eq_true rfl⟩ rfl rfl ss1.1.1 (s_Store_jobAt ss1.1 ss1.2.1.2.1 ss1.2.1.1 hpc (ss1.2.1.2.2.2 p j hcp) hj8) ?_
      refine Er_putR rfl kk1.1.1 ?_
      have z2 : Fr a (a + 1) h1 (setR h1 a 8 (some (s + 52 + 11 * j))) := Fr.setR (by omega) (by omega)
      have kk2 : KK (setR h1 a 8 (some (s + 52 + 11 * j))) a s y r (jk_sJ (jk_sg K 9 p) (some j)) := KK_sJ (x := (some j)) kk1
      generalize setR h1 a 8 (some (s + 52 + 11 * j)) = h2 at z2 kk2 ⊢
      have ll2 := LL_fr z2 (by omega) ll1
      have ss2 := ST_fr z2 (by omega) ss1
      have jj2 := JR_fr z2 (by omega) jj1
      have qq2 : FK a y r s h h2 := FK.trans qq1 (FK.of z2 (by omega))
      refine Er_run 2 (pc' := 19) (ls' := [some (.ref a), some (.int (Int32.ofNat p))]) (st' := [.ref a, .ref a]) rfl ?_
      refine Er_getR (x := s + 52 + 11 * j) rfl kk2.1.1 (Eq.trans kk2.2.2.2.1 (show (jk_sJ (jk_sg K 9 p) (some j)).2.2.1.map (fun j => s + 52 + 11 * j) = some (s + 52 + 11 * j) from rfl)) ?_
      refine Er_run 2 (pc' := 30) (ls' := [some (.ref a), some (.int (Int32.ofNat p))]) (st' := [.ref a, .ref a]) rfl ?_
      refine Er_getR (x := s) rfl kk2.1.1 kk2.1.2.1 ?_
      refine Er_run 1 (pc' := 34) (ls' := [some (.ref a), some (.int (Int32.ofNat p))]) (st' := [.ref a, .ref s, .ref a]) rfl ?_
      refine Er_getR (x := s + 52 + 11 * j) rfl kk2.1.1 (Eq.trans kk2.2.2.2.1 (show (jk_sJ (jk_sg K 9 p) (some j)).2.2.1.map (fun j => s + 52 + 11 * j) = some (s + 52 + 11 * j) from rfl)) ?_
      refine Er_inv1 (q' := s) (ci := 3) (av := [.ref (s + 52 + 11 * j)]) (rest := [.ref a]) rfl rfl ⟨Nat.le_of_ble_eq_true rfl, Nat.le_of_ble_eq_true rfl⟩ rfl rfl ss2.1.1 (s_inLen ss2 hj8 hbo) ?_
      refine Er_run 5 (pc' := 47) (ls' := [some (.ref a), some (.int (Int32.ofNat p))]) (st' := [.int ((16 : Int32)), .int (((Int32.ofNat (jb_in G F j).length) + ((16 : Int32))) - ((1 : Int32))), .ref a]) rfl ?_
      refine Er_idiv rfl (by decide) ?_
      refine Er_putI rfl kk2.1.1 ?_
      rw [jx_d16 (jb_len hF), show ((jb_in G F j).length + 15) / 16 = jk_spl G F (some j) from rfl]
      have hsp38 : jk_spl G F (some j) ≤ 38 := by have h6 : (jb_in G F j).length ≤ 600 := jb_len hF; show ((jb_in G F j).length + 15) / 16 ≤ 38; omega
      have z3 : Fr a (a + 1) h2 (setI h2 a 11 (Int32.ofNat (jk_spl G F (some j)))) := Fr.setI (by omega) (by omega)
      have kk3 : KK (setI h2 a 11 (Int32.ofNat (jk_spl G F (some j)))) a s y r (jk_sg (jk_sJ (jk_sg K 9 p) (some j)) 11 (jk_spl G F (some j))) := KK_sg (x := jk_spl G F (some j)) (by decide) (by omega) kk2
      generalize setI h2 a 11 (Int32.ofNat (jk_spl G F (some j))) = h3 at z3 kk3 ⊢
      have ll3 := LL_fr z3 (by omega) ll2
      have ss3 := ST_fr z3 (by omega) ss2
      have jj3 := JR_fr z3 (by omega) jj2
      have qq3 : FK a y r s h h3 := FK.trans qq2 (FK.of z3 (by omega))
      refine Er_run 2 (pc' := 53) (ls' := [some (.ref a), some (.int (Int32.ofNat p))]) (st' := [.int ((0 : Int32)), .ref a]) rfl ?_
      refine Er_putI rfl kk3.1.1 ?_
      have z4 : Fr a (a + 1) h3 (setI h3 a 12 ((0 : Int32))) := Fr.setI (by omega) (by omega)
      have kk4 : KK (setI h3 a 12 ((0 : Int32))) a s y r (jk_sg (jk_sg (jk_sJ (jk_sg K 9 p) (some j)) 11 (jk_spl G F (some j))) 12 0) := KK_sg (x := 0) (by decide) (by omega) kk3
      generalize setI h3 a 12 ((0 : Int32)) = h4 at z4 kk4 ⊢
      have ll4 := LL_fr z4 (by omega) ll3
      have ss4 := ST_fr z4 (by omega) ss3
      have jj4 := JR_fr z4 (by omega) jj3
      have qq4 : FK a y r s h h4 := FK.trans qq3 (FK.of z4 (by omega))
      refine Er_run 2 (pc' := 58) (ls' := [some (.ref a), some (.int (Int32.ofNat p))]) (st' := [.int ((0 : Int32)), .ref a]) rfl ?_
      refine Er_putI rfl kk4.1.1 ?_
      have z5 : Fr a (a + 1) h4 (setI h4 a 13 ((0 : Int32))) := Fr.setI (by omega) (by omega)
      have kk5 : KK (setI h4 a 13 ((0 : Int32))) a s y r (jk_sg (jk_sg (jk_sg (jk_sJ (jk_sg K 9 p) (some j)) 11 (jk_spl G F (some j))) 12 0) 13 0) := KK_sg (x := 0) (by decide) (by omega) kk4
      generalize setI h4 a 13 ((0 : Int32)) = h5 at z5 kk5 ⊢
      have ll5 := LL_fr z5 (by omega) ll4
      have ss5 := ST_fr z5 (by omega) ss4
      have jj5 := JR_fr z5 (by omega) jj4
      have qq5 : FK a y r s h h5 := FK.trans qq4 (FK.of z5 (by omega))
      refine Er_run 2 (pc' := 63) (ls' := [some (.ref a), some (.int (Int32.ofNat p))]) (st' := [.int ((0 : Int32)), .ref a]) rfl ?_
      refine Er_putI rfl kk5.1.1 ?_
      have z6 : Fr a (a + 1) h5 (setI h5 a 14 ((0 : Int32))) := Fr.setI (by omega) (by omega)
      have kk6 : KK (setI h5 a 14 ((0 : Int32))) a s y r (jk_sg (jk_sg (jk_sg (jk_sg (jk_sJ (jk_sg K 9 p) (some j)) 11 (jk_spl G F (some j))) 12 0) 13 0) 14 0) := KK_sg (x := 0) (by decide) (by omega) kk5
      generalize setI h5 a 14 ((0 : Int32)) = h6 at z6 kk6 ⊢
      have ll6 := LL_fr z6 (by omega) ll5
      have ss6 := ST_fr z6 (by omega) ss5
      have jj6 := JR_fr z6 (by omega) jj5
      have qq6 : FK a y r s h h6 := FK.trans qq5 (FK.of z6 (by omega))
      refine Er_run 2 (pc' := 68) (ls' := [some (.ref a), some (.int (Int32.ofNat p))]) (st' := [.int ((0 : Int32)), .ref a]) rfl ?_
      refine Er_putI rfl kk6.1.1 ?_
      have z7 : Fr a (a + 1) h6 (setI h6 a 15 ((0 : Int32))) := Fr.setI (by omega) (by omega)
      have kk7 : KK (setI h6 a 15 ((0 : Int32))) a s y r (jk_sg (jk_sg (jk_sg (jk_sg (jk_sg (jk_sJ (jk_sg K 9 p) (some j)) 11 (jk_spl G F (some j))) 12 0) 13 0) 14 0) 15 0) := KK_sg (x := 0) (by decide) (by omega) kk6
      generalize setI h6 a 15 ((0 : Int32)) = h7 at z7 kk7 ⊢
      have ll7 := LL_fr z7 (by omega) ll6
      have ss7 := ST_fr z7 (by omega) ss6
      have jj7 := JR_fr z7 (by omega) jj6
      have qq7 : FK a y r s h h7 := FK.trans qq6 (FK.of z7 (by omega))
      refine Er_run 2 (pc' := 73) (ls' := [some (.ref a), some (.int (Int32.ofNat p))]) (st' := [.int ((0 : Int32)), .ref a]) rfl ?_
      refine Er_putI rfl kk7.1.1 ?_
      have z8 : Fr a (a + 1) h7 (setI h7 a 17 ((0 : Int32))) := Fr.setI (by omega) (by omega)
      have kk8 : KK (setI h7 a 17 ((0 : Int32))) a s y r (jk_sg (jk_sg (jk_sg (jk_sg (jk_sg (jk_sg (jk_sJ (jk_sg K 9 p) (some j)) 11 (jk_spl G F (some j))) 12 0) 13 0) 14 0) 15 0) 17 0) := KK_sg (x := 0) (by decide) (by omega) kk7
      generalize setI h7 a 17 ((0 : Int32)) = h8 at z8 kk8 ⊢
      have ll8 := LL_fr z8 (by omega) ll7
      have ss8 := ST_fr z8 (by omega) ss7
      have jj8 := JR_fr z8 (by omega) jj7
      have qq8 : FK a y r s h h8 := FK.trans qq7 (FK.of z8 (by omega))
      refine Er_run 2 (pc' := 78) (ls' := [some (.ref a), some (.int (Int32.ofNat p))]) (st' := [.int ((0 : Int32)), .ref a]) rfl ?_
      refine Er_putI rfl kk8.1.1 ?_
      have z9 : Fr a (a + 1) h8 (setI h8 a 18 ((0 : Int32))) := Fr.setI (by omega) (by omega)
      have kk9 : KK (setI h8 a 18 ((0 : Int32))) a s y r (jk_sg (jk_sg (jk_sg (jk_sg (jk_sg (jk_sg (jk_sg (jk_sJ (jk_sg K 9 p) (some j)) 11 (jk_spl G F (some j))) 12 0) 13 0) 14 0) 15 0) 17 0) 18 0) := KK_sg (x := 0) (by decide) (by omega) kk8
      generalize setI h8 a 18 ((0 : Int32)) = h9 at z9 kk9 ⊢
      have ll9 := LL_fr z9 (by omega) ll8
      have ss9 := ST_fr z9 (by omega) ss8
      have jj9 := JR_fr z9 (by omega) jj8
      have qq9 : FK a y r s h h9 := FK.trans qq8 (FK.of z9 (by omega))
      refine Er_run 2 (pc' := 83) (ls' := [some (.ref a), some (.int (Int32.ofNat p))]) (st' := [.int ((4 : Int32)), .ref a]) rfl ?_
      refine Er_putI rfl kk9.1.1 ?_
      have z10 : Fr a (a + 1) h9 (setI h9 a 19 ((4 : Int32))) := Fr.setI (by omega) (by omega)
      have kk10 : KK (setI h9 a 19 ((4 : Int32))) a s y r (jk_sg (jk_sg (jk_sg (jk_sg (jk_sg (jk_sg (jk_sg (jk_sg (jk_sJ (jk_sg K 9 p) (some j)) 11 (jk_spl G F (some j))) 12 0) 13 0) 14 0) 15 0) 17 0) 18 0) 19 4) := KK_sg (x := 4) (by decide) (by omega) kk9
      generalize setI h9 a 19 ((4 : Int32)) = h10 at z10 kk10 ⊢
      have ll10 := LL_fr z10 (by omega) ll9
      have ss10 := ST_fr z10 (by omega) ss9
      have jj10 := JR_fr z10 (by omega) jj9
      have qq10 : FK a y r s h h10 := FK.trans qq9 (FK.of z10 (by omega))
      refine Er_run 1 (pc' := 87) (ls' := [some (.ref a), some (.int (Int32.ofNat p))]) (st' := [.ref a]) rfl ?_
      refine Er_getR (x := a + 3) rfl kk10.1.1 kk10.1.2.2.2.2.2.1 ?_
      obtain ⟨h11, rn11, p11, z11⟩ := s_Pairs_empty (show PL h10 (a + 3) 300 (K.2.2.2.2.2.2) from kk10.2.2.2.2.2.2.2.1)
      have kk11 : KK h11 a s y r (jk_sP (jk_sg (jk_sg (jk_sg (jk_sg (jk_sg (jk_sg (jk_sg (jk_sg (jk_sJ (jk_sg K 9 p) (some j)) 11 (jk_spl G F (some j))) 12 0) 13 0) 14 0) 15 0) 17 0) 18 0) 19 4) []) := KK_P z11 p11 kk10
      have ll11 := LL_fr z11 (by omega) ll10
      have ss11 := ST_fr z11 (by omega) ss10
      have jj11 := JR_fr z11 (by omega) jj10
      have qq11 : FK a y r s h h11 := FK.trans qq10 (FK.of z11 (by omega))
      refine Er_inv0 (q' := a + 3) (ci := 0) (av := []) (rest := []) rfl rfl ⟨Nat.le_of_ble_eq_true rfl, Nat.le_of_ble_eq_true rfl⟩ rfl rfl kk10.2.2.2.2.2.2.2.1.1.1 rn11 ?_
      refine Er_run 1 (pc' := 94) (ls' := [some (.ref a), some (.int (Int32.ofNat p))]) (st' := [.ref a]) rfl ?_
      refine Er_getR (x := a + 6) rfl kk11.1.1 kk11.1.2.2.2.2.2.2.1 ?_
      refine Er_run 1 (pc' := 98) (ls' := [some (.ref a), some (.int (Int32.ofNat p))]) (st' := [.int ((-1 : Int32)), .ref (a + 6)]) rfl ?_
      obtain ⟨h12, rn12, p12, z12⟩ := s_fillI (x := -1) (n := 44) (by omega) kk11.1.2.2.2.2.2.2.2.2.2.1 kk11.1.2.2.2.2.2.2.2.2.2.2.1
      have kk12 : KK h12 a s y r (jk_sd (jk_sP (jk_sg (jk_sg (jk_sg (jk_sg (jk_sg (jk_sg (jk_sg (jk_sg (jk_sJ (jk_sg K 9 p) (some j)) 11 (jk_spl G F (some j))) 12 0) 13 0) 14 0) 15 0) 17 0) 18 0) 19 4) []) (fun _ => -1)) := KK_sd z12 p12 kk11
      have ll12 := LL_fr z12 (by omega) ll11
      have ss12 := ST_fr z12 (by omega) ss11
      have jj12 := JR_fr z12 (by omega) jj11
      have qq12 : FK a y r s h h12 := FK.trans qq11 (FK.of z12 (by omega))
      refine Er_sta0 (av := [.ref (a + 6), .int ((-1 : Int32))]) (rest := []) rfl rfl ⟨Nat.le_of_ble_eq_true rfl, Nat.le_of_ble_eq_true rfl⟩ rfl rfl rn12 ?_
      refine Er_run 1 (pc' := 102) (ls' := [some (.ref a), some (.int (Int32.ofNat p))]) (st' := [.ref a]) rfl ?_
      refine Er_getR (x := a + 7) rfl kk12.1.1 kk12.1.2.2.2.2.2.2.2.1 ?_
      refine Er_run 1 (pc' := 106) (ls' := [some (.ref a), some (.int (Int32.ofNat p))]) (st' := [.int ((-1 : Int32)), .ref (a + 7)]) rfl ?_
      obtain ⟨h13, rn13, p13, z13⟩ := s_fillI (x := -1) (n := 44) (by omega) kk12.1.2.2.2.2.2.2.2.2.2.2.2.1 kk12.1.2.2.2.2.2.2.2.2.2.2.2.2.1
      have kk13 : KK h13 a s y r (jk_st (jk_sd (jk_sP (jk_sg (jk_sg (jk_sg (jk_sg (jk_sg (jk_sg (jk_sg (jk_sg (jk_sJ (jk_sg K 9 p) (some j)) 11 (jk_spl G F (some j))) 12 0) 13 0) 14 0) 15 0) 17 0) 18 0) 19 4) []) (fun _ => -1)) (fun _ => -1)) := KK_st z13 p13 kk12
      have ll13 := LL_fr z13 (by omega) ll12
      have ss13 := ST_fr z13 (by omega) ss12
      have jj13 := JR_fr z13 (by omega) jj12
      have qq13 : FK a y r s h h13 := FK.trans qq12 (FK.of z13 (by omega))
      refine Er_sta0 (av := [.ref (a + 7), .int ((-1 : Int32))]) (rest := []) rfl rfl ⟨Nat.le_of_ble_eq_true rfl, Nat.le_of_ble_eq_true rfl⟩ rfl rfl rn13 ?_
      refine Er_fin rfl rfl ?_
      rw [jk_open, hcp]
      exact ⟨rfl, kk13, ll13, ss13, jj13, qq13⟩
    | none =>
      have hpc : cl.length ≤ p := List.getElem?_eq_none_iff.1 hcp
      show Ev 126 0 [some (.ref a), some (.int (Int32.ofNat p))] [] h _
      refine Er_run 2 (pc' := 2) (ls' := [some (.ref a), some (.int (Int32.ofNat p))]) (st' := [.int (Int32.ofNat p), .ref a]) rfl ?_
      refine Er_putI rfl hk.1.1 ?_
      have z1 : Fr a (a + 1) h (setI h a 9 (Int32.ofNat p)) := Fr.setI (by omega) (by omega)
      have kk1 : KK (setI h a 9 (Int32.ofNat p)) a s y r (jk_sg K 9 p) := KK_sg (x := p) (by decide) (by omega) hk
      generalize setI h a 9 (Int32.ofNat p) = h1 at z1 kk1 ⊢
      have ll1 := LL_fr z1 (by omega) hl
      have ss1 := ST_fr z1 (by omega) hs
      have jj1 := JR_fr z1 (by omega) hr
      have qq1 : FK a y r s h h1 := FK.trans (FK.refl a y r s h) (FK.of z1 (by omega))
      refine Er_run 2 (pc' := 7) (ls' := [some (.ref a), some (.int (Int32.ofNat p))]) (st' := [.ref a, .ref a]) rfl ?_
      refine Er_getR (x := s) rfl kk1.1.1 kk1.1.2.1 ?_
      refine Er_run 1 (pc' := 11) (ls' := [some (.ref a), some (.int (Int32.ofNat p))]) (st' := [.int (Int32.ofNat p), .ref s, .ref a]) rfl ?_
      refine Er_inv1 (q' := s) (ci := 3) (av := [.int (Int32.ofNat p)]) (rest := [.ref a]) rfl rfl ⟨Nat.le_of_ble_eq_true rfl, Nat.le_of_ble_eq_true rfl⟩ rfl rfl ss1.1.1 (s_Store_jobAtN ss1.1 ss1.2.1.2.1 ss1.2.1.1 hpc (by omega)) ?_
      refine Er_putN rfl kk1.1.1 ?_
      have z2 : Fr a (a + 1) h1 (setR h1 a 8 none) := Fr.setR (by omega) (by omega)
      have kk2 : KK (setR h1 a 8 none) a s y r (jk_sJ (jk_sg K 9 p) none) := KK_sJ (x := none) kk1
      generalize setR h1 a 8 none = h2 at z2 kk2 ⊢
      have ll2 := LL_fr z2 (by omega) ll1
      have ss2 := ST_fr z2 (by omega) ss1
      have jj2 := JR_fr z2 (by omega) jj1
      have qq2 : FK a y r s h h2 := FK.trans qq1 (FK.of z2 (by omega))
      refine Er_run 2 (pc' := 19) (ls' := [some (.ref a), some (.int (Int32.ofNat p))]) (st' := [.ref a, .ref a]) rfl ?_
      refine Er_getN rfl kk2.1.1 (Eq.trans kk2.2.2.2.1 (show (jk_sJ (jk_sg K 9 p) none).2.2.1.map (fun j => s + 52 + 11 * j) = none from rfl)) ?_
      refine Er_run 3 (pc' := 48) (ls' := [some (.ref a), some (.int (Int32.ofNat p))]) (st' := [.int ((0 : Int32)), .ref a]) rfl ?_
      refine Er_putI rfl kk2.1.1 ?_
      have z3 : Fr a (a + 1) h2 (setI h2 a 11 ((0 : Int32))) := Fr.setI (by omega) (by omega)
      have kk3 : KK (setI h2 a 11 ((0 : Int32))) a s y r (jk_sg (jk_sJ (jk_sg K 9 p) none) 11 0) := KK_sg (x := 0) (by decide) (by omega) kk2
      generalize setI h2 a 11 ((0 : Int32)) = h3 at z3 kk3 ⊢
      have ll3 := LL_fr z3 (by omega) ll2
      have ss3 := ST_fr z3 (by omega) ss2
      have jj3 := JR_fr z3 (by omega) jj2
      have qq3 : FK a y r s h h3 := FK.trans qq2 (FK.of z3 (by omega))
      refine Er_run 2 (pc' := 53) (ls' := [some (.ref a), some (.int (Int32.ofNat p))]) (st' := [.int ((0 : Int32)), .ref a]) rfl ?_
      refine Er_putI rfl kk3.1.1 ?_
      have z4 : Fr a (a + 1) h3 (setI h3 a 12 ((0 : Int32))) := Fr.setI (by omega) (by omega)
      have kk4 : KK (setI h3 a 12 ((0 : Int32))) a s y r (jk_sg (jk_sg (jk_sJ (jk_sg K 9 p) none) 11 0) 12 0) := KK_sg (x := 0) (by decide) (by omega) kk3
      generalize setI h3 a 12 ((0 : Int32)) = h4 at z4 kk4 ⊢
      have ll4 := LL_fr z4 (by omega) ll3
      have ss4 := ST_fr z4 (by omega) ss3
      have jj4 := JR_fr z4 (by omega) jj3
      have qq4 : FK a y r s h h4 := FK.trans qq3 (FK.of z4 (by omega))
      refine Er_run 2 (pc' := 58) (ls' := [some (.ref a), some (.int (Int32.ofNat p))]) (st' := [.int ((0 : Int32)), .ref a]) rfl ?_
      refine Er_putI rfl kk4.1.1 ?_
      have z5 : Fr a (a + 1) h4 (setI h4 a 13 ((0 : Int32))) := Fr.setI (by omega) (by omega)
      have kk5 : KK (setI h4 a 13 ((0 : Int32))) a s y r (jk_sg (jk_sg (jk_sg (jk_sJ (jk_sg K 9 p) none) 11 0) 12 0) 13 0) := KK_sg (x := 0) (by decide) (by omega) kk4
      generalize setI h4 a 13 ((0 : Int32)) = h5 at z5 kk5 ⊢
      have ll5 := LL_fr z5 (by omega) ll4
      have ss5 := ST_fr z5 (by omega) ss4
      have jj5 := JR_fr z5 (by omega) jj4
      have qq5 : FK a y r s h h5 := FK.trans qq4 (FK.of z5 (by omega))
      refine Er_run 2 (pc' := 63) (ls' := [some (.ref a), some (.int (Int32.ofNat p))]) (st' := [.int ((0 : Int32)), .ref a]) rfl ?_
      refine Er_putI rfl kk5.1.1 ?_
      have z6 : Fr a (a + 1) h5 (setI h5 a 14 ((0 : Int32))) := Fr.setI (by omega) (by omega)
      have kk6 : KK (setI h5 a 14 ((0 : Int32))) a s y r (jk_sg (jk_sg (jk_sg (jk_sg (jk_sJ (jk_sg K 9 p) none) 11 0) 12 0) 13 0) 14 0) := KK_sg (x := 0) (by decide) (by omega) kk5
      generalize setI h5 a 14 ((0 : Int32)) = h6 at z6 kk6 ⊢
      have ll6 := LL_fr z6 (by omega) ll5
      have ss6 := ST_fr z6 (by omega) ss5
      have jj6 := JR_fr z6 (by omega) jj5
      have qq6 : FK a y r s h h6 := FK.trans qq5 (FK.of z6 (by omega))
      refine Er_run 2 (pc' := 68) (ls' := [some (.ref a), some (.int (Int32.ofNat p))]) (st' := [.int ((0 : Int32)), .ref a]) rfl ?_
      refine Er_putI rfl kk6.1.1 ?_
      have z7 : Fr a (a + 1) h6 (setI h6 a 15 ((0 : Int32))) := Fr.setI (by omega) (by omega)
      have kk7 : KK (setI h6 a 15 ((0 : Int32))) a s y r (jk_sg (jk_sg (jk_sg (jk_sg (jk_sg (jk_sJ (jk_sg K 9 p) none) 11 0) 12 0) 13 0) 14 0) 15 0) := KK_sg (x := 0) (by decide) (by omega) kk6
      generalize setI h6 a 15 ((0 : Int32)) = h7 at z7 kk7 ⊢
      have ll7 := LL_fr z7 (by omega) ll6
      have ss7 := ST_fr z7 (by omega) ss6
      have jj7 := JR_fr z7 (by omega) jj6
      have qq7 : FK a y r s h h7 := FK.trans qq6 (FK.of z7 (by omega))
      refine Er_run 2 (pc' := 73) (ls' := [some (.ref a), some (.int (Int32.ofNat p))]) (st' := [.int ((0 : Int32)), .ref a]) rfl ?_
      refine Er_putI rfl kk7.1.1 ?_
      have z8 : Fr a (a + 1) h7 (setI h7 a 17 ((0 : Int32))) := Fr.setI (by omega) (by omega)
      have kk8 : KK (setI h7 a 17 ((0 : Int32))) a s y r (jk_sg (jk_sg (jk_sg (jk_sg (jk_sg (jk_sg (jk_sJ (jk_sg K 9 p) none) 11 0) 12 0) 13 0) 14 0) 15 0) 17 0) := KK_sg (x := 0) (by decide) (by omega) kk7
      generalize setI h7 a 17 ((0 : Int32)) = h8 at z8 kk8 ⊢
      have ll8 := LL_fr z8 (by omega) ll7
      have ss8 := ST_fr z8 (by omega) ss7
      have jj8 := JR_fr z8 (by omega) jj7
      have qq8 : FK a y r s h h8 := FK.trans qq7 (FK.of z8 (by omega))
      refine Er_run 2 (pc' := 78) (ls' := [some (.ref a), some (.int (Int32.ofNat p))]) (st' := [.int ((0 : Int32)), .ref a]) rfl ?_
      refine Er_putI rfl kk8.1.1 ?_
      have z9 : Fr a (a + 1) h8 (setI h8 a 18 ((0 : Int32))) := Fr.setI (by omega) (by omega)
      have kk9 : KK (setI h8 a 18 ((0 : Int32))) a s y r (jk_sg (jk_sg (jk_sg (jk_sg (jk_sg (jk_sg (jk_sg (jk_sJ (jk_sg K 9 p) none) 11 0) 12 0) 13 0) 14 0) 15 0) 17 0) 18 0) := KK_sg (x := 0) (by decide) (by omega) kk8
      generalize setI h8 a 18 ((0 : Int32)) = h9 at z9 kk9 ⊢
      have ll9 := LL_fr z9 (by omega) ll8
      have ss9 := ST_fr z9 (by omega) ss8
      have jj9 := JR_fr z9 (by omega) jj8
      have qq9 : FK a y r s h h9 := FK.trans qq8 (FK.of z9 (by omega))
      refine Er_run 2 (pc' := 83) (ls' := [some (.ref a), some (.int (Int32.ofNat p))]) (st' := [.int ((4 : Int32)), .ref a]) rfl ?_
      refine Er_putI rfl kk9.1.1 ?_
      have z10 : Fr a (a + 1) h9 (setI h9 a 19 ((4 : Int32))) := Fr.setI (by omega) (by omega)
      have kk10 : KK (setI h9 a 19 ((4 : Int32))) a s y r (jk_sg (jk_sg (jk_sg (jk_sg (jk_sg (jk_sg (jk_sg (jk_sg (jk_sJ (jk_sg K 9 p) none) 11 0) 12 0) 13 0) 14 0) 15 0) 17 0) 18 0) 19 4) := KK_sg (x := 4) (by decide) (by omega) kk9
      generalize setI h9 a 19 ((4 : Int32)) = h10 at z10 kk10 ⊢
      have ll10 := LL_fr z10 (by omega) ll9
      have ss10 := ST_fr z10 (by omega) ss9
      have jj10 := JR_fr z10 (by omega) jj9
      have qq10 : FK a y r s h h10 := FK.trans qq9 (FK.of z10 (by omega))
      refine Er_run 1 (pc' := 87) (ls' := [some (.ref a), some (.int (Int32.ofNat p))]) (st' := [.ref a]) rfl ?_
      refine Er_getR (x := a + 3) rfl kk10.1.1 kk10.1.2.2.2.2.2.1 ?_
      obtain ⟨h11, rn11, p11, z11⟩ := s_Pairs_empty (show PL h10 (a + 3) 300 (K.2.2.2.2.2.2) from kk10.2.2.2.2.2.2.2.1)
      have kk11 : KK h11 a s y r (jk_sP (jk_sg (jk_sg (jk_sg (jk_sg (jk_sg (jk_sg (jk_sg (jk_sg (jk_sJ (jk_sg K 9 p) none) 11 0) 12 0) 13 0) 14 0) 15 0) 17 0) 18 0) 19 4) []) := KK_P z11 p11 kk10
      have ll11 := LL_fr z11 (by omega) ll10
      have ss11 := ST_fr z11 (by omega) ss10
      have jj11 := JR_fr z11 (by omega) jj10
      have qq11 : FK a y r s h h11 := FK.trans qq10 (FK.of z11 (by omega))
      refine Er_inv0 (q' := a + 3) (ci := 0) (av := []) (rest := []) rfl rfl ⟨Nat.le_of_ble_eq_true rfl, Nat.le_of_ble_eq_true rfl⟩ rfl rfl kk10.2.2.2.2.2.2.2.1.1.1 rn11 ?_
      refine Er_run 1 (pc' := 94) (ls' := [some (.ref a), some (.int (Int32.ofNat p))]) (st' := [.ref a]) rfl ?_
      refine Er_getR (x := a + 6) rfl kk11.1.1 kk11.1.2.2.2.2.2.2.1 ?_
      refine Er_run 1 (pc' := 98) (ls' := [some (.ref a), some (.int (Int32.ofNat p))]) (st' := [.int ((-1 : Int32)), .ref (a + 6)]) rfl ?_
      obtain ⟨h12, rn12, p12, z12⟩ := s_fillI (x := -1) (n := 44) (by omega) kk11.1.2.2.2.2.2.2.2.2.2.1 kk11.1.2.2.2.2.2.2.2.2.2.2.1
      have kk12 : KK h12 a s y r (jk_sd (jk_sP (jk_sg (jk_sg (jk_sg (jk_sg (jk_sg (jk_sg (jk_sg (jk_sg (jk_sJ (jk_sg K 9 p) none) 11 0) 12 0) 13 0) 14 0) 15 0) 17 0) 18 0) 19 4) []) (fun _ => -1)) := KK_sd z12 p12 kk11
      have ll12 := LL_fr z12 (by omega) ll11
      have ss12 := ST_fr z12 (by omega) ss11
      have jj12 := JR_fr z12 (by omega) jj11
      have qq12 : FK a y r s h h12 := FK.trans qq11 (FK.of z12 (by omega))
      refine Er_sta0 (av := [.ref (a + 6), .int ((-1 : Int32))]) (rest := []) rfl rfl ⟨Nat.le_of_ble_eq_true rfl, Nat.le_of_ble_eq_true rfl⟩ rfl rfl rn12 ?_
      refine Er_run 1 (pc' := 102) (ls' := [some (.ref a), some (.int (Int32.ofNat p))]) (st' := [.ref a]) rfl ?_
      refine Er_getR (x := a + 7) rfl kk12.1.1 kk12.1.2.2.2.2.2.2.2.1 ?_
      refine Er_run 1 (pc' := 106) (ls' := [some (.ref a), some (.int (Int32.ofNat p))]) (st' := [.int ((-1 : Int32)), .ref (a + 7)]) rfl ?_
      obtain ⟨h13, rn13, p13, z13⟩ := s_fillI (x := -1) (n := 44) (by omega) kk12.1.2.2.2.2.2.2.2.2.2.2.2.1 kk12.1.2.2.2.2.2.2.2.2.2.2.2.2.1
      have kk13 : KK h13 a s y r (jk_st (jk_sd (jk_sP (jk_sg (jk_sg (jk_sg (jk_sg (jk_sg (jk_sg (jk_sg (jk_sg (jk_sJ (jk_sg K 9 p) none) 11 0) 12 0) 13 0) 14 0) 15 0) 17 0) 18 0) 19 4) []) (fun _ => -1)) (fun _ => -1)) := KK_st z13 p13 kk12
      have ll13 := LL_fr z13 (by omega) ll12
      have ss13 := ST_fr z13 (by omega) ss12
      have jj13 := JR_fr z13 (by omega) jj12
      have qq13 : FK a y r s h h13 := FK.trans qq12 (FK.of z13 (by omega))
      refine Er_sta0 (av := [.ref (a + 7), .int ((-1 : Int32))]) (rest := []) rfl rfl ⟨Nat.le_of_ble_eq_true rfl, Nat.le_of_ble_eq_true rfl⟩ rfl rfl rn13 ?_
      refine Er_fin rfl rfl ?_
      rw [jk_open, hcp]
      exact ⟨rfl, kk13, ll13, ss13, jj13, qq13⟩
  obtain ⟨r9, h', hrr, e, hq⟩ := Run_of (Nat.le_of_ble_eq_true rfl) hx
  subst e
  exact ⟨h', hrr, hq⟩
def jk_forget (cl : List Nat) (G : Nat → Nat → Int32) (F : Nat → Jl) (K : Jk) : Jk := jk_open cl G F (jk_sg (jk_sf K (-1)) 16 0) 0
theorem s_Master_forget (hca : jc_all cl G) (hF : jf_ok F) (hsy : s + 140 ≤ y) (hyr : y + 229 ≤ r) (hra : r + 5 ≤ a) (hk : KK h a s y r K) (hl : LL h y L) (hs : ST h s cl G PR F) (hr : JR h r R) : ∃ h', Run 121 [.ref a] h (.inl none) h' ∧ KK h' a s y r (jk_forget cl G F K) ∧ LL h' y (L) ∧ ST h' s cl G PR (F) ∧ JR h' r (R) ∧ FK a y r s h h' := by
  have hx : Ev 121 0 (sm_pad (sm_ent [.ref a]) (sm_prog.2.1 121)) [] h (fun r9 h1 => r9 = .inl none ∧ KK h1 a s y r (jk_forget cl G F K) ∧ LL h1 y (L) ∧ ST h1 s cl G PR (F) ∧ JR h1 r (R) ∧ FK a y r s h h1) := by
    show Ev 121 0 [some (.ref a)] [] h _
    refine Er_run 2 (pc' := 2) (ls' := [some (.ref a)]) (st' := [.int ((-1 : Int32)), .ref a]) rfl ?_
    refine Er_putI rfl hk.1.1 ?_
    have z1 : Fr a (a + 1) h (setI h a 10 ((-1 : Int32))) := Fr.setI (by omega) (by omega)
    have kk1 : KK (setI h a 10 ((-1 : Int32))) a s y r (jk_sf K ((-1 : Int32))) := KK_sf hk
    generalize setI h a 10 ((-1 : Int32)) = h1 at z1 kk1 ⊢
    have ll1 := LL_fr z1 (by omega) hl
    have ss1 := ST_fr z1 (by omega) hs
    have jj1 := JR_fr z1 (by omega) hr
    have qq1 : FK a y r s h h1 := FK.trans (FK.refl a y r s h) (FK.of z1 (by omega))
    refine Er_run 2 (pc' := 7) (ls' := [some (.ref a)]) (st' := [.int ((0 : Int32)), .ref a]) rfl ?_
    refine Er_putI rfl kk1.1.1 ?_
    have z2 : Fr a (a + 1) h1 (setI h1 a 16 ((0 : Int32))) := Fr.setI (by omega) (by omega)
    have kk2 : KK (setI h1 a 16 ((0 : Int32))) a s y r (jk_sg (jk_sf K ((-1 : Int32))) 16 0) := KK_sg (x := 0) (by decide) (by omega) kk1
    generalize setI h1 a 16 ((0 : Int32)) = h2 at z2 kk2 ⊢
    have ll2 := LL_fr z2 (by omega) ll1
    have ss2 := ST_fr z2 (by omega) ss1
    have jj2 := JR_fr z2 (by omega) jj1
    have qq2 : FK a y r s h h2 := FK.trans qq1 (FK.of z2 (by omega))
    refine Er_run 2 (pc' := 12) (ls' := [some (.ref a)]) (st' := [.int ((0 : Int32)), .ref a]) rfl ?_
    obtain ⟨h3, rn3, kk3, ll3, ss3, jj3, zq3⟩ := s_Master_open (p := 0) (by omega) hca hF hsy hyr hra kk2 ll2 ss2 jj2
    have qq3 : FK a y r s h h3 := FK.trans qq2 zq3
    refine Er_inv0 (q' := a) (ci := 10) (av := [.int ((0 : Int32))]) (rest := []) rfl rfl ⟨Nat.le_of_ble_eq_true rfl, Nat.le_of_ble_eq_true rfl⟩ rfl rfl kk2.1.1 rn3 ?_
    exact Er_fin rfl rfl ⟨rfl, kk3, ll3, ss3, jj3, qq3⟩
  obtain ⟨r9, h', hrr, e, hq⟩ := Run_of (Nat.le_of_ble_eq_true rfl) hx
  subst e
  exact ⟨h', hrr, hq⟩
def jk_note (K : Jk) (t : Nat) (x : Int32) (n : Nat) : Jk := if t < 38 then jk_sg (jk_sg (jk_sd K (jx_up K.2.2.2.1 t x)) 12 (K.1 12 + 1)) 14 (K.1 14 + n) else jk_sg (jk_sg (jk_sd K (jx_up K.2.2.2.1 t x)) 13 (K.1 13 + 1)) 15 (K.1 15 + n)
theorem s_Master_note {t n : Nat} {x : Int32} (ht : t < 44) (hn : n < 10000) (h12 : K.1 12 < 10000) (h13 : K.1 13 < 10000) (h14 : K.1 14 < 10000000) (h15 : K.1 15 < 10000000) (hsy : s + 140 ≤ y) (hyr : y + 229 ≤ r) (hra : r + 5 ≤ a) (hk : KK h a s y r K) (hl : LL h y L) (hs : ST h s cl G PR F) (hr : JR h r R) : ∃ h', Run 123 [.ref a, .int (Int32.ofNat t), .int x, .int (Int32.ofNat n)] h (.inl none) h' ∧ KK h' a s y r (jk_note K t x n) ∧ LL h' y (L) ∧ ST h' s cl G PR (F) ∧ JR h' r (R) ∧ FK a y r s h h' := by
  have hx : Ev 123 0 (sm_pad (sm_ent [.ref a, .int (Int32.ofNat t), .int x, .int (Int32.ofNat n)]) (sm_prog.2.1 123)) [] h (fun r9 h1 => r9 = .inl none ∧ KK h1 a s y r (jk_note K t x n) ∧ LL h1 y (L) ∧ ST h1 s cl G PR (F) ∧ JR h1 r (R) ∧ FK a y r s h h1) := by
    by_cases hc : t < 38
    · skip
      show Ev 123 0 [some (.ref a), some (.int (Int32.ofNat t)), some (.int x), some (.int (Int32.ofNat n))] [] h _
      refine Er_run 2 (pc' := bif decide ((Int32.ofNat t) < 0) then 10 else 4) (ls' := [some (.ref a), some (.int (Int32.ofNat t)), some (.int x), some (.int (Int32.ofNat n))]) (st' := []) rfl ?_
      refine Er_pc (t := 4) (show (bif decide ((Int32.ofNat t) < 0) then 10 else 4) = 4 from by rw [show (decide ((Int32.ofNat t) < 0)) = false from sm_nn (by rw [sm_ofNat_toInt (by omega)]; omega)]; rfl) ?_
      refine Er_run 3 (pc' := bif decide ((Int32.ofNat t) < ((44 : Int32))) then 11 else 10) (ls' := [some (.ref a), some (.int (Int32.ofNat t)), some (.int x), some (.int (Int32.ofNat n))]) (st' := []) rfl ?_
      refine Er_pc (t := 11) (show (bif decide ((Int32.ofNat t) < ((44 : Int32))) then 11 else 10) = 11 from by rw [show (decide ((Int32.ofNat t) < ((44 : Int32)))) = true from by rw [show (44 : Int32) = Int32.ofNat 44 from rfl, jx_lt (by omega) (by omega)]; exact decide_eq_true ht]; rfl) ?_
      refine Er_run 1 (pc' := 12) (ls' := [some (.ref a), some (.int (Int32.ofNat t)), some (.int x), some (.int (Int32.ofNat n))]) (st' := [.ref a]) rfl ?_
      refine Er_getR (x := a + 6) rfl hk.1.1 hk.1.2.2.2.2.2.2.1 ?_
      refine Er_run 2 (pc' := 17) (ls' := [some (.ref a), some (.int (Int32.ofNat t)), some (.int x), some (.int (Int32.ofNat n))]) (st' := [.int x, .int (Int32.ofNat t), .ref (a + 6)]) rfl ?_
      refine Er_iast rfl hk.1.2.2.2.2.2.2.2.2.2.1 (by rw [hk.1.2.2.2.2.2.2.2.2.2.2.1]; exact sm_in_of (by rw [sm_ofNat_toInt (by omega)]; omega) (by rw [sm_ofNat_toInt (by omega)]; omega)) ?_
      rw [jx_cn (by omega)]
      have z1 : Fr (a + 6) (a + 7) h (setI h (a + 6) t x) := Fr.setI (by omega) (by omega)
      have kk1 : KK (setI h (a + 6) t x) a s y r (jk_sd K (jx_up K.2.2.2.1 t x)) := KK_sd z1 (fun i hi => jk_row (hk.2.2.2.2.1 i hi)) hk
      generalize setI h (a + 6) t x = h1 at z1 kk1 ⊢
      have ll1 := LL_fr z1 (by omega) hl
      have ss1 := ST_fr z1 (by omega) hs
      have jj1 := JR_fr z1 (by omega) hr
      have qq1 : FK a y r s h h1 := FK.trans (FK.refl a y r s h) (FK.of z1 (by omega))
      refine Er_run 3 (pc' := bif decide (((38 : Int32)) ≤ (Int32.ofNat t)) then 47 else 24) (ls' := [some (.ref a), some (.int (Int32.ofNat t)), some (.int x), some (.int (Int32.ofNat n))]) (st' := []) rfl ?_
      refine Er_pc (t := 24) (show (bif decide (((38 : Int32)) ≤ (Int32.ofNat t)) then 47 else 24) = 24 from by rw [show (decide (((38 : Int32)) ≤ (Int32.ofNat t))) = false from by rw [show (38 : Int32) = Int32.ofNat 38 from rfl, jx_le (by omega) (by omega)]; exact decide_eq_false (by omega)]; rfl) ?_
      refine Er_run 2 (pc' := 26) (ls' := [some (.ref a), some (.int (Int32.ofNat t)), some (.int x), some (.int (Int32.ofNat n))]) (st' := [.ref a, .ref a]) rfl ?_
      refine Er_getI (v := Int32.ofNat (K.1 12)) rfl kk1.1.1 (show gI h1 a 12 = Int32.ofNat (K.1 12) from (kk1.2.1 12 (by omega)).1) ?_
      refine Er_run 2 (pc' := 31) (ls' := [some (.ref a), some (.int (Int32.ofNat t)), some (.int x), some (.int (Int32.ofNat n))]) (st' := [.int ((Int32.ofNat (K.1 12)) + ((1 : Int32))), .ref a]) rfl ?_
      refine Er_putI rfl kk1.1.1 ?_
      rw [jx_s1]
      have z2 : Fr a (a + 1) h1 (setI h1 a 12 (Int32.ofNat (K.1 12 + 1))) := Fr.setI (by omega) (by omega)
      have kk2 : KK (setI h1 a 12 (Int32.ofNat (K.1 12 + 1))) a s y r (jk_sg (jk_sd K (jx_up K.2.2.2.1 t x)) 12 (K.1 12 + 1)) := KK_sg (x := K.1 12 + 1) (by decide) (by omega) kk1
      generalize setI h1 a 12 (Int32.ofNat (K.1 12 + 1)) = h2 at z2 kk2 ⊢
      have ll2 := LL_fr z2 (by omega) ll1
      have ss2 := ST_fr z2 (by omega) ss1
      have jj2 := JR_fr z2 (by omega) jj1
      have qq2 : FK a y r s h h2 := FK.trans qq1 (FK.of z2 (by omega))
      refine Er_run 2 (pc' := 36) (ls' := [some (.ref a), some (.int (Int32.ofNat t)), some (.int x), some (.int (Int32.ofNat n))]) (st' := [.ref a, .ref a]) rfl ?_
      refine Er_getI (v := Int32.ofNat (K.1 14)) rfl kk2.1.1 (show gI h2 a 14 = Int32.ofNat (K.1 14) from (kk2.2.1 14 (by omega)).1) ?_
      refine Er_run 2 (pc' := 41) (ls' := [some (.ref a), some (.int (Int32.ofNat t)), some (.int x), some (.int (Int32.ofNat n))]) (st' := [.int ((Int32.ofNat (K.1 14)) + (Int32.ofNat n)), .ref a]) rfl ?_
      refine Er_putI rfl kk2.1.1 ?_
      rw [jx_add]
      have z3 : Fr a (a + 1) h2 (setI h2 a 14 (Int32.ofNat (K.1 14 + n))) := Fr.setI (by omega) (by omega)
      have kk3 : KK (setI h2 a 14 (Int32.ofNat (K.1 14 + n))) a s y r (jk_sg (jk_sg (jk_sd K (jx_up K.2.2.2.1 t x)) 12 (K.1 12 + 1)) 14 (K.1 14 + n)) := KK_sg (x := K.1 14 + n) (by decide) (by omega) kk2
      generalize setI h2 a 14 (Int32.ofNat (K.1 14 + n)) = h3 at z3 kk3 ⊢
      have ll3 := LL_fr z3 (by omega) ll2
      have ss3 := ST_fr z3 (by omega) ss2
      have jj3 := JR_fr z3 (by omega) jj2
      have qq3 : FK a y r s h h3 := FK.trans qq2 (FK.of z3 (by omega))
      refine Er_run 1 (pc' := 67) (ls' := [some (.ref a), some (.int (Int32.ofNat t)), some (.int x), some (.int (Int32.ofNat n))]) (st' := []) rfl ?_
      refine Er_fin rfl rfl ?_
      rw [jk_note, if_pos hc]
      exact ⟨rfl, kk3, ll3, ss3, jj3, qq3⟩
    · skip
      show Ev 123 0 [some (.ref a), some (.int (Int32.ofNat t)), some (.int x), some (.int (Int32.ofNat n))] [] h _
      refine Er_run 2 (pc' := bif decide ((Int32.ofNat t) < 0) then 10 else 4) (ls' := [some (.ref a), some (.int (Int32.ofNat t)), some (.int x), some (.int (Int32.ofNat n))]) (st' := []) rfl ?_
      refine Er_pc (t := 4) (show (bif decide ((Int32.ofNat t) < 0) then 10 else 4) = 4 from by rw [show (decide ((Int32.ofNat t) < 0)) = false from sm_nn (by rw [sm_ofNat_toInt (by omega)]; omega)]; rfl) ?_
      refine Er_run 3 (pc' := bif decide ((Int32.ofNat t) < ((44 : Int32))) then 11 else 10) (ls' := [some (.ref a), some (.int (Int32.ofNat t)), some (.int x), some (.int (Int32.ofNat n))]) (st' := []) rfl ?_
      refine Er_pc (t := 11) (show (bif decide ((Int32.ofNat t) < ((44 : Int32))) then 11 else 10) = 11 from by rw [show (decide ((Int32.ofNat t) < ((44 : Int32)))) = true from by rw [show (44 : Int32) = Int32.ofNat 44 from rfl, jx_lt (by omega) (by omega)]; exact decide_eq_true ht]; rfl) ?_
      refine Er_run 1 (pc' := 12) (ls' := [some (.ref a), some (.int (Int32.ofNat t)), some (.int x), some (.int (Int32.ofNat n))]) (st' := [.ref a]) rfl ?_
      refine Er_getR (x := a + 6) rfl hk.1.1 hk.1.2.2.2.2.2.2.1 ?_
      refine Er_run 2 (pc' := 17) (ls' := [some (.ref a), some (.int (Int32.ofNat t)), some (.int x), some (.int (Int32.ofNat n))]) (st' := [.int x, .int (Int32.ofNat t), .ref (a + 6)]) rfl ?_
      refine Er_iast rfl hk.1.2.2.2.2.2.2.2.2.2.1 (by rw [hk.1.2.2.2.2.2.2.2.2.2.2.1]; exact sm_in_of (by rw [sm_ofNat_toInt (by omega)]; omega) (by rw [sm_ofNat_toInt (by omega)]; omega)) ?_
      rw [jx_cn (by omega)]
      have z1 : Fr (a + 6) (a + 7) h (setI h (a + 6) t x) := Fr.setI (by omega) (by omega)
      have kk1 : KK (setI h (a + 6) t x) a s y r (jk_sd K (jx_up K.2.2.2.1 t x)) := KK_sd z1 (fun i hi => jk_row (hk.2.2.2.2.1 i hi)) hk
      generalize setI h (a + 6) t x = h1 at z1 kk1 ⊢
      have ll1 := LL_fr z1 (by omega) hl
      have ss1 := ST_fr z1 (by omega) hs
      have jj1 := JR_fr z1 (by omega) hr
      have qq1 : FK a y r s h h1 := FK.trans (FK.refl a y r s h) (FK.of z1 (by omega))
      refine Er_run 3 (pc' := bif decide (((38 : Int32)) ≤ (Int32.ofNat t)) then 47 else 24) (ls' := [some (.ref a), some (.int (Int32.ofNat t)), some (.int x), some (.int (Int32.ofNat n))]) (st' := []) rfl ?_
      refine Er_pc (t := 47) (show (bif decide (((38 : Int32)) ≤ (Int32.ofNat t)) then 47 else 24) = 47 from by rw [show (decide (((38 : Int32)) ≤ (Int32.ofNat t))) = true from by rw [show (38 : Int32) = Int32.ofNat 38 from rfl, jx_le (by omega) (by omega)]; exact decide_eq_true (by omega)]; rfl) ?_
      refine Er_run 2 (pc' := 49) (ls' := [some (.ref a), some (.int (Int32.ofNat t)), some (.int x), some (.int (Int32.ofNat n))]) (st' := [.ref a, .ref a]) rfl ?_
      refine Er_getI (v := Int32.ofNat (K.1 13)) rfl kk1.1.1 (show gI h1 a 13 = Int32.ofNat (K.1 13) from (kk1.2.1 13 (by omega)).1) ?_
      refine Er_run 2 (pc' := 54) (ls' := [some (.ref a), some (.int (Int32.ofNat t)), some (.int x), some (.int (Int32.ofNat n))]) (st' := [.int ((Int32.ofNat (K.1 13)) + ((1 : Int32))), .ref a]) rfl ?_
      refine Er_putI rfl kk1.1.1 ?_
      rw [jx_s1]
      have z2 : Fr a (a + 1) h1 (setI h1 a 13 (Int32.ofNat (K.1 13 + 1))) := Fr.setI (by omega) (by omega)
      have kk2 : KK (setI h1 a 13 (Int32.ofNat (K.1 13 + 1))) a s y r (jk_sg (jk_sd K (jx_up K.2.2.2.1 t x)) 13 (K.1 13 + 1)) := KK_sg (x := K.1 13 + 1) (by decide) (by omega) kk1
      generalize setI h1 a 13 (Int32.ofNat (K.1 13 + 1)) = h2 at z2 kk2 ⊢
      have ll2 := LL_fr z2 (by omega) ll1
      have ss2 := ST_fr z2 (by omega) ss1
      have jj2 := JR_fr z2 (by omega) jj1
      have qq2 : FK a y r s h h2 := FK.trans qq1 (FK.of z2 (by omega))
      refine Er_run 2 (pc' := 59) (ls' := [some (.ref a), some (.int (Int32.ofNat t)), some (.int x), some (.int (Int32.ofNat n))]) (st' := [.ref a, .ref a]) rfl ?_
      refine Er_getI (v := Int32.ofNat (K.1 15)) rfl kk2.1.1 (show gI h2 a 15 = Int32.ofNat (K.1 15) from (kk2.2.1 15 (by omega)).1) ?_
      refine Er_run 2 (pc' := 64) (ls' := [some (.ref a), some (.int (Int32.ofNat t)), some (.int x), some (.int (Int32.ofNat n))]) (st' := [.int ((Int32.ofNat (K.1 15)) + (Int32.ofNat n)), .ref a]) rfl ?_
      refine Er_putI rfl kk2.1.1 ?_
      rw [jx_add]
      have z3 : Fr a (a + 1) h2 (setI h2 a 15 (Int32.ofNat (K.1 15 + n))) := Fr.setI (by omega) (by omega)
      have kk3 : KK (setI h2 a 15 (Int32.ofNat (K.1 15 + n))) a s y r (jk_sg (jk_sg (jk_sd K (jx_up K.2.2.2.1 t x)) 13 (K.1 13 + 1)) 15 (K.1 15 + n)) := KK_sg (x := K.1 15 + n) (by decide) (by omega) kk2
      generalize setI h2 a 15 (Int32.ofNat (K.1 15 + n)) = h3 at z3 kk3 ⊢
      have ll3 := LL_fr z3 (by omega) ll2
      have ss3 := ST_fr z3 (by omega) ss2
      have jj3 := JR_fr z3 (by omega) jj2
      have qq3 : FK a y r s h h3 := FK.trans qq2 (FK.of z3 (by omega))
      refine Er_fin rfl rfl ?_
      rw [jk_note, if_neg hc]
      exact ⟨rfl, kk3, ll3, ss3, jj3, qq3⟩
  obtain ⟨r9, h', hrr, e, hq⟩ := Run_of (Nat.le_of_ble_eq_true rfl) hx
  subst e
  exact ⟨h', hrr, hq⟩
theorem s_Master_fail (hr360 : R.1.length < 360) (hcm : R.2.1 < 900000) (hpc : K.1 9 < cl.length) (hcp : cl[K.1 9]? = some j) (hsy : s + 140 ≤ y) (hyr : y + 229 ≤ r) (hra : r + 5 ≤ a) (hk : KK h a s y r K) (hl : LL h y L) (hs : ST h s cl G PR F) (hr : JR h r R) : ∃ h', Run 124 [.ref a] h (.inl none) h' ∧ KK h' a s y r (jk_sf K (Int32.ofNat j)) ∧ LL h' y (L) ∧ ST h' s cl G PR (F) ∧ JR h' r (jr_w R (2, -1, -1, 0)) ∧ FK a y r s h h' := by
  have hx : Ev 124 0 (sm_pad (sm_ent [.ref a]) (sm_prog.2.1 124)) [] h (fun r9 h1 => r9 = .inl none ∧ KK h1 a s y r (jk_sf K (Int32.ofNat j)) ∧ LL h1 y (L) ∧ ST h1 s cl G PR (F) ∧ JR h1 r (jr_w R (2, -1, -1, 0)) ∧ FK a y r s h h1) := by
    show Ev 124 0 [some (.ref a)] [] h _
    refine Er_run 1 (pc' := 1) (ls' := [some (.ref a)]) (st' := [.ref a]) rfl ?_
    refine Er_getR (x := r) rfl hk.1.1 hk.1.2.2.2.1 ?_
    refine Er_run 4 (pc' := 8) (ls' := [some (.ref a)]) (st' := [.int ((0 : Int32)), .int ((-1 : Int32)), .int ((-1 : Int32)), .int ((2 : Int32)), .ref r]) rfl ?_
    obtain ⟨h1, rn1, jj1, z1⟩ := s_Journal_write (k := (2 : Int32)) (t := (-1 : Int32)) (x := (-1 : Int32)) (y := (0 : Int32)) hr hr360 hcm
    have kk1 : KK h1 a s y r K := KK_fr z1 (by omega) hk
    have ll1 := LL_fr z1 (by omega) hl
    have ss1 := ST_fr z1 (by omega) hs
    have qq1 : FK a y r s h h1 := FK.trans (FK.refl a y r s h) (FK.of z1 (by omega))
    refine Er_inv0 (q' := r) (ci := 9) (av := [.int ((2 : Int32)), .int ((-1 : Int32)), .int ((-1 : Int32)), .int ((0 : Int32))]) (rest := []) rfl rfl ⟨Nat.le_of_ble_eq_true rfl, Nat.le_of_ble_eq_true rfl⟩ rfl rfl hr.1.1 rn1 ?_
    refine Er_run 2 (pc' := 13) (ls' := [some (.ref a)]) (st' := [.ref a, .ref a]) rfl ?_
    refine Er_getR (x := s) rfl kk1.1.1 kk1.1.2.1 ?_
    refine Er_run 1 (pc' := 17) (ls' := [some (.ref a)]) (st' := [.ref a, .ref s, .ref a]) rfl ?_
    refine Er_getI (v := Int32.ofNat (K.1 9)) rfl kk1.1.1 (show gI h1 a 9 = Int32.ofNat (K.1 9) from (kk1.2.1 9 (by omega)).1) ?_
    refine Er_inv1 (q' := s) (ci := 3) (av := [.int (Int32.ofNat (K.1 9))]) (rest := [.ref a]) rfl rfl ⟨Nat.le_of_ble_eq_true rfl, Nat.le_of_ble_eq_true rfl⟩ rfl rfl ss1.1.1 (s_Store_numberAt ss1.1 ss1.2.1.2.1 ss1.2.1.1 hpc (ss1.2.1.2.2.2 _ j hcp)) ?_
    refine Er_putI rfl kk1.1.1 ?_
    have z2 : Fr a (a + 1) h1 (setI h1 a 10 (Int32.ofNat j)) := Fr.setI (by omega) (by omega)
    have kk2 : KK (setI h1 a 10 (Int32.ofNat j)) a s y r (jk_sf K (Int32.ofNat j)) := KK_sf kk1
    generalize setI h1 a 10 (Int32.ofNat j) = h2 at z2 kk2 ⊢
    have ll2 := LL_fr z2 (by omega) ll1
    have ss2 := ST_fr z2 (by omega) ss1
    have jj2 := JR_fr z2 (by omega) jj1
    have qq2 : FK a y r s h h2 := FK.trans qq1 (FK.of z2 (by omega))
    exact Er_fin rfl rfl ⟨rfl, kk2, ll2, ss2, jj2, qq2⟩
  obtain ⟨r9, h', hrr, e, hq⟩ := Run_of (Nat.le_of_ble_eq_true rfl) hx
  subst e
  exact ⟨h', hrr, hq⟩
theorem s_Master_commit {f : Nat} (hj : K.2.2.1 = some j) (hj8 : j < 8) (hf : f < 16) (hG4 : G j 4 = Int32.ofNat f) (hr360 : R.1.length < 360) (hcm : R.2.1 < 900000) (hp9 : K.1 9 < 90) (hca : jc_all cl G) (hF2 : jf_ok (jx_up F f K.2.2.2.2.2.2)) (hsy : s + 140 ≤ y) (hyr : y + 229 ≤ r) (hra : r + 5 ≤ a) (hk : KK h a s y r K) (hl : LL h y L) (hs : ST h s cl G PR F) (hr : JR h r R) : ∃ h', Run 125 [.ref a] h (.inl none) h' ∧ KK h' a s y r (jk_open cl G (jx_up F f K.2.2.2.2.2.2) K (K.1 9 + 1)) ∧ LL h' y (L) ∧ ST h' s cl G PR (jx_up F f K.2.2.2.2.2.2) ∧ JR h' r (jr_w R (1, -1, -1, Int32.ofNat (K.2.2.2.2.2.2).length)) ∧ FK a y r s h h' := by
  have hx : Ev 125 0 (sm_pad (sm_ent [.ref a]) (sm_prog.2.1 125)) [] h (fun r9 h1 => r9 = .inl none ∧ KK h1 a s y r (jk_open cl G (jx_up F f K.2.2.2.2.2.2) K (K.1 9 + 1)) ∧ LL h1 y (L) ∧ ST h1 s cl G PR (jx_up F f K.2.2.2.2.2.2) ∧ JR h1 r (jr_w R (1, -1, -1, Int32.ofNat (K.2.2.2.2.2.2).length)) ∧ FK a y r s h h1) := by
    show Ev 125 0 [some (.ref a)] [] h _
    refine Er_run 1 (pc' := 1) (ls' := [some (.ref a)]) (st' := [.ref a]) rfl ?_
    refine Er_getR (x := s) rfl hk.1.1 hk.1.2.1 ?_
    refine Er_run 1 (pc' := 5) (ls' := [some (.ref a)]) (st' := [.ref a, .ref s]) rfl ?_
    refine Er_getR (x := s + 52 + 11 * j) rfl hk.1.1 (Eq.trans hk.2.2.2.1 (show (K).2.2.1.map (fun j => s + 52 + 11 * j) = some (s + 52 + 11 * j) from by rw [show (K).2.2.1 = some j from hj]; rfl)) ?_
    have hou := s_Job_output (hs.2.2.2 j hj8).1
    rw [(hs.2.2.2 j hj8).2.1 4 (by omega) (by omega), hG4] at hou
    refine Er_inv1 (q' := s + 52 + 11 * j) (ci := 2) (av := []) (rest := [.ref s]) rfl rfl ⟨Nat.le_of_ble_eq_true rfl, Nat.le_of_ble_eq_true rfl⟩ rfl rfl (hs.2.2.2 j hj8).1.1 hou ?_
    refine Er_run 1 (pc' := 12) (ls' := [some (.ref a)]) (st' := [.ref a, .int (Int32.ofNat f), .ref s]) rfl ?_
    refine Er_getR (x := a + 3) rfl hk.1.1 hk.1.2.2.2.2.2.1 ?_
    obtain ⟨h1, rn1, p1, z1⟩ := s_Store_replace (b := a + 3) hs.1 hf (hs.2.2.1 f hf) (show PL h (a + 3) 300 (K.2.2.2.2.2.2) from hk.2.2.2.2.2.2.2.1) (by omega) (by have := hk.2.2.2.2.2.2.2.1.2.2.1; exact this)
    have kk1 : KK h1 a s y r K := KK_fr z1 (by omega) hk
    have ss1 : ST h1 s cl G PR (jx_up F f K.2.2.2.2.2.2) := ST_rep hf z1 p1 hs
    have ll1 := LL_fr z1 (by omega) hl
    have jj1 := JR_fr z1 (by omega) hr
    have qq1 : FK a y r s h h1 := FK.trans (FK.refl a y r s h) (FK.of z1 (by omega))
    refine Er_inv0 (q' := s) (ci := 3) (av := [.int (Int32.ofNat f), .ref (a + 3)]) (rest := []) rfl rfl ⟨Nat.le_of_ble_eq_true rfl, Nat.le_of_ble_eq_true rfl⟩ rfl rfl hs.1.1 rn1 ?_
    refine Er_run 1 (pc' := 19) (ls' := [some (.ref a)]) (st' := [.ref a]) rfl ?_
    refine Er_getR (x := r) rfl kk1.1.1 kk1.1.2.2.2.1 ?_
    refine Er_run 4 (pc' := 26) (ls' := [some (.ref a)]) (st' := [.ref a, .int ((-1 : Int32)), .int ((-1 : Int32)), .int ((1 : Int32)), .ref r]) rfl ?_
    refine Er_getR (x := a + 3) rfl kk1.1.1 kk1.1.2.2.2.2.2.1 ?_
    refine Er_inv1 (q' := a + 3) (ci := 0) (av := []) (rest := [.int ((-1 : Int32)), .int ((-1 : Int32)), .int ((1 : Int32)), .ref r]) rfl rfl ⟨Nat.le_of_ble_eq_true rfl, Nat.le_of_ble_eq_true rfl⟩ rfl rfl kk1.2.2.2.2.2.2.2.1.1.1 (s_Pairs_length (show PL h1 (a + 3) 300 (K.2.2.2.2.2.2) from kk1.2.2.2.2.2.2.2.1)) ?_
    obtain ⟨h2, rn2, jj2, z2⟩ := s_Journal_write (k := (1 : Int32)) (t := (-1 : Int32)) (x := (-1 : Int32)) (y := Int32.ofNat (K.2.2.2.2.2.2).length) jj1 hr360 hcm
    have kk2 : KK h2 a s y r K := KK_fr z2 (by omega) kk1
    have ll2 := LL_fr z2 (by omega) ll1
    have ss2 := ST_fr z2 (by omega) ss1
    have qq2 : FK a y r s h h2 := FK.trans qq1 (FK.of z2 (by omega))
    refine Er_inv0 (q' := r) (ci := 9) (av := [.int ((1 : Int32)), .int ((-1 : Int32)), .int ((-1 : Int32)), .int (Int32.ofNat (K.2.2.2.2.2.2).length)]) (rest := []) rfl rfl ⟨Nat.le_of_ble_eq_true rfl, Nat.le_of_ble_eq_true rfl⟩ rfl rfl jj1.1.1 rn2 ?_
    refine Er_run 2 (pc' := 37) (ls' := [some (.ref a)]) (st' := [.ref a, .ref a]) rfl ?_
    refine Er_getI (v := Int32.ofNat (K.1 9)) rfl kk2.1.1 (show gI h2 a 9 = Int32.ofNat (K.1 9) from (kk2.2.1 9 (by omega)).1) ?_
    refine Er_run 2 (pc' := 42) (ls' := [some (.ref a)]) (st' := [.int ((Int32.ofNat (K.1 9)) + ((1 : Int32))), .ref a]) rfl ?_
    obtain ⟨h3, rn3, kk3, ll3, ss3, jj3, zq3⟩ := s_Master_open (p := K.1 9 + 1) (by omega) hca hF2 hsy hyr hra kk2 ll2 ss2 jj2
    have qq3 : FK a y r s h h3 := FK.trans qq2 zq3
    refine Er_inv0 (q' := a) (ci := 10) (av := [.int ((Int32.ofNat (K.1 9)) + ((1 : Int32)))]) (rest := []) rfl rfl ⟨Nat.le_of_ble_eq_true rfl, Nat.le_of_ble_eq_true rfl⟩ rfl rfl kk2.1.1 (by rw [jx_s1]; exact rn3) ?_
    exact Er_fin rfl rfl ⟨rfl, kk3, ll3, ss3, jj3, qq3⟩
  obtain ⟨r9, h', hrr, e, hq⟩ := Run_of (Nat.le_of_ble_eq_true rfl) hx
  subst e
  exact ⟨h', hrr, hq⟩
end MASTB
