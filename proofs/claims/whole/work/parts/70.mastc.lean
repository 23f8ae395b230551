section MASTC
variable {h : sm_H} {a s y r j : Nat} {K : Jk} {L : Jn} {R : Jr} {cl : List Nat} {G : Nat → Nat → Int32} {PR : Nat → Nat → List (Int32 × Int64)} {F : Nat → Jl}
def jk_over (cl : List Nat) (K : Jk) : Bool := decide (K.2.1 ≠ -1) || decide (cl.length ≤ K.1 9)

theorem s_Master_failedJob (hk : KK h a s y r K) : Run 120 [.ref a] h (.inl (some (.int (K.2.1)))) h := by
  refine ⟨Nat.le_of_ble_eq_true rfl, ?_⟩
  show Ev 120 0 [some (.ref a)] [] h _
  refine Er_run 1 (pc' := 1) (ls' := [some (.ref a)]) (st' := [.ref a]) rfl ?_
  refine Er_getI (v := K.2.1) rfl hk.1.1 (show gI h a 10 = K.2.1 from hk.2.2.1) ?_
  exact Er_fin rfl rfl ⟨rfl, rfl⟩
theorem s_Master_isOver (hk : KK h a s y r K) (hs : ST h s cl G PR F) : Run 119 [.ref a] h (.inl (some (.int ((if jk_over cl K then 1 else 0))))) h := by
  have h8 := hs.2.1.1
  have b9 := (hk.2.1 9 (by omega)).2
  by_cases hf : K.2.1 = -1
  · by_cases hc : cl.length ≤ K.1 9
    · rw [if_pos (by rw [jk_over, decide_eq_true hc, Bool.or_true])]
      refine ⟨Nat.le_of_ble_eq_true rfl, ?_⟩
      show Ev 119 0 [some (.ref a)] [] h _
      refine Er_run 1 (pc' := 1) (ls' := [some (.ref a)]) (st' := [.ref a]) rfl ?_
      refine Er_getI (v := K.2.1) rfl hk.1.1 (show gI h a 10 = K.2.1 from hk.2.2.1) ?_
      refine Er_run 2 (pc' := bif !decide (K.2.1 = ((-1 : Int32))) then 22 else 8) (ls' := [some (.ref a)]) (st' := []) rfl ?_
      refine Er_pc (t := 8) (show (bif !decide (K.2.1 = ((-1 : Int32))) then 22 else 8) = 8 from by rw [show (!decide (K.2.1 = ((-1 : Int32)))) = false from by rw [decide_eq_true hf]; rfl]; rfl) ?_
      refine Er_run 1 (pc' := 9) (ls' := [some (.ref a)]) (st' := [.ref a]) rfl ?_
      refine Er_getI (v := Int32.ofNat (K.1 9)) rfl hk.1.1 (show gI h a 9 = Int32.ofNat (K.1 9) from (hk.2.1 9 (by omega)).1) ?_
      refine Er_run 1 (pc' := 13) (ls' := [some (.ref a)]) (st' := [.ref a, .int (Int32.ofNat (K.1 9))]) rfl ?_
      refine Er_getR (x := s) rfl hk.1.1 hk.1.2.1 ?_
      have hch := s_Store_chained hs.1
      rw [hs.2.1.2.1] at hch
      refine Er_inv1 (q' := s) (ci := 3) (av := []) (rest := [.int (Int32.ofNat (K.1 9))]) rfl rfl ⟨Nat.le_of_ble_eq_true rfl, Nat.le_of_ble_eq_true rfl⟩ rfl rfl hs.1.1 hch ?_
      refine Er_run 1 (pc' := bif decide ((Int32.ofNat (K.1 9)) < (Int32.ofNat cl.length)) then 26 else 22) (ls' := [some (.ref a)]) (st' := []) rfl ?_
      refine Er_pc (t := 22) (show (bif decide ((Int32.ofNat (K.1 9)) < (Int32.ofNat cl.length)) then 26 else 22) = 22 from by rw [show (decide ((Int32.ofNat (K.1 9)) < (Int32.ofNat cl.length))) = false from by rw [jx_lt (by omega) (by omega)]; exact decide_eq_false (by omega)]; rfl) ?_
      refine Er_run 2 (pc' := 27) (ls' := [some (.ref a)]) (st' := [.int ((1 : Int32))]) rfl ?_
      exact Er_fin rfl rfl ⟨rfl, rfl⟩
    · rw [if_neg (by rw [jk_over, decide_eq_false hc, decide_eq_false (not_not_intro hf)]; decide)]
      refine ⟨Nat.le_of_ble_eq_true rfl, ?_⟩
      show Ev 119 0 [some (.ref a)] [] h _
      refine Er_run 1 (pc' := 1) (ls' := [some (.ref a)]) (st' := [.ref a]) rfl ?_
      refine Er_getI (v := K.2.1) rfl hk.1.1 (show gI h a 10 = K.2.1 from hk.2.2.1) ?_
      refine Er_run 2 (pc' := bif !decide (K.2.1 = ((-1 : Int32))) then 22 else 8) (ls' := [some (.ref a)]) (st' := []) rfl ?_
      refine Er_pc (t := 8) (show (bif !decide (K.2.1 = ((-1 : Int32))) then 22 else 8) = 8 from by rw [show (!decide (K.2.1 = ((-1 : Int32)))) = false from by rw [decide_eq_true hf]; rfl]; rfl) ?_
      refine Er_run 1 (pc' := 9) (ls' := [some (.ref a)]) (st' := [.ref a]) rfl ?_
      refine Er_getI (v := Int32.ofNat (K.1 9)) rfl hk.1.1 (show gI h a 9 = Int32.ofNat (K.1 9) from (hk.2.1 9 (by omega)).1) ?_
      refine Er_run 1 (pc' := 13) (ls' := [some (.ref a)]) (st' := [.ref a, .int (Int32.ofNat (K.1 9))]) rfl ?_
      refine Er_getR (x := s) rfl hk.1.1 hk.1.2.1 ?_
      have hch := s_Store_chained hs.1
      rw [hs.2.1.2.1] at hch
      refine Er_inv1 (q' := s) (ci := 3) (av := []) (rest := [.int (Int32.ofNat (K.1 9))]) rfl rfl ⟨Nat.le_of_ble_eq_true rfl, Nat.le_of_ble_eq_true rfl⟩ rfl rfl hs.1.1 hch ?_
      refine Er_run 1 (pc' := bif decide ((Int32.ofNat (K.1 9)) < (Int32.ofNat cl.length)) then 26 else 22) (ls' := [some (.ref a)]) (st' := []) rfl ?_
      refine Er_pc (t := 26) (show (bif decide ((Int32.ofNat (K.1 9)) < (Int32.ofNat cl.length)) then 26 else 22) = 26 from by rw [show (decide ((Int32.ofNat (K.1 9)) < (Int32.ofNat cl.length))) = true from by rw [jx_lt (by omega) (by omega)]; exact decide_eq_true (by omega)]; rfl) ?_
      refine Er_run 1 (pc' := 27) (ls' := [some (.ref a)]) (st' := [.int ((0 : Int32))]) rfl ?_
      exact Er_fin rfl rfl ⟨rfl, rfl⟩
  · rw [if_pos (by rw [jk_over, decide_eq_true hf, Bool.true_or])]
    refine ⟨Nat.le_of_ble_eq_true rfl, ?_⟩
    show Ev 119 0 [some (.ref a)] [] h _
    refine Er_run 1 (pc' := 1) (ls' := [some (.ref a)]) (st' := [.ref a]) rfl ?_
    refine Er_getI (v := K.2.1) rfl hk.1.1 (show gI h a 10 = K.2.1 from hk.2.2.1) ?_
    refine Er_run 2 (pc' := bif !decide (K.2.1 = ((-1 : Int32))) then 22 else 8) (ls' := [some (.ref a)]) (st' := []) rfl ?_
    refine Er_pc (t := 22) (show (bif !decide (K.2.1 = ((-1 : Int32))) then 22 else 8) = 22 from by rw [show (!decide (K.2.1 = ((-1 : Int32)))) = true from by rw [decide_eq_false hf]; rfl]; rfl) ?_
    refine Er_run 2 (pc' := 27) (ls' := [some (.ref a)]) (st' := [.int ((1 : Int32))]) rfl ?_
    exact Er_fin rfl rfl ⟨rfl, rfl⟩
def jk_rec1 (cl : List Nat) (G : Nat → Nat → Int32) (F : Nat → Jl) (K : Jk) (e : Je) : Jk := if e.1 = 1 then jk_open cl G F K (K.1 9 + 1) else if e.1 = 2 then jk_sf K (Int32.ofNat ((cl[K.1 9]?).getD 0)) else jk_note K (ji e.2.1) e.2.2.1 (ji e.2.2.2)
def jk_recs (cl : List Nat) (G : Nat → Nat → Int32) (F : Nat → Jl) : List Je → Jk → Jk
  | [], K => K
  | e :: l, K => jk_recs cl G F l (jk_rec1 cl G F K e)
def jk_rok (cl : List Nat) (G : Nat → Nat → Int32) (F : Nat → Jl) : List Je → Jk → Prop
  | [], _ => True
  | e :: l, K => ((e.1 = 1 → K.1 9 + 1 < 100) ∧ (e.1 = 2 → K.1 9 < cl.length) ∧ (e.1 ≠ 1 → e.1 ≠ 2 → jn0 e.2.1 ∧ ji e.2.1 < 44 ∧ jn0 e.2.2.2 ∧ ji e.2.2.2 < 10000 ∧ K.1 12 < 10000 ∧ K.1 13 < 10000 ∧ K.1 14 < 10000000 ∧ K.1 15 < 10000000)) ∧ jk_rok cl G F l (jk_rec1 cl G F K e)
def jk_recall (cl : List Nat) (G : Nat → Nat → Int32) (F : Nat → Jl) (K : Jk) (R : Jr) : Jk := jk_recs cl G F R.1 (jk_forget cl G F K)

theorem l_recall (hca : jc_all cl G) (hF : jf_ok F) (hsy : s + 140 ≤ y) (hyr : y + 229 ≤ r) (hra : r + 5 ≤ a) : ∀ (f i : Nat) (h : sm_H) (K : Jk), i + f = R.1.length → KK h a s y r K → LL h y L → ST h s cl G PR F → JR h r R → jk_rok cl G F (R.1.drop i) K → Ev 122 6 [some (.ref a), some (.int (Int32.ofNat i))] [] h (fun r9 h1 => r9 = .inl none ∧ KK h1 a s y r (jk_recs cl G F (R.1.drop i) K) ∧ LL h1 y (L) ∧ ST h1 s cl G PR (F) ∧ JR h1 r (R) ∧ FK a y r s h h1) := by
  intro f
  induction f with
  | zero =>
    intro i h K hi hk hl hs hr hok
    have hr3 := hr.2.1
    refine Er_run 2 (pc' := 8) (ls' := [some (.ref a), some (.int (Int32.ofNat i))]) (st' := [.ref a, .int (Int32.ofNat i)]) rfl ?_
    refine Er_getR (x := r) rfl hk.1.1 hk.1.2.2.2.1 ?_
    refine Er_inv1 (q' := r) (ci := 9) (av := []) (rest := [.int (Int32.ofNat i)]) rfl rfl ⟨Nat.le_of_ble_eq_true rfl, Nat.le_of_ble_eq_true rfl⟩ rfl rfl hr.1.1 (s_Journal_length hr) ?_
    refine Er_run 1 (pc' := bif decide ((Int32.ofNat R.1.length) ≤ (Int32.ofNat i)) then 106 else 17) (ls' := [some (.ref a), some (.int (Int32.ofNat i))]) (st' := []) rfl ?_
    refine Er_pc (t := 106) (show (bif decide ((Int32.ofNat R.1.length) ≤ (Int32.ofNat i)) then 106 else 17) = 106 from by rw [show (decide ((Int32.ofNat R.1.length) ≤ (Int32.ofNat i))) = true from by rw [jx_le (by omega) (by omega)]; exact decide_eq_true (by omega)]; rfl) ?_
    refine Er_fin rfl rfl ?_
    rw [List.drop_eq_nil_of_le (by omega)]
    exact ⟨rfl, hk, hl, hs, hr, (FK.refl a y r s h)⟩
  | succ f ih =>
    intro i h K hi hk hl hs hr hok
    have hr3 := hr.2.1
    obtain ⟨e, he⟩ : ∃ e, R.1[i]? = some e := ⟨_, List.getElem?_eq_getElem (show i < R.1.length by omega)⟩
    have hdr : R.1.drop i = e :: R.1.drop (i + 1) := by
      have hi2 : i < R.1.length := by omega
      rw [List.drop_eq_getElem_cons hi2]; congr 1; rw [List.getElem?_eq_getElem hi2] at he; exact Option.some.inj he
    rw [hdr, jk_rok] at hok
    obtain ⟨hok1, hok2⟩ := hok
    by_cases hc1 : e.1 = 1
    · skip
      refine Er_run 2 (pc' := 8) (ls' := [some (.ref a), some (.int (Int32.ofNat i))]) (st' := [.ref a, .int (Int32.ofNat i)]) rfl ?_
      refine Er_getR (x := r) rfl hk.1.1 hk.1.2.2.2.1 ?_
      refine Er_inv1 (q' := r) (ci := 9) (av := []) (rest := [.int (Int32.ofNat i)]) rfl rfl ⟨Nat.le_of_ble_eq_true rfl, Nat.le_of_ble_eq_true rfl⟩ rfl rfl hr.1.1 (s_Journal_length hr) ?_
      refine Er_run 1 (pc' := bif decide ((Int32.ofNat R.1.length) ≤ (Int32.ofNat i)) then 106 else 17) (ls' := [some (.ref a), some (.int (Int32.ofNat i))]) (st' := []) rfl ?_
      refine Er_pc (t := 17) (show (bif decide ((Int32.ofNat R.1.length) ≤ (Int32.ofNat i)) then 106 else 17) = 17 from by rw [show (decide ((Int32.ofNat R.1.length) ≤ (Int32.ofNat i))) = false from by rw [jx_le (by omega) (by omega)]; exact decide_eq_false (by omega)]; rfl) ?_
      refine Er_run 1 (pc' := 18) (ls' := [some (.ref a), some (.int (Int32.ofNat i))]) (st' := [.ref a]) rfl ?_
      refine Er_getR (x := r) rfl hk.1.1 hk.1.2.2.2.1 ?_
      refine Er_run 1 (pc' := 22) (ls' := [some (.ref a), some (.int (Int32.ofNat i))]) (st' := [.int (Int32.ofNat i), .ref r]) rfl ?_
      refine Er_inv1 (q' := r) (ci := 9) (av := [.int (Int32.ofNat i)]) (rest := []) rfl rfl ⟨Nat.le_of_ble_eq_true rfl, Nat.le_of_ble_eq_true rfl⟩ rfl rfl hr.1.1 (s_Journal_kind hr he) ?_
      refine Er_run 2 (pc' := bif !decide (e.1 = ((1 : Int32))) then 42 else 29) (ls' := [some (.ref a), some (.int (Int32.ofNat i))]) (st' := []) rfl ?_
      refine Er_pc (t := 29) (show (bif !decide (e.1 = ((1 : Int32))) then 42 else 29) = 29 from by rw [show (!decide (e.1 = ((1 : Int32)))) = false from by rw [decide_eq_true hc1]; rfl]; rfl) ?_
      refine Er_run 2 (pc' := 31) (ls' := [some (.ref a), some (.int (Int32.ofNat i))]) (st' := [.ref a, .ref a]) rfl ?_
      refine Er_getI (v := Int32.ofNat (K.1 9)) rfl hk.1.1 (show gI h a 9 = Int32.ofNat (K.1 9) from (hk.2.1 9 (by omega)).1) ?_
      refine Er_run 2 (pc' := 36) (ls' := [some (.ref a), some (.int (Int32.ofNat i))]) (st' := [.int ((Int32.ofNat (K.1 9)) + ((1 : Int32))), .ref a]) rfl ?_
      obtain ⟨h1, rn1, kk1, ll1, ss1, jj1, zq1⟩ := s_Master_open (p := K.1 9 + 1) (hok1.1 hc1) hca hF hsy hyr hra hk hl hs hr
      have qq1 : FK a y r s h h1 := FK.trans (FK.refl a y r s h) zq1
      refine Er_inv0 (q' := a) (ci := 10) (av := [.int ((Int32.ofNat (K.1 9)) + ((1 : Int32)))]) (rest := []) rfl rfl ⟨Nat.le_of_ble_eq_true rfl, Nat.le_of_ble_eq_true rfl⟩ rfl rfl hk.1.1 (by rw [jx_s1]; exact rn1) ?_
      refine Er_run 3 (pc' := 6) (ls' := [some (.ref a), some (.int ((Int32.ofNat i) + (1 : Int32)))]) (st' := []) rfl ?_
      rw [jx_s1]
      have ihh := ih (i + 1) h1 (jk_rec1 cl G F K e) (by omega)
      rw [jk_rec1, if_pos hc1] at ihh
      refine sm_Ev.mono (ihh kk1 ll1 ss1 jj1 (by have := hok2; rw [jk_rec1, if_pos hc1] at this; exact this)) (fun r9 h9 z => ⟨z.1, ?_, z.2.2.1, z.2.2.2.1, z.2.2.2.2.1, FK.trans qq1 z.2.2.2.2.2⟩)
      have hz := z.2.1
      rw [hdr, jk_recs, jk_rec1, if_pos hc1]
      exact hz
    · by_cases hc2 : e.1 = 2
      · skip
        refine Er_run 2 (pc' := 8) (ls' := [some (.ref a), some (.int (Int32.ofNat i))]) (st' := [.ref a, .int (Int32.ofNat i)]) rfl ?_
        refine Er_getR (x := r) rfl hk.1.1 hk.1.2.2.2.1 ?_
        refine Er_inv1 (q' := r) (ci := 9) (av := []) (rest := [.int (Int32.ofNat i)]) rfl rfl ⟨Nat.le_of_ble_eq_true rfl, Nat.le_of_ble_eq_true rfl⟩ rfl rfl hr.1.1 (s_Journal_length hr) ?_
        refine Er_run 1 (pc' := bif decide ((Int32.ofNat R.1.length) ≤ (Int32.ofNat i)) then 106 else 17) (ls' := [some (.ref a), some (.int (Int32.ofNat i))]) (st' := []) rfl ?_
        refine Er_pc (t := 17) (show (bif decide ((Int32.ofNat R.1.length) ≤ (Int32.ofNat i)) then 106 else 17) = 17 from by rw [show (decide ((Int32.ofNat R.1.length) ≤ (Int32.ofNat i))) = false from by rw [jx_le (by omega) (by omega)]; exact decide_eq_false (by omega)]; rfl) ?_
        refine Er_run 1 (pc' := 18) (ls' := [some (.ref a), some (.int (Int32.ofNat i))]) (st' := [.ref a]) rfl ?_
        refine Er_getR (x := r) rfl hk.1.1 hk.1.2.2.2.1 ?_
        refine Er_run 1 (pc' := 22) (ls' := [some (.ref a), some (.int (Int32.ofNat i))]) (st' := [.int (Int32.ofNat i), .ref r]) rfl ?_
        refine Er_inv1 (q' := r) (ci := 9) (av := [.int (Int32.ofNat i)]) (rest := []) rfl rfl ⟨Nat.le_of_ble_eq_true rfl, Nat.le_of_ble_eq_true rfl⟩ rfl rfl hr.1.1 (s_Journal_kind hr he) ?_
        refine Er_run 2 (pc' := bif !decide (e.1 = ((1 : Int32))) then 42 else 29) (ls' := [some (.ref a), some (.int (Int32.ofNat i))]) (st' := []) rfl ?_
        refine Er_pc (t := 42) (show (bif !decide (e.1 = ((1 : Int32))) then 42 else 29) = 42 from by rw [show (!decide (e.1 = ((1 : Int32)))) = true from by rw [decide_eq_false hc1]; rfl]; rfl) ?_
        refine Er_run 1 (pc' := 43) (ls' := [some (.ref a), some (.int (Int32.ofNat i))]) (st' := [.ref a]) rfl ?_
        refine Er_getR (x := r) rfl hk.1.1 hk.1.2.2.2.1 ?_
        refine Er_run 1 (pc' := 47) (ls' := [some (.ref a), some (.int (Int32.ofNat i))]) (st' := [.int (Int32.ofNat i), .ref r]) rfl ?_
        refine Er_inv1 (q' := r) (ci := 9) (av := [.int (Int32.ofNat i)]) (rest := []) rfl rfl ⟨Nat.le_of_ble_eq_true rfl, Nat.le_of_ble_eq_true rfl⟩ rfl rfl hr.1.1 (s_Journal_kind hr he) ?_
        refine Er_run 2 (pc' := bif !decide (e.1 = ((2 : Int32))) then 72 else 54) (ls' := [some (.ref a), some (.int (Int32.ofNat i))]) (st' := []) rfl ?_
        refine Er_pc (t := 54) (show (bif !decide (e.1 = ((2 : Int32))) then 72 else 54) = 54 from by rw [show (!decide (e.1 = ((2 : Int32)))) = false from by rw [decide_eq_true hc2]; rfl]; rfl) ?_
        refine Er_run 2 (pc' := 56) (ls' := [some (.ref a), some (.int (Int32.ofNat i))]) (st' := [.ref a, .ref a]) rfl ?_
        refine Er_getR (x := s) rfl hk.1.1 hk.1.2.1 ?_
        refine Er_run 1 (pc' := 60) (ls' := [some (.ref a), some (.int (Int32.ofNat i))]) (st' := [.ref a, .ref s, .ref a]) rfl ?_
        refine Er_getI (v := Int32.ofNat (K.1 9)) rfl hk.1.1 (show gI h a 9 = Int32.ofNat (K.1 9) from (hk.2.1 9 (by omega)).1) ?_
        obtain ⟨j, hcp⟩ : ∃ j, cl[K.1 9]? = some j := ⟨_, List.getElem?_eq_getElem (hok1.2.1 hc2)⟩
        refine Er_inv1 (q' := s) (ci := 3) (av := [.int (Int32.ofNat (K.1 9))]) (rest := [.ref a]) rfl rfl ⟨Nat.le_of_ble_eq_true rfl, Nat.le_of_ble_eq_true rfl⟩ rfl rfl hs.1.1 (s_Store_numberAt hs.1 hs.2.1.2.1 hs.2.1.1 (hok1.2.1 hc2) (hs.2.1.2.2.2 _ j hcp)) ?_
        refine Er_putI rfl hk.1.1 ?_
        have z1 : Fr a (a + 1) h (setI h a 10 (Int32.ofNat j)) := Fr.setI (by omega) (by omega)
        have kk1 : KK (setI h a 10 (Int32.ofNat j)) a s y r (jk_sf K (Int32.ofNat j)) := KK_sf hk
        generalize setI h a 10 (Int32.ofNat j) = h1 at z1 kk1 ⊢
        have ll1 := LL_fr z1 (by omega) hl
        have ss1 := ST_fr z1 (by omega) hs
        have jj1 := JR_fr z1 (by omega) hr
        have qq1 : FK a y r s h h1 := FK.trans (FK.refl a y r s h) (FK.of z1 (by omega))
        refine Er_run 3 (pc' := 6) (ls' := [some (.ref a), some (.int ((Int32.ofNat i) + (1 : Int32)))]) (st' := []) rfl ?_
        rw [jx_s1]
        have ihh := ih (i + 1) h1 (jk_rec1 cl G F K e) (by omega)
        rw [jk_rec1, if_neg hc1, if_pos hc2, hcp] at ihh
        refine sm_Ev.mono (ihh kk1 ll1 ss1 jj1 (by have := hok2; rw [jk_rec1, if_neg hc1, if_pos hc2, hcp] at this; exact this)) (fun r9 h9 z => ⟨z.1, ?_, z.2.2.1, z.2.2.2.1, z.2.2.2.2.1, FK.trans qq1 z.2.2.2.2.2⟩)
        have hz := z.2.1
        rw [hdr, jk_recs, jk_rec1, if_neg hc1, if_pos hc2, hcp]
        exact hz
      · skip
        refine Er_run 2 (pc' := 8) (ls' := [some (.ref a), some (.int (Int32.ofNat i))]) (st' := [.ref a, .int (Int32.ofNat i)]) rfl ?_
        refine Er_getR (x := r) rfl hk.1.1 hk.1.2.2.2.1 ?_
        refine Er_inv1 (q' := r) (ci := 9) (av := []) (rest := [.int (Int32.ofNat i)]) rfl rfl ⟨Nat.le_of_ble_eq_true rfl, Nat.le_of_ble_eq_true rfl⟩ rfl rfl hr.1.1 (s_Journal_length hr) ?_
        refine Er_run 1 (pc' := bif decide ((Int32.ofNat R.1.length) ≤ (Int32.ofNat i)) then 106 else 17) (ls' := [some (.ref a), some (.int (Int32.ofNat i))]) (st' := []) rfl ?_
        refine Er_pc (t := 17) (show (bif decide ((Int32.ofNat R.1.length) ≤ (Int32.ofNat i)) then 106 else 17) = 17 from by rw [show (decide ((Int32.ofNat R.1.length) ≤ (Int32.ofNat i))) = false from by rw [jx_le (by omega) (by omega)]; exact decide_eq_false (by omega)]; rfl) ?_
        refine Er_run 1 (pc' := 18) (ls' := [some (.ref a), some (.int (Int32.ofNat i))]) (st' := [.ref a]) rfl ?_
        refine Er_getR (x := r) rfl hk.1.1 hk.1.2.2.2.1 ?_
        refine Er_run 1 (pc' := 22) (ls' := [some (.ref a), some (.int (Int32.ofNat i))]) (st' := [.int (Int32.ofNat i), .ref r]) rfl ?_
        refine Er_inv1 (q' := r) (ci := 9) (av := [.int (Int32.ofNat i)]) (rest := []) rfl rfl ⟨Nat.le_of_ble_eq_true rfl, Nat.le_of_ble_eq_true rfl⟩ rfl rfl hr.1.1 (s_Journal_kind hr he) ?_
        refine Er_run 2 (pc' := bif !decide (e.1 = ((1 : Int32))) then 42 else 29) (ls' := [some (.ref a), some (.int (Int32.ofNat i))]) (st' := []) rfl ?_
        refine Er_pc (t := 42) (show (bif !decide (e.1 = ((1 : Int32))) then 42 else 29) = 42 from by rw [show (!decide (e.1 = ((1 : Int32)))) = true from by rw [decide_eq_false hc1]; rfl]; rfl) ?_
        refine Er_run 1 (pc' := 43) (ls' := [some (.ref a), some (.int (Int32.ofNat i))]) (st' := [.ref a]) rfl ?_
        refine Er_getR (x := r) rfl hk.1.1 hk.1.2.2.2.1 ?_
        refine Er_run 1 (pc' := 47) (ls' := [some (.ref a), some (.int (Int32.ofNat i))]) (st' := [.int (Int32.ofNat i), .ref r]) rfl ?_
        refine Er_inv1 (q' := r) (ci := 9) (av := [.int (Int32.ofNat i)]) (rest := []) rfl rfl ⟨Nat.le_of_ble_eq_true rfl, Nat.le_of_ble_eq_true rfl⟩ rfl rfl hr.1.1 (s_Journal_kind hr he) ?_
        refine Er_run 2 (pc' := bif !decide (e.1 = ((2 : Int32))) then 72 else 54) (ls' := [some (.ref a), some (.int (Int32.ofNat i))]) (st' := []) rfl ?_
        refine Er_pc (t := 72) (show (bif !decide (e.1 = ((2 : Int32))) then 72 else 54) = 72 from by rw [show (!decide (e.1 = ((2 : Int32)))) = true from by rw [decide_eq_false hc2]; rfl]; rfl) ?_
        refine Er_run 2 (pc' := 74) (ls' := [some (.ref a), some (.int (Int32.ofNat i))]) (st' := [.ref a, .ref a]) rfl ?_
        refine Er_getR (x := r) rfl hk.1.1 hk.1.2.2.2.1 ?_
        refine Er_run 1 (pc' := 78) (ls' := [some (.ref a), some (.int (Int32.ofNat i))]) (st' := [.int (Int32.ofNat i), .ref r, .ref a]) rfl ?_
        refine Er_inv1 (q' := r) (ci := 9) (av := [.int (Int32.ofNat i)]) (rest := [.ref a]) rfl rfl ⟨Nat.le_of_ble_eq_true rfl, Nat.le_of_ble_eq_true rfl⟩ rfl rfl hr.1.1 (s_Journal_task hr he) ?_
        refine Er_run 1 (pc' := 82) (ls' := [some (.ref a), some (.int (Int32.ofNat i))]) (st' := [.ref a, .int (e.2.1), .ref a]) rfl ?_
        refine Er_getR (x := r) rfl hk.1.1 hk.1.2.2.2.1 ?_
        refine Er_run 1 (pc' := 86) (ls' := [some (.ref a), some (.int (Int32.ofNat i))]) (st' := [.int (Int32.ofNat i), .ref r, .int (e.2.1), .ref a]) rfl ?_
        refine Er_inv1 (q' := r) (ci := 9) (av := [.int (Int32.ofNat i)]) (rest := [.int (e.2.1), .ref a]) rfl rfl ⟨Nat.le_of_ble_eq_true rfl, Nat.le_of_ble_eq_true rfl⟩ rfl rfl hr.1.1 (s_Journal_worker hr he) ?_
        refine Er_run 1 (pc' := 90) (ls' := [some (.ref a), some (.int (Int32.ofNat i))]) (st' := [.ref a, .int (e.2.2.1), .int (e.2.1), .ref a]) rfl ?_
        refine Er_getR (x := r) rfl hk.1.1 hk.1.2.2.2.1 ?_
        refine Er_run 1 (pc' := 94) (ls' := [some (.ref a), some (.int (Int32.ofNat i))]) (st' := [.int (Int32.ofNat i), .ref r, .int (e.2.2.1), .int (e.2.1), .ref a]) rfl ?_
        refine Er_inv1 (q' := r) (ci := 9) (av := [.int (Int32.ofNat i)]) (rest := [.int (e.2.2.1), .int (e.2.1), .ref a]) rfl rfl ⟨Nat.le_of_ble_eq_true rfl, Nat.le_of_ble_eq_true rfl⟩ rfl rfl hr.1.1 (s_Journal_amount hr he) ?_
        obtain ⟨c1, c2, c3, c4, c5, c6, c7, c8⟩ := hok1.2.2 hc1 hc2
        obtain ⟨h1, rn1, kk1, ll1, ss1, jj1, zq1⟩ := s_Master_note (t := ji e.2.1) (n := ji e.2.2.2) (x := e.2.2.1) c2 c4 c5 c6 c7 c8 hsy hyr hra hk hl hs hr
        have qq1 : FK a y r s h h1 := FK.trans (FK.refl a y r s h) zq1
        rw [← show e.2.1 = Int32.ofNat (ji e.2.1) from c1, ← show e.2.2.2 = Int32.ofNat (ji e.2.2.2) from c3] at rn1
        refine Er_inv0 (q' := a) (ci := 10) (av := [.int (e.2.1), .int (e.2.2.1), .int (e.2.2.2)]) (rest := []) rfl rfl ⟨Nat.le_of_ble_eq_true rfl, Nat.le_of_ble_eq_true rfl⟩ rfl rfl hk.1.1 rn1 ?_
        refine Er_run 2 (pc' := 6) (ls' := [some (.ref a), some (.int ((Int32.ofNat i) + (1 : Int32)))]) (st' := []) rfl ?_
        rw [jx_s1]
        have ihh := ih (i + 1) h1 (jk_rec1 cl G F K e) (by omega)
        rw [jk_rec1, if_neg hc1, if_neg hc2] at ihh
        refine sm_Ev.mono (ihh kk1 ll1 ss1 jj1 (by have := hok2; rw [jk_rec1, if_neg hc1, if_neg hc2] at this; exact this)) (fun r9 h9 z => ⟨z.1, ?_, z.2.2.1, z.2.2.2.1, z.2.2.2.2.1, FK.trans qq1 z.2.2.2.2.2⟩)
        have hz := z.2.1
        rw [hdr, jk_recs, jk_rec1, if_neg hc1, if_neg hc2]
        exact hz
theorem s_Master_recall (hca : jc_all cl G) (hF : jf_ok F) (hok : jk_rok cl G F R.1 (jk_forget cl G F K)) (hsy : s + 140 ≤ y) (hyr : y + 229 ≤ r) (hra : r + 5 ≤ a) (hk : KK h a s y r K) (hl : LL h y L) (hs : ST h s cl G PR F) (hr : JR h r R) : ∃ h', Run 122 [.ref a] h (.inl none) h' ∧ KK h' a s y r (jk_recall cl G F K R) ∧ LL h' y (L) ∧ ST h' s cl G PR (F) ∧ JR h' r (R) ∧ FK a y r s h h' := by
  have hx : Ev 122 0 (sm_pad (sm_ent [.ref a]) (sm_prog.2.1 122)) [] h (fun r9 h1 => r9 = .inl none ∧ KK h1 a s y r (jk_recall cl G F K R) ∧ LL h1 y (L) ∧ ST h1 s cl G PR (F) ∧ JR h1 r (R) ∧ FK a y r s h h1) := by
    show Ev 122 0 [some (.ref a), none] [] h _
    refine Er_run 1 (pc' := 1) (ls' := [some (.ref a), none]) (st' := [.ref a]) rfl ?_
    obtain ⟨h1, rn1, kk1, ll1, ss1, jj1, zq1⟩ := s_Master_forget hca hF hsy hyr hra hk hl hs hr
    have qq1 : FK a y r s h h1 := FK.trans (FK.refl a y r s h) zq1
    refine Er_inv0 (q' := a) (ci := 10) (av := []) (rest := []) rfl rfl ⟨Nat.le_of_ble_eq_true rfl, Nat.le_of_ble_eq_true rfl⟩ rfl rfl hk.1.1 rn1 ?_
    refine Er_run 2 (pc' := 6) (ls' := [some (.ref a), some (.int ((0 : Int32)))]) (st' := []) rfl ?_
    have hlr := l_recall hca hF hsy hyr hra R.1.length 0 h1 (jk_forget cl G F K) (by omega) kk1 ll1 ss1 jj1 (by rw [List.drop_zero]; exact hok)
    rw [List.drop_zero] at hlr
    exact sm_Ev.mono hlr (fun r9 h9 z => ⟨z.1, z.2.1, z.2.2.1, z.2.2.2.1, z.2.2.2.2.1, FK.trans qq1 z.2.2.2.2.2⟩)
  obtain ⟨r9, h', hrr, e, hq⟩ := Run_of (Nat.le_of_ble_eq_true rfl) hx
  subst e
  exact ⟨h', hrr, hq⟩
def jk_d1 (K : Jk) (m : Jm) (t n : Nat) : Jk := jk_note K t (m.1 3) n
def jk_dr (R : Jr) (m : Jm) (t n : Nat) : Jr := jr_w R (0, Int32.ofNat t, m.1 3, Int32.ofNat n)
def jk_done (cl : List Nat) (K : Jk) (R : Jr) (m : Jm) (t n : Nat) : Jk × Jr := if K.2.2.2.1 t = -1 then (if 1000 < (jk_d1 K m t n).1 14 ∨ 300 < (jk_d1 K m t n).1 15 then (jk_sf (jk_d1 K m t n) (Int32.ofNat ((cl[K.1 9]?).getD 0)), jr_w (jk_dr R m t n) (2, -1, -1, 0)) else (jk_d1 K m t n, jk_dr R m t n)) else (K, R)
theorem jk_note_p {t n : Nat} {x : Int32} : (jk_note K t x n).1 9 = K.1 9 := by rw [jk_note]; split <;> rfl
theorem jr_w_len {e : Je} : (jr_w R e).1.length = R.1.length + 1 := by rw [jr_w]; split <;> simp
theorem jr_w_cm {e : Je} : (jr_w R e).2.1 ≤ R.2.1 + 1 := by rw [jr_w]; split <;> simp

theorem s_Master_hearDone {c t n : Nat} {m : Jm} (hm : MG h c m) (hcc : c + 2 ≤ r) (e6 : m.1 6 = Int32.ofNat t) (e9 : m.1 9 = Int32.ofNat n) (ht : t < 44) (hn : n < 10000) (hpc : K.1 9 < cl.length) (hr359 : K.2.2.2.1 t = -1 → R.1.length < 359) (hcm : R.2.1 < 800000) (h12 : K.1 12 < 10000) (h13 : K.1 13 < 10000) (h14 : K.1 14 < 10000000) (h15 : K.1 15 < 10000000) (hsy : s + 140 ≤ y) (hyr : y + 229 ≤ r) (hra : r + 5 ≤ a) (hk : KK h a s y r K) (hl : LL h y L) (hs : ST h s cl G PR F) (hr : JR h r R) : ∃ h', Run 131 [.ref a, .ref c] h (.inl none) h' ∧ KK h' a s y r ((jk_done cl K R m t n).1) ∧ LL h' y (L) ∧ ST h' s cl G PR (F) ∧ JR h' r ((jk_done cl K R m t n).2) ∧ FK a y r s h h' := by
  have hx : Ev 131 0 (sm_pad (sm_ent [.ref a, .ref c]) (sm_prog.2.1 131)) [] h (fun r9 h1 => r9 = .inl none ∧ KK h1 a s y r ((jk_done cl K R m t n).1) ∧ LL h1 y (L) ∧ ST h1 s cl G PR (F) ∧ JR h1 r ((jk_done cl K R m t n).2) ∧ FK a y r s h h1) := by
    have bb14 : (jk_d1 K m t n).1 14 < 20000000 ∧ (jk_d1 K m t n).1 15 < 20000000 := by
      rw [jk_d1, jk_note]
      split
      · exact ⟨show K.1 14 + n < _ by omega, show K.1 15 < _ by omega⟩
      · exact ⟨show K.1 14 < _ by omega, show K.1 15 + n < _ by omega⟩
    obtain ⟨j, hcp⟩ : ∃ j, cl[K.1 9]? = some j := ⟨_, List.getElem?_eq_getElem hpc⟩
    by_cases hd : K.2.2.2.1 t = -1
    · have hr358 := hr359 hd
      by_cases hx : 1000 < (jk_d1 K m t n).1 14 ∨ 300 < (jk_d1 K m t n).1 15
      · by_cases hx1 : 1000 < (jk_d1 K m t n).1 14
        · skip
          show Ev 131 0 [some (.ref a), some (.ref c), none] [] h _
          refine Er_run 1 (pc' := 1) (ls' := [some (.ref a), some (.ref c), none]) (st' := [.ref c]) rfl ?_
          refine Er_getI (v := Int32.ofNat t) rfl hm.1.1 (by rw [← e6]; exact (hm.2.2.2.1 6 (by omega) (by omega))) ?_
          refine Er_run 3 (pc' := bif decide ((Int32.ofNat t) < 0) then 25 else 9) (ls' := [some (.ref a), some (.ref c), some (.int (Int32.ofNat t))]) (st' := []) rfl ?_
          refine Er_pc (t := 9) (show (bif decide ((Int32.ofNat t) < 0) then 25 else 9) = 9 from by rw [show (decide ((Int32.ofNat t) < 0)) = false from sm_nn (by rw [sm_ofNat_toInt (by omega)]; omega)]; rfl) ?_
          refine Er_run 3 (pc' := bif decide (((44 : Int32)) ≤ (Int32.ofNat t)) then 25 else 15) (ls' := [some (.ref a), some (.ref c), some (.int (Int32.ofNat t))]) (st' := []) rfl ?_
          refine Er_pc (t := 15) (show (bif decide (((44 : Int32)) ≤ (Int32.ofNat t)) then 25 else 15) = 15 from by rw [show (decide (((44 : Int32)) ≤ (Int32.ofNat t))) = false from by rw [show (44 : Int32) = Int32.ofNat 44 from rfl, jx_le (by omega) (by omega)]; exact decide_eq_false (by omega)]; rfl) ?_
          refine Er_run 1 (pc' := 16) (ls' := [some (.ref a), some (.ref c), some (.int (Int32.ofNat t))]) (st' := [.ref a]) rfl ?_
          refine Er_getR (x := a + 6) rfl hk.1.1 hk.1.2.2.2.2.2.2.1 ?_
          refine Er_run 1 (pc' := 20) (ls' := [some (.ref a), some (.ref c), some (.int (Int32.ofNat t))]) (st' := [.int (Int32.ofNat t), .ref (a + 6)]) rfl ?_
          refine Er_iald (v := K.2.2.2.1 t) rfl hk.1.2.2.2.2.2.2.2.2.2.1 (by rw [hk.1.2.2.2.2.2.2.2.2.2.2.1]; exact sm_in_of (by rw [sm_ofNat_toInt (by omega)]; omega) (by rw [sm_ofNat_toInt (by omega)]; omega)) (by rw [jx_cn (by omega)]; exact (show gI h (a + 6) t = K.2.2.2.1 t from hk.2.2.2.2.1 t (by omega))) ?_
          refine Er_run 2 (pc' := bif decide ((K.2.2.2.1 t) = ((-1 : Int32))) then 26 else 25) (ls' := [some (.ref a), some (.ref c), some (.int (Int32.ofNat t))]) (st' := []) rfl ?_
          refine Er_pc (t := 26) (show (bif decide ((K.2.2.2.1 t) = ((-1 : Int32))) then 26 else 25) = 26 from by rw [show (decide ((K.2.2.2.1 t) = ((-1 : Int32)))) = true from decide_eq_true hd]; rfl) ?_
          refine Er_run 1 (pc' := 27) (ls' := [some (.ref a), some (.ref c), some (.int (Int32.ofNat t))]) (st' := [.ref a]) rfl ?_
          refine Er_getR (x := r) rfl hk.1.1 hk.1.2.2.2.1 ?_
          refine Er_run 3 (pc' := 33) (ls' := [some (.ref a), some (.ref c), some (.int (Int32.ofNat t))]) (st' := [.ref c, .int (Int32.ofNat t), .int ((0 : Int32)), .ref r]) rfl ?_
          refine Er_getI (v := m.1 3) rfl hm.1.1 (hm.2.2.2.1 3 (by omega) (by omega)) ?_
          refine Er_run 1 (pc' := 37) (ls' := [some (.ref a), some (.ref c), some (.int (Int32.ofNat t))]) (st' := [.ref c, .int (m.1 3), .int (Int32.ofNat t), .int ((0 : Int32)), .ref r]) rfl ?_
          refine Er_getI (v := Int32.ofNat n) rfl hm.1.1 (by rw [← e9]; exact (hm.2.2.2.1 9 (by omega) (by omega))) ?_
          obtain ⟨h1, rn1, jj1, z1⟩ := s_Journal_write (k := (0 : Int32)) (t := Int32.ofNat t) (x := m.1 3) (y := Int32.ofNat n) hr (by omega) (by omega)
          have kk1 : KK h1 a s y r K := KK_fr z1 (by omega) hk
          have ll1 := LL_fr z1 (by omega) hl
          have ss1 := ST_fr z1 (by omega) hs
          have qq1 : FK a y r s h h1 := FK.trans (FK.refl a y r s h) (FK.of z1 (by omega))
          have g1_c := MG_fr z1 (by omega) hm
          refine Er_inv0 (q' := r) (ci := 9) (av := [.int ((0 : Int32)), .int (Int32.ofNat t), .int (m.1 3), .int (Int32.ofNat n)]) (rest := []) rfl rfl ⟨Nat.le_of_ble_eq_true rfl, Nat.le_of_ble_eq_true rfl⟩ rfl rfl hr.1.1 rn1 ?_
          refine Er_run 3 (pc' := 46) (ls' := [some (.ref a), some (.ref c), some (.int (Int32.ofNat t))]) (st' := [.ref c, .int (Int32.ofNat t), .ref a]) rfl ?_
          refine Er_getI (v := m.1 3) rfl g1_c.1.1 (g1_c.2.2.2.1 3 (by omega) (by omega)) ?_
          refine Er_run 1 (pc' := 50) (ls' := [some (.ref a), some (.ref c), some (.int (Int32.ofNat t))]) (st' := [.ref c, .int (m.1 3), .int (Int32.ofNat t), .ref a]) rfl ?_
          refine Er_getI (v := Int32.ofNat n) rfl g1_c.1.1 (by rw [← e9]; exact (g1_c.2.2.2.1 9 (by omega) (by omega))) ?_
          obtain ⟨h2, rn2, kk2, ll2, ss2, jj2, zq2⟩ := s_Master_note (t := t) (n := n) (x := m.1 3) ht hn h12 h13 h14 h15 hsy hyr hra kk1 ll1 ss1 jj1
          have qq2 : FK a y r s h h2 := FK.trans qq1 zq2
          refine Er_inv0 (q' := a) (ci := 10) (av := [.int (Int32.ofNat t), .int (m.1 3), .int (Int32.ofNat n)]) (rest := []) rfl rfl ⟨Nat.le_of_ble_eq_true rfl, Nat.le_of_ble_eq_true rfl⟩ rfl rfl kk1.1.1 rn2 ?_
          refine Er_run 1 (pc' := 57) (ls' := [some (.ref a), some (.ref c), some (.int (Int32.ofNat t))]) (st' := [.ref a]) rfl ?_
          refine Er_getI (v := Int32.ofNat ((jk_d1 K m t n).1 14)) rfl kk2.1.1 (show gI h2 a 14 = Int32.ofNat ((jk_d1 K m t n).1 14) from (kk2.2.1 14 (by omega)).1) ?_
          refine Er_run 2 (pc' := bif decide (((1000 : Int32)) < (Int32.ofNat ((jk_d1 K m t n).1 14))) then 76 else 66) (ls' := [some (.ref a), some (.ref c), some (.int (Int32.ofNat t))]) (st' := []) rfl ?_
          refine Er_pc (t := 76) (show (bif decide (((1000 : Int32)) < (Int32.ofNat ((jk_d1 K m t n).1 14))) then 76 else 66) = 76 from by rw [show (decide (((1000 : Int32)) < (Int32.ofNat ((jk_d1 K m t n).1 14)))) = true from by rw [show (1000 : Int32) = Int32.ofNat 1000 from rfl, jx_lt (by omega) (by omega)]; exact decide_eq_true (by omega)]; rfl) ?_
          refine Er_run 1 (pc' := 77) (ls' := [some (.ref a), some (.ref c), some (.int (Int32.ofNat t))]) (st' := [.ref a]) rfl ?_
          obtain ⟨h3, rn3, kk3, ll3, ss3, jj3, zq3⟩ := s_Master_fail (K := (jk_d1 K m t n)) (R := jk_dr R m t n) (j := (cl[K.1 9]?).getD 0) (by rw [jk_dr, jr_w_len]; omega) (by have := jr_w_cm (R := R) (e := (0, Int32.ofNat t, m.1 3, Int32.ofNat n)); rw [jk_dr]; omega) (by rw [jk_d1, jk_note_p]; exact hpc) (by rw [jk_d1, jk_note_p, hcp]; rfl) hsy hyr hra kk2 ll2 ss2 jj2
          have qq3 : FK a y r s h h3 := FK.trans qq2 zq3
          refine Er_inv0 (q' := a) (ci := 10) (av := []) (rest := []) rfl rfl ⟨Nat.le_of_ble_eq_true rfl, Nat.le_of_ble_eq_true rfl⟩ rfl rfl kk2.1.1 rn3 ?_
          refine Er_fin rfl rfl ?_
          rw [jk_done, if_pos hd, if_pos hx]
          exact ⟨rfl, kk3, ll3, ss3, jj3, qq3⟩
        · skip
          show Ev 131 0 [some (.ref a), some (.ref c), none] [] h _
          refine Er_run 1 (pc' := 1) (ls' := [some (.ref a), some (.ref c), none]) (st' := [.ref c]) rfl ?_
          refine Er_getI (v := Int32.ofNat t) rfl hm.1.1 (by rw [← e6]; exact (hm.2.2.2.1 6 (by omega) (by omega))) ?_
          refine Er_run 3 (pc' := bif decide ((Int32.ofNat t) < 0) then 25 else 9) (ls' := [some (.ref a), some (.ref c), some (.int (Int32.ofNat t))]) (st' := []) rfl ?_
          refine Er_pc (t := 9) (show (bif decide ((Int32.ofNat t) < 0) then 25 else 9) = 9 from by rw [show (decide ((Int32.ofNat t) < 0)) = false from sm_nn (by rw [sm_ofNat_toInt (by omega)]; omega)]; rfl) ?_
          refine Er_run 3 (pc' := bif decide (((44 : Int32)) ≤ (Int32.ofNat t)) then 25 else 15) (ls' := [some (.ref a), some (.ref c), some (.int (Int32.ofNat t))]) (st' := []) rfl ?_
          refine Er_pc (t := 15) (show (bif decide (((44 : Int32)) ≤ (Int32.ofNat t)) then 25 else 15) = 15 from by rw [show (decide (((44 : Int32)) ≤ (Int32.ofNat t))) = false from by rw [show (44 : Int32) = Int32.ofNat 44 from rfl, jx_le (by omega) (by omega)]; exact decide_eq_false (by omega)]; rfl) ?_
          refine Er_run 1 (pc' := 16) (ls' := [some (.ref a), some (.ref c), some (.int (Int32.ofNat t))]) (st' := [.ref a]) rfl ?_
          refine Er_getR (x := a + 6) rfl hk.1.1 hk.1.2.2.2.2.2.2.1 ?_
          refine Er_run 1 (pc' := 20) (ls' := [some (.ref a), some (.ref c), some (.int (Int32.ofNat t))]) (st' := [.int (Int32.ofNat t), .ref (a + 6)]) rfl ?_
          refine Er_iald (v := K.2.2.2.1 t) rfl hk.1.2.2.2.2.2.2.2.2.2.1 (by rw [hk.1.2.2.2.2.2.2.2.2.2.2.1]; exact sm_in_of (by rw [sm_ofNat_toInt (by omega)]; omega) (by rw [sm_ofNat_toInt (by omega)]; omega)) (by rw [jx_cn (by omega)]; exact (show gI h (a + 6) t = K.2.2.2.1 t from hk.2.2.2.2.1 t (by omega))) ?_
          refine Er_run 2 (pc' := bif decide ((K.2.2.2.1 t) = ((-1 : Int32))) then 26 else 25) (ls' := [some (.ref a), some (.ref c), some (.int (Int32.ofNat t))]) (st' := []) rfl ?_
          refine Er_pc (t := 26) (show (bif decide ((K.2.2.2.1 t) = ((-1 : Int32))) then 26 else 25) = 26 from by rw [show (decide ((K.2.2.2.1 t) = ((-1 : Int32)))) = true from decide_eq_true hd]; rfl) ?_
          refine Er_run 1 (pc' := 27) (ls' := [some (.ref a), some (.ref c), some (.int (Int32.ofNat t))]) (st' := [.ref a]) rfl ?_
          refine Er_getR (x := r) rfl hk.1.1 hk.1.2.2.2.1 ?_
          refine Er_run 3 (pc' := 33) (ls' := [some (.ref a), some (.ref c), some (.int (Int32.ofNat t))]) (st' := [.ref c, .int (Int32.ofNat t), .int ((0 : Int32)), .ref r]) rfl ?_
          refine Er_getI (v := m.1 3) rfl hm.1.1 (hm.2.2.2.1 3 (by omega) (by omega)) ?_
          refine Er_run 1 (pc' := 37) (ls' := [some (.ref a), some (.ref c), some (.int (Int32.ofNat t))]) (st' := [.ref c, .int (m.1 3), .int (Int32.ofNat t), .int ((0 : Int32)), .ref r]) rfl ?_
          refine Er_getI (v := Int32.ofNat n) rfl hm.1.1 (by rw [← e9]; exact (hm.2.2.2.1 9 (by omega) (by omega))) ?_
          obtain ⟨h1, rn1, jj1, z1⟩ := s_Journal_write (k := (0 : Int32)) (t := Int32.ofNat t) (x := m.1 3) (y := Int32.ofNat n) hr (by omega) (by omega)
          have kk1 : KK h1 a s y r K := KK_fr z1 (by omega) hk
          have ll1 := LL_fr z1 (by omega) hl
          have ss1 := ST_fr z1 (by omega) hs
          have qq1 : FK a y r s h h1 := FK.trans (FK.refl a y r s h) (FK.of z1 (by omega))
          have g1_c := MG_fr z1 (by omega) hm
          refine Er_inv0 (q' := r) (ci := 9) (av := [.int ((0 : Int32)), .int (Int32.ofNat t), .int (m.1 3), .int (Int32.ofNat n)]) (rest := []) rfl rfl ⟨Nat.le_of_ble_eq_true rfl, Nat.le_of_ble_eq_true rfl⟩ rfl rfl hr.1.1 rn1 ?_
          refine Er_run 3 (pc' := 46) (ls' := [some (.ref a), some (.ref c), some (.int (Int32.ofNat t))]) (st' := [.ref c, .int (Int32.ofNat t), .ref a]) rfl ?_
          refine Er_getI (v := m.1 3) rfl g1_c.1.1 (g1_c.2.2.2.1 3 (by omega) (by omega)) ?_
          refine Er_run 1 (pc' := 50) (ls' := [some (.ref a), some (.ref c), some (.int (Int32.ofNat t))]) (st' := [.ref c, .int (m.1 3), .int (Int32.ofNat t), .ref a]) rfl ?_
          refine Er_getI (v := Int32.ofNat n) rfl g1_c.1.1 (by rw [← e9]; exact (g1_c.2.2.2.1 9 (by omega) (by omega))) ?_
          obtain ⟨h2, rn2, kk2, ll2, ss2, jj2, zq2⟩ := s_Master_note (t := t) (n := n) (x := m.1 3) ht hn h12 h13 h14 h15 hsy hyr hra kk1 ll1 ss1 jj1
          have qq2 : FK a y r s h h2 := FK.trans qq1 zq2
          refine Er_inv0 (q' := a) (ci := 10) (av := [.int (Int32.ofNat t), .int (m.1 3), .int (Int32.ofNat n)]) (rest := []) rfl rfl ⟨Nat.le_of_ble_eq_true rfl, Nat.le_of_ble_eq_true rfl⟩ rfl rfl kk1.1.1 rn2 ?_
          refine Er_run 1 (pc' := 57) (ls' := [some (.ref a), some (.ref c), some (.int (Int32.ofNat t))]) (st' := [.ref a]) rfl ?_
          refine Er_getI (v := Int32.ofNat ((jk_d1 K m t n).1 14)) rfl kk2.1.1 (show gI h2 a 14 = Int32.ofNat ((jk_d1 K m t n).1 14) from (kk2.2.1 14 (by omega)).1) ?_
          refine Er_run 2 (pc' := bif decide (((1000 : Int32)) < (Int32.ofNat ((jk_d1 K m t n).1 14))) then 76 else 66) (ls' := [some (.ref a), some (.ref c), some (.int (Int32.ofNat t))]) (st' := []) rfl ?_
          refine Er_pc (t := 66) (show (bif decide (((1000 : Int32)) < (Int32.ofNat ((jk_d1 K m t n).1 14))) then 76 else 66) = 66 from by rw [show (decide (((1000 : Int32)) < (Int32.ofNat ((jk_d1 K m t n).1 14)))) = false from by rw [show (1000 : Int32) = Int32.ofNat 1000 from rfl, jx_lt (by omega) (by omega)]; exact decide_eq_false (by omega)]; rfl) ?_
          refine Er_run 1 (pc' := 67) (ls' := [some (.ref a), some (.ref c), some (.int (Int32.ofNat t))]) (st' := [.ref a]) rfl ?_
          refine Er_getI (v := Int32.ofNat ((jk_d1 K m t n).1 15)) rfl kk2.1.1 (show gI h2 a 15 = Int32.ofNat ((jk_d1 K m t n).1 15) from (kk2.2.1 15 (by omega)).1) ?_
          refine Er_run 2 (pc' := bif decide ((Int32.ofNat ((jk_d1 K m t n).1 15)) ≤ ((300 : Int32))) then 80 else 76) (ls' := [some (.ref a), some (.ref c), some (.int (Int32.ofNat t))]) (st' := []) rfl ?_
          refine Er_pc (t := 76) (show (bif decide ((Int32.ofNat ((jk_d1 K m t n).1 15)) ≤ ((300 : Int32))) then 80 else 76) = 76 from by rw [show (decide ((Int32.ofNat ((jk_d1 K m t n).1 15)) ≤ ((300 : Int32)))) = false from by rw [show (300 : Int32) = Int32.ofNat 300 from rfl, jx_le (by omega) (by omega)]; exact decide_eq_false (by omega)]; rfl) ?_
          refine Er_run 1 (pc' := 77) (ls' := [some (.ref a), some (.ref c), some (.int (Int32.ofNat t))]) (st' := [.ref a]) rfl ?_
          obtain ⟨h3, rn3, kk3, ll3, ss3, jj3, zq3⟩ := s_Master_fail (K := (jk_d1 K m t n)) (R := jk_dr R m t n) (j := (cl[K.1 9]?).getD 0) (by rw [jk_dr, jr_w_len]; omega) (by have := jr_w_cm (R := R) (e := (0, Int32.ofNat t, m.1 3, Int32.ofNat n)); rw [jk_dr]; omega) (by rw [jk_d1, jk_note_p]; exact hpc) (by rw [jk_d1, jk_note_p, hcp]; rfl) hsy hyr hra kk2 ll2 ss2 jj2
          have qq3 : FK a y r s h h3 := FK.trans qq2 zq3
          refine Er_inv0 (q' := a) (ci := 10) (av := []) (rest := []) rfl rfl ⟨Nat.le_of_ble_eq_true rfl, Nat.le_of_ble_eq_true rfl⟩ rfl rfl kk2.1.1 rn3 ?_
          refine Er_fin rfl rfl ?_
          rw [jk_done, if_pos hd, if_pos hx]
          exact ⟨rfl, kk3, ll3, ss3, jj3, qq3⟩
      · skip
        show Ev 131 0 [some (.ref a), some (.ref c), none] [] h _
        refine Er_run 1 (pc' := 1) (ls' := [some (.ref a), some (.ref c), none]) (st' := [.ref c]) rfl ?_
        refine Er_getI (v := Int32.ofNat t) rfl hm.1.1 (by rw [← e6]; exact (hm.2.2.2.1 6 (by omega) (by omega))) ?_
        refine Er_run 3 (pc' := bif decide ((Int32.ofNat t) < 0) then 25 else 9) (ls' := [some (.ref a), some (.ref c), some (.int (Int32.ofNat t))]) (st' := []) rfl ?_
        refine Er_pc (t := 9) (show (bif decide ((Int32.ofNat t) < 0) then 25 else 9) = 9 from by rw [show (decide ((Int32.ofNat t) < 0)) = false from sm_nn (by rw [sm_ofNat_toInt (by omega)]; omega)]; rfl) ?_
        refine Er_run 3 (pc' := bif decide (((44 : Int32)) ≤ (Int32.ofNat t)) then 25 else 15) (ls' := [some (.ref a), some (.ref c), some (.int (Int32.ofNat t))]) (st' := []) rfl ?_
        refine Er_pc (t := 15) (show (bif decide (((44 : Int32)) ≤ (Int32.ofNat t)) then 25 else 15) = 15 from by rw [show (decide (((44 : Int32)) ≤ (Int32.ofNat t))) = false from by rw [show (44 : Int32) = Int32.ofNat 44 from rfl, jx_le (by omega) (by omega)]; exact decide_eq_false (by omega)]; rfl) ?_
        refine Er_run 1 (pc' := 16) (ls' := [some (.ref a), some (.ref c), some (.int (Int32.ofNat t))]) (st' := [.ref a]) rfl ?_
        refine Er_getR (x := a + 6) rfl hk.1.1 hk.1.2.2.2.2.2.2.1 ?_
        refine Er_run 1 (pc' := 20) (ls' := [some (.ref a), some (.ref c), some (.int (Int32.ofNat t))]) (st' := [.int (Int32.ofNat t), .ref (a + 6)]) rfl ?_
        refine Er_iald (v := K.2.2.2.1 t) rfl hk.1.2.2.2.2.2.2.2.2.2.1 (by rw [hk.1.2.2.2.2.2.2.2.2.2.2.1]; exact sm_in_of (by rw [sm_ofNat_toInt (by omega)]; omega) (by rw [sm_ofNat_toInt (by omega)]; omega)) (by rw [jx_cn (by omega)]; exact (show gI h (a + 6) t = K.2.2.2.1 t from hk.2.2.2.2.1 t (by omega))) ?_
        refine Er_run 2 (pc' := bif decide ((K.2.2.2.1 t) = ((-1 : Int32))) then 26 else 25) (ls' := [some (.ref a), some (.ref c), some (.int (Int32.ofNat t))]) (st' := []) rfl ?_
        refine Er_pc (t := 26) (show (bif decide ((K.2.2.2.1 t) = ((-1 : Int32))) then 26 else 25) = 26 from by rw [show (decide ((K.2.2.2.1 t) = ((-1 : Int32)))) = true from decide_eq_true hd]; rfl) ?_
        refine Er_run 1 (pc' := 27) (ls' := [some (.ref a), some (.ref c), some (.int (Int32.ofNat t))]) (st' := [.ref a]) rfl ?_
        refine Er_getR (x := r) rfl hk.1.1 hk.1.2.2.2.1 ?_
        refine Er_run 3 (pc' := 33) (ls' := [some (.ref a), some (.ref c), some (.int (Int32.ofNat t))]) (st' := [.ref c, .int (Int32.ofNat t), .int ((0 : Int32)), .ref r]) rfl ?_
        refine Er_getI (v := m.1 3) rfl hm.1.1 (hm.2.2.2.1 3 (by omega) (by omega)) ?_
        refine Er_run 1 (pc' := 37) (ls' := [some (.ref a), some (.ref c), some (.int (Int32.ofNat t))]) (st' := [.ref c, .int (m.1 3), .int (Int32.ofNat t), .int ((0 : Int32)), .ref r]) rfl ?_
        refine Er_getI (v := Int32.ofNat n) rfl hm.1.1 (by rw [← e9]; exact (hm.2.2.2.1 9 (by omega) (by omega))) ?_
        obtain ⟨h1, rn1, jj1, z1⟩ := s_Journal_write (k := (0 : Int32)) (t := Int32.ofNat t) (x := m.1 3) (y := Int32.ofNat n) hr (by omega) (by omega)
        have kk1 : KK h1 a s y r K := KK_fr z1 (by omega) hk
        have ll1 := LL_fr z1 (by omega) hl
        have ss1 := ST_fr z1 (by omega) hs
        have qq1 : FK a y r s h h1 := FK.trans (FK.refl a y r s h) (FK.of z1 (by omega))
        have g1_c := MG_fr z1 (by omega) hm
        refine Er_inv0 (q' := r) (ci := 9) (av := [.int ((0 : Int32)), .int (Int32.ofNat t), .int (m.1 3), .int (Int32.ofNat n)]) (rest := []) rfl rfl ⟨Nat.le_of_ble_eq_true rfl, Nat.le_of_ble_eq_true rfl⟩ rfl rfl hr.1.1 rn1 ?_
        refine Er_run 3 (pc' := 46) (ls' := [some (.ref a), some (.ref c), some (.int (Int32.ofNat t))]) (st' := [.ref c, .int (Int32.ofNat t), .ref a]) rfl ?_
        refine Er_getI (v := m.1 3) rfl g1_c.1.1 (g1_c.2.2.2.1 3 (by omega) (by omega)) ?_
        refine Er_run 1 (pc' := 50) (ls' := [some (.ref a), some (.ref c), some (.int (Int32.ofNat t))]) (st' := [.ref c, .int (m.1 3), .int (Int32.ofNat t), .ref a]) rfl ?_
        refine Er_getI (v := Int32.ofNat n) rfl g1_c.1.1 (by rw [← e9]; exact (g1_c.2.2.2.1 9 (by omega) (by omega))) ?_
        obtain ⟨h2, rn2, kk2, ll2, ss2, jj2, zq2⟩ := s_Master_note (t := t) (n := n) (x := m.1 3) ht hn h12 h13 h14 h15 hsy hyr hra kk1 ll1 ss1 jj1
        have qq2 : FK a y r s h h2 := FK.trans qq1 zq2
        refine Er_inv0 (q' := a) (ci := 10) (av := [.int (Int32.ofNat t), .int (m.1 3), .int (Int32.ofNat n)]) (rest := []) rfl rfl ⟨Nat.le_of_ble_eq_true rfl, Nat.le_of_ble_eq_true rfl⟩ rfl rfl kk1.1.1 rn2 ?_
        refine Er_run 1 (pc' := 57) (ls' := [some (.ref a), some (.ref c), some (.int (Int32.ofNat t))]) (st' := [.ref a]) rfl ?_
        refine Er_getI (v := Int32.ofNat ((jk_d1 K m t n).1 14)) rfl kk2.1.1 (show gI h2 a 14 = Int32.ofNat ((jk_d1 K m t n).1 14) from (kk2.2.1 14 (by omega)).1) ?_
        refine Er_run 2 (pc' := bif decide (((1000 : Int32)) < (Int32.ofNat ((jk_d1 K m t n).1 14))) then 76 else 66) (ls' := [some (.ref a), some (.ref c), some (.int (Int32.ofNat t))]) (st' := []) rfl ?_
        refine Er_pc (t := 66) (show (bif decide (((1000 : Int32)) < (Int32.ofNat ((jk_d1 K m t n).1 14))) then 76 else 66) = 66 from by rw [show (decide (((1000 : Int32)) < (Int32.ofNat ((jk_d1 K m t n).1 14)))) = false from by rw [show (1000 : Int32) = Int32.ofNat 1000 from rfl, jx_lt (by omega) (by omega)]; exact decide_eq_false (by omega)]; rfl) ?_
        refine Er_run 1 (pc' := 67) (ls' := [some (.ref a), some (.ref c), some (.int (Int32.ofNat t))]) (st' := [.ref a]) rfl ?_
        refine Er_getI (v := Int32.ofNat ((jk_d1 K m t n).1 15)) rfl kk2.1.1 (show gI h2 a 15 = Int32.ofNat ((jk_d1 K m t n).1 15) from (kk2.2.1 15 (by omega)).1) ?_
        refine Er_run 2 (pc' := bif decide ((Int32.ofNat ((jk_d1 K m t n).1 15)) ≤ ((300 : Int32))) then 80 else 76) (ls' := [some (.ref a), some (.ref c), some (.int (Int32.ofNat t))]) (st' := []) rfl ?_
        refine Er_pc (t := 80) (show (bif decide ((Int32.ofNat ((jk_d1 K m t n).1 15)) ≤ ((300 : Int32))) then 80 else 76) = 80 from by rw [show (decide ((Int32.ofNat ((jk_d1 K m t n).1 15)) ≤ ((300 : Int32)))) = true from by rw [show (300 : Int32) = Int32.ofNat 300 from rfl, jx_le (by omega) (by omega)]; exact decide_eq_true (by omega)]; rfl) ?_
        refine Er_fin rfl rfl ?_
        rw [jk_done, if_pos hd, if_neg hx]
        exact ⟨rfl, kk2, ll2, ss2, jj2, qq2⟩
    · skip
      show Ev 131 0 [some (.ref a), some (.ref c), none] [] h _
      refine Er_run 1 (pc' := 1) (ls' := [some (.ref a), some (.ref c), none]) (st' := [.ref c]) rfl ?_
      refine Er_getI (v := Int32.ofNat t) rfl hm.1.1 (by rw [← e6]; exact (hm.2.2.2.1 6 (by omega) (by omega))) ?_
      refine Er_run 3 (pc' := bif decide ((Int32.ofNat t) < 0) then 25 else 9) (ls' := [some (.ref a), some (.ref c), some (.int (Int32.ofNat t))]) (st' := []) rfl ?_
      refine Er_pc (t := 9) (show (bif decide ((Int32.ofNat t) < 0) then 25 else 9) = 9 from by rw [show (decide ((Int32.ofNat t) < 0)) = false from sm_nn (by rw [sm_ofNat_toInt (by omega)]; omega)]; rfl) ?_
      refine Er_run 3 (pc' := bif decide (((44 : Int32)) ≤ (Int32.ofNat t)) then 25 else 15) (ls' := [some (.ref a), some (.ref c), some (.int (Int32.ofNat t))]) (st' := []) rfl ?_
      refine Er_pc (t := 15) (show (bif decide (((44 : Int32)) ≤ (Int32.ofNat t)) then 25 else 15) = 15 from by rw [show (decide (((44 : Int32)) ≤ (Int32.ofNat t))) = false from by rw [show (44 : Int32) = Int32.ofNat 44 from rfl, jx_le (by omega) (by omega)]; exact decide_eq_false (by omega)]; rfl) ?_
      refine Er_run 1 (pc' := 16) (ls' := [some (.ref a), some (.ref c), some (.int (Int32.ofNat t))]) (st' := [.ref a]) rfl ?_
      refine Er_getR (x := a + 6) rfl hk.1.1 hk.1.2.2.2.2.2.2.1 ?_
      refine Er_run 1 (pc' := 20) (ls' := [some (.ref a), some (.ref c), some (.int (Int32.ofNat t))]) (st' := [.int (Int32.ofNat t), .ref (a + 6)]) rfl ?_
      refine Er_iald (v := K.2.2.2.1 t) rfl hk.1.2.2.2.2.2.2.2.2.2.1 (by rw [hk.1.2.2.2.2.2.2.2.2.2.2.1]; exact sm_in_of (by rw [sm_ofNat_toInt (by omega)]; omega) (by rw [sm_ofNat_toInt (by omega)]; omega)) (by rw [jx_cn (by omega)]; exact (show gI h (a + 6) t = K.2.2.2.1 t from hk.2.2.2.2.1 t (by omega))) ?_
      refine Er_run 2 (pc' := bif decide ((K.2.2.2.1 t) = ((-1 : Int32))) then 26 else 25) (ls' := [some (.ref a), some (.ref c), some (.int (Int32.ofNat t))]) (st' := []) rfl ?_
      refine Er_pc (t := 25) (show (bif decide ((K.2.2.2.1 t) = ((-1 : Int32))) then 26 else 25) = 25 from by rw [show (decide ((K.2.2.2.1 t) = ((-1 : Int32)))) = false from decide_eq_false hd]; rfl) ?_
      refine Er_fin rfl rfl ?_
      rw [jk_done, if_neg hd]
      exact ⟨rfl, hk, hl, hs, hr, (FK.refl a y r s h)⟩
  obtain ⟨r9, h', hrr, e, hq⟩ := Run_of (Nat.le_of_ble_eq_true rfl) hx
  subst e
  exact ⟨h', hrr, hq⟩
end MASTC
