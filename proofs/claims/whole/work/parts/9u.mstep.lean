/-! finish comes to an end: what the Master's messages do -/
/-- what is left to gather -/
def gG (C : Jc) (kc : Nat) (K : Jk) : Nat := 7 * ((cN C kc - K.1 17) * 252 + (4000 - K.1 18) / 16) + (if K.1 19 = 0 then 0 else 5 - K.1 19)
/-- the Master has gone on from K to K' within the JOB -/
def ME (C : Jc) (kc : Nat) (K K' : Jk) : Prop := K'.1 9 = K.1 9 ∧ K'.1 11 = K.1 11 ∧ ((K'.2.2.2.1 = K.2.2.2.1 ∧ K'.1 12 = K.1 12 ∧ K'.1 13 = K.1 13) ∨ K.1 12 + K.1 13 < K'.1 12 + K'.1 13) ∧ K.1 12 ≤ K'.1 12 ∧ K.1 13 ≤ K'.1 13 ∧ gG C kc K' ≤ gG C kc K ∧ ((K'.1 17 = K.1 17 ∧ K'.1 18 = K.1 18 ∧ K'.1 19 = K.1 19) ∨ (gG C kc K' < gG C kc K ∧ K'.1 19 = 4))
section MSTEP
variable {C : Jc} {Ws : Nat → Jw} {L L' : Jn} {kc ck v w x y s r q u d p t j : Nat} {K K' K2 : Jk} {R : Jr} {m m0 f : Jm}
theorem ME.refl (K : Jk) : ME C kc K K := ⟨rfl, rfl, Or.inl ⟨rfl, rfl, rfl⟩, Nat.le_refl _, Nat.le_refl _, Nat.le_refl _, Or.inl ⟨rfl, rfl, rfl⟩⟩
theorem ME.trans (h1 : ME C kc K K') (h2 : ME C kc K' K2) : ME C kc K K2 := by
  obtain ⟨a1, a2, a3, a4, a5, a6, a7⟩ := h1
  obtain ⟨b1, b2, b3, b4, b5, b6, b7⟩ := h2
  refine ⟨b1.trans a1, b2.trans a2, ?_, by omega, by omega, by omega, ?_⟩
  · rcases a3 with ⟨c1, c2, c3⟩ | a3
    · rcases b3 with ⟨d1, d2, d3⟩ | b3
      · exact Or.inl ⟨d1.trans c1, d2.trans c2, d3.trans c3⟩
      · exact Or.inr (by omega)
    · exact Or.inr (by omega)
  · rcases b7 with ⟨d1, d2, d3⟩ | ⟨d1, d2⟩
    · rcases a7 with ⟨c1, c2, c3⟩ | ⟨c1, c2⟩
      · exact Or.inl ⟨d1.trans c1, d2.trans c2, d3.trans c3⟩
      · exact Or.inr ⟨by omega, d3.trans c2⟩
    · exact Or.inr ⟨by omega, d2⟩
theorem gG_eq (h1 : K'.1 17 = K.1 17) (h2 : K'.1 18 = K.1 18) (h3 : K'.1 19 = K.1 19) : gG C kc K' = gG C kc K := by rw [gG, gG, h1, h2, h3]
theorem ME_same (h9 : K'.1 9 = K.1 9) (h11 : K'.1 11 = K.1 11) (hd : K'.2.2.2.1 = K.2.2.2.1) (h12 : K'.1 12 = K.1 12) (h13 : K'.1 13 = K.1 13) (h17 : K'.1 17 = K.1 17) (h18 : K'.1 18 = K.1 18) (h19 : K'.1 19 = K.1 19) : ME C kc K K' :=
  ⟨h9, h11, Or.inl ⟨hd, h12, h13⟩, Nat.le_of_eq h12.symm, Nat.le_of_eq h13.symm, Nat.le_of_eq (gG_eq h17 h18 h19), Or.inl ⟨h17, h18, h19⟩⟩
/-- a page that the Master takes -/
theorem gG_page (hC : CK C) (h : IM C Ws false kc ck R K) (hpg : mPg C kc m) (h5 : m.1 5 = Int32.ofNat (K.1 9)) (han : jk_an K m = true) : gG C kc (jk_pg2 K m (ji (m.1 9)) (ji (m.1 10))) < gG C kc K := by
  obtain ⟨hJ, hK⟩ := IM_J rfl h
  have h9 : K.1 9 = kc := hJ.2.2.1
  have h8 := hC.1
  have hkc := hJ.2.1
  obtain ⟨n1, n2, n3, n4, n5⟩ := of_decide_eq_true (p := m.1 2 = 5 ∧ m.1 5 = Int32.ofNat (K.1 9) ∧ m.1 6 = Int32.ofNat (38 + K.1 17) ∧ m.1 7 = Int32.ofNat (K.1 17) ∧ m.1 8 = Int32.ofNat (K.1 18)) han
  obtain ⟨f, x, sl, a1, a2, a3, p', t', l', a4, a5, a6, a7, a8, a9, a10⟩ := mPg_page hpg
  have hpp : p' = kc := jx_inj (by omega) (by omega) (a7.symm.trans (h5.trans (by rw [h9])))
  subst hpp
  have h18 : K.1 18 ≤ 4000 := hK.2.2.2.2.2.2
  have h17 : K.1 17 ≤ 6 := by
    rcases hK.2.2.2.2.2.1 with e | ⟨e1, e2⟩
    · omega
    · have := (hC.2.2.1 p' e1).2.2.2.2
      omega
  have hx : x = K.1 18 := jx_inj (by omega) (by omega) (a2.symm.trans n5)
  have ht : t' = 38 + K.1 17 := jx_inj (by omega) (by omega) (a8.symm.trans n3)
  have hlt : K.1 17 < cN C p' := by
    rcases a5 with ⟨z, _⟩ | ⟨_, z, _⟩
    · omega
    · have z' : t' - 38 < cN C p' := z
      omega
  have hsl : sl.length ≤ 4000 := by
    have h1 := cT_len hC a5 a6
    have h2 := sel_len (np := cN C p') (t := t') (r := f 7) (l := l')
    rw [← a4] at h2
    omega
  obtain ⟨g1, g2, _, _⟩ := jd_page_f f x sl
  rw [← a1] at g1 g2
  have hk : ((sl.drop x).take 16).length = min 16 (sl.length - x) := by rw [List.length_take, List.length_drop]
  have e9 : ji (m.1 9) = min 16 (sl.length - x) := by rw [g1, hk]; exact ji_of (by omega)
  have e10 : ji (m.1 10) = sl.length := by rw [g2]; exact ji_of (by omega)
  have hc : 0 ≤ (if K.1 19 = 0 then 0 else 5 - K.1 19) := Nat.zero_le _
  rw [jk_pg2]
  split
  · rename_i hl
    rw [e9, e10] at hl
    show 7 * ((cN C p' - K.1 17) * 252 + (4000 - (K.1 18 + ji (m.1 9))) / 16) + (if (4 : Nat) = 0 then 0 else 5 - 4) < gG C p' K
    rw [gG, e9, if_neg (by decide)]
    have : min 16 (sl.length - x) = 16 := by omega
    rw [this]
    omega
  · show 7 * ((cN C p' - (K.1 17 + 1)) * 252 + (4000 - 0) / 16) + (if (4 : Nat) = 0 then 0 else 5 - 4) < gG C p' K
    rw [gG, if_neg (by decide)]
    omega
/-- a message -/
theorem ME_hear (hC : CK C) (h : IM C Ws false kc ck R K) (hm : mM C Ws kc m) (L : Jn) : ME C kc K (jk_hear C.1 C.2.1 K L R m).1 := by
  rw [jk_hear]
  split
  · show ME C kc K (jk_ask K L _ _).1
    rw [jk_ask]
    split
    · exact ME.refl K
    · exact ME_same rfl rfl rfl rfl rfl rfl rfl rfl
  · split
    · rename_i h5
      split
      · show ME C kc K (jk_done C.1 K R m _ _).1
        rw [jk_done]
        split
        · obtain ⟨n1, n2, n3, n4, n5, n6, n7, n8, n9, n10, n11, n12, n13⟩ := note_g (K := K) (ji (m.1 6)) (m.1 3) (ji (m.1 9))
          have base : ∀ K1 : Jk, K1.1 = (jk_note K (ji (m.1 6)) (m.1 3) (ji (m.1 9))).1 → ME C kc K K1 := fun K1 e => by
            refine ⟨by rw [e]; exact n2, by rw [e]; exact n3, Or.inr (by rw [e]; omega), by rw [e]; exact n10, by rw [e]; exact n11, Nat.le_of_eq (gG_eq (by rw [e]; exact n5) (by rw [e]; exact n6) (by rw [e]; exact n7)), Or.inl ⟨by rw [e]; exact n5, by rw [e]; exact n6, by rw [e]; exact n7⟩⟩
          split
          · exact base _ rfl
          · exact base _ rfl
        · exact ME.refl K
      · split
        · exact ME_same rfl rfl rfl rfl rfl rfl rfl rfl
        · split
          · rename_i h2
            show ME C kc K (jk_hp K m _ _)
            rw [jk_hp]
            split
            · rename_i han
              have hpg : mPg C kc m := by
                rcases hm with ⟨z, _⟩ | ⟨z, _⟩ | ⟨z, _⟩ | ⟨_, z⟩ | ⟨z, _⟩
                · rw [h2] at z; exact absurd z (by decide)
                · rw [h2] at z; exact absurd z (by decide)
                · rw [h2] at z; exact absurd z (by decide)
                · exact z
                · rw [h2] at z; exact absurd z (by decide)
              have hlt := gG_page hC h hpg h5 han
              obtain ⟨q1, q2, q3, q4, q5, q6, q7, q8, q9, q10⟩ := pg2_g (K := K) (m := m) (ji (m.1 9)) (ji (m.1 10))
              exact ⟨q3, q4, Or.inl ⟨q2, q5, q6⟩, Nat.le_of_eq q5.symm, Nat.le_of_eq q6.symm, Nat.le_of_lt hlt, Or.inr ⟨hlt, q8⟩⟩
            · exact ME.refl K
          · exact ME.refl K
    · exact ME.refl K
theorem sub_hear (h0 : L.2.2.1 = 0 ∧ L.2.2.2 = 0) (hm : mM C Ws kc m) {m' : Jm} (hx : m' ∈ L.1 x) : m' ∈ (jk_hear C.1 C.2.1 K L R m).2.1.1 x := by
  rcases mhear_eff hm K L R with e | ⟨u, t, _, _, _, _, e⟩
  · rw [e]; exact hx
  · rw [e]; exact snd_sub h0.1 h0.2 hx
/-- a DONE or a FAIL of the JOB at kc is heard -/
theorem m_done (hC : CK C) (hi : IV C Ws L kc) (h : IM C Ws false kc ck R K) (hQ : QK r Ws L) (hg : m0 ∈ L.1 6) (e2 : m0.1 2 = 2 ∨ m0.1 2 = 3) (e5 : m0.1 5 = Int32.ofNat kc) (e6 : m0.1 6 = Int32.ofNat t) (ht : t < 44) (hd : K.2.2.2.1 t = -1) :
    jk_over C.1 (jk_hears C.1 C.2.1 (L.1 6).length (K, L, R)).1 = true ∨ K.1 12 + K.1 13 < (jk_hears C.1 C.2.1 (L.1 6).length (K, L, R)).1.1 12 + (jk_hears C.1 C.2.1 (L.1 6).length (K, L, R)).1.1 13 := by
  have h9 : K.1 9 = kc := (IM_J rfl h).1.2.2.1
  have e6' : ji (m0.1 6) = t := by rw [e6]; exact ji_of (by omega)
  obtain ⟨⟨_, _, k1⟩, _, _, k4⟩ := mhears_ind (Ws := Ws) (kc := kc) (ck := ck) hC (P := fun K' L' _ => QK r Ws L' ∧ ME C kc K K' ∧ (jk_over C.1 K' = true ∨ K.1 12 + K.1 13 < K'.1 12 + K'.1 13 ∨ (K'.2.2.2.1 = K.2.2.2.1 ∧ m0 ∈ L'.1 6))) (fun K' L' R' m l _ _ hP hib hov => ⟨QK_pop hP.1 hib, hP.2.1, Or.inl hov⟩) (fun K' L' R' m l hi' h' hP hib hov hm => by
    obtain ⟨p1, p2, p3⟩ := hP
    have hme := ME_hear hC h' hm (jn_pop L' 6 l)
    refine ⟨QK_step p1 hib hm, p2.trans hme, ?_⟩
    rcases p3 with p3 | p3 | ⟨p3, p4⟩
    · rw [hov] at p3; cases p3
    · have := hme.2.2.2.1
      have := hme.2.2.2.2.1
      exact Or.inr (Or.inl (by omega))
    · rw [hib] at p4
      rcases List.mem_cons.1 p4 with e | e
      · subst e
        have h5' : m0.1 5 = Int32.ofNat (K'.1 9) := by rw [p2.1, h9]; exact e5
        rcases e2 with e2 | e2
        · have eh : jk_hear C.1 C.2.1 K' (jn_pop L' 6 l) R' m0 = ((jk_done C.1 K' R' m0 (ji (m0.1 6)) (ji (m0.1 9))).1, jn_pop L' 6 l, (jk_done C.1 K' R' m0 (ji (m0.1 6)) (ji (m0.1 9))).2) := by rw [jk_hear, if_neg (by rw [e2]; decide), if_pos h5', if_pos e2]
          refine Or.inr (Or.inl ?_)
          rw [eh]
          show K.1 12 + K.1 13 < (jk_done C.1 K' R' m0 (ji (m0.1 6)) (ji (m0.1 9))).1.1 12 + (jk_done C.1 K' R' m0 (ji (m0.1 6)) (ji (m0.1 9))).1.1 13
          rw [jk_done, if_pos (by rw [p3, e6']; exact hd)]
          have n9 := (note_g (K := K') (ji (m0.1 6)) (m0.1 3) (ji (m0.1 9))).2.2.2.2.2.2.2.2.1
          have a4 := p2.2.2.2.1
          have a5 := p2.2.2.2.2.1
          split
          · show K.1 12 + K.1 13 < (jk_note K' (ji (m0.1 6)) (m0.1 3) (ji (m0.1 9))).1 12 + (jk_note K' (ji (m0.1 6)) (m0.1 3) (ji (m0.1 9))).1 13
            omega
          · show K.1 12 + K.1 13 < (jk_note K' (ji (m0.1 6)) (m0.1 3) (ji (m0.1 9))).1 12 + (jk_note K' (ji (m0.1 6)) (m0.1 3) (ji (m0.1 9))).1 13
            omega
        · refine Or.inl ?_
          have eh : jk_hear C.1 C.2.1 K' (jn_pop L' 6 l) R' m0 = (jk_sf K' (Int32.ofNat ((C.1[K'.1 9]?).getD 0)), jn_pop L' 6 l, jr_w R' (2, -1, -1, 0)) := by rw [jk_hear, if_neg (by rw [e2]; decide), if_pos h5', if_neg (by rw [e2]; decide), if_pos e2]
          rw [eh]
          show (decide ((Int32.ofNat ((C.1[K'.1 9]?).getD 0)) ≠ -1) || _) = true
          obtain ⟨hJ', hK'⟩ := IM_J rfl h'
          have hkc := (m_job hC hJ' hK' hov).1
          have hget : C.1[K'.1 9]? = some (cJ C kc) := by rw [hJ'.2.2.1]; exact cC_get hkc
          have hj8 := (hC.2.2.1 kc hkc).1
          rw [hget, decide_eq_true (show Int32.ofNat ((some (cJ C kc)).getD 0) ≠ -1 from jx_m1 (by show cJ C kc < 2147483648; omega))]
          rfl
      · have hsub : m0 ∈ (jk_hear C.1 C.2.1 K' (jn_pop L' 6 l) R' m).2.1.1 6 := sub_hear (by exact p1.1) hm (by show m0 ∈ jx_up L'.1 6 l 6; rw [up_eq]; exact e)
        rcases hme.2.2.1 with ⟨c1, c2, c3⟩ | c
        · exact Or.inr (Or.inr ⟨c1.trans p3, hsub⟩)
        · have a4 := p2.2.2.2.1
          have a5 := p2.2.2.2.2.1
          exact Or.inr (Or.inl (by omega))) (L.1 6).length K L R hi h ⟨hQ, ME.refl K, Or.inr (Or.inr ⟨rfl, hg⟩)⟩ (Nat.le_refl _)
  rcases k1 with k1 | k1 | ⟨_, k1⟩
  · exact Or.inl k1
  · exact Or.inr k1
  · rw [k4] at k1; cases k1
/-- a PAGE that the Master waits for is heard -/
theorem m_page (hC : CK C) (hi : IV C Ws L kc) (h : IM C Ws false kc ck R K) (hQ : QK r Ws L) (hg : m0 ∈ L.1 6) (han : jk_an K m0 = true) :
    jk_over C.1 (jk_hears C.1 C.2.1 (L.1 6).length (K, L, R)).1 = true ∨ (gG C kc (jk_hears C.1 C.2.1 (L.1 6).length (K, L, R)).1 < gG C kc K ∧ (jk_hears C.1 C.2.1 (L.1 6).length (K, L, R)).1.1 19 = 4) := by
  have h9 : K.1 9 = kc := (IM_J rfl h).1.2.2.1
  obtain ⟨n1, n2, n3, n4, n5⟩ := of_decide_eq_true (p := m0.1 2 = 5 ∧ m0.1 5 = Int32.ofNat (K.1 9) ∧ m0.1 6 = Int32.ofNat (38 + K.1 17) ∧ m0.1 7 = Int32.ofNat (K.1 17) ∧ m0.1 8 = Int32.ofNat (K.1 18)) han
  obtain ⟨⟨_, _, k1⟩, _, _, k4⟩ := mhears_ind (Ws := Ws) (kc := kc) (ck := ck) hC (P := fun K' L' _ => QK r Ws L' ∧ ME C kc K K' ∧ (jk_over C.1 K' = true ∨ (gG C kc K' < gG C kc K ∧ K'.1 19 = 4) ∨ ((K'.1 17 = K.1 17 ∧ K'.1 18 = K.1 18) ∧ m0 ∈ L'.1 6))) (fun K' L' R' m l _ _ hP hib hov => ⟨QK_pop hP.1 hib, hP.2.1, Or.inl hov⟩) (fun K' L' R' m l hi' h' hP hib hov hm => by
    obtain ⟨p1, p2, p3⟩ := hP
    have hme := ME_hear hC h' hm (jn_pop L' 6 l)
    refine ⟨QK_step p1 hib hm, p2.trans hme, ?_⟩
    rcases p3 with p3 | ⟨p3, p4⟩ | ⟨⟨p3, p3'⟩, p4⟩
    · rw [hov] at p3; cases p3
    · rcases hme.2.2.2.2.2.2 with ⟨c1, c2, c3⟩ | ⟨c1, c2⟩
      · exact Or.inr (Or.inl ⟨Nat.lt_of_le_of_lt hme.2.2.2.2.2.1 p3, c3.trans p4⟩)
      · exact Or.inr (Or.inl ⟨Nat.lt_trans c1 p3, c2⟩)
    · rw [hib] at p4
      rcases List.mem_cons.1 p4 with e | e
      · subst e
        have h5' : m0.1 5 = Int32.ofNat (K'.1 9) := by rw [p2.1]; exact n2
        have han' : jk_an K' m0 = true := decide_eq_true ⟨n1, h5', by rw [p3]; exact n3, by rw [p3]; exact n4, by rw [p3']; exact n5⟩
        have hpg : mPg C kc m0 := by
          rcases hm with ⟨z, _⟩ | ⟨z, _⟩ | ⟨z, _⟩ | ⟨_, z⟩ | ⟨z, _⟩
          · rw [n1] at z; exact absurd z (by decide)
          · rw [n1] at z; exact absurd z (by decide)
          · rw [n1] at z; exact absurd z (by decide)
          · exact z
          · rw [n1] at z; exact absurd z (by decide)
        have eh : jk_hear C.1 C.2.1 K' (jn_pop L' 6 l) R' m0 = (jk_pg2 K' m0 (ji (m0.1 9)) (ji (m0.1 10)), jn_pop L' 6 l, R') := by rw [jk_hear, if_neg (by rw [n1]; decide), if_pos h5', if_neg (by rw [n1]; decide), if_neg (by rw [n1]; decide), if_pos n1, jk_hp, if_pos han']
        rw [eh]
        have hlt := gG_page hC h' hpg h5' han'
        exact Or.inr (Or.inl ⟨Nat.lt_of_lt_of_le hlt p2.2.2.2.2.2.1, (pg2_g _ _).2.2.2.2.2.2.2.1⟩)
      · have hsub : m0 ∈ (jk_hear C.1 C.2.1 K' (jn_pop L' 6 l) R' m).2.1.1 6 := sub_hear (by exact p1.1) hm (by show m0 ∈ jx_up L'.1 6 l 6; rw [up_eq]; exact e)
        rcases hme.2.2.2.2.2.2 with ⟨c1, c2, c3⟩ | ⟨c1, c2⟩
        · exact Or.inr (Or.inr ⟨⟨c1.trans p3, c2.trans p3'⟩, hsub⟩)
        · exact Or.inr (Or.inl ⟨Nat.lt_of_lt_of_le c1 p2.2.2.2.2.2.1, c2⟩)) (L.1 6).length K L R hi h ⟨hQ, ME.refl K, Or.inr (Or.inr ⟨⟨rfl, rfl⟩, hg⟩)⟩ (Nat.le_refl _)
  rcases k1 with k1 | k1 | ⟨_, k1⟩
  · exact Or.inl k1
  · exact Or.inr k1
  · rw [k4] at k1; cases k1
/-- a task for worker w is found -/
theorem scan_some {x : Int32} {t0 : Nat} (hd : K.2.2.2.1 t0 = -1) (hg : K.2.2.2.2.1 t0 = x ∨ K.2.2.2.2.1 t0 = -1) : ∀ (n t : Nat) (f : Option Nat), (f ≠ none ∨ (t ≤ t0 ∧ t0 < t + n)) → jk_scan K x n t f ≠ none := by
  intro n
  induction n with
  | zero =>
    intro t f h
    rcases h with h | h
    · exact h
    · omega
  | succ n ih =>
    intro t f h
    rw [jk_scan]
    split
    · split
      · exact fun z => by cases z
      · rename_i hd' hx
        refine ih (t + 1) _ ?_
        rcases h with h | h
        · split
          · exact Or.inl (fun z => by cases z)
          · exact Or.inl h
        · by_cases e : t = t0
          · subst e
            rcases hg with hg | hg
            · exact absurd hg hx
            · split
              · exact Or.inl (fun z => by cases z)
              · rename_i hn
                refine Or.inl (fun z => hn ⟨z, Or.inl hg⟩)
          · exact Or.inr (by omega)
    · rename_i hd'
      refine ih (t + 1) f ?_
      rcases h with h | h
      · exact Or.inl h
      · by_cases e : t = t0
        · subst e; exact absurd hd hd'
        · exact Or.inr (by omega)
end MSTEP
