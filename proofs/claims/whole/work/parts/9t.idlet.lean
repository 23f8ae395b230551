/-! finish comes to an end: ticks of idle workers -/
section IDLE
variable {C : Jc} {Ws : Nat → Jw} {L L' : Jn} {kc ck v x y s r q u d p t j : Nat} {K : Jk} {R : Jr} {m m0 f : Jm} {W : Jw}
theorem rk_le (hC : CK C) (hw : wOK C Ws kc v W) (hj : W.2.1 = some j) : rk W ≤ 1608 ∧ (W.1 13 < 38 → rk W ≤ 200) := by
  obtain ⟨w1, w2, w3', w4⟩ := hw
  rcases w4 with ⟨_, _, z⟩ | ⟨p, p1, p2, p3, p4, p5⟩
  · rw [hj] at z; cases z
  obtain ⟨b1, b2, b3, b4, b5⟩ := p5 j hj
  rcases b5 with ⟨c1, c2, c3⟩ | ⟨c1, c2, c3, c4, c5⟩ | ⟨c1, c2, ls, c3, c4, c5, c6⟩ | ⟨c1, c2, c3, c4⟩
  · rw [rk, if_pos c1]
    exact ⟨by omega, fun _ => by omega⟩
  · rw [rk, if_neg (by rw [c1]; decide), if_neg (by rw [c1]; decide)]
    exact ⟨by omega, fun _ => by omega⟩
  · have hls := cA_len c3
    have h38' : me_ns (cI C p) ≤ 38 := me_ns_38 (cI_600 hC)
    have h11 := c5.1
    rw [rk, if_neg (by rw [c1]; decide), if_pos c1, pgs]
    refine ⟨?_, fun z => by omega⟩
    have : (1000 - (W.2.2.2.1 1).length) / 16 ≤ 62 := by omega
    split <;> omega
  · rw [rk, if_neg (by rw [c1]; decide), if_neg (by rw [c1]; decide)]
    exact ⟨by omega, fun z => by omega⟩
/-- what an idle worker hears but for a GIVE leaves it as it is -/
theorem idle_hear (hw : wOK C Ws kc v W) (hj : W.2.1 = none) (h1 : m.1 2 ≠ 1) (L : Jn) : (jw_hear C.1 C.2.1 W L m).1 = W := by
  have h12 := hw.2.2.1.2 hj
  have h3 : W.1 12 ≠ 3 := by omega
  rw [jw_hear, if_neg h1]
  split
  · rfl
  · split
    · show jw_hp W m _ _ = W
      rw [jw_hp, if_neg h3]
    · by_cases h6 : m.1 2 = 6
      · rw [if_pos h6]
      · rw [if_neg h6]
/-- an idle worker that was given nothing -/
theorem idle_none (hC : CK C) (hv : v < 6) (hr : 2 ≤ r) (hi : IV C Ws L kc) (h : QQ r v Ws L) (hj : (Ws v).2.1 = none) (hg : (L.1 v).countP lG = 0) :
    (jw_work C.1 C.2.1 C.2.2.1 (cF C kc) (Ws v) L).1.2.1 = none ∧ (((Ws v).1 17 + 1 ≤ 4 ∧ (jw_work C.1 C.2.1 C.2.2.1 (cF C kc) (Ws v) L).1.1 17 = (Ws v).1 17 + 1) ∨ ∃ m, m ∈ (jw_work C.1 C.2.1 C.2.2.1 (cF C kc) (Ws v) L).2.1 6 ∧ m.1 2 = 0 ∧ m.1 3 = Int32.ofNat v) := by
  have hno := (hi.1 v hv).1
  have hh : jw_heard C.1 C.2.1 (Ws v) L = jw_hears C.1 C.2.1 (L.1 v).length (Ws v, jn_up L v) := by rw [jw_heard, hno]
  generalize hW0 : Ws v = W0 at hj ⊢
  have main := hears_ind hC hv (kc := kc) (P := fun Ws' L' => QH r v Ws' L' ∧ (L'.1 v).countP lG = 0 ∧ Ws' v = W0) (fun Ws' L' m l hi' hP hib hm hle hi2 => by
    obtain ⟨p1, p2, p3⟩ := hP
    have hmem : m ∈ L'.1 v := by rw [hib]; exact List.mem_cons_self
    have hm1 : m.1 2 ≠ 1 := fun e => by
      have : 0 < (L'.1 v).countP lG := List.countP_pos_iff.2 ⟨m, hmem, decide_eq_true e⟩
      omega
    refine ⟨QH_step hv p1 hib hm, ?_, ?_⟩
    · rw [hear_own (L := L') (l := l) hv hm (Ws' v)]
      have : l.countP lG ≤ (L'.1 v).countP lG := by rw [hib, List.countP_cons]; exact Nat.le_add_right _ _
      omega
    · rw [up_eq, idle_hear (hi'.1 v hv) (by rw [p3]; exact hj) hm1]
      exact p3) (L.1 v).length Ws (jn_up L v) (show IV C Ws (jn_up L v) kc from hi) ⟨QH_up hv h, hg, hW0⟩ (Nat.le_refl _)
  rw [hW0] at main hh
  obtain ⟨⟨k1, k2, k3⟩, k4, k5⟩ := main
  rw [up_eq] at k3
  rw [jw_work, hh, k3, jw_act, hj]
  simp only
  rw [jw_ask]
  split
  · rename_i h17
    exact ⟨hj, Or.inl ⟨h17, rfl⟩⟩
  · refine ⟨hj, Or.inr ⟨_, snd_in k1.1.1.1 k1.1.1.2 (k1.1.2.1 6 (by omega) (Or.inr (by omega))) (len_H k4 k1 hr hv (by omega)), rfl, ?_⟩⟩
    show Int32.ofNat (W0.1 0) = _
    rw [← hW0, hno]
/-- an idle worker that was given task t of the JOB at kc -/
theorem idle_give (hC : CK C) (hkl : kc ≤ C.1.length) (hv : v < 6) (hr : 2 ≤ r) (hi : IV C Ws L kc) (h : QQ r v Ws L) (hj : (Ws v).2.1 = none) (hg : m0 ∈ L.1 v) (e2 : m0.1 2 = 1) (e5 : m0.1 5 = Int32.ofNat kc) (e6 : m0.1 6 = Int32.ofNat t) (ht : t < 44) :
    (∃ m, m ∈ (jw_work C.1 C.2.1 C.2.2.1 (cF C kc) (Ws v) L).2.1 6 ∧ (m.1 2 = 2 ∨ m.1 2 = 3) ∧ m.1 5 = Int32.ofNat kc ∧ m.1 6 = Int32.ofNat t)
    ∨ ∃ j, (jw_work C.1 C.2.1 C.2.2.1 (cF C kc) (Ws v) L).1.2.1 = some j ∧ (jw_work C.1 C.2.1 C.2.2.1 (cF C kc) (Ws v) L).1.2.2.2.2.1 = Int32.ofNat kc ∧ (jw_work C.1 C.2.1 C.2.2.1 (cF C kc) (Ws v) L).1.1 13 = t ∧ rk (jw_work C.1 C.2.1 C.2.2.1 (cF C kc) (Ws v) L).1 < (if t < 38 then 200 else 1608) := by
  have hno := (hi.1 v hv).1
  have h8 := hC.1
  have hh : jw_heard C.1 C.2.1 (Ws v) L = jw_hears C.1 C.2.1 (L.1 v).length (Ws v, jn_up L v) := by rw [jw_heard, hno]
  have e5' : ji (m0.1 5) = kc := by rw [e5]; exact ji_of (by omega)
  have e6' : ji (m0.1 6) = t := by rw [e6]; exact ji_of (by omega)
  generalize hW0 : Ws v = W0 at hj ⊢
  have main := hears_ind hC hv (kc := kc) (P := fun Ws' L' => QH r v Ws' L' ∧ ((Ws' v = W0 ∧ m0 ∈ L'.1 v) ∨ ((L'.1 v).countP lG = 0 ∧ ((∃ m, m ∈ L'.1 6 ∧ (m.1 2 = 2 ∨ m.1 2 = 3) ∧ m.1 5 = Int32.ofNat kc ∧ m.1 6 = Int32.ofNat t) ∨ ∃ j, (Ws' v).2.1 = some j ∧ (Ws' v).2.2.2.2.1 = Int32.ofNat kc ∧ (Ws' v).1 13 = t ∧ (Ws' v).1 17 = 4)))) (fun Ws' L' m l hi' hP hib hm hle hi2 => by
    obtain ⟨p1, p3⟩ := hP
    have hown := hear_own (L := L') (l := l) hv hm (Ws' v)
    have hmem : m ∈ L'.1 v := by rw [hib]; exact List.mem_cons_self
    have h0 : (jn_pop L' v l).2.2.1 = 0 ∧ (jn_pop L' v l).2.2.2 = 0 := p1.1.1
    have hc : l.countP lG ≤ (L'.1 v).countP lG := by rw [hib, List.countP_cons]; exact Nat.le_add_right _ _
    have hsub6 : ∀ m', m' ∈ L'.1 6 → m' ∈ (jw_hear C.1 C.2.1 (Ws' v) (jn_pop L' v l) m).2.1 6 := by
      intro m' hx
      have hx' : m' ∈ (jn_pop L' v l).1 6 := by
        show m' ∈ jx_up L'.1 v l 6
        rw [up_ne _ _ (by omega)]; exact hx
      rcases hear_eff hm (Ws' v) (jn_pop L' v l) with ⟨e, _⟩ | ⟨_, m2, e, _⟩ | ⟨u2, m2, _, _, _, _, _, e, _⟩
      · rw [e]; exact hx'
      · rw [e]; exact snd_sub h0.1 h0.2 hx'
      · rw [e]; exact snd_sub h0.1 h0.2 hx'
    refine ⟨QH_step hv p1 hib hm, ?_⟩
    rw [up_eq, hown]
    rcases p3 with ⟨a1, a2⟩ | ⟨a1, a2⟩
    · by_cases hm1 : m.1 2 = 1
      · -- the GIVE
        have h9 := p1.1.2.2.2.2.2.2.2 hr v hv
        have hl0 : (L'.1 v).countP lG = l.countP lG + 1 := by rw [hib, List.countP_cons, if_pos (decide_eq_true hm1)]
        have hmm : m0 = m := by
          rw [hib] at a2
          rcases List.mem_cons.1 a2 with e | e
          · exact e
          · have : 0 < l.countP lG := List.countP_pos_iff.2 ⟨m0, e, decide_eq_true e2⟩
            omega
        subst hmm
        refine Or.inr ⟨by omega, ?_⟩
        have hwok := hi'.1 v hv
        rw [a1] at hwok
        rw [a1]
        have hpl : ¬ Int32.ofNat kc < W0.2.2.2.2.1 := by
          obtain ⟨_, _, _, ⟨z, _⟩ | ⟨p', z1, z2, z3, _⟩⟩ := hwok
          · rw [z]
            intro z2
            have h1 := m1_lt (a := kc) (by omega)
            exact Int32.lt_irrefl (Int32.lt_trans z2 h1)
          · rw [z1, o_lt (by omega) (by omega)]; omega
        rw [jw_hear, if_pos hm1, e5', e6', jw_give, if_neg (by rw [hj]; decide), if_neg hpl]
        have htake : ∀ (W1 : Jw) (j k : Nat), W1.2.2.2.2.1 = Int32.ofNat kc → (∃ m, m ∈ (jw_take W1 (jn_pop L' v l) m0 j t k).2.1 6 ∧ (m.1 2 = 2 ∨ m.1 2 = 3) ∧ m.1 5 = Int32.ofNat kc ∧ m.1 6 = Int32.ofNat t) ∨ ∃ j', (jw_take W1 (jn_pop L' v l) m0 j t k).1.2.1 = some j' ∧ (jw_take W1 (jn_pop L' v l) m0 j t k).1.2.2.2.2.1 = Int32.ofNat kc ∧ (jw_take W1 (jn_pop L' v l) m0 j t k).1.1 13 = t ∧ (jw_take W1 (jn_pop L' v l) m0 j t k).1.1 17 = 4 := by
          intro W1 j k hW1
          rw [jw_take]
          split
          · refine Or.inl ⟨jw_let W1 2 t, snd_in h0.1 h0.2 (p1.1.2.1 6 (by omega) (Or.inr (by omega))) ?_, Or.inl rfl, hW1, rfl⟩
            rw [show (jn_pop L' v l).1 6 = L'.1 6 from up_ne _ _ (by omega)]
            exact len_H hi' p1 hr hv (by omega)
          · exact Or.inr ⟨j, rfl, hW1, rfl, rfl⟩
        split
        · exact htake _ _ _ rfl
        · rename_i hnl
          refine htake _ _ _ ?_
          obtain ⟨_, _, _, ⟨z, _⟩ | ⟨p', z1, z2, z3, _⟩⟩ := hwok
          · rw [z] at hnl
            exact absurd (m1_lt (by omega)) hnl
          · rw [z1, o_lt (by omega) (by omega)] at hnl
            rw [z1, show p' = kc by omega]
      · refine Or.inl ⟨?_, ?_⟩
        · rw [idle_hear (hi'.1 v hv) (by rw [a1]; exact hj) hm1]; exact a1
        · rw [hib] at a2
          rcases List.mem_cons.1 a2 with e | e
          · rw [← e] at hm1; exact absurd e2 hm1
          · exact e
    · have hm1 : m.1 2 ≠ 1 := fun e => by
        have : 0 < (L'.1 v).countP lG := List.countP_pos_iff.2 ⟨m, hmem, decide_eq_true e⟩
        omega
      refine Or.inr ⟨by omega, ?_⟩
      rcases a2 with ⟨m', a3, a4⟩ | ⟨j, a3, a4, a5, a6⟩
      · exact Or.inl ⟨m', hsub6 _ a3, a4⟩
      · refine Or.inr ⟨j, ?_⟩
        rw [jw_hear, if_neg hm1]
        split
        · exact ⟨a3, a4, a5, a6⟩
        · split
          · show (jw_hp (Ws' v) m _ _).2.1 = _ ∧ (jw_hp (Ws' v) m _ _).2.2.2.2.1 = _ ∧ (jw_hp (Ws' v) m _ _).1 13 = _ ∧ (jw_hp (Ws' v) m _ _).1 17 = 4
            rw [jw_hp]
            split
            · split
              · have hsm := jw_pg2_sm (W := Ws' v) (m := m) (k := ji (m.1 9)) (tt := ji (m.1 10))
                exact ⟨hsm.2.2.2.2.1.trans a3, (by rw [hsm.2.2.2.2.2.2.2.2] : (jw_pg2 (Ws' v) m (ji (m.1 9)) (ji (m.1 10))).2.2.2.2.1 = (Ws' v).2.2.2.2.1).trans a4, hsm.2.2.1.trans a5, hsm.2.2.2.1⟩
              · exact ⟨a3, a4, a5, a6⟩
            · exact ⟨a3, a4, a5, a6⟩
          · split
            · rename_i hm6
              have hn5 : ¬ m.1 5 = (Ws' v).2.2.2.2.1 := by
                rcases hm with ⟨z, _⟩ | ⟨z, _⟩ | ⟨z, _⟩ | ⟨_, p', z1, z2⟩
                · exact absurd z hm1
                · rw [hm6] at z; exact absurd z (by decide)
                · rw [hm6] at z; exact absurd z (by decide)
                · rw [z1, a4]
                  intro z
                  have := jx_inj (by omega) (by omega) z
                  omega
              show (if (Ws' v).1 12 = 3 then (if m.1 5 = (Ws' v).2.2.2.2.1 then jw_rest (Ws' v) else Ws' v) else Ws' v).2.1 = _ ∧ (if (Ws' v).1 12 = 3 then (if m.1 5 = (Ws' v).2.2.2.2.1 then jw_rest (Ws' v) else Ws' v) else Ws' v).2.2.2.2.1 = _ ∧ (if (Ws' v).1 12 = 3 then (if m.1 5 = (Ws' v).2.2.2.2.1 then jw_rest (Ws' v) else Ws' v) else Ws' v).1 13 = _ ∧ (if (Ws' v).1 12 = 3 then (if m.1 5 = (Ws' v).2.2.2.2.1 then jw_rest (Ws' v) else Ws' v) else Ws' v).1 17 = 4
              rw [if_neg hn5]
              split
              · exact ⟨a3, a4, a5, a6⟩
              · exact ⟨a3, a4, a5, a6⟩
            · exact ⟨a3, a4, a5, a6⟩) (L.1 v).length Ws (jn_up L v) (show IV C Ws (jn_up L v) kc from hi) ⟨QH_up hv h, Or.inl ⟨hW0, hg⟩⟩ (Nat.le_refl _)
  rw [hW0] at main hh
  obtain ⟨⟨k1, k3⟩, k4, k5⟩ := main
  rw [jw_work, hh]
  revert k1 k3 k4 k5
  generalize jw_hears C.1 C.2.1 (L.1 v).length (W0, jn_up L v) = z
  obtain ⟨W1, L1⟩ := z
  intro k1 k3 k4 k5
  rw [up_eq] at k3
  have k5' : L1.1 v = [] := k5
  have k1' : QH r v (jx_up Ws v W1) L1 := k1
  have k4' : IV C (jx_up Ws v W1) L1 kc := k4
  have hw1 := k4'.1 v hv
  rw [up_eq] at hw1
  have h0 := k1'.1.1
  rcases k3 with ⟨_, a2⟩ | ⟨_, ⟨m', a2, a3⟩ | ⟨j, a2, a3, a4, a5⟩⟩
  · rw [k5] at a2; cases a2
  · refine Or.inl ⟨m', ?_, a3⟩
    have a2' : m' ∈ L1.1 6 := a2
    show m' ∈ (jw_act C.1 C.2.1 C.2.2.1 (cF C kc) W1 L1).2.1 6
    rcases act_eff (F := cF C kc) hw1 L1 with e | ⟨m2, e, _⟩ | ⟨m2, e, _⟩ | ⟨m2, u2, e, _⟩
    · rw [e]; exact a2'
    · rw [e]; exact snd_sub h0.1 h0.2 a2'
    · rw [e]; exact snd_sub h0.1 h0.2 a2'
    · rw [e]; exact snd_sub h0.1 h0.2 a2'
  · have a2' : W1.2.1 = some j := a2
    have a3' : W1.2.2.2.2.1 = Int32.ofNat kc := a3
    have a4' : W1.1 13 = t := a4
    have a5' : W1.1 17 = 4 := a5
    have hb := rk_le hC hw1 a2'
    have hact := act_rank (Ws := jx_up Ws v W1) (L := L1) (j := j) hC hkl hv k4' (by rw [up_eq]; exact a2') (by rw [up_eq]; intro z; have := z.2.2.1; omega)
    rw [up_eq] at hact
    rcases hact with ⟨b1, m', b2, b3, b4, b5⟩ | ⟨b1, b2, b3, b4⟩
    · refine Or.inl ⟨m', ?_, b3, b4.trans a3', b5.trans (by rw [a4'])⟩
      show m' ∈ (jw_act C.1 C.2.1 C.2.2.1 (cF C kc) W1 L1).2.1 6
      rw [b2]
      exact snd_in h0.1 h0.2 (k1'.1.2.1 6 (by omega) (Or.inr (by omega))) (len_H k4' k1' hr hv (by omega))
    · refine Or.inr ⟨j, b1, (by rw [b2] : (jw_act C.1 C.2.1 C.2.2.1 (cF C kc) W1 L1).1.2.2.2.2.1 = W1.2.2.2.2.1).trans a3', b3.trans a4', ?_⟩
      show rk (jw_act C.1 C.2.1 C.2.2.1 (cF C kc) W1 L1).1 < _
      split
      · rename_i h38
        have := hb.2 (by omega)
        omega
      · omega
end IDLE
