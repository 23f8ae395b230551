/-! finish comes to an end: what is in flight, ticks of workers -/
/-- worker v waits for a PAGE: its FETCH is on its way, or the answer is -/
def FV (kc v : Nat) (Ws : Nat → Jw) (L : Jn) : Prop := ∀ u p, (Ws v).1 12 = 3 → (Ws v).1 15 < (Ws v).1 11 → (Ws v).1 17 = 0 → u < 6 → u ≠ v → (Ws v).2.2.1 ((Ws v).1 15) = Int32.ofNat u → (Ws v).2.2.2.2.1 = Int32.ofNat p → p < 8 → GF (jw_ftm (Ws v) u) v u p kc L
/-- so does the Master -/
def FM (C : Jc) (kc : Nat) (K : Jk) (L : Jn) : Prop := jk_over C.1 K = false → K.1 13 = cN C kc → K.1 17 < cN C kc → K.1 19 = 0 → ∀ u, u < 6 → K.2.2.2.1 (38 + K.1 17) = Int32.ofNat u → GF (jk_ftm K u) 6 u kc kc L
section TICKS
variable {C : Jc} {Ws : Nat → Jw} {L L' : Jn} {kc ck v x y s r q u d p t j : Nat} {K : Jk} {R : Jr} {m f : Jm} {W : Jw}
theorem QH_up (hq : q < 6) (h : QQ r q Ws L) : QH r q Ws (jn_up L q) := by
  obtain ⟨⟨h1, h3, h4⟩, hI, hN⟩ := h
  refine ⟨⟨h1, fun x hx g => ?_, h4⟩, hI, up_eq _ _ _, fun hr => ?_⟩
  · show jx_up L.2.1 q false x = false
    by_cases e : x = q
    · rw [e, up_eq]
    · rw [up_ne _ _ e]; exact h3 x hx g
  · have a1 := hN hr
    have a2 := h4.2.2.2.2.2 hr q hq
    show (L.1 6).countP lNo + (L.1 q).countP lG ≤ _
    omega
/-- a worker that is FETCHING -/
theorem w_fetch (hC : CK C) (hw : wOK C Ws kc v (Ws v)) (h12 : (Ws v).1 12 = 3) (hp : (Ws v).2.2.2.2.1 = Int32.ofNat p) (hp8 : p < 8) : ∃ j ls, (Ws v).2.1 = some j ∧ p < C.1.length ∧ p ≤ kc ∧ (Ws v).1 13 < 44 ∧ cA C p = some ls ∧ me_sum ls ≤ 1000 ∧ w3 (cN C p) ((Ws v).1 13 - 38) ls (Ws v) ∧ (∀ s, s < ls.length → ∃ u, u < 6 ∧ (Ws v).2.2.1 s = Int32.ofNat u ∧ HD Ws u p s) ∧ (Ws v).1 11 = ls.length ∧ ls.length ≤ 38 ∧ (Ws v).1 16 ≤ 1000 := by
  obtain ⟨w1, w2, w3', w4⟩ := hw
  obtain ⟨j, hj⟩ : ∃ j, (Ws v).2.1 = some j := by
    cases e : (Ws v).2.1 with
    | some j => exact ⟨j, rfl⟩
    | none => have := w3'.2 e; omega
  have h8 := hC.1
  rcases w4 with ⟨_, _, z⟩ | ⟨p', p1, p2, p3, p4, p5⟩
  · rw [hj] at z; cases z
  have hpp : p' = p := jx_inj (by omega) (by omega) (p1.symm.trans hp)
  subst hpp
  obtain ⟨b1, b2, b3, b4, b5⟩ := p5 j hj
  rcases b5 with ⟨z, _⟩ | ⟨z, _⟩ | ⟨c1, c2, ls, c3, c4, c5, c6⟩ | ⟨z, _⟩
  · omega
  · omega
  · have hls := cA_len c3
    have h38' : me_ns (cI C p') ≤ 38 := me_ns_38 (cI_600 hC)
    refine ⟨j, ls, hj, p2, p3, b2, c3, c4, c5, c6, c5.1, by omega, ?_⟩
    rcases c5.2.2.2.1 with e | ⟨e0, e⟩
    · omega
    · have hsl := me_sel_le (np := cN C p') (r := (Ws v).1 13 - 38) (ls.getD ((Ws v).1 15) [])
      have h2 := sumOn_mono (f := fun i => (ls.getD i []).length) (n := (Ws v).1 15 + 1) ls.length (by omega)
      have h3 : sumOn (fun i => (ls.getD i []).length) ((Ws v).1 15 + 1) = sumOn (fun i => (ls.getD i []).length) ((Ws v).1 15) + (ls.getD ((Ws v).1 15) []).length := rfl
      rw [← me_sum_on] at h2
      omega
  · omega
/-- another worker ticks -/
theorem FV_other (hC : CK C) (hkl : kc ≤ C.1.length) (hv : v < 6) (hq : q < 6) (hr : 2 ≤ r) (hqv : q ≠ v) (hi : IV C Ws L kc) (h : QQ r q Ws L) (hf : FV kc v Ws L) : FV kc v (jx_up Ws q (jw_work C.1 C.2.1 C.2.2.1 (cF C kc) (Ws q) L).1) (jw_work C.1 C.2.1 C.2.2.1 (cF C kc) (Ws q) L).2 := by
  have hsame : jx_up Ws q (jw_work C.1 C.2.1 C.2.2.1 (cF C kc) (Ws q) L).1 v = Ws v := up_ne _ _ (fun z => hqv z.symm)
  intro u p
  rw [hsame]
  intro h12 hlt h17 hu huv hho hp hp8
  obtain ⟨j, ls, _, p2, p3, b2, c3, c4, c5, c6, h11, h38, h16⟩ := w_fetch hC (hi.1 v hv) h12 hp hp8
  obtain ⟨u', u1, u2, u3⟩ := c6 ((Ws v).1 15) (by omega)
  have huu : u' = u := jx_inj (by omega) (by omega) (u2.symm.trans hho)
  subst huu
  have hF : FT (jw_ftm (Ws v) u') v u' p ((Ws v).1 15) := ⟨rfl, by show Int32.ofNat ((Ws v).1 0) = _; rw [(hi.1 v hv).1], hp, rfl, ⟨(Ws v).1 16, rfl, by omega⟩, by omega, u1, fun z => huv z.symm, hp8, by omega⟩
  exact (GF_work hC hkl hq hr hqv hF u3 hi h (hf u' p h12 hlt h17 hu huv hho hp hp8)).1
/-- a worker ticks: what the Master waits for -/
theorem FM_w (hC : CK C) (hq : q < 6) (hr : 2 ≤ r) (hi : IV C Ws L kc) (hm : IM C Ws false kc ck R K) (h : QQ r q Ws L) (hf : FM C kc K L) : FM C kc K (jw_work C.1 C.2.1 C.2.2.1 (cF C kc) (Ws q) L).2 := by
  intro hov h13 h17 h19 u hu hdo
  obtain ⟨hJ, hK⟩ := IM_J rfl hm
  obtain ⟨j1, j2, j3, j4, j5⟩ := m_job hC hJ hK hov
  have hkl : kc ≤ C.1.length := by omega
  have h8 := hC.1
  have hn6 := (hC.2.2.1 kc j1).2.2.2.2
  have h9 : K.1 9 = kc := hJ.2.2.1
  have hG := hK.2.2.2
  rcases hJ.2.2.2.2.2.2.1 (38 + K.1 17) (by omega) with e | ⟨u', l, d1, d2, d3, d4, d5, d6⟩
  · rw [hdo] at e
    exact absurd e (jx_m1 (by omega))
  · have huu : u' = u := jx_inj (by omega) (by omega) (d2.symm.trans hdo)
    subst huu
    have hF : FT (jk_ftm K u') 6 u' kc (38 + K.1 17) := ⟨rfl, rfl, by show Int32.ofNat (K.1 9) = _; rw [h9], rfl, ⟨K.1 18, rfl, by have := hG.2.2.2; omega⟩, by omega, d1, by omega, by omega, by omega⟩
    exact (GF_work hC hkl hq hr (by omega) hF d6 hi h (hf hov h13 h17 h19 u' hu hdo)).1
/-- a worker's own act -/
theorem FV_act (hv : v < 6) (hr : 2 ≤ r) (hi : IV C Ws L kc) (h : QH r v Ws L) {F : Nat → Jl} : FV kc v (jx_up Ws v (jw_act C.1 C.2.1 C.2.2.1 F (Ws v) L).1) (jw_act C.1 C.2.1 C.2.2.1 F (Ws v) L).2 := by
  intro u p
  rw [up_eq]
  have hw := hi.1 v hv
  obtain ⟨w1, w2, w3', w4⟩ := hw
  have hno : ∀ {P : Prop} (W1 : Jw), W1.1 12 ≠ 3 → W1.1 12 = 3 → P := fun _ h1 h2 => absurd h2 h1
  rw [jw_act]
  cases hj : (Ws v).2.1 with
  | none =>
    simp only
    have h12 := w3'.2 hj
    rw [jw_ask]
    split
    · intro z
      have z' : (Ws v).1 12 = 3 := z
      omega
    · intro z
      have z' : (Ws v).1 12 = 3 := z
      omega
  | some j =>
    simp only
    have hend : ∀ (W1 : Jw) (k : Int32) {P : Prop}, (jw_end W1 L k).1.1 12 = 3 → P := fun W1 k P z => by
      have z' : (0 : Nat) = 3 := z
      omega
    by_cases e1 : (Ws v).1 12 = 1
    · rw [if_pos e1, jw_map]
      split
      · split
        · split
          · intro z
            have z' : (Ws v).1 12 = 3 := z
            omega
          · intro z
            have z' : (Ws v).1 12 = 3 := z
            omega
        · exact hend _ _
      · rw [jw_merge]
        split
        · intro z
          have z' : (2 : Nat) = 3 := z
          omega
        · intro z
          have z' : (2 : Nat) = 3 := z
          omega
    · rw [if_neg e1]
      by_cases e3 : (Ws v).1 12 = 3
      · rw [if_pos e3, jw_fo1, jw_fo]
        split
        · split
          · rename_i huv
            rw [jw_hp]
            split
            · split
              · intro _ _ h17
                rw [jw_pg2_sm.2.2.2.1] at h17
                omega
              · intro _ _ _ hu huv2 hho _ _
                have : ji ((Ws v).2.2.1 ((Ws v).1 15)) = u := by
                  have hho' : (Ws v).2.2.1 ((Ws v).1 15) = Int32.ofNat u := hho
                  rw [hho']; exact ji_of (by omega)
                omega
            · intro z
              rename_i z2
              exact absurd e3 z2
          · split
            · intro _ _ h17
              have h17' : (Ws v).1 17 + 1 = 0 := h17
              omega
            · intro _ _ _ hu huv2 hho hp _
              have hho' : (Ws v).2.2.1 ((Ws v).1 15) = Int32.ofNat u := hho
              have hji : ji ((Ws v).2.2.1 ((Ws v).1 15)) = u := by rw [hho']; exact ji_of (by omega)
              rw [hji]
              refine Or.inl ?_
              exact snd_in h.1.1.1 h.1.1.2 (h.1.2.1 u (by omega) (Or.inr (by omega))) (len_H hi h hr hv (by omega))
        · intro z
          have z' : (4 : Nat) = 3 := z
          omega
      · rw [if_neg e3, jw_fold]
        split
        · split
          · split
            · intro z
              exact absurd z e3
            · exact hend _ _
          · exact hend _ _
        · rw [jw_keep]
          split
          · split
            · exact hend _ _
            · exact hend _ _
          · split
            · exact hend _ _
            · exact hend _ _
/-- a worker's own tick -/
theorem FV_own (hC : CK C) (hv : v < 6) (hr : 2 ≤ r) (hi : IV C Ws L kc) (h : QQ r v Ws L) : FV kc v (jx_up Ws v (jw_work C.1 C.2.1 C.2.2.1 (cF C kc) (Ws v) L).1) (jw_work C.1 C.2.1 C.2.2.1 (cF C kc) (Ws v) L).2 := by
  have hno := (hi.1 v hv).1
  obtain ⟨k1, k2, k3⟩ := hears_ind hC hv (P := QH r v) (fun Ws L m l _ hP hib hm _ _ => QH_step hv hP hib hm) (L.1 v).length Ws (jn_up L v) (show IV C Ws (jn_up L v) kc from hi) (QH_up hv h) (Nat.le_refl _)
  have hh : jw_heard C.1 C.2.1 (Ws v) L = jw_hears C.1 C.2.1 (L.1 v).length (Ws v, jn_up L v) := by rw [jw_heard, hno]
  rw [jw_work, hh]
  have := FV_act (F := cF C kc) hv hr k2 k1
  rw [up_up, up_eq] at this
  exact this
/-- the tick of a busy worker -/
theorem busy_tick (hC : CK C) (hkl : kc ≤ C.1.length) (hv : v < 6) (hr : 2 ≤ r) (hi : IV C Ws L kc) (h : QQ r v Ws L) (hf : FV kc v Ws L) (hj : (Ws v).2.1 = some j) (hp : (Ws v).2.2.2.2.1 = Int32.ofNat p) (hp8 : p < 8) :
    ((jw_work C.1 C.2.1 C.2.2.1 (cF C kc) (Ws v) L).1.2.1 = none ∧ (p < kc ∨ ∃ m, m ∈ (jw_work C.1 C.2.1 C.2.2.1 (cF C kc) (Ws v) L).2.1 6 ∧ (m.1 2 = 2 ∨ m.1 2 = 3) ∧ m.1 5 = Int32.ofNat p ∧ m.1 6 = Int32.ofNat ((Ws v).1 13)))
    ∨ ((jw_work C.1 C.2.1 C.2.2.1 (cF C kc) (Ws v) L).1.2.1 = some j ∧ (jw_work C.1 C.2.1 C.2.2.1 (cF C kc) (Ws v) L).1.2.2.2.2.1 = Int32.ofNat p ∧ (jw_work C.1 C.2.1 C.2.2.1 (cF C kc) (Ws v) L).1.1 13 = (Ws v).1 13 ∧ rk (jw_work C.1 C.2.1 C.2.2.1 (cF C kc) (Ws v) L).1 < rk (Ws v)) := by
  have hno := (hi.1 v hv).1
  have h8 := hC.1
  have hh : jw_heard C.1 C.2.1 (Ws v) L = jw_hears C.1 C.2.1 (L.1 v).length (Ws v, jn_up L v) := by rw [jw_heard, hno]
  have hkeep : stk v (Ws v) → ∃ m, m ∈ (jn_up L v).1 v ∧ ((m.1 2 = 5 ∧ (Ws v).1 12 = 3 ∧ jw_an (Ws v) m = true) ∨ (m.1 2 = 6 ∧ (Ws v).1 12 = 3 ∧ m.1 5 = (Ws v).2.2.2.2.1)) := by
    rintro ⟨s1, s2, s3, u, s4, s5, s6⟩
    rcases hf u p s1 s2 s3 s4 s5 s6 hp hp8 with g | ⟨m, g1, g2, g3, g4, g5, g6⟩ | ⟨m, g1, g2, g3, _⟩
    · exfalso
      have h0 : 0 < (L.1 u).countP (lF v) := List.countP_pos_iff.2 ⟨_, g, decide_eq_true ⟨rfl, by show Int32.ofNat ((Ws v).1 0) = _; rw [hno]⟩⟩
      have := (h.1.2.2.1 v u hv s4 h0).2 (Nat.le_refl _) (by omega)
      omega
    · exact ⟨m, g1, Or.inl ⟨g2, s1, decide_eq_true ⟨g2, g3, g4, g5, g6⟩⟩⟩
    · exact ⟨m, g1, Or.inr ⟨g2, s1, g3⟩⟩
  obtain ⟨k1, k2, k3, k4⟩ := own_hears (L := jn_up L v) hC hv hr (show IV C Ws (jn_up L v) kc from hi) (QH_up hv h) hj hp hp8 (by omega) hkeep
  rw [jw_work, hh]
  have hL : (jn_up L v).1 v = L.1 v := rfl
  rw [hL] at k1 k2 k3 k4
  revert k1 k2 k3 k4
  generalize jw_hears C.1 C.2.1 (L.1 v).length (Ws v, jn_up L v) = z
  obtain ⟨W1, L1⟩ := z
  intro k1 k2 k3 k4
  have hlen : (L1.1 6).length < 16 := len_H k2 k1 hr hv (by omega)
  have hact := fun hj1 hs1 => act_rank (Ws := jx_up Ws v W1) (L := L1) (j := j) hC hkl hv k2 hj1 hs1
  rw [up_eq] at hact
  have fin : (hj1 : W1.2.1 = some j) → (hs1 : ¬ stk v W1) → W1.2.2.2.2.1 = Int32.ofNat p → W1.1 13 = (Ws v).1 13 → rk W1 ≤ rk (Ws v) → (((jw_act C.1 C.2.1 C.2.2.1 (cF C kc) W1 L1).1.2.1 = none ∧ (p < kc ∨ ∃ m, m ∈ (jw_act C.1 C.2.1 C.2.2.1 (cF C kc) W1 L1).2.1 6 ∧ (m.1 2 = 2 ∨ m.1 2 = 3) ∧ m.1 5 = Int32.ofNat p ∧ m.1 6 = Int32.ofNat ((Ws v).1 13))) ∨ ((jw_act C.1 C.2.1 C.2.2.1 (cF C kc) W1 L1).1.2.1 = some j ∧ (jw_act C.1 C.2.1 C.2.2.1 (cF C kc) W1 L1).1.2.2.2.2.1 = Int32.ofNat p ∧ (jw_act C.1 C.2.1 C.2.2.1 (cF C kc) W1 L1).1.1 13 = (Ws v).1 13 ∧ rk (jw_act C.1 C.2.1 C.2.2.1 (cF C kc) W1 L1).1 < rk (Ws v))) := by
    intro hj1 hs1 e1 e2 e3
    rcases hact hj1 hs1 with ⟨a1, m', a2, a3, a4, a5⟩ | ⟨a1, a2, a3, a4⟩
    · refine Or.inl ⟨a1, Or.inr ⟨m', ?_, a3, a4.trans e1, a5.trans (by rw [e2])⟩⟩
      rw [a2]
      exact snd_in k1.1.1.1 k1.1.1.2 (k1.1.2.1 6 (by omega) (Or.inr (by omega))) hlen
    · exact Or.inr ⟨a1, (by rw [a2] : (jw_act C.1 C.2.1 C.2.2.1 (cF C kc) W1 L1).1.2.2.2.2.1 = W1.2.2.2.2.1).trans e1, a3.trans e2, by omega⟩
  rcases k4 with ⟨e, e2⟩ | ⟨m, e1, e2, e3, ⟨t38, e38, e38'⟩, e4, e5⟩ | ⟨e, e2⟩
  · have e' : W1 = Ws v := e
    subst e'
    exact fin hj e2 hp rfl (Nat.le_refl _)
  · have e5' : W1 = jw_pg2 (Ws v) m (ji (m.1 9)) (ji (m.1 10)) := e5
    obtain ⟨s1, s2, s3, s4, s5, s6, s7, s8, s9⟩ := jw_pg2_sm (W := Ws v) (m := m) (k := ji (m.1 9)) (tt := ji (m.1 10))
    rw [← e5'] at s1 s2 s3 s4 s5 s6 s7 s8 s9
    refine fin (s5.trans hj) (fun z => by have := z.2.2.1; omega) ((by rw [s9] : W1.2.2.2.2.1 = (Ws v).2.2.2.2.1).trans hp) s3 ?_
    obtain ⟨n1, n2, n3, n4, n5⟩ := of_decide_eq_true (p := m.1 2 = 5 ∧ m.1 5 = (Ws v).2.2.2.2.1 ∧ m.1 6 = Int32.ofNat ((Ws v).1 15) ∧ m.1 7 = Int32.ofNat ((Ws v).1 13) - 38 ∧ m.1 8 = Int32.ofNat ((Ws v).1 16)) e2
    obtain ⟨f, x, sl, a1, a2, a3, p', t', l', a4, a5, a6, a7, a8, a9, a10⟩ := mPg_page e3
    obtain ⟨j', ls, _, _, _, _, c3, c4, c5, c6, h11, h38, h16⟩ := w_fetch hC (hi.1 v hv) e1 hp hp8
    have hx : x = (Ws v).1 16 := jx_inj (by omega) (by omega) (a2.symm.trans n5)
    subst hx
    have hsl : sl.length < 100000 := by
      have h1 := cT_len hC a5 a6
      have h2 := sel_len (np := cN C p') (t := t') (r := f 7) (l := l')
      rw [← a4] at h2
      omega
    have hpp : p' = p := jx_inj (by omega) (by omega) (a7.symm.trans (n2.trans hp))
    subst hpp
    have hat : t' = (Ws v).1 15 := jx_inj (by omega) (by have := c5.2.1; omega) (a8.symm.trans n3)
    have ht38 : t' = t38 := jx_inj (by omega) (by omega) (a8.symm.trans e38')
    have hlt : (Ws v).1 15 < (Ws v).1 11 := by
      rcases a5 with ⟨_, z⟩ | ⟨z, _⟩
      · have z' : t' < me_ns (cI C p') := z
        have := cA_len c3
        omega
      · omega
    have hp1 := pgs_dec hlt a1 hsl e4
    rw [← e5'] at hp1
    rw [rk, if_neg (by rw [s2, e1]; decide), if_pos (s2.trans e1), s4, if_neg (by decide), rk, if_neg (by rw [e1]; decide), if_pos e1]
    omega
  · have e' : W1 = jw_rest (Ws v) := e
    subst e'
    refine Or.inl ⟨?_, Or.inl e2⟩
    rw [jw_act]
    show (jw_ask (jw_rest (Ws v)) L1).1.2.1 = none
    rw [jw_ask]
    split
    · rfl
    · rfl
end TICKS
