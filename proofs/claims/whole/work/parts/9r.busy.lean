/-! finish comes to an end: a busy worker's tick -/
/-- pages that a FETCHING worker still wants, at most -/
def pgs (W : Jw) : Nat := (W.1 11 - W.1 15) + (1000 - (W.2.2.2.1 1).length) / 16
/-- ticks that a busy worker still wants, at most -/
def rk (W : Jw) : Nat := if W.1 12 = 1 then 200 - W.1 15 else if W.1 12 = 3 then 1003 + 6 * pgs W + (if W.1 17 = 0 then 0 else 5 - W.1 17) else ((W.2.2.2.1 1).length - W.1 15) + 1
/-- it waits for a PAGE of another -/
def stk (v : Nat) (W : Jw) : Prop := W.1 12 = 3 ∧ W.1 15 < W.1 11 ∧ W.1 17 = 0 ∧ ∃ u, u < 6 ∧ u ≠ v ∧ W.2.2.1 (W.1 15) = Int32.ofNat u
section BUSY
variable {C : Jc} {Ws : Nat → Jw} {L L' : Jn} {kc ck v x y s r q u d p t j : Nat} {K : Jk} {R : Jr} {m f : Jm} {W : Jw}
theorem pgs_dec {f : Nat → Int32} {sl : Jl} (hat : W.1 15 < W.1 11) (hm : m = jd_page f (W.1 16) sl) (hs : sl.length < 100000) (hg : (W.2.2.2.1 1).length + ji (m.1 9) ≤ 1000) : pgs (jw_pg2 W m (ji (m.1 9)) (ji (m.1 10))) + 1 ≤ pgs W := by
  obtain ⟨g1, g2, _, _⟩ := jd_page_f f (W.1 16) sl
  rw [← hm] at g1 g2
  have hk : ((sl.drop (W.1 16)).take 16).length = min 16 (sl.length - W.1 16) := by rw [List.length_take, List.length_drop]
  have e9 : ji (m.1 9) = min 16 (sl.length - W.1 16) := by rw [g1, hk]; exact ji_of (by omega)
  have e10 : ji (m.1 10) = sl.length := by rw [g2]; exact ji_of (by omega)
  have hl : ∀ k, ((W.2.2.2.1 1) ++ jm_prs m k).length = (W.2.2.2.1 1).length + k := fun k => by rw [List.length_append, jm_prs, List.length_map, List.length_range]
  rw [jw_pg2]
  split
  · rename_i hlt
    show (W.1 11 - W.1 15) + (1000 - ((W.2.2.2.1 1) ++ jm_prs m (ji (m.1 9))).length) / 16 + 1 ≤ pgs W
    rw [hl, pgs]
    rw [e9, e10] at hlt
    rw [e9] at hg ⊢
    have : min 16 (sl.length - W.1 16) = 16 := by omega
    rw [this] at hg ⊢
    omega
  · show (W.1 11 - (W.1 15 + 1)) + (1000 - ((W.2.2.2.1 1) ++ jm_prs m (ji (m.1 9))).length) / 16 + 1 ≤ pgs W
    rw [hl, pgs]
    omega
/-- an int of which little is known -/
theorem mPg_page (h : mPg C kc m) : ∃ f x sl, m = jd_page f x sl ∧ m.1 8 = Int32.ofNat x ∧ x < 100000 ∧ ∃ p t l, sl = jd_sel (cN C p) t (f 7) l ∧ cV C p t ∧ cT C p t = some l ∧ m.1 5 = Int32.ofNat p ∧ m.1 6 = Int32.ofNat t ∧ p < C.1.length ∧ t < 44 := by
  obtain ⟨p, t, l, f, x, a1, a2, a3, a4, a5, a6, a7, a8, a9, a10, a11⟩ := h
  have g := (jd_page_f f x (jd_sel (cN C p) t (f 7) l)).2.2.1
  rw [← a1] at g
  exact ⟨f, x, _, a1, (g 8 (by decide) (by decide)).trans a10, a11, p, t, l, rfl, a3, a2, (g 5 (by decide) (by decide)).trans a8, (g 6 (by decide) (by decide)).trans a9, a5, a4⟩
theorem sel_len {np t : Nat} {r : Int32} {l : Jl} : (jd_sel np t r l).length ≤ l.length := by
  rw [jd_sel]
  split
  · exact List.length_filter_le _ _
  · exact Nat.le_refl _
theorem hear_own {l : List Jm} (hv : v < 6) (hm : mW C Ws kc v m) (W : Jw) : (jw_hear C.1 C.2.1 W (jn_pop L v l) m).2.1 v = l := by
  have e0 : (jn_pop L v l).1 v = l := up_eq _ _ _
  rcases hear_eff hm W (jn_pop L v l) with ⟨e, _⟩ | ⟨_, m', e, _⟩ | ⟨u, m', _, _, _, hu, _, e, _⟩
  · rw [e, e0]
  · rw [e, snd_ne (by omega), e0]
  · rw [e, snd_ne (fun z => hu z.symm), e0]
/-- what a busy worker's inbox does to it -/
theorem own_hears (hC : CK C) (hv : v < 6) (hr : 2 ≤ r) (hi : IV C Ws L kc) (h : QH r v Ws L) (hj : (Ws v).2.1 = some j) (hp : (Ws v).2.2.2.2.1 = Int32.ofNat p) (hp8 : p < 8) (hk8 : kc ≤ 8) {keep : Prop}
    (hkeep : keep → ∃ m, m ∈ L.1 v ∧ ((m.1 2 = 5 ∧ (Ws v).1 12 = 3 ∧ jw_an (Ws v) m = true) ∨ (m.1 2 = 6 ∧ (Ws v).1 12 = 3 ∧ m.1 5 = (Ws v).2.2.2.2.1))) :
    QH r v (jx_up Ws v (jw_hears C.1 C.2.1 (L.1 v).length (Ws v, L)).1) (jw_hears C.1 C.2.1 (L.1 v).length (Ws v, L)).2 ∧ IV C (jx_up Ws v (jw_hears C.1 C.2.1 (L.1 v).length (Ws v, L)).1) (jw_hears C.1 C.2.1 (L.1 v).length (Ws v, L)).2 kc ∧ (jw_hears C.1 C.2.1 (L.1 v).length (Ws v, L)).2.1 v = []
    ∧ (((jw_hears C.1 C.2.1 (L.1 v).length (Ws v, L)).1 = Ws v ∧ ¬ keep)
      ∨ (∃ m, (Ws v).1 12 = 3 ∧ jw_an (Ws v) m = true ∧ mPg C kc m ∧ (∃ t, t < 38 ∧ m.1 6 = Int32.ofNat t) ∧ ((Ws v).2.2.2.1 1).length + ji (m.1 9) ≤ 1000 ∧ (jw_hears C.1 C.2.1 (L.1 v).length (Ws v, L)).1 = jw_pg2 (Ws v) m (ji (m.1 9)) (ji (m.1 10)))
      ∨ ((jw_hears C.1 C.2.1 (L.1 v).length (Ws v, L)).1 = jw_rest (Ws v) ∧ p < kc)) := by
  have hg0 : (L.1 v).countP lG = 0 := by
    cases e : (L.1 v).countP lG with
    | zero => rfl
    | succ n =>
      have := h.2.1.2 hr v hv (by omega)
      rw [hj] at this; cases this
  generalize hW0 : Ws v = W0 at hj hp hkeep ⊢
  have main := hears_ind hC hv (kc := kc) (P := fun Ws' L' => QH r v Ws' L' ∧ (L'.1 v).countP lG = 0 ∧ ((Ws' v = W0 ∧ (keep → ∃ m, m ∈ L'.1 v ∧ ((m.1 2 = 5 ∧ W0.1 12 = 3 ∧ jw_an W0 m = true) ∨ (m.1 2 = 6 ∧ W0.1 12 = 3 ∧ m.1 5 = W0.2.2.2.2.1)))) ∨ ((L'.1 v).countP lP = 0 ∧ ((∃ m, W0.1 12 = 3 ∧ jw_an W0 m = true ∧ mPg C kc m ∧ (∃ t, t < 38 ∧ m.1 6 = Int32.ofNat t) ∧ (W0.2.2.2.1 1).length + ji (m.1 9) ≤ 1000 ∧ Ws' v = jw_pg2 W0 m (ji (m.1 9)) (ji (m.1 10))) ∨ (Ws' v = jw_rest W0 ∧ p < kc))))) (fun Ws' L' m l hi' hP hib hm hle hi2 => by
    obtain ⟨p1, p2, p3⟩ := hP
    have hown := hear_own (L := L') (l := l) hv hm (Ws' v)
    have hmem : m ∈ L'.1 v := by rw [hib]; exact List.mem_cons_self
    have hsub : ∀ m', m' ∈ L'.1 v → m' = m ∨ m' ∈ l := fun m' h' => by rw [hib] at h'; exact List.mem_cons.1 h'
    have hc : ∀ pr, l.countP pr ≤ (L'.1 v).countP pr := fun pr => by rw [hib, List.countP_cons]; exact Nat.le_add_right _ _
    have hP1 : (L'.1 v).countP lP ≤ 1 := by
      have := p1.1.2.2.2.2.1 v (by omega) (Or.inr hr)
      rw [fS] at this; omega
    have hpos : lP m = true → l.countP lP = 0 := fun e => by
      have : (L'.1 v).countP lP = l.countP lP + 1 := by rw [hib, List.countP_cons, if_pos e]
      omega
    refine ⟨QH_step hv p1 hib hm, by rw [hown]; have := hc lG; omega, ?_⟩
    rw [up_eq, hown]
    rcases hm with ⟨h1, _⟩ | ⟨h1, _⟩ | ⟨h1, h2, h3⟩ | ⟨h1, p', h2, h3⟩
    · have : 0 < (L'.1 v).countP lG := List.countP_pos_iff.2 ⟨m, hmem, decide_eq_true h1⟩
      omega
    · have eW : (jw_hear C.1 C.2.1 (Ws' v) (jn_pop L' v l) m).1 = Ws' v := by rw [jw_hear, if_neg (by rw [h1]; decide), if_pos h1]
      rw [eW]
      rcases p3 with ⟨a1, a2⟩ | ⟨a1, a2⟩
      · refine Or.inl ⟨a1, fun hk => ?_⟩
        obtain ⟨m', b1, b2⟩ := a2 hk
        refine ⟨m', ?_, b2⟩
        rcases hsub m' b1 with e | e
        · subst e
          rcases b2 with b2 | b2
          · exact absurd (h1.symm.trans b2.1) (by decide)
          · exact absurd (h1.symm.trans b2.1) (by decide)
        · exact e
      · exact Or.inr ⟨by have := hc lP; omega, a2⟩
    · rcases p3 with ⟨a1, a2⟩ | ⟨a1, a2⟩
      · have eW : (jw_hear C.1 C.2.1 (Ws' v) (jn_pop L' v l) m).1 = jw_hp (Ws' v) m (ji (m.1 9)) (ji (m.1 10)) := by rw [jw_hear, if_neg (by rw [h1]; decide), if_neg (by rw [h1]; decide), if_pos h1]
        rw [eW, a1, jw_hp]
        by_cases h12 : W0.1 12 = 3
        · rw [if_pos h12]
          by_cases han : jw_an W0 m = true
          · rw [if_pos han]
            have hok := (hear_page hC hi' hv h1 h2 h3).1.2.2.2 h1 (by rw [a1]; exact h12) (by rw [a1]; exact han)
            rw [a1] at hok
            exact Or.inr ⟨hpos (decide_eq_true (Or.inl h1)), Or.inl ⟨m, h12, han, h2, h3, hok.2.2.1, rfl⟩⟩
          · rw [if_neg han]
            refine Or.inl ⟨rfl, fun hk => ?_⟩
            obtain ⟨m', b1, b2⟩ := a2 hk
            refine ⟨m', ?_, b2⟩
            rcases hsub m' b1 with e | e
            · subst e
              rcases b2 with b2 | b2
              · exact absurd b2.2.2 han
              · exact absurd (h1.symm.trans b2.1) (by decide)
            · exact e
        · rw [if_neg h12]
          refine Or.inl ⟨rfl, fun hk => ?_⟩
          obtain ⟨m', b1, b2⟩ := a2 hk
          rcases b2 with b2 | b2
          · exact absurd b2.2.1 h12
          · exact absurd b2.2.1 h12
      · have : 0 < (L'.1 v).countP lP := List.countP_pos_iff.2 ⟨m, hmem, decide_eq_true (Or.inl h1)⟩
        omega
    · rcases p3 with ⟨a1, a2⟩ | ⟨a1, a2⟩
      · have eW : (jw_hear C.1 C.2.1 (Ws' v) (jn_pop L' v l) m).1 = (if (Ws' v).1 12 = 3 then (if m.1 5 = (Ws' v).2.2.2.2.1 then jw_rest (Ws' v) else Ws' v) else Ws' v) := by rw [jw_hear, if_neg (by rw [h1]; decide), if_neg (by rw [h1]; decide), if_neg (by rw [h1]; decide), if_pos h1]
        rw [eW, a1]
        by_cases h12 : W0.1 12 = 3
        · rw [if_pos h12]
          by_cases h5 : m.1 5 = W0.2.2.2.2.1
          · rw [if_pos h5]
            refine Or.inr ⟨hpos (decide_eq_true (Or.inr h1)), Or.inr ⟨rfl, ?_⟩⟩
            have := jx_inj (by omega) (by omega) (h2.symm.trans (h5.trans hp))
            omega
          · rw [if_neg h5]
            refine Or.inl ⟨rfl, fun hk => ?_⟩
            obtain ⟨m', b1, b2⟩ := a2 hk
            refine ⟨m', ?_, b2⟩
            rcases hsub m' b1 with e | e
            · subst e
              rcases b2 with b2 | b2
              · exact absurd (h1.symm.trans b2.1) (by decide)
              · exact absurd b2.2.2 h5
            · exact e
        · rw [if_neg h12]
          refine Or.inl ⟨rfl, fun hk => ?_⟩
          obtain ⟨m', b1, b2⟩ := a2 hk
          rcases b2 with b2 | b2
          · exact absurd b2.2.1 h12
          · exact absurd b2.2.1 h12
      · have : 0 < (L'.1 v).countP lP := List.countP_pos_iff.2 ⟨m, hmem, decide_eq_true (Or.inr h1)⟩
        omega) (L.1 v).length Ws L hi ⟨h, hg0, Or.inl ⟨hW0, hkeep⟩⟩ (Nat.le_refl _)
  rw [hW0] at main
  obtain ⟨⟨k1, k2, k3⟩, k4, k5⟩ := main
  refine ⟨k1, k4, k5, ?_⟩
  rw [up_eq, k5] at k3
  rcases k3 with ⟨a1, a2⟩ | ⟨_, a2 | a2⟩
  · refine Or.inl ⟨a1, fun hk => ?_⟩
    obtain ⟨m, b1, _⟩ := a2 hk
    cases b1
  · exact Or.inr (Or.inl a2)
  · exact Or.inr (Or.inr a2)
/-- a busy worker acts -/
theorem act_rank (hC : CK C) (hkl : kc ≤ C.1.length) (hv : v < 6) (hi : IV C Ws L kc) (hj : (Ws v).2.1 = some j) (hs : ¬ stk v (Ws v)) :
    ((jw_act C.1 C.2.1 C.2.2.1 (cF C kc) (Ws v) L).1.2.1 = none ∧ ∃ m', (jw_act C.1 C.2.1 C.2.2.1 (cF C kc) (Ws v) L).2 = jn_snd L m' 6 ∧ (m'.1 2 = 2 ∨ m'.1 2 = 3) ∧ m'.1 5 = (Ws v).2.2.2.2.1 ∧ m'.1 6 = Int32.ofNat ((Ws v).1 13))
    ∨ ((jw_act C.1 C.2.1 C.2.2.1 (cF C kc) (Ws v) L).1.2.1 = some j ∧ (jw_act C.1 C.2.1 C.2.2.1 (cF C kc) (Ws v) L).1.2.2.2.2 = (Ws v).2.2.2.2 ∧ (jw_act C.1 C.2.1 C.2.2.1 (cF C kc) (Ws v) L).1.1 13 = (Ws v).1 13 ∧ rk (jw_act C.1 C.2.1 C.2.2.1 (cF C kc) (Ws v) L).1 < rk (Ws v)) := by
  have hok := hi.1 v hv
  have hok2 := (act_all hC hi hv hkl).2.2.1
  obtain ⟨w1, w2, w3, w4⟩ := hok
  rcases w4 with ⟨_, _, z⟩ | ⟨p, p1, p2, p3, p4, p5⟩
  · rw [hj] at z; cases z
  obtain ⟨b1, b2, b3, b4, b5⟩ := p5 j hj
  have h8 := hC.1
  have ha : jw_act C.1 C.2.1 C.2.2.1 (cF C kc) (Ws v) L = (if (Ws v).1 12 = 1 then jw_map (Ws v) L (jb_in C.2.1 (cF C kc) j) (C.2.2.1 j) else if (Ws v).1 12 = 3 then jw_fo1 C.1 C.2.1 (Ws v) L else jw_fold (Ws v) L (C.2.2.1 j)) := by rw [jw_act, hj]
  have hst2 : ∀ j', (jw_act C.1 C.2.1 C.2.2.1 (cF C kc) (Ws v) L).1.2.1 = some j' → (jw_act C.1 C.2.1 C.2.2.1 (cF C kc) (Ws v) L).1.2.2.2.2 = (Ws v).2.2.2.2 → wSt C (jx_up Ws v (jw_act C.1 C.2.1 C.2.2.1 (cF C kc) (Ws v) L).1) p (jw_act C.1 C.2.1 C.2.2.1 (cF C kc) (Ws v) L).1 := by
    intro j' h1 h2
    rcases hok2.2.2.2 with ⟨_, _, z⟩ | ⟨p', q1, q2, q3, q4, q5⟩
    · rw [h1] at z; cases z
    · have hpp : p' = p := jx_inj (by omega) (by omega) (q1.symm.trans ((by rw [h2] : (jw_act C.1 C.2.1 C.2.2.1 (cF C kc) (Ws v) L).1.2.2.2.2.1 = (Ws v).2.2.2.2.1).trans p1))
      subst hpp
      exact (q5 j' h1).2.2.2.2
  revert hst2
  rw [ha]
  have hend : ∀ (W1 : Jw) (k : Int32) (P : Prop), k = 2 ∨ k = 3 → W1.2.2.2.2.1 = (Ws v).2.2.2.2.1 → W1.1 13 = (Ws v).1 13 → ((jw_end W1 L k).1.2.1 = none ∧ ∃ m', (jw_end W1 L k).2 = jn_snd L m' 6 ∧ (m'.1 2 = 2 ∨ m'.1 2 = 3) ∧ m'.1 5 = (Ws v).2.2.2.2.1 ∧ m'.1 6 = Int32.ofNat ((Ws v).1 13)) ∨ P := fun W1 k P hk h1 h2 => Or.inl ⟨rfl, _, rfl, hk, h1, by show Int32.ofNat (W1.1 13) = _; rw [h2]⟩
  have hfold : (Ws v).1 12 ≠ 1 → (Ws v).1 12 ≠ 3 → ((jw_fold (Ws v) L (C.2.2.1 j)).1.2.1 = none ∧ ∃ m', (jw_fold (Ws v) L (C.2.2.1 j)).2 = jn_snd L m' 6 ∧ (m'.1 2 = 2 ∨ m'.1 2 = 3) ∧ m'.1 5 = (Ws v).2.2.2.2.1 ∧ m'.1 6 = Int32.ofNat ((Ws v).1 13)) ∨ ((jw_fold (Ws v) L (C.2.2.1 j)).1.2.1 = some j ∧ (jw_fold (Ws v) L (C.2.2.1 j)).1.2.2.2.2 = (Ws v).2.2.2.2 ∧ (jw_fold (Ws v) L (C.2.2.1 j)).1.1 13 = (Ws v).1 13 ∧ rk (jw_fold (Ws v) L (C.2.2.1 j)).1 < rk (Ws v)) := by
    intro h1 h3
    rw [jw_fold]
    split
    · rename_i hlt
      split
      · split
        · refine Or.inr ⟨hj, rfl, rfl, ?_⟩
          show rk (jw_sg (jw_sP (Ws v) 2 _) 15 _) < _
          rw [rk, rk]
          rw [if_neg h1, if_neg h3]
          rw [if_neg (show ¬ (jw_sg (jw_sP (Ws v) 2 _) 15 _).1 12 = 1 from h1), if_neg (show ¬ (jw_sg (jw_sP (Ws v) 2 _) 15 _).1 12 = 3 from h3)]
          show ((Ws v).2.2.2.1 1).length - jx_eok ((Ws v).2.2.2.1 1) ((Ws v).1 15) + 1 < _
          have : (Ws v).1 15 < jx_eok ((Ws v).2.2.2.1 1) ((Ws v).1 15) := by rw [jx_eok]; omega
          omega
        · exact hend _ _ _ (Or.inr rfl) rfl rfl
      · exact hend _ _ _ (Or.inr rfl) rfl rfl
    · rw [jw_keep]
      split
      · split
        · exact hend _ _ _ (Or.inl rfl) rfl rfl
        · exact hend _ _ _ (Or.inr rfl) rfl rfl
      · split
        · exact hend _ _ _ (Or.inl rfl) rfl rfl
        · exact hend _ _ _ (Or.inr rfl) rfl rfl
  rcases b5 with ⟨c1, c2, c3⟩ | ⟨c1, _⟩ | ⟨c1, c2, ls, c3, c4, c5, c6⟩ | ⟨c1, _⟩
  · rw [if_pos c1, jw_map]
    have h15 : (Ws v).1 15 ≤ 16 := by
      obtain ⟨e, e1, _⟩ := c3
      have : (me_rec (cI C p) ((Ws v).1 13)).length ≤ 16 := by rw [me_rec, List.length_take]; exact Nat.min_le_left _ _
      omega
    have hrk0 : rk (Ws v) = 200 - (Ws v).1 15 := by rw [rk, if_pos c1]
    split
    · split
      · split
        · intro _
          refine Or.inr ⟨hj, rfl, rfl, ?_⟩
          rw [hrk0, rk, if_pos (show (jw_spill (jw_m1 (Ws v) (jb_in C.2.1 (cF C kc) j) (C.2.2.1 j 0))).1 12 = 1 from c1)]
          show 200 - ((Ws v).1 15 + 1) < _
          omega
        · intro _
          refine Or.inr ⟨hj, rfl, rfl, ?_⟩
          rw [hrk0, rk, if_pos (show (jw_m1 (Ws v) (jb_in C.2.1 (cF C kc) j) (C.2.2.1 j 0)).1 12 = 1 from c1)]
          show 200 - ((Ws v).1 15 + 1) < _
          omega
      · intro _; exact hend _ _ _ (Or.inr rfl) rfl rfl
    · intro hst2
      have e0 : (jw_merge (Ws v) (C.2.2.1 j 1)).2.1 = some j ∧ (jw_merge (Ws v) (C.2.2.1 j 1)).2.2.2.2 = (Ws v).2.2.2.2 ∧ (jw_merge (Ws v) (C.2.2.1 j 1)).1 13 = (Ws v).1 13 ∧ (jw_merge (Ws v) (C.2.2.1 j 1)).1 12 = 2 := by
        rw [jw_merge]
        split
        · exact ⟨hj, rfl, rfl, rfl⟩
        · exact ⟨hj, rfl, rfl, rfl⟩
      have hs2 := hst2 j e0.1 e0.2.1
      refine Or.inr ⟨e0.1, e0.2.1, e0.2.2.1, ?_⟩
      have hs2' : wSt C (jx_up Ws v (jw_merge (Ws v) (C.2.2.1 j 1))) p (jw_merge (Ws v) (C.2.2.1 j 1)) := hs2
      show rk (jw_merge (Ws v) (C.2.2.1 j 1)) < _
      rw [hrk0, rk, if_neg (by rw [e0.2.2.2]; decide), if_neg (by rw [e0.2.2.2]; decide)]
      rcases hs2' with ⟨z, _⟩ | ⟨_, _, _, z, _⟩ | ⟨z, _⟩ | ⟨z, _⟩
      · rw [e0.2.2.2] at z; exact absurd z (by decide)
      · omega
      · rw [e0.2.2.2] at z; exact absurd z (by decide)
      · rw [e0.2.2.2] at z; exact absurd z (by decide)
  · rw [if_neg (by rw [c1]; decide), if_neg (by rw [c1]; decide)]
    intro _
    exact hfold (by rw [c1]; decide) (by rw [c1]; decide)
  · rw [if_neg (by rw [c1]; decide), if_pos c1]
    have hls := cA_len c3
    have h38' : me_ns (cI C p) ≤ 38 := me_ns_38 (cI_600 hC)
    have h11 : (Ws v).1 11 = ls.length := c5.1
    have hrk0 : rk (Ws v) = 1003 + 6 * pgs (Ws v) + (if (Ws v).1 17 = 0 then 0 else 5 - (Ws v).1 17) := by rw [rk, if_neg (by rw [c1]; decide), if_pos c1]
    have hnp : jc_np C.1 C.2.1 (Ws v).2.2.2.2.1 = cN C p := by rw [p1]; exact (cC_j p2 h8).2
    intro hst2
    by_cases hlt : (Ws v).1 15 < (Ws v).1 11
    · obtain ⟨u, u1, u2, u3⟩ := c6 ((Ws v).1 15) (by omega)
      have hu : ji ((Ws v).2.2.1 ((Ws v).1 15)) = u := by rw [u2]; exact ji_of (by omega)
      revert hst2
      rw [jw_fo1, hnp, hu, jw_fo, if_pos hlt]
      by_cases huv : u = (Ws v).1 0
      · rw [if_pos huv]
        intro _
        have huv2 : u = v := huv.trans w1
        subst huv2
        have hl : ∃ l, (Ws u).2.2.2.2.2 ((Ws u).1 15) = some l := by
          rcases u3 with ⟨l, _, a2⟩ | ⟨q, a1, a2, a3⟩
          · exact ⟨l, a2⟩
          · have := jx_inj (by omega) (by omega) (a1.symm.trans p1); omega
        obtain ⟨l, hl⟩ := hl
        have hmine : ∃ f sl, jw_mine (Ws u) (cN C p) = jd_page f ((Ws u).1 16) sl ∧ sl.length ≤ l.length ∧ f 2 = 5 ∧ f 5 = (Ws u).2.2.2.2.1 ∧ f 6 = Int32.ofNat ((Ws u).1 15) ∧ f 7 = Int32.ofNat ((Ws u).1 13) - 38 ∧ f 8 = Int32.ofNat ((Ws u).1 16) := by
          refine ⟨jw_pf (Ws u) (Int32.ofNat ((Ws u).1 0)) ((Ws u).1 15) (Int32.ofNat ((Ws u).1 13) - 38) ((Ws u).1 16), _, ?_, sel_len (np := cN C p) (t := (Ws u).1 15) (r := jw_pf (Ws u) (Int32.ofNat ((Ws u).1 0)) ((Ws u).1 15) (Int32.ofNat ((Ws u).1 13) - 38) ((Ws u).1 16) 7), rfl, rfl, rfl, rfl, rfl⟩
          rw [jw_mine, jw_pg, hl]; rfl
        obtain ⟨f, sl, hm, hsl, f2, f5, f6, f7, f8⟩ := hmine
        obtain ⟨g1, g2, g3, _⟩ := jd_page_f f ((Ws u).1 16) sl
        have han : jw_an (Ws u) (jw_mine (Ws u) (cN C p)) = true := by
          refine decide_eq_true ?_
          rw [hm, g3 2 (by decide) (by decide), g3 5 (by decide) (by decide), g3 6 (by decide) (by decide), g3 7 (by decide) (by decide), g3 8 (by decide) (by decide)]
          exact ⟨f2, f5, f6, f7, f8⟩
        have hao := (act_fetch hC hi hv hj b1 p1 p2 p3 b2 b3 c1 c2 c3 c4 c5 c6).1.2.2.2.2 hlt (by rw [hu]; exact huv)
        rw [hnp] at hao
        have hao2 := (hao.2 han).2.2.1
        have hll : l.length ≤ 4000 := cT_len hC (p4 _ l (by omega) hl).1 (p4 _ l (by omega) hl).2
        have hdec := pgs_dec hlt hm (by omega) hao2
        rw [jw_hp, if_pos c1, if_pos han]
        have hsm := jw_pg2_sm (W := Ws u) (m := jw_mine (Ws u) (cN C p)) (k := ji ((jw_mine (Ws u) (cN C p)).1 9)) (tt := ji ((jw_mine (Ws u) (cN C p)).1 10))
        refine Or.inr ⟨hsm.2.2.2.2.1.trans hj, hsm.2.2.2.2.2.2.2.2, hsm.2.2.1, ?_⟩
        rw [hrk0]
        show rk (jw_pg2 _ _ _ _) < _
        rw [rk, if_neg (by rw [hsm.2.1, c1]; decide), if_pos (hsm.2.1.trans c1), hsm.2.2.2.1, if_neg (by decide)]
        omega
      · rw [if_neg huv]
        have h17 : (Ws v).1 17 ≠ 0 := fun e => hs ⟨c1, hlt, e, u, u1, by rw [← w1]; exact huv, u2⟩
        split
        · intro _
          refine Or.inr ⟨hj, rfl, rfl, ?_⟩
          show rk (jw_sg (Ws v) 17 ((Ws v).1 17 + 1)) < _
          rw [hrk0, rk, if_neg (show ¬ (jw_sg (Ws v) 17 ((Ws v).1 17 + 1)).1 12 = 1 by rw [show (jw_sg (Ws v) 17 ((Ws v).1 17 + 1)).1 12 = (Ws v).1 12 from rfl, c1]; decide), if_pos (show (jw_sg (Ws v) 17 ((Ws v).1 17 + 1)).1 12 = 3 from c1)]
          show 1003 + 6 * pgs (Ws v) + (if (Ws v).1 17 + 1 = 0 then 0 else 5 - ((Ws v).1 17 + 1)) < _
          rw [if_neg (by omega), if_neg h17]
          omega
        · intro _
          refine Or.inr ⟨hj, rfl, rfl, ?_⟩
          show rk (jw_sg (jw_sg (Ws v) 17 ((Ws v).1 17 + 1)) 17 0) < _
          rw [hrk0, rk, if_neg (show ¬ (jw_sg (jw_sg (Ws v) 17 ((Ws v).1 17 + 1)) 17 0).1 12 = 1 by rw [show (jw_sg (jw_sg (Ws v) 17 ((Ws v).1 17 + 1)) 17 0).1 12 = (Ws v).1 12 from rfl, c1]; decide), if_pos (show (jw_sg (jw_sg (Ws v) 17 ((Ws v).1 17 + 1)) 17 0).1 12 = 3 from c1)]
          show 1003 + 6 * pgs (Ws v) + (if (0 : Nat) = 0 then 0 else 5 - 0) < _
          rw [if_pos rfl, if_neg h17]
          omega
    · revert hst2
      rw [jw_fo1, jw_fo, if_neg hlt]
      intro hst2
      have hs2 : wSt C (jx_up Ws v (jw_red (Ws v))) p (jw_red (Ws v)) := hst2 j hj rfl
      refine Or.inr ⟨hj, rfl, rfl, ?_⟩
      show rk (jw_red (Ws v)) < _
      have e12 : (jw_red (Ws v)).1 12 = 4 := rfl
      rw [hrk0, rk, if_neg (by rw [e12]; decide), if_neg (by rw [e12]; decide)]
      rcases hs2 with ⟨z, _⟩ | ⟨z, _⟩ | ⟨z, _⟩ | ⟨_, _, _, z⟩
      · rw [e12] at z; exact absurd z (by decide)
      · rw [e12] at z; exact absurd z (by decide)
      · rw [e12] at z; exact absurd z (by decide)
      · omega
  · rw [if_neg (by rw [c1]; decide), if_neg (by rw [c1]; decide)]
    intro _
    exact hfold (by rw [c1]; decide) (by rw [c1]; decide)
end BUSY
