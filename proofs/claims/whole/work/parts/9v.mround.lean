/-! finish comes to an end: a tick of the Master, whole -/
/-- a GIVE of a task that is not done -/
def GG (kc : Nat) (K : Jk) (m : Jm) : Prop := m.1 5 = Int32.ofNat kc ∧ ∃ t, m.1 6 = Int32.ofNat t ∧ t < 44 ∧ K.2.2.2.1 t = -1 ∧ (K.1 12 < K.1 11 → t < 38)
/-- if worker w asks, it is given a task: that is what t0 is for -/
def AV (C : Jc) (kc : Nat) (K : Jk) (w t0 : Nat) : Prop := K.2.2.2.1 t0 = -1 ∧ (K.2.2.2.2.1 t0 = Int32.ofNat w ∨ K.2.2.2.2.1 t0 = -1) ∧ (K.1 12 < K.1 11 → t0 < K.1 11) ∧ (¬ K.1 12 < K.1 11 → 38 ≤ t0 ∧ t0 < 38 + cN C kc)
section MROUND
variable {C : Jc} {Ws : Nat → Jw} {L L' : Jn} {kc ck v w x y s r q u d p t t0 j : Nat} {K K' K2 : Jk} {R : Jr} {m m0 f : Jm}
theorem len_K (hi : IV C Ws L kc) (h : QK r Ws L) (hr : 1 ≤ r) (hx : x < 6) : (L.1 x).length ≤ 9 := by
  have h1 := len_W (L.1 x) (hi.2.1 x hx)
  have h2 := h.2.2.2.2.2.1 hr x hx
  have h3 : (L.1 x).countP lP ≤ 1 := by
    have := h.2.2.2.2.1 hr x hx
    rw [fS] at this; omega
  have h4 := sumOn_le (f := fun s => (L.1 x).countP (lF s)) (g := fun _ => 1) 7 (fun s hs => by
    by_cases e : s = 6
    · subst e
      show (L.1 x).countP (lF 6) ≤ 1
      rw [h.2.2.2.1 x hx]; exact Nat.zero_le _
    · exact Nat.le_trans (fS_lF hx) (h.2.2.2.2.1 hr s (by omega)))
  have h5 : sumOn (fun _ => 1) 7 = 7 := rfl
  omega
theorem mhear_g (hm : mM C Ws kc m) (K : Jk) (L : Jn) (R : Jr) :
    (m.1 2 = 0 ∧ ∃ u, u < 6 ∧ m.1 3 = Int32.ofNat u ∧ ((jk_tf K (Int32.ofNat u) (jk_np C.2.1 K) = none ∧ jk_hear C.1 C.2.1 K L R m = (K, L, R)) ∨ ∃ t, jk_tf K (Int32.ofNat u) (jk_np C.2.1 K) = some t ∧ jk_hear C.1 C.2.1 K L R m = (jk_give K t u, jn_snd L (jk_gm K t u) u, R)))
    ∨ (m.1 2 ≠ 0 ∧ (jk_hear C.1 C.2.1 K L R m).2.1 = L ∧ (jk_hear C.1 C.2.1 K L R m).1.2.2.2.2.1 = K.2.2.2.2.1) := by
  by_cases h0 : m.1 2 = 0
  · refine Or.inl ⟨h0, ?_⟩
    obtain ⟨u, hu, hu6⟩ : ∃ u, m.1 3 = Int32.ofNat u ∧ u < 6 := by
      rcases hm with ⟨_, h⟩ | ⟨z, _⟩ | ⟨z, _⟩ | ⟨z, _⟩ | ⟨z, _⟩
      · exact h
      all_goals rw [h0] at z; exact absurd z (by decide)
    have hj : ji (m.1 3) = u := by rw [hu]; exact ji_of (by omega)
    refine ⟨u, hu6, hu, ?_⟩
    rw [jk_hear, if_pos h0, hj, jk_ask]
    cases ht : jk_tf K (Int32.ofNat u) (jk_np C.2.1 K) with
    | none => exact Or.inl ⟨rfl, rfl⟩
    | some t => exact Or.inr ⟨t, rfl, rfl⟩
  · refine Or.inr ⟨h0, ?_⟩
    rw [jk_hear, if_neg h0]
    split
    · split
      · refine ⟨rfl, ?_⟩
        show (jk_done C.1 K R m (ji (m.1 6)) (ji (m.1 9))).1.2.2.2.2.1 = _
        rw [jk_done]
        split
        · split
          · show (jk_note K (ji (m.1 6)) (m.1 3) (ji (m.1 9))).2.2.2.2.1 = _
            rw [(note_g _ _ _).1]
          · show (jk_note K (ji (m.1 6)) (m.1 3) (ji (m.1 9))).2.2.2.2.1 = _
            rw [(note_g _ _ _).1]
        · rfl
      · split
        · exact ⟨rfl, rfl⟩
        · split
          · refine ⟨rfl, ?_⟩
            show (jk_hp K m (ji (m.1 9)) (ji (m.1 10))).2.2.2.2.1 = _
            rw [jk_hp]
            split
            · exact (pg2_g _ _).1
            · rfl
          · exact ⟨rfl, rfl⟩
    · exact ⟨rfl, rfl⟩
/-- the Master gives tasks -/
theorem m_ask {ask : Prop} (hC : CK C) (hi : IV C Ws L kc) (h : IM C Ws false kc ck R K) (hQ : QK r Ws L) (hr : 1 ≤ r) (hG0 : ∀ v, v < 6 → (L.1 v).countP lG = 0) (hw : w < 6) (hask : ask → ∃ m, m ∈ L.1 6 ∧ m.1 2 = 0 ∧ m.1 3 = Int32.ofNat w) (hav : ask → ∃ t0, AV C kc K w t0) :
    jk_over C.1 (jk_hears C.1 C.2.1 (L.1 6).length (K, L, R)).1 = true ∨ K.1 12 + K.1 13 < (jk_hears C.1 C.2.1 (L.1 6).length (K, L, R)).1.1 12 + (jk_hears C.1 C.2.1 (L.1 6).length (K, L, R)).1.1 13
    ∨ ((∀ v, v < 6 → ∀ m, m ∈ (jk_hears C.1 C.2.1 (L.1 6).length (K, L, R)).2.1.1 v → m.1 2 = 1 → GG kc K m) ∧ ((∃ v m, v < 6 ∧ m ∈ (jk_hears C.1 C.2.1 (L.1 6).length (K, L, R)).2.1.1 v ∧ m.1 2 = 1) ∨ ((jk_hears C.1 C.2.1 (L.1 6).length (K, L, R)).1.2.2.2.2.1 = K.2.2.2.2.1 ∧ ¬ ask))) := by
  have h9 : K.1 9 = kc := (IM_J rfl h).1.2.2.1
  obtain ⟨⟨_, _, k1⟩, _, _, k4⟩ := mhears_ind (Ws := Ws) (kc := kc) (ck := ck) hC (P := fun K' L' _ => QK r Ws L' ∧ ME C kc K K' ∧ (jk_over C.1 K' = true ∨ K.1 12 + K.1 13 < K'.1 12 + K'.1 13 ∨ ((K'.2.2.2.1 = K.2.2.2.1 ∧ K'.1 12 = K.1 12) ∧ (∀ v, v < 6 → ∀ m, m ∈ L'.1 v → m.1 2 = 1 → GG kc K m) ∧ ((∃ v m, v < 6 ∧ m ∈ L'.1 v ∧ m.1 2 = 1) ∨ (K'.2.2.2.2.1 = K.2.2.2.2.1 ∧ (ask → ∃ m, m ∈ L'.1 6 ∧ m.1 2 = 0 ∧ m.1 3 = Int32.ofNat w)))))) (fun K' L' R' m l _ _ hP hib hov => ⟨QK_pop hP.1 hib, hP.2.1, Or.inl hov⟩) (fun K' L' R' m l hi' h' hP hib hov hm => by
    obtain ⟨p1, p2, p3⟩ := hP
    have hme := ME_hear hC h' hm (jn_pop L' 6 l)
    refine ⟨QK_step p1 hib hm, p2.trans hme, ?_⟩
    rcases p3 with p3 | p3 | ⟨⟨p3, p3'⟩, p4, p5⟩
    · rw [hov] at p3; cases p3
    · have := hme.2.2.2.1
      have := hme.2.2.2.2.1
      exact Or.inr (Or.inl (by omega))
    · have hx6 : ∀ v, v < 6 → (jn_pop L' 6 l).1 v = L'.1 v := fun v hv => up_ne _ _ (by omega)
      have h66 : (jn_pop L' 6 l).1 6 = l := up_eq L'.1 6 l
      have h0 : (jn_pop L' 6 l).2.2.1 = 0 ∧ (jn_pop L' 6 l).2.2.2 = 0 := p1.1
      rcases hme.2.2.1 with ⟨c1, c2, c3⟩ | c
      · refine Or.inr (Or.inr ⟨⟨c1.trans p3, c2.trans p3'⟩, ?_⟩)
        rcases mhear_g hm K' (jn_pop L' 6 l) R' with ⟨g0, u, g1, g2, ⟨g3, g4⟩ | ⟨t, g3, g4⟩⟩ | ⟨g0, g1, g2⟩
        · rw [g4]
          refine ⟨fun v hv m' hm' => p4 v hv m' (by rw [← hx6 v hv]; exact hm'), ?_⟩
          rcases p5 with ⟨v, m', q1, q2, q3⟩ | ⟨q1, q2⟩
          · exact Or.inl ⟨v, m', q1, by show m' ∈ (jn_pop L' 6 l).1 v; rw [hx6 v q1]; exact q2, q3⟩
          · refine Or.inr ⟨q1, fun ha => ?_⟩
            obtain ⟨m', s1, s2, s3⟩ := q2 ha
            rw [hib] at s1
            rcases List.mem_cons.1 s1 with e | e
            · subst e
              exfalso
              have huw : u = w := jx_inj (by omega) (by omega) (g2.symm.trans s3)
              subst huw
              obtain ⟨t0, v1, v2, v3, v4⟩ := hav ha
              obtain ⟨hJ', hK'⟩ := IM_J rfl h'
              obtain ⟨j1, j2, j3, j4, j5⟩ := m_job hC hJ' hK' hov
              have h11 := p2.2.1
              rw [jk_tf, j4] at g3
              have hd' : K'.2.2.2.1 t0 = -1 := by rw [p3]; exact v1
              have hg' : K'.2.2.2.2.1 t0 = Int32.ofNat u ∨ K'.2.2.2.2.1 t0 = -1 := by rw [q1]; exact v2
              by_cases hc : K'.1 12 < K'.1 11
              · rw [if_pos hc] at g3
                exact scan_some hd' hg' _ _ _ (Or.inr ⟨Nat.zero_le _, by have := v3 (by omega); omega⟩) g3
              · rw [if_neg hc] at g3
                exact scan_some hd' hg' _ _ _ (Or.inr (v4 (by omega))) g3
            · exact ⟨m', by show m' ∈ (jn_pop L' 6 l).1 6; rw [h66]; exact e, s2, s3⟩
        · rw [g4]
          have hgood : GG kc K (jk_gm K' t u) := by
            obtain ⟨hJ', hK'⟩ := IM_J rfl h'
            obtain ⟨j1, j2, j3, j4, j5⟩ := m_job hC hJ' hK' hov
            have hn6 := (hC.2.2.1 kc j1).2.2.2.2
            have h38 : K'.1 11 ≤ 38 := j5.2.2.2
            have h11 := p2.2.1
            rw [jk_tf, j4] at g3
            refine ⟨by show Int32.ofNat (K'.1 9) = _; rw [p2.1, h9], t, rfl, ?_⟩
            by_cases hc : K'.1 12 < K'.1 11
            · rw [if_pos hc] at g3
              rcases scan_spec _ _ _ _ g3 with z | ⟨z1, z2, z3⟩
              · cases z
              · exact ⟨by omega, by rw [← p3]; exact z3, fun _ => by omega⟩
            · rw [if_neg hc] at g3
              rcases scan_spec _ _ _ _ g3 with z | ⟨z1, z2, z3⟩
              · cases z
              · exact ⟨by omega, by rw [← p3]; exact z3, fun z => by omega⟩
          refine ⟨fun v hv m' hm' hk => ?_, Or.inl ⟨u, jk_gm K' t u, g1, ?_, rfl⟩⟩
          · rcases jn_snd_mem hm' with e | ⟨_, e⟩
            · exact p4 v hv m' (by rw [← hx6 v hv]; exact e) hk
            · rw [e]; exact hgood
          · refine snd_in h0.1 h0.2 (p1.2.1 u (by omega)) ?_
            rw [hx6 u g1]
            have := len_K hi' p1 hr g1
            omega
        · rw [g1, g2]
          refine ⟨fun v hv m' hm' => p4 v hv m' (by rw [← hx6 v hv]; exact hm'), ?_⟩
          rcases p5 with ⟨v, m', q1, q2, q3⟩ | ⟨q1, q2⟩
          · exact Or.inl ⟨v, m', q1, by rw [hx6 v q1]; exact q2, q3⟩
          · refine Or.inr ⟨q1, fun ha => ?_⟩
            obtain ⟨m', s1, s2, s3⟩ := q2 ha
            rw [hib] at s1
            rcases List.mem_cons.1 s1 with e | e
            · subst e; exact absurd s2 g0
            · exact ⟨m', by rw [h66]; exact e, s2, s3⟩
      · have a4 := p2.2.2.2.1
        have a5 := p2.2.2.2.2.1
        exact Or.inr (Or.inl (by omega))) (L.1 6).length K L R hi h ⟨hQ, ME.refl K, Or.inr (Or.inr ⟨⟨rfl, rfl⟩, fun v hv m hm e => by
      have h1 : 0 < (L.1 v).countP lG := List.countP_pos_iff.2 ⟨m, hm, decide_eq_true e⟩
      rw [hG0 v hv] at h1; omega, Or.inr ⟨rfl, hask⟩⟩)⟩ (Nat.le_refl _)
  rcases k1 with k1 | k1 | ⟨_, k2, k3⟩
  · exact Or.inl k1
  · exact Or.inr (Or.inl k1)
  · refine Or.inr (Or.inr ⟨k2, ?_⟩)
    rcases k3 with k3 | ⟨k3, k5⟩
    · exact Or.inl k3
    · refine Or.inr ⟨k3, fun ha => ?_⟩
      obtain ⟨m, z, _⟩ := k5 ha
      rw [k4] at z; cases z
theorem m_ME (hC : CK C) (hi : IV C Ws L kc) (h : IM C Ws false kc ck R K) : ME C kc K (jk_hears C.1 C.2.1 (L.1 6).length (K, L, R)).1 ∧ IV C Ws (jk_hears C.1 C.2.1 (L.1 6).length (K, L, R)).2.1 kc ∧ IM C Ws false kc ck (jk_hears C.1 C.2.1 (L.1 6).length (K, L, R)).2.2 (jk_hears C.1 C.2.1 (L.1 6).length (K, L, R)).1 := by
  obtain ⟨k1, k2, k3, _⟩ := mhears_ind (Ws := Ws) (kc := kc) (ck := ck) hC (P := fun K' _ _ => ME C kc K K') (fun K' L' R' m l _ _ hP _ _ => hP) (fun K' L' R' m l _ h' hP _ _ hm => hP.trans (ME_hear hC h' hm _)) (L.1 6).length K L R hi h (ME.refl K) (Nat.le_refl _)
  exact ⟨k1, k2, k3⟩
/-- what comes behind the messages -/
theorem fin_cases (hC : CK C) (h : IM C Ws false kc ck R K) (L : Jn) :
    (jk_over C.1 K = true ∧ jk_fin C.1 C.2.1 (cF C kc) K L R = (K, L, R, cF C kc))
    ∨ (jk_over C.1 K = false ∧ K.1 13 ≠ cN C kc ∧ jk_fin C.1 C.2.1 (cF C kc) K L R = (K, L, R, cF C kc))
    ∨ (jk_over C.1 K = false ∧ K.1 13 = cN C kc ∧ K.1 17 < cN C kc ∧ K.1 19 + 1 ≤ 4 ∧ jk_fin C.1 C.2.1 (cF C kc) K L R = (jk_sg K 19 (K.1 19 + 1), L, R, cF C kc))
    ∨ (jk_over C.1 K = false ∧ K.1 13 = cN C kc ∧ K.1 17 < cN C kc ∧ K.1 19 = 4 ∧ ∃ u, u < 6 ∧ K.2.2.2.1 (38 + K.1 17) = Int32.ofNat u ∧ jk_fin C.1 C.2.1 (cF C kc) K L R = (jk_sg (jk_sg K 19 (K.1 19 + 1)) 19 0, jn_snd L (jk_ftm K u) u, R, cF C kc))
    ∨ (jk_over C.1 K = false ∧ K.1 13 = cN C kc ∧ (jk_fin C.1 C.2.1 (cF C kc) K L R).2.2.1.2.1 = kc + 1 ∧ (jk_fin C.1 C.2.1 (cF C kc) K L R).2.1 = L ∧ (jk_fin C.1 C.2.1 (cF C kc) K L R).1.1 19 = 4) := by
  obtain ⟨hJ, hK⟩ := IM_J rfl h
  rw [jk_fin]
  cases hov : jk_over C.1 K with
  | true => rw [if_pos rfl]; exact Or.inl ⟨rfl, rfl⟩
  | false =>
    rw [if_neg (by decide)]
    obtain ⟨j1, j2, j3, j4, j5⟩ := m_job hC hJ hK hov
    rw [j2]
    refine Or.inr ?_
    show (false = false ∧ K.1 13 ≠ cN C kc ∧ (if K.1 13 = cN C kc then jk_gath C.1 C.2.1 K L R (cF C kc) (cN C kc) (ji (C.2.1 (cJ C kc) 4)) (ji (K.2.2.2.1 (38 + K.1 17))) else (K, L, R, cF C kc)) = (K, L, R, cF C kc)) ∨ (false = false ∧ K.1 13 = cN C kc ∧ K.1 17 < cN C kc ∧ K.1 19 + 1 ≤ 4 ∧ (if K.1 13 = cN C kc then jk_gath C.1 C.2.1 K L R (cF C kc) (cN C kc) (ji (C.2.1 (cJ C kc) 4)) (ji (K.2.2.2.1 (38 + K.1 17))) else (K, L, R, cF C kc)) = (jk_sg K 19 (K.1 19 + 1), L, R, cF C kc)) ∨ (false = false ∧ K.1 13 = cN C kc ∧ K.1 17 < cN C kc ∧ K.1 19 = 4 ∧ ∃ u, u < 6 ∧ K.2.2.2.1 (38 + K.1 17) = Int32.ofNat u ∧ (if K.1 13 = cN C kc then jk_gath C.1 C.2.1 K L R (cF C kc) (cN C kc) (ji (C.2.1 (cJ C kc) 4)) (ji (K.2.2.2.1 (38 + K.1 17))) else (K, L, R, cF C kc)) = (jk_sg (jk_sg K 19 (K.1 19 + 1)) 19 0, jn_snd L (jk_ftm K u) u, R, cF C kc)) ∨ (false = false ∧ K.1 13 = cN C kc ∧ (if K.1 13 = cN C kc then jk_gath C.1 C.2.1 K L R (cF C kc) (cN C kc) (ji (C.2.1 (cJ C kc) 4)) (ji (K.2.2.2.1 (38 + K.1 17))) else (K, L, R, cF C kc)).2.2.1.2.1 = kc + 1 ∧ (if K.1 13 = cN C kc then jk_gath C.1 C.2.1 K L R (cF C kc) (cN C kc) (ji (C.2.1 (cJ C kc) 4)) (ji (K.2.2.2.1 (38 + K.1 17))) else (K, L, R, cF C kc)).2.1 = L ∧ (if K.1 13 = cN C kc then jk_gath C.1 C.2.1 K L R (cF C kc) (cN C kc) (ji (C.2.1 (cJ C kc) 4)) (ji (K.2.2.2.1 (38 + K.1 17))) else (K, L, R, cF C kc)).1.1 19 = 4)
    by_cases e13 : K.1 13 = cN C kc
    · rw [if_pos e13, jk_gath]
      refine Or.inr ?_
      by_cases e17 : K.1 17 < cN C kc
      · rw [if_pos e17]
        by_cases e19 : K.1 19 + 1 ≤ 4
        · rw [if_pos e19]
          exact Or.inl ⟨rfl, e13, e17, e19, rfl⟩
        · rw [if_neg e19]
          obtain ⟨_, _, hp⟩ := parts_all hC hJ (over_not hov).1 j1 (Nat.le_of_eq e13.symm)
          obtain ⟨u, hu, hu2⟩ := hp _ e17
          have hji : ji (K.2.2.2.1 (38 + K.1 17)) = u := by rw [hu2]; exact ji_of (by omega)
          rw [hji]
          exact Or.inr (Or.inl ⟨rfl, e13, e17, by have := hK.2.2.1; omega, u, hu, hu2, rfl⟩)
      · rw [if_neg e17]
        refine Or.inr (Or.inr ⟨rfl, e13, ?_, rfl, rfl⟩)
        show (jr_w R (1, -1, -1, _)).2.1 = kc + 1
        rw [jr_w, if_pos rfl]
        show R.2.1 + 1 = kc + 1
        rw [hJ.1]
    · rw [if_neg e13]
      exact Or.inl ⟨rfl, e13, rfl⟩
end MROUND
