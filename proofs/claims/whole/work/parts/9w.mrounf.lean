/-! finish comes to an end: a tick of the Master, and what has come of it -/
section MROUNE
variable {C : Jc} {Ws : Nat → Jw} {L L' : Jn} {kc ck v w x y s r q u d p t t0 j : Nat} {K K' K2 : Jk} {R : Jr} {m m0 f : Jm}
theorem QK_of (h : QQ r 6 Ws L) : QK r Ws (jn_up L 6) ∧ ∀ v, v < 6 → ((jn_up L 6).1 v).countP lG = 0 := by
  obtain ⟨⟨q1, q2, q3, q4, q5, q6, q7, q8⟩, ⟨hI1, hI2⟩, hN⟩ := h
  refine ⟨⟨q1, fun x hx => ?_, fun s x hs hx z => ?_, fun x hx => ?_, fun hr s hs => q5 s (by omega) (Or.inl ⟨hs, hr⟩), fun hr v hv => ?_, fun hr v hv z => ?_⟩, fun v hv => q7 v hv hv⟩
  · show jx_up L.2.1 6 false x = false
    by_cases e : x = 6
    · rw [e, up_eq]
    · rw [up_ne _ _ e]; exact q2 x hx (by omega)
  · have := (q3 s x hs hx z).1 hs; omega
  · cases e : (L.1 x).countP (lF 6) with
    | zero => exact e
    | succ n => have := q4 x hx (by omega); omega
  · have a1 := q6 hr v hv
    have a2 := q7 v hv hv
    rw [if_pos hv] at a1
    show (L.1 6).countP (lA v) + (L.1 v).countP lG ≤ 1
    omega
  · have a2 := q7 v hv hv
    have z' : 0 < (L.1 6).countP (lA v) + (L.1 v).countP lG := z
    exact hI1 hr v hv (by omega)
/-- what waits for workers stays -/
theorem m_sub (hC : CK C) (hi : IV C Ws L kc) (h : IM C Ws false kc ck R K) (hQ : QK r Ws L) : QK r Ws (jk_hears C.1 C.2.1 (L.1 6).length (K, L, R)).2.1 ∧ ∀ m x, x < 6 → m ∈ L.1 x → m ∈ (jk_hears C.1 C.2.1 (L.1 6).length (K, L, R)).2.1.1 x := by
  obtain ⟨k1, _⟩ := mhears_ind (Ws := Ws) (kc := kc) (ck := ck) hC (P := fun _ L' _ => QK r Ws L' ∧ ∀ m x, x < 6 → m ∈ L.1 x → m ∈ L'.1 x) (fun K' L' R' m l _ _ hP hib _ => ⟨QK_pop hP.1 hib, fun m' x hx hm' => by
      show m' ∈ jx_up L'.1 6 l x
      rw [up_ne _ _ (by omega)]; exact hP.2 m' x hx hm'⟩) (fun K' L' R' m l _ h' hP hib _ hm => ⟨QK_step hP.1 hib hm, fun m' x hx hm' => sub_hear (by exact hP.1.1) hm (by
      show m' ∈ jx_up L'.1 6 l x
      rw [up_ne _ _ (by omega)]; exact hP.2 m' x hx hm')⟩) (L.1 6).length K L R hi h ⟨hQ, fun _ _ _ z => z⟩ (Nat.le_refl _)
  exact k1
/-- the Master's tick, taken apart -/
theorem m_apart (hC : CK C) (hi : IV C Ws L kc) (h : IM C Ws false kc ck R K) (hdn : L.2.1 6 = false) (hQ : QQ r 6 Ws L) : ∃ K1 L1 R1, jk_hears C.1 C.2.1 ((jn_up L 6).1 6).length (jk_tick K, jn_up L 6, R) = (K1, L1, R1) ∧ jk_work C.1 C.2.1 (cF C kc) K L R = jk_fin C.1 C.2.1 (cF C kc) K1 L1 R1 ∧ IM C Ws false kc (ck + 1) R (jk_tick K) ∧ ME C kc K K1 ∧ IV C Ws L1 kc ∧ IM C Ws false kc (ck + 1) R1 K1 ∧ QK r Ws L1 ∧ ∀ m x, x < 6 → m ∈ L.1 x → m ∈ L1.1 x := by
  have hup : jk_up C.1 C.2.1 (cF C kc) K L R = K := by rw [jk_up, hdn]; rfl
  have ht := m_tick (L := L) h hdn
  rw [hup] at ht
  have hQ' := (QK_of hQ).1
  obtain ⟨a1, a2, a3⟩ := m_ME (L := jn_up L 6) hC hi ht
  obtain ⟨b1, b2⟩ := m_sub (L := jn_up L 6) hC hi ht hQ'
  have hz : ∀ z : Jy, jk_hears C.1 C.2.1 ((jn_up L 6).1 6).length (jk_tick K, jn_up L 6, R) = z → ∃ K1 L1 R1, jk_hears C.1 C.2.1 ((jn_up L 6).1 6).length (jk_tick K, jn_up L 6, R) = (K1, L1, R1) ∧ jk_work C.1 C.2.1 (cF C kc) K L R = jk_fin C.1 C.2.1 (cF C kc) K1 L1 R1 ∧ IM C Ws false kc (ck + 1) R (jk_tick K) ∧ ME C kc K K1 ∧ IV C Ws L1 kc ∧ IM C Ws false kc (ck + 1) R1 K1 ∧ QK r Ws L1 ∧ ∀ m x, x < 6 → m ∈ L.1 x → m ∈ L1.1 x := by
    intro z hz
    obtain ⟨K1, L1, R1⟩ := z
    rw [hz] at a1 a2 a3 b1 b2
    refine ⟨K1, L1, R1, hz, ?_, ht, ?_, a2, a3, b1, b2⟩
    · rw [jk_work, jk_body, hup, jk_heard, hz]
    · exact ME.trans (ME_same rfl rfl rfl rfl rfl rfl rfl rfl) a1
  exact hz _ rfl
/-- one tick -/
theorem m_round {ask dne : Prop} (hC : CK C) (hi : IV C Ws L kc) (h : IM C Ws false kc ck R K) (hdn : L.2.1 6 = false) (hr : 2 ≤ r) (hQ : QQ r 6 Ws L) (hF : FM C kc K L) (hov : jk_over C.1 K = false) (hw : w < 6)
    (hask : ask → ∃ m, m ∈ L.1 6 ∧ m.1 2 = 0 ∧ m.1 3 = Int32.ofNat w) (hav : ask → ∃ t0, AV C kc K w t0) (hd : dne → ∃ m t, m ∈ L.1 6 ∧ (m.1 2 = 2 ∨ m.1 2 = 3) ∧ m.1 5 = Int32.ofNat kc ∧ m.1 6 = Int32.ofNat t ∧ t < 44 ∧ K.2.2.2.1 t = -1) :
    jk_over C.1 (jk_work C.1 C.2.1 (cF C kc) K L R).1 = true
    ∨ (jk_work C.1 C.2.1 (cF C kc) K L R).2.2.1.2.1 = kc + 1
    ∨ ((jk_work C.1 C.2.1 (cF C kc) K L R).2.2.1.2.1 = kc ∧ (jk_work C.1 C.2.1 (cF C kc) K L R).1.1 11 = K.1 11 ∧ K.1 12 + K.1 13 < (jk_work C.1 C.2.1 (cF C kc) K L R).1.1 12 + (jk_work C.1 C.2.1 (cF C kc) K L R).1.1 13 ∧ K.1 12 ≤ (jk_work C.1 C.2.1 (cF C kc) K L R).1.1 12 ∧ K.1 13 ≤ (jk_work C.1 C.2.1 (cF C kc) K L R).1.1 13 ∧ gG C kc (jk_work C.1 C.2.1 (cF C kc) K L R).1 ≤ gG C kc K + 5)
    ∨ (((jk_work C.1 C.2.1 (cF C kc) K L R).2.2.1.2.1 = kc ∧ (jk_work C.1 C.2.1 (cF C kc) K L R).1.1 11 = K.1 11 ∧ (jk_work C.1 C.2.1 (cF C kc) K L R).1.2.2.2.1 = K.2.2.2.1 ∧ (jk_work C.1 C.2.1 (cF C kc) K L R).1.1 12 = K.1 12 ∧ (jk_work C.1 C.2.1 (cF C kc) K L R).1.1 13 = K.1 13) ∧ (gG C kc (jk_work C.1 C.2.1 (cF C kc) K L R).1 ≤ gG C kc K ∧ (K.1 13 = cN C kc → gG C kc (jk_work C.1 C.2.1 (cF C kc) K L R).1 < gG C kc K)) ∧ (∀ v, v < 6 → ∀ m, m ∈ (jk_work C.1 C.2.1 (cF C kc) K L R).2.1.1 v → m.1 2 = 1 → GG kc K m) ∧ ((∃ v m, v < 6 ∧ m ∈ (jk_work C.1 C.2.1 (cF C kc) K L R).2.1.1 v ∧ m.1 2 = 1) ∨ ((jk_work C.1 C.2.1 (cF C kc) K L R).1.2.2.2.2.1 = K.2.2.2.2.1 ∧ ¬ ask)) ∧ ¬ dne) := by
  obtain ⟨K1, L1, R1, hz, hwk, ht, hME, hi1, hm1, hQ1, hsub⟩ := m_apart hC hi h hdn hQ
  have hQ' := QK_of hQ
  obtain ⟨e9, e11, ec, e12, e13, eg, e17⟩ := hME
  obtain ⟨hJ, hK⟩ := IM_J rfl h
  obtain ⟨hJ1, hK1⟩ := IM_J rfl hm1
  obtain ⟨j1, j2, j3, j4, j5⟩ := m_job hC hJ hK hov
  have hR1 : R1.2.1 = kc := hJ1.1
  rw [hwk]
  -- what the messages have done
  have hpage : K.1 13 = cN C kc → K.1 17 < cN C kc → K.1 19 = 0 → jk_over C.1 K1 = true ∨ K1.1 19 = 4 := by
    intro h13 h17 h19
    obtain ⟨_, _, hp⟩ := parts_all hC hJ (over_not hov).1 j1 (Nat.le_of_eq h13.symm)
    obtain ⟨u, hu, hu2⟩ := hp _ h17
    rcases hF hov h13 h17 h19 u hu hu2 with g | ⟨m, g1, g2, g3, g4, g5, g6⟩ | ⟨m, _, _, _, g4⟩
    · exfalso
      have h0 : 0 < (L.1 u).countP (lF 6) := List.countP_pos_iff.2 ⟨_, g, decide_eq_true ⟨rfl, rfl⟩⟩
      have := hQ'.1.2.2.2.1 u hu
      have this' : (L.1 u).countP (lF 6) = 0 := this
      omega
    · have han : jk_an (jk_tick K) m = true := decide_eq_true ⟨g2, g3, g4, g5, g6⟩
      have := m_page (L := jn_up L 6) hC hi ht hQ'.1 g1 han
      rw [hz] at this
      rcases this with z | ⟨_, z⟩
      · exact Or.inl z
      · exact Or.inr z
    · omega
  have hgive := m_ask (L := jn_up L 6) (ask := ask) hC hi ht hQ'.1 (by omega) hQ'.2 hw hask hav
  rw [hz] at hgive
  have hdone : dne → jk_over C.1 K1 = true ∨ K.1 12 + K.1 13 < K1.1 12 + K1.1 13 := by
    intro hd'
    obtain ⟨m, t, d1, d2, d3, d4, d5, d6⟩ := hd hd'
    have := m_done (L := jn_up L 6) hC hi ht hQ'.1 d1 d2 d3 d4 d5 d6
    rw [hz] at this
    exact this
  rcases fin_cases hC hm1 L1 with ⟨f1, f2⟩ | ⟨f1, f2, f3⟩ | ⟨f1, f2, f3, f4, f5⟩ | ⟨f1, f2, f3, f4, u, f5, f6, f7⟩ | ⟨f1, f2, f3, f4, f5⟩
  · rw [f2]; exact Or.inl f1
  · rw [f3]
    refine Or.inr (Or.inr ?_)
    rcases ec with ⟨c1, c2, c3⟩ | ec
    · refine Or.inr ⟨⟨hR1, e11, c1, c2, c3⟩, ⟨eg, fun z => absurd (c3.trans z) f2⟩, ?_⟩
      rcases hgive with g | g | ⟨g1, g2⟩
      · have g' : jk_over C.1 K1 = true := g
        rw [f1] at g'; cases g'
      · have g' : K.1 12 + K.1 13 < K1.1 12 + K1.1 13 := g
        omega
      · exact ⟨g1, g2, fun z => by rcases hdone z with y | y; rw [f1] at y; cases y; omega⟩
    · exact Or.inl ⟨hR1, e11, ec, e12, e13, by show gG C kc K1 ≤ _; omega⟩
  · rw [f5]
    have hgv : ∀ K2, K2 = jk_sg K1 19 (K1.1 19 + 1) → gG C kc K2 = 7 * ((cN C kc - K1.1 17) * 252 + (4000 - K1.1 18) / 16) + (5 - (K1.1 19 + 1)) := fun K2 e => by
      rw [e]
      show 7 * ((cN C kc - K1.1 17) * 252 + (4000 - K1.1 18) / 16) + (if K1.1 19 + 1 = 0 then 0 else 5 - (K1.1 19 + 1)) = _
      rw [if_neg (by omega)]
    have hg1 : 7 * ((cN C kc - K1.1 17) * 252 + (4000 - K1.1 18) / 16) ≤ gG C kc K1 := by rw [gG]; exact Nat.le_add_right _ _
    refine Or.inr (Or.inr ?_)
    rcases ec with ⟨c1, c2, c3⟩ | ec
    · have hlt : gG C kc (jk_sg K1 19 (K1.1 19 + 1)) < gG C kc K := by
        have h0 : K1.1 19 ≠ 0 := by
          intro z
          rcases e17 with ⟨d1, d2, d3⟩ | ⟨_, d⟩
          · rcases hpage (c3.symm.trans f2) (by rw [← d1]; exact f3) (by rw [← d3]; exact z) with y | y
            · rw [f1] at y; cases y
            · omega
          · omega
        have h1 : gG C kc K1 = 7 * ((cN C kc - K1.1 17) * 252 + (4000 - K1.1 18) / 16) + (5 - K1.1 19) := by rw [gG, if_neg h0]
        rw [hgv _ rfl]
        omega
      refine Or.inr ⟨⟨hR1, e11, c1, c2, c3⟩, ⟨Nat.le_of_lt hlt, fun _ => hlt⟩, ?_⟩
      rcases hgive with g | g | ⟨g1, g2⟩
      · have g' : jk_over C.1 K1 = true := g
        rw [f1] at g'; cases g'
      · have g' : K.1 12 + K.1 13 < K1.1 12 + K1.1 13 := g
        omega
      · exact ⟨g1, g2, fun z => by rcases hdone z with y | y; rw [f1] at y; cases y; omega⟩
    · refine Or.inl ⟨hR1, e11, ec, e12, e13, ?_⟩
      show gG C kc (jk_sg K1 19 (K1.1 19 + 1)) ≤ _
      rw [hgv _ rfl]
      omega
  · rw [f7]
    have hgv : gG C kc (jk_sg (jk_sg K1 19 (K1.1 19 + 1)) 19 0) = 7 * ((cN C kc - K1.1 17) * 252 + (4000 - K1.1 18) / 16) := rfl
    have h1 : gG C kc K1 = 7 * ((cN C kc - K1.1 17) * 252 + (4000 - K1.1 18) / 16) + 1 := by rw [gG, f4, if_neg (by decide)]
    refine Or.inr (Or.inr ?_)
    rcases ec with ⟨c1, c2, c3⟩ | ec
    · refine Or.inr ⟨⟨hR1, e11, c1, c2, c3⟩, ⟨?_, fun _ => ?_⟩, ?_⟩
      · show gG C kc (jk_sg (jk_sg K1 19 (K1.1 19 + 1)) 19 0) ≤ _
        rw [hgv]; omega
      · show gG C kc (jk_sg (jk_sg K1 19 (K1.1 19 + 1)) 19 0) < _
        rw [hgv]; omega
      · rcases hgive with g | g | ⟨g1, g2⟩
        · have g' : jk_over C.1 K1 = true := g
          rw [f1] at g'; cases g'
        · have g' : K.1 12 + K.1 13 < K1.1 12 + K1.1 13 := g
          omega
        · refine ⟨fun v hv m hm hk => ?_, ?_, fun z => by rcases hdone z with y | y; rw [f1] at y; cases y; omega⟩
          · rcases jn_snd_mem hm with e | ⟨_, e⟩
            · exact g1 v hv m e hk
            · rw [e] at hk
              have hk' : (4 : Int32) = 1 := hk
              exact absurd hk' (by decide)
          · rcases g2 with ⟨v, m, y1, y2, y3⟩ | g2
            · exact Or.inl ⟨v, m, y1, snd_sub hQ1.1.1 hQ1.1.2 y2, y3⟩
            · exact Or.inr g2
    · refine Or.inl ⟨hR1, e11, ec, e12, e13, ?_⟩
      show gG C kc (jk_sg (jk_sg K1 19 (K1.1 19 + 1)) 19 0) ≤ _
      rw [hgv]; omega
  · exact Or.inr (Or.inl f3)
/-- what is in flight behind the Master's tick -/
theorem FV_m (hC : CK C) (hi : IV C Ws L kc) (h : IM C Ws false kc ck R K) (hdn : L.2.1 6 = false) (hQ : QQ r 6 Ws L) (hv : v < 6) {kc' : Nat} (hk : kc ≤ kc') (hf : FV kc v Ws L) : FV kc' v Ws (jk_work C.1 C.2.1 (cF C kc) K L R).2.1 := by
  obtain ⟨K1, L1, R1, hz, hwk, ht, hME, hi1, hm1, hQ1, hsub⟩ := m_apart hC hi h hdn hQ
  have hs2 : ∀ m x, x < 6 → m ∈ L.1 x → m ∈ (jk_work C.1 C.2.1 (cF C kc) K L R).2.1.1 x := by
    intro m x hx hm
    have h1 := hsub m x hx hm
    rw [hwk]
    rcases fin_cases hC hm1 L1 with ⟨f1, f2⟩ | ⟨f1, f2, f3⟩ | ⟨f1, f2, f3, f4, f5⟩ | ⟨f1, f2, f3, f4, u, f5, f6, f7⟩ | ⟨f1, f2, f3, f4, f5⟩
    · rw [f2]; exact h1
    · rw [f3]; exact h1
    · rw [f5]; exact h1
    · rw [f7]; exact snd_sub hQ1.1.1 hQ1.1.2 h1
    · rw [f4]; exact h1
  intro u p a1 a2 a3 a4 a5 a6 a7 a8
  rcases hf u p a1 a2 a3 a4 a5 a6 a7 a8 with g | ⟨m, g1, g2⟩ | ⟨m, g1, g2, g3, g4⟩
  · exact Or.inl (hs2 _ _ a4 g)
  · exact Or.inr (Or.inl ⟨m, hs2 _ _ hv g1, g2⟩)
  · exact Or.inr (Or.inr ⟨m, hs2 _ _ hv g1, g2, g3, by omega⟩)
theorem FM_m (hC : CK C) (hi : IV C Ws L kc) (h : IM C Ws false kc ck R K) (hdn : L.2.1 6 = false) (hr : 2 ≤ r) (hQ : QQ r 6 Ws L) : FM C (jk_work C.1 C.2.1 (cF C kc) K L R).2.2.1.2.1 (jk_work C.1 C.2.1 (cF C kc) K L R).1 (jk_work C.1 C.2.1 (cF C kc) K L R).2.1 := by
  obtain ⟨K1, L1, R1, hz, hwk, ht, hME, hi1, hm1, hQ1, hsub⟩ := m_apart hC hi h hdn hQ
  have hR1 : R1.2.1 = kc := (IM_J rfl hm1).1.1
  rw [hwk]
  rcases fin_cases hC hm1 L1 with ⟨f1, f2⟩ | ⟨f1, f2, f3⟩ | ⟨f1, f2, f3, f4, f5⟩ | ⟨f1, f2, f3, f4, u, f5, f6, f7⟩ | ⟨f1, f2, f3, f4, f5⟩
  · rw [f2]
    intro z
    have z' : jk_over C.1 K1 = false := z
    rw [f1] at z'; cases z'
  · rw [f3]
    intro _ z
    have z' : K1.1 13 = cN C R1.2.1 := z
    rw [hR1] at z'
    exact absurd z' f2
  · rw [f5]
    intro _ _ _ z
    have z' : K1.1 19 + 1 = 0 := z
    omega
  · rw [f7]
    intro _ _ _ _ u' hu' hd'
    have hd'' : K1.2.2.2.1 (38 + K1.1 17) = Int32.ofNat u' := hd'
    have huu : u' = u := jx_inj (by omega) (by omega) (hd''.symm.trans f6)
    subst huu
    refine Or.inl ?_
    show jk_ftm K1 u' ∈ (jn_snd L1 (jk_ftm K1 u') u').1 u'
    exact snd_in hQ1.1.1 hQ1.1.2 (hQ1.2.1 u' (by omega)) (by have := len_K hi1 hQ1 (by omega) f5; omega)
  · intro _ _ _ z
    rw [f5] at z
    omega
end MROUNE
