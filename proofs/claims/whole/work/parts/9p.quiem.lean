/-! finish comes to an end: the Master's tick, and what is on its way behind it -/
section QUIEM
variable {C : Jc} {Ws : Nat → Jw} {L L' : Jn} {kc ck v x y s r q : Nat} {K : Jk} {R : Jr} {m : Jm}
/-- while the Master hears -/
def QK (r : Nat) (Ws : Nat → Jw) (L : Jn) : Prop :=
  (L.2.2.1 = 0 ∧ L.2.2.2 = 0) ∧ (∀ x, x < 7 → L.2.1 x = false)
  ∧ (∀ s x, s < 6 → x < 6 → 0 < (L.1 x).countP (lF s) → x < s) ∧ (∀ x, x < 6 → (L.1 x).countP (lF 6) = 0)
  ∧ (1 ≤ r → ∀ s, s < 6 → fS s L ≤ 1)
  ∧ (1 ≤ r → ∀ v, v < 6 → (L.1 6).countP (lA v) + (L.1 v).countP lG ≤ 1)
  ∧ (1 ≤ r → ∀ v, v < 6 → 0 < (L.1 6).countP (lA v) + (L.1 v).countP lG → (Ws v).2.1 = none)
theorem QK_pop {l : List Jm} (h : QK r Ws L) (hib : L.1 6 = m :: l) : QK r Ws (jn_pop L 6 l) := by
  obtain ⟨h1, h2, h3, h4, h5, h6, h7⟩ := h
  refine ⟨h1, h2, fun s x hs hx z => h3 s x hs hx (Nat.lt_of_lt_of_le z (pop_le hib)), fun x hx => Nat.le_zero.1 (Nat.le_trans (pop_le hib) (Nat.le_of_eq (h4 x hx))), fun hr s hs => Nat.le_trans (fS_pop hib) (h5 hr s hs), fun hr v hv => ?_, fun hr v hv z => h7 hr v hv ?_⟩
  · exact Nat.le_trans (Nat.add_le_add (pop_le hib) (pop_le hib)) (h6 hr v hv)
  · exact Nat.lt_of_lt_of_le z (Nat.add_le_add (pop_le hib) (pop_le hib))
theorem QK_step {l : List Jm} (h : QK r Ws L) (hib : L.1 6 = m :: l) (hm : mM C Ws kc m) : QK r Ws (jk_hear C.1 C.2.1 K (jn_pop L 6 l) R m).2.1 := by
  have hp := QK_pop h hib
  rcases mhear_eff hm K (jn_pop L 6 l) R with e | ⟨u, t, e2, e3, hu, _, e⟩
  · rw [e]; exact hp
  · rw [e]
    show QK r Ws (jn_snd (jn_pop L 6 l) (jk_gm K t u) u)
    have h0 := hp.1
    have hk : (jk_gm K t u).1 2 = 1 := rfl
    have hF : ∀ s y, ((jn_snd (jn_pop L 6 l) (jk_gm K t u) u).1 y).countP (lF s) ≤ ((jn_pop L 6 l).1 y).countP (lF s) := fun s y => snd_n h0.1 h0.2 (Or.inr (decide_eq_false (by rw [hk]; rintro ⟨z, _⟩; exact absurd z (by decide))))
    have hA : ∀ v, ((jn_snd (jn_pop L 6 l) (jk_gm K t u) u).1 6).countP (lA v) ≤ ((jn_pop L 6 l).1 6).countP (lA v) := fun v => by rw [snd_ne (by omega)]; exact Nat.le_refl _
    have hpu : ((jn_pop L 6 l).1 6).countP (lA u) + 1 = (L.1 6).countP (lA u) := pop_1 hib (decide_eq_true ⟨e2, e3⟩)
    have hsum : ∀ v, v < 6 → ((jn_snd (jn_pop L 6 l) (jk_gm K t u) u).1 6).countP (lA v) + ((jn_snd (jn_pop L 6 l) (jk_gm K t u) u).1 v).countP lG ≤ (L.1 6).countP (lA v) + (L.1 v).countP lG := by
      intro v hv
      have a1 := hA v
      have a2 : ((jn_pop L 6 l).1 6).countP (lA v) ≤ (L.1 6).countP (lA v) := pop_le hib
      have a3 : ((jn_pop L 6 l).1 v).countP lG ≤ (L.1 v).countP lG := pop_le hib
      by_cases ev : v = u
      · subst ev
        have a4 := snd_1 (L := jn_pop L 6 l) (m := jk_gm K t v) (x := v) (y := v) (p := lG) h0.1 h0.2
        omega
      · rw [snd_ne ev]
        omega
    obtain ⟨h1, h2, h3, h4, h5, h6, h7⟩ := hp
    refine ⟨by rw [snd_2 h0]; exact h1, by rw [snd_2 h0]; exact h2, fun s x hs hx z => h3 s x hs hx (Nat.lt_of_lt_of_le z (hF s x)), fun x hx => Nat.le_zero.1 (Nat.le_trans (hF 6 x) (Nat.le_of_eq (h4 x hx))), fun hr s hs => Nat.le_trans (fS_n h0.1 h0.2 (Or.inr (Or.inl hk))) (h5 hr s hs), fun hr v hv => Nat.le_trans (hsum v hv) (h.2.2.2.2.2.1 hr v hv), fun hr v hv z => h.2.2.2.2.2.2 hr v hv (Nat.lt_of_lt_of_le z (hsum v hv))⟩
/-- the Master gathers: a FETCH to a worker, or none -/
theorem fin_eff (hC : CK C) (h : IM C Ws false kc ck R K) (L : Jn) :
    (jk_fin C.1 C.2.1 (cF C kc) K L R).2.1 = L
    ∨ ∃ u, u < 6 ∧ jk_over C.1 K = false ∧ K.1 13 = cN C kc ∧ K.1 17 < cN C kc ∧ K.2.2.2.1 (38 + K.1 17) = Int32.ofNat u ∧ ¬ K.1 19 + 1 ≤ 4 ∧ jk_fin C.1 C.2.1 (cF C kc) K L R = (jk_sg (jk_sg K 19 (K.1 19 + 1)) 19 0, jn_snd L (jk_ftm K u) u, R, cF C kc) := by
  obtain ⟨hJ, hK⟩ := IM_J rfl h
  rw [jk_fin]
  cases hov : jk_over C.1 K with
  | true => rw [if_pos rfl]; exact Or.inl rfl
  | false =>
    rw [if_neg (by decide)]
    obtain ⟨j1, j2, j3, j4, j5⟩ := m_job hC hJ hK hov
    rw [j2]
    simp only
    have hcn : ji (C.2.1 (cJ C kc) 5) = cN C kc := rfl
    rw [hcn]
    by_cases e13 : K.1 13 = cN C kc
    · rw [if_pos e13, jk_gath]
      by_cases e17 : K.1 17 < cN C kc
      · rw [if_pos e17]
        split
        · exact Or.inl rfl
        · rename_i h19
          obtain ⟨_, _, hp⟩ := parts_all hC hJ (over_not hov).1 j1 (Nat.le_of_eq e13.symm)
          obtain ⟨u, hu, hu2⟩ := hp _ e17
          have hji : ji (K.2.2.2.1 (38 + K.1 17)) = u := by rw [hu2]; exact ji_of (by omega)
          rw [hji]
          exact Or.inr ⟨u, hu, trivial, e13, e17, hu2, h19, rfl⟩
      · rw [if_neg e17]; exact Or.inl rfl
    · rw [if_neg e13]; exact Or.inl rfl
/-- the tick of the Master ends the round -/
theorem QQ_mwork {dn : Bool} (hC : CK C) (hi : IV C Ws L kc) (h : IM C Ws dn kc ck R K) (hdn : L.2.1 6 = dn) (hq : QQ r 6 Ws L) : QQ (r + 1) 0 Ws (jk_work C.1 C.2.1 (cF C kc) K L R).2.1 := by
  have ht := m_tick (L := L) h hdn
  obtain ⟨hL, ⟨hI1, hI2⟩, hN⟩ := hq
  obtain ⟨q1, q2, q3, q4, q5, q6, q7, q8⟩ := hL
  have h0 : QK r Ws (jn_up L 6) := by
    refine ⟨q1, fun x hx => ?_, fun s x hs hx z => ?_, fun x hx => ?_, fun hr s hs => q5 s (by omega) (Or.inl ⟨hs, hr⟩), fun hr v hv => ?_, fun hr v hv z => ?_⟩
    · show jx_up L.2.1 6 false x = false
      by_cases e : x = 6
      · rw [e, up_eq]
      · rw [up_ne _ _ e]; exact q2 x hx (by omega)
    · have := (q3 s x hs hx z).1 hs; omega
    · cases e : (L.1 x).countP (lF 6) with
      | zero => exact e
      | succ n => have := q4 x hx (by omega); omega
    · have a1 := q6 hr v hv
      have a2 := q7 v hv hv
      rw [if_pos hv] at a1
      show (L.1 6).countP (lA v) + (L.1 v).countP lG ≤ 1
      omega
    · have a2 := q7 v hv hv
      have z' : 0 < (L.1 6).countP (lA v) + (L.1 v).countP lG := z
      exact hI1 hr v hv (by omega)
  obtain ⟨k1, k2, k3, k4⟩ := mhears_ind (Ws := Ws) (kc := kc) (ck := ck + 1) hC (P := fun _ L _ => QK r Ws L) (fun K L R m l _ _ hP hib _ => QK_pop hP hib) (fun K L R m l _ _ hP hib _ hm => QK_step hP hib hm) ((jn_up L 6).1 6).length _ (jn_up L 6) R hi ht h0 (Nat.le_refl _)
  rw [jk_work, jk_body]
  show QQ (r + 1) 0 Ws (jk_fin C.1 C.2.1 (cF C kc) (jk_hears C.1 C.2.1 ((jn_up L 6).1 6).length (jk_tick (jk_up C.1 C.2.1 (cF C kc) K L R), jn_up L 6, R)).1 (jk_hears C.1 C.2.1 ((jn_up L 6).1 6).length (jk_tick (jk_up C.1 C.2.1 (cF C kc) K L R), jn_up L 6, R)).2.1 (jk_hears C.1 C.2.1 ((jn_up L 6).1 6).length (jk_tick (jk_up C.1 C.2.1 (cF C kc) K L R), jn_up L 6, R)).2.2).2.1
  revert k1 k2 k3 k4
  generalize jk_hears C.1 C.2.1 ((jn_up L 6).1 6).length (jk_tick (jk_up C.1 C.2.1 (cF C kc) K L R), jn_up L 6, R) = z
  obtain ⟨K', L', R'⟩ := z
  intro k1 k2 k3 k4
  show QQ (r + 1) 0 Ws (jk_fin C.1 C.2.1 (cF C kc) K' L' R').2.1
  have k4' : L'.1 6 = [] := k4
  obtain ⟨p1, p2, p3, p4, p5, p6, p7⟩ : QK r Ws L' := k1
  have hz : ∀ p, (L'.1 6).countP p = 0 := fun p => by rw [k4']; rfl
  have hG : r + 1 ≥ 2 → ∀ v, v < 6 → (L'.1 v).countP lG ≤ 1 := fun hr v hv => by have := p6 (by omega) v hv; omega
  have f6 : fS 6 L' = 0 := fS_0 (fun x m hx hm => by
    cases e : lF 6 m with
    | false => rfl
    | true =>
      have : 0 < (L'.1 x).countP (lF 6) := List.countP_pos_iff.2 ⟨m, hm, e⟩
      rw [p4 x hx] at this; omega) k4'
  have base : QQ (r + 1) 0 Ws L' := by
    refine ⟨⟨p1, fun x hx _ => p2 x hx, fun s x hs hx z => ⟨fun z => by omega, fun _ _ => ⟨Nat.zero_le _, p3 s x hs hx z⟩⟩, fun x hx z => Nat.zero_le _, fun s hs g => ?_, fun _ v _ => by rw [hz]; exact Nat.zero_le _, fun v _ z => by omega, hG⟩, ⟨fun _ v _ z => by rw [hz] at z; omega, fun hr v hv z => p7 (by omega) v hv (by omega)⟩, fun _ => by rw [hz]; exact Nat.zero_le _⟩
    by_cases e : s = 6
    · rw [e, f6]; exact Nat.zero_le _
    · exact p5 (by omega) s (by omega)
  rcases fin_eff hC k3 L' with e | ⟨u, hu, _, _, _, _, _, e⟩
  · rw [show (jk_fin C.1 C.2.1 (cF C kc) K' L' R').2.1 = L' from e]; exact base
  · rw [show (jk_fin C.1 C.2.1 (cF C kc) K' L' R').2.1 = jn_snd L' (jk_ftm K' u) u from by rw [show jk_fin C.1 C.2.1 (cF C kc) K' L' R' = _ from e]]
    have hk : (jk_ftm K' u).1 2 = 4 := rfl
    have hk3 : (jk_ftm K' u).1 3 = Int32.ofNat 6 := rfl
    have hF : ∀ s y, s < 6 → ((jn_snd L' (jk_ftm K' u) u).1 y).countP (lF s) ≤ (L'.1 y).countP (lF s) := fun s y hs => snd_n p1.1 p1.2 (Or.inr (decide_eq_false (fun z => by have := jx_inj (by omega) (by omega) (z.2.symm.trans hk3); omega)))
    have hz' : ∀ p, ((jn_snd L' (jk_ftm K' u) u).1 6).countP p = 0 := fun p => by rw [snd_ne (by omega)]; exact hz p
    have hG' : ∀ v, ((jn_snd L' (jk_ftm K' u) u).1 v).countP lG ≤ (L'.1 v).countP lG := fun v => snd_n p1.1 p1.2 (Or.inr (decide_eq_false (by rw [hk]; decide)))
    refine ⟨⟨by rw [snd_2 p1]; exact p1, fun x hx _ => by rw [snd_2 p1]; exact p2 x hx, fun s x hs hx z => ⟨fun z => by omega, fun _ _ => ⟨Nat.zero_le _, p3 s x hs hx (Nat.lt_of_lt_of_le z (hF s x hs))⟩⟩, fun x hx z => Nat.zero_le _, fun s hs g => ?_, fun _ v _ => by rw [hz']; exact Nat.zero_le _, fun v _ z => by omega, fun hr v hv => Nat.le_trans (hG' v) (hG hr v hv)⟩, ⟨fun _ v _ z => by rw [hz'] at z; omega, fun hr v hv z => p7 (by omega) v hv (by have := hG' v; omega)⟩, fun _ => by rw [hz']; exact Nat.zero_le _⟩
    have a := fS_F (L := L') (m := jk_ftm K' u) (x := u) (s := s) (show 6 < 7 by omega) hs hu p1.1 p1.2 hk hk3
    by_cases e : s = 6
    · rw [e] at a ⊢
      rw [if_pos rfl, f6] at a
      exact a
    · rw [if_neg e] at a
      exact Nat.le_trans a (p5 (by omega) s (by omega))
end QUIEM
