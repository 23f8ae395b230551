/-! to whom the Master gives tasks -/
/-- a task is given to a worker, or to nobody -/
def gvn (K : Jk) : Prop := ∀ t, K.2.2.2.2.1 t = -1 ∨ ∃ w, w < 6 ∧ K.2.2.2.2.1 t = Int32.ofNat w
section GIVEN
variable {C : Jc} {Ws : Nat → Jw} {L : Jn} {kc ck v x y : Nat} {K : Jk} {R : Jr} {m : Jm}
theorem pop_mem {l : List Jm} {m' : Jm} (hib : L.1 v = m :: l) (h : m' ∈ (jn_pop L v l).1 y) : m' ∈ L.1 y := by
  have h' : m' ∈ jx_up L.1 v l y := h
  by_cases e : y = v
  · subst e; rw [up_eq] at h'; rw [hib]; exact List.mem_cons_of_mem _ h'
  · rw [up_ne _ _ e] at h'; exact h'
theorem rep_ne (h : y ≠ x) : ∀ (k : Nat) (ib : Nat → List Jm), jn_rep k ib x m y = ib y := by
  intro k
  induction k with
  | zero => intro ib; rfl
  | succ k ih =>
    intro ib
    rw [jn_rep, ih, jn_put]
    split
    · exact up_ne _ _ h
    · rfl
theorem snd_ne (h : y ≠ x) : (jn_snd L m x).1 y = L.1 y := by
  show jn_send L.1 L.2.1 L.2.2.1 L.2.2.2 x m y = _
  rw [jn_send]
  split
  · rfl
  · exact rep_ne h _ _
theorem mhear_eff (hm : mM C Ws kc m) (K : Jk) (L : Jn) (R : Jr) :
    (jk_hear C.1 C.2.1 K L R m).2.1 = L
    ∨ ∃ u t, m.1 2 = 0 ∧ m.1 3 = Int32.ofNat u ∧ u < 6 ∧ jk_tf K (Int32.ofNat u) (jk_np C.2.1 K) = some t ∧ jk_hear C.1 C.2.1 K L R m = (jk_give K t u, jn_snd L (jk_gm K t u) u, R) := by
  rw [jk_hear]
  split
  · rename_i h0
    obtain ⟨u, hu, hu6⟩ : ∃ u, m.1 3 = Int32.ofNat u ∧ u < 6 := by
      rcases hm with ⟨_, h⟩ | ⟨z, _⟩ | ⟨z, _⟩ | ⟨z, _⟩ | ⟨z, _⟩
      · exact h
      all_goals rw [h0] at z; exact absurd z (by decide)
    have hj : ji (m.1 3) = u := by rw [hu]; exact ji_of (by omega)
    rw [hj, jk_ask]
    cases ht : jk_tf K (Int32.ofNat u) (jk_np C.2.1 K) with
    | none => exact Or.inl rfl
    | some t => exact Or.inr ⟨u, t, h0, hu, hu6, ht, rfl⟩
  · split
    · split
      · exact Or.inl rfl
      · split
        · exact Or.inl rfl
        · split
          · exact Or.inl rfl
          · exact Or.inl rfl
    · exact Or.inl rfl
/-- the Master hears what waits -/
theorem mhears_ind (hC : CK C) {P : Jk → Jn → Jr → Prop}
    (stepO : ∀ (K : Jk) (L : Jn) (R : Jr) (m : Jm) (l : List Jm), IV C Ws L kc → IM C Ws false kc ck R K → P K L R → L.1 6 = m :: l → jk_over C.1 K = true → P K (jn_pop L 6 l) R)
    (step : ∀ (K : Jk) (L : Jn) (R : Jr) (m : Jm) (l : List Jm), IV C Ws L kc → IM C Ws false kc ck R K → P K L R → L.1 6 = m :: l → jk_over C.1 K = false → mM C Ws kc m → P (jk_hear C.1 C.2.1 K (jn_pop L 6 l) R m).1 (jk_hear C.1 C.2.1 K (jn_pop L 6 l) R m).2.1 (jk_hear C.1 C.2.1 K (jn_pop L 6 l) R m).2.2) :
    ∀ (n : Nat) (K : Jk) (L : Jn) (R : Jr), IV C Ws L kc → IM C Ws false kc ck R K → P K L R → (L.1 6).length ≤ n → P (jk_hears C.1 C.2.1 n (K, L, R)).1 (jk_hears C.1 C.2.1 n (K, L, R)).2.1 (jk_hears C.1 C.2.1 n (K, L, R)).2.2 ∧ IV C Ws (jk_hears C.1 C.2.1 n (K, L, R)).2.1 kc ∧ IM C Ws false kc ck (jk_hears C.1 C.2.1 n (K, L, R)).2.2 (jk_hears C.1 C.2.1 n (K, L, R)).1 ∧ (jk_hears C.1 C.2.1 n (K, L, R)).2.1.1 6 = [] := by
  intro n
  induction n with
  | zero =>
    intro K L R h1 h2 hP hl
    exact ⟨hP, h1, h2, List.eq_nil_of_length_eq_zero (Nat.le_zero.1 hl)⟩
  | succ n ih =>
    intro K L R h1 h2 hP hl
    rw [jk_hears]
    cases hib : L.1 6 with
    | nil => simp only []; exact ih K L R h1 h2 hP (by rw [hib]; exact Nat.zero_le _)
    | cons m l =>
      simp only []
      have hl' : l.length ≤ n := by rw [hib, List.length_cons] at hl; omega
      have e0 : (jn_pop L 6 l).1 6 = l := up_eq L.1 6 l
      have hpop : IV C Ws (jn_pop L 6 l) kc := ⟨h1.1, fun x hx m' hm => h1.2.1 x hx m' (pop_mem hib hm), fun m' hm => h1.2.2 m' (pop_mem hib hm)⟩
      by_cases hov : jk_over C.1 K = true
      · rw [if_pos hov]
        exact ih K _ R hpop h2 (stepO K L R m l h1 h2 hP hib hov) (by rw [e0]; exact hl')
      · rw [if_neg hov]
        have hov' : jk_over C.1 K = false := by
          cases e : jk_over C.1 K with
          | true => exact absurd e hov
          | false => rfl
        have hmm := h1.2.2 m (by rw [hib]; exact List.mem_cons_self)
        obtain ⟨k1, k2, k3, k4⟩ := mhear_all (L := jn_pop L 6 l) hC h2 hov' hmm
        have hiv : IV C Ws (jk_hear C.1 C.2.1 K (jn_pop L 6 l) R m).2.1 kc := ⟨h1.1, fun x hx m' hm => (k3 x hx m' hm).elim (hpop.2.1 x hx m') id, fun m' hm => (k4 m' hm).elim (hpop.2.2 m') id⟩
        refine ih _ _ _ hiv k2 (step K L R m l h1 h2 hP hib hov' hmm) ?_
        rcases mhear_eff hmm K (jn_pop L 6 l) R with e | ⟨u, t, _, _, hu, _, e⟩
        · have e1 : (jk_hear C.1 C.2.1 K (jn_pop L 6 l) R m).2.1.1 6 = l := by rw [e, e0]
          exact Nat.le_trans (Nat.le_of_eq (congrArg List.length e1)) hl'
        · have e1 : (jk_hear C.1 C.2.1 K (jn_pop L 6 l) R m).2.1.1 6 = l := by
            rw [e]
            show (jn_snd (jn_pop L 6 l) (jk_gm K t u) u).1 6 = l
            rw [snd_ne (by omega), e0]
          exact Nat.le_trans (Nat.le_of_eq (congrArg List.length e1)) hl'
theorem gvn_same {K' : Jk} (e : K'.2.2.2.2.1 = K.2.2.2.2.1) (h : gvn K) : gvn K' := fun t => by rw [e]; exact h t
theorem gvn_open {cl : List Nat} {G : Nat → Nat → Int32} {F : Nat → Jl} {p : Nat} : gvn (jk_open cl G F K p) := fun _ => Or.inl rfl
theorem note_g (t : Nat) (x : Int32) (n : Nat) : (jk_note K t x n).2.2.2.2 = K.2.2.2.2 ∧ (jk_note K t x n).1 9 = K.1 9 ∧ (jk_note K t x n).1 11 = K.1 11 ∧ (jk_note K t x n).1 16 = K.1 16 ∧ (jk_note K t x n).1 17 = K.1 17 ∧ (jk_note K t x n).1 18 = K.1 18 ∧ (jk_note K t x n).1 19 = K.1 19 ∧ (jk_note K t x n).2.2.2.1 = jx_up K.2.2.2.1 t x ∧ (jk_note K t x n).1 12 + (jk_note K t x n).1 13 = K.1 12 + K.1 13 + 1 ∧ K.1 12 ≤ (jk_note K t x n).1 12 ∧ K.1 13 ≤ (jk_note K t x n).1 13 ∧ (jk_note K t x n).2.2.1 = K.2.2.1 ∧ (jk_note K t x n).2.1 = K.2.1 := by
  rw [jk_note]
  split
  · exact ⟨rfl, rfl, rfl, rfl, rfl, rfl, rfl, rfl, by show K.1 12 + 1 + K.1 13 = _; omega, by show K.1 12 ≤ K.1 12 + 1; omega, Nat.le_refl _, rfl, rfl⟩
  · exact ⟨rfl, rfl, rfl, rfl, rfl, rfl, rfl, rfl, by show K.1 12 + (K.1 13 + 1) = _; omega, Nat.le_refl _, by show K.1 13 ≤ K.1 13 + 1; omega, rfl, rfl⟩
theorem gvn_recs {cl : List Nat} {G : Nat → Nat → Int32} {F : Nat → Jl} : ∀ (l : List Je) (K : Jk), gvn K → gvn (jk_recs cl G F l K) := by
  intro l
  induction l with
  | nil => intro K h; exact h
  | cons e l ih =>
    intro K h
    rw [jk_recs]
    refine ih _ ?_
    rw [jk_rec1]
    split
    · exact gvn_open
    · split
      · exact h
      · exact gvn_same (by rw [(note_g _ _ _).1]) h
theorem gvn_up {cl : List Nat} {G : Nat → Nat → Int32} {F : Nat → Jl} (h : gvn K) : gvn (jk_up cl G F K L R) := by
  rw [jk_up]
  split
  · exact gvn_recs _ _ gvn_open
  · exact h
theorem pg2_g (k tt : Nat) : (jk_pg2 K m k tt).2.2.2.2.1 = K.2.2.2.2.1 ∧ (jk_pg2 K m k tt).2.2.2.1 = K.2.2.2.1 ∧ (jk_pg2 K m k tt).1 9 = K.1 9 ∧ (jk_pg2 K m k tt).1 11 = K.1 11 ∧ (jk_pg2 K m k tt).1 12 = K.1 12 ∧ (jk_pg2 K m k tt).1 13 = K.1 13 ∧ (jk_pg2 K m k tt).1 16 = K.1 16 ∧ (jk_pg2 K m k tt).1 19 = 4 ∧ (jk_pg2 K m k tt).2.2.1 = K.2.2.1 ∧ (jk_pg2 K m k tt).2.1 = K.2.1 := by
  rw [jk_pg2]
  split
  · exact ⟨rfl, rfl, rfl, rfl, rfl, rfl, rfl, rfl, rfl, rfl⟩
  · exact ⟨rfl, rfl, rfl, rfl, rfl, rfl, rfl, rfl, rfl, rfl⟩
theorem gvn_hear (hm : mM C Ws kc m) (h : gvn K) : gvn (jk_hear C.1 C.2.1 K L R m).1 := by
  rcases mhear_eff hm K L R with _ | ⟨u, t, _, _, hu, _, e⟩
  · rw [jk_hear]
    split
    · rename_i h0
      show gvn (jk_ask K L (jk_np C.2.1 K) (ji (m.1 3))).1
      rw [jk_ask]
      have hu : ji (m.1 3) < 6 := by
        rcases hm with ⟨_, u, e, hu⟩ | ⟨z, _⟩ | ⟨z, _⟩ | ⟨z, _⟩ | ⟨z, _⟩
        · rw [e, ji_of (by omega)]; exact hu
        all_goals rw [h0] at z; exact absurd z (by decide)
      cases jk_tf K (Int32.ofNat (ji (m.1 3))) (jk_np C.2.1 K) with
      | none => exact h
      | some t =>
        intro t'
        show jx_up K.2.2.2.2.1 t (Int32.ofNat (ji (m.1 3))) t' = -1 ∨ ∃ w, w < 6 ∧ jx_up K.2.2.2.2.1 t (Int32.ofNat (ji (m.1 3))) t' = Int32.ofNat w
        by_cases e : t' = t
        · rw [e, up_eq]; exact Or.inr ⟨_, hu, rfl⟩
        · rw [up_ne _ _ e]; exact h t'
    · split
      · split
        · show gvn (jk_done C.1 K R m (ji (m.1 6)) (ji (m.1 9))).1
          rw [jk_done]
          split
          · split
            · exact gvn_same (K := K) (show (jk_sf (jk_d1 K m (ji (m.1 6)) (ji (m.1 9))) _).2.2.2.2.1 = _ from by show (jk_d1 K m (ji (m.1 6)) (ji (m.1 9))).2.2.2.2.1 = _; rw [jk_d1, (note_g _ _ _).1]) h
            · exact gvn_same (K := K) (by show (jk_d1 K m (ji (m.1 6)) (ji (m.1 9))).2.2.2.2.1 = _; rw [jk_d1, (note_g _ _ _).1]) h
          · exact h
        · split
          · exact h
          · split
            · show gvn (jk_hp K m (ji (m.1 9)) (ji (m.1 10)))
              rw [jk_hp]
              split
              · exact gvn_same (pg2_g _ _).1 h
              · exact h
            · exact h
      · exact h
  · rw [e]
    intro t'
    show jx_up K.2.2.2.2.1 t (Int32.ofNat u) t' = -1 ∨ ∃ w, w < 6 ∧ jx_up K.2.2.2.2.1 t (Int32.ofNat u) t' = Int32.ofNat w
    by_cases e : t' = t
    · rw [e, up_eq]; exact Or.inr ⟨u, hu, rfl⟩
    · rw [up_ne _ _ e]; exact h t'
theorem gvn_fin {cl : List Nat} {G : Nat → Nat → Int32} {F : Nat → Jl} (h : gvn K) : gvn (jk_fin cl G F K L R).1 := by
  rw [jk_fin]
  split
  · exact h
  · split
    · exact h
    · split
      · rw [jk_gath]
        split
        · split
          · exact h
          · exact h
        · exact gvn_open
      · exact h
/-- the Master has come up and counts its tick -/
theorem m_tick {dn : Bool} (h : IM C Ws dn kc ck R K) (hdn : L.2.1 6 = dn) : IM C Ws false kc (ck + 1) R (jk_tick (jk_up C.1 C.2.1 (cF C kc) K L R)) := by
  have hup : IM C Ws false kc ck R (jk_up C.1 C.2.1 (cF C kc) K L R) := by
    rw [jk_up, hdn]
    cases dn with
    | false => exact h
    | true =>
      have h2 : coEq (jk_said C.1 C.2.1 (cF C kc) R (jk_recall C.1 C.2.1 (cF C kc) K R)) (jk_recall C.1 C.2.1 (cF C kc) K R) := co_recs _ _ _ co_forget
      obtain ⟨r1, r2, r3, r4, r5, r6⟩ := recs_rest R.1 (jk_forget C.1 C.2.1 (cF C kc) K) ⟨rfl, rfl, rfl, rfl, rfl, rfl⟩
      have hJ : MJ C Ws kc R (jk_recall C.1 C.2.1 (cF C kc) K R) := h.1
      refine ⟨MJ_co hJ h2.symm, rok_co _ _ _ co_forget h.2.1, fun _ => ⟨h2, ?_, ?_, ?_, ?_, Or.inl r5, Or.inl r4, ?_⟩⟩
      · have h9 : (jk_recs C.1 C.2.1 (cF C kc) R.1 (jk_forget C.1 C.2.1 (cF C kc) K)).1 9 = kc := hJ.2.2.1
        rw [h9] at r1; exact r1
      · show (jk_recs _ _ _ _ _).1 16 ≤ ck; rw [r2]; exact Nat.zero_le _
      · show (jk_recs _ _ _ _ _).1 19 ≤ 4; rw [r3]; exact Nat.le_refl _
      · show (jk_recs C.1 C.2.1 (cF C kc) R.1 (jk_forget C.1 C.2.1 (cF C kc) K)).2.2.2.2.2.2 = (((List.range ((jk_recs C.1 C.2.1 (cF C kc) R.1 (jk_forget C.1 C.2.1 (cF C kc) K)).1 17)).map (fun r => cQ C kc (38 + r))).flatten ++ (cQ C kc (38 + (jk_recs C.1 C.2.1 (cF C kc) R.1 (jk_forget C.1 C.2.1 (cF C kc) K)).1 17)).take ((jk_recs C.1 C.2.1 (cF C kc) R.1 (jk_forget C.1 C.2.1 (cF C kc) K)).1 18)).take 300
        rw [r4, r5, r6, List.take_zero]; rfl
      · show (jk_recs _ _ _ _ _).1 18 ≤ 4000; rw [r5]; exact Nat.zero_le _
  have hK := (hup.2.2 rfl).2
  have hup2 : IM C Ws false kc (ck + 1) R (jk_up C.1 C.2.1 (cF C kc) K L R) := ⟨hup.1, hup.2.1, fun _ => ⟨(hup.2.2 rfl).1, hK.1, by have := hK.2.1; omega, hK.2.2⟩⟩
  exact IM_same hup2 ⟨rfl, rfl, rfl, rfl, rfl, rfl, rfl, rfl⟩ ⟨hK.1, by show (jk_up C.1 C.2.1 (cF C kc) K L R).1 16 + 1 ≤ ck + 1; have := hK.2.1; omega, hK.2.2⟩
/-- a tick of the Master -/
theorem gvn_work {dn : Bool} (hC : CK C) (hi : IV C Ws L kc) (h : IM C Ws dn kc ck R K) (hdn : L.2.1 6 = dn) (hg : gvn K) : gvn (jk_work C.1 C.2.1 (cF C kc) K L R).1 := by
  have ht := m_tick (L := L) h hdn
  obtain ⟨k1, _⟩ := mhears_ind (Ws := Ws) (kc := kc) (ck := ck + 1) hC (P := fun K _ _ => gvn K) (fun K L R m l _ _ hP _ _ => hP) (fun K L R m l _ _ hP _ _ hm => gvn_hear hm hP) ((jn_up L 6).1 6).length _ (jn_up L 6) R hi ht (gvn_up (R := R) (L := L) hg) (Nat.le_refl _)
  rw [jk_work, jk_body]
  exact gvn_fin k1
end GIVEN
