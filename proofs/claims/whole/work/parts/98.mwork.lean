/-! the Master: COMMIT, recall, a tick -/
section MWORK
variable {C : Jc} {Ws : Nat → Jw} {L : Jn} {kc ck p t v : Nat} {K K' : Jk} {R R' : Jr} {m : Jm}
theorem cF_next {o : Jl} (hk : kc < C.1.length) (h : me_out (C.2.2.1 (cJ C kc)) (cN C kc) (cI C kc) = some o) : cF C (kc + 1) = jx_up (cF C kc) (ji (C.2.1 (cJ C kc) 4)) o := by
  show me_F C.2.1 C.2.2.1 C.1 C.2.2.2 (kc + 1) = _
  rw [me_F, cC_get hk]
  show (match me_out (C.2.2.1 (cJ C kc)) (ji (C.2.1 (cJ C kc) 5)) (jb_in C.2.1 (me_F C.2.1 C.2.2.1 C.1 C.2.2.2 kc) (cJ C kc)) with
    | none => me_F C.2.1 C.2.2.1 C.1 C.2.2.2 kc
    | some o => jx_up (me_F C.2.1 C.2.2.1 C.1 C.2.2.2 kc) (ji (C.2.1 (cJ C kc) 4)) o) = _
  have h' : me_out (C.2.2.1 (cJ C kc)) (ji (C.2.1 (cJ C kc) 5)) (jb_in C.2.1 (me_F C.2.1 C.2.2.1 C.1 C.2.2.2 kc) (cJ C kc)) = some o := h
  rw [h']
theorem IV_up (h8 : C.1.length ≤ 8) (h : IV C Ws L kc) : IV C Ws L (kc + 1) :=
  ⟨fun v hv => wOK_mono h8 (fun u _ => Wle.refl _) (by omega) (h.1 v hv), fun x hx m hm => mW_mono h8 (fun u _ => Wle.refl _) (by omega) (h.2.1 x hx m hm), fun m hm => mM_mono h8 (fun u _ => Wle.refl _) (by omega) (h.2.2 m hm)⟩
/-- COMMIT -/
theorem m_commit (hC : CK C) (h : IM C Ws false kc ck R K) (hov : jk_over C.1 K = false) (h13 : K.1 13 = cN C kc) (h17 : ¬ K.1 17 < cN C kc) :
    jx_up (cF C kc) (ji (C.2.1 (cJ C kc) 4)) K.2.2.2.2.2.2 = cF C (kc + 1) ∧ IM C Ws false (kc + 1) ck (jr_w R (1, -1, -1, Int32.ofNat (K.2.2.2.2.2.2).length)) (jk_open C.1 C.2.1 (cF C (kc + 1)) K (K.1 9 + 1)) := by
  obtain ⟨hJ, hK⟩ := IM_J rfl h
  obtain ⟨hlt, hj, h11, hnp, _⟩ := m_job hC hJ hK hov
  have hf := (over_not hov).1
  have h8 := hC.1
  obtain ⟨o1, o2, o3⟩ := parts_all hC hJ hf hlt (by omega)
  obtain ⟨s1, s2, s3, s4⟩ := hK.2.2.2
  have hpe : K.1 17 = cN C kc := by
    have := (hC.2.2.1 kc hlt).2.2.2.1
    rcases s3 with e | ⟨_, e⟩ <;> omega
  have h18 : K.1 18 = 0 := by rcases s2 with e | ⟨e, _⟩ <;> omega
  have hst : K.2.2.2.2.2.2 = ((List.range (cN C kc)).map (fun r => cQ C kc (38 + r))).flatten := by
    rw [s1, hpe, h18, List.take_zero, List.append_nil, List.take_of_length_le o2]
  have hF : cF C (kc + 1) = jx_up (cF C kc) (ji (C.2.1 (cJ C kc) 4)) K.2.2.2.2.2.2 := by rw [hst]; exact cF_next hlt o1
  refine ⟨hF.symm, ?_⟩
  obtain ⟨a1, a2, a3, a4, a5, a6, a7, ⟨b1, b2, b3, b4⟩, a9, a10, a11, a12, a13, a14, a15⟩ := hJ
  have hd1 := dnOn_le (d := K.2.2.2.1) (k := 0) (n := 38)
  have hd2 := dnOn_le (d := K.2.2.2.1) (k := 38) (n := 6)
  rw [hf, if_pos rfl] at a13
  have hw : ∀ (x : Int32), jr_w R (1, -1, -1, x) = (R.1 ++ [(1, -1, -1, x)], R.2.1 + 1, R.1.length + 1) := fun x => by rw [jr_w, if_pos rfl]
  rw [a3, hw]
  have hdn : ∀ k n, dnOn (fun _ => (-1 : Int32)) k n = 0 := fun k n => sumOn_zero n (fun i _ => if_pos rfl)
  have hMJ : MJ C Ws (kc + 1) (R.1 ++ [(1, -1, -1, Int32.ofNat (K.2.2.2.2.2.2).length)], R.2.1 + 1, R.1.length + 1) (jk_open C.1 C.2.1 (cF C (kc + 1)) K (kc + 1)) := by
    refine ⟨by show R.2.1 + 1 = _; omega, hlt, rfl, rfl, fun p hp => ?_, Or.inl hf, fun t ht => Or.inl rfl, ⟨(hdn 0 38).symm, (hdn 38 6).symm, (sumOn_zero 38 (fun i _ => if_pos rfl)).symm, (sumOn_zero 6 (fun i _ => if_pos rfl)).symm⟩, fun _ => ⟨Nat.zero_le _, Nat.zero_le _⟩, Nat.zero_le _, Nat.zero_le _, ?_, ?_, fun i e h1 h2 => ?_, fun i k e e' h1 h2 h3 h4 => ?_⟩
    · by_cases e : p = kc
      · subst e
        intro hX
        have := hX.symm.trans o1
        cases this
      · exact a5 p (by omega)
    · show R.1.length + 1 ≤ (R.1 ++ [_]).length; rw [List.length_append, List.length_singleton]; exact Nat.le_refl _
    · show (R.1 ++ [_]).length ≤ 45 * (kc + 1) + 0 + 0 + _
      rw [List.length_append, List.length_singleton]; omega
    · have h2' : (R.1 ++ [_])[i]? = some e := h2
      have h1' : R.1.length + 1 ≤ i := h1
      have := (List.getElem?_eq_some_iff.1 h2').1
      rw [List.length_append, List.length_singleton] at this
      omega
    · have h4' : (R.1 ++ [_])[k]? = some e' := h4
      have h1' : R.1.length + 1 ≤ i := h1
      have := (List.getElem?_eq_some_iff.1 h4').1
      rw [List.length_append, List.length_singleton] at this
      omega
  have hs1 : coEq (jk_said C.1 C.2.1 (cF C (kc + 1)) R (jk_open C.1 C.2.1 (cF C (kc + 1)) K (kc + 1))) K := (co_recs (F' := cF C kc) _ _ _ co_forget).trans (h.2.2 rfl).1
  have hs2 : coEq (jk_said C.1 C.2.1 (cF C (kc + 1)) (jr_w R (1, -1, -1, Int32.ofNat (K.2.2.2.2.2.2).length)) (jk_open C.1 C.2.1 (cF C (kc + 1)) K (kc + 1))) (jk_open C.1 C.2.1 (cF C (kc + 1)) K (kc + 1)) := by
    refine said_w.trans ((co_rec1 (F' := cF C (kc + 1)) hs1).trans ?_)
    rw [jk_rec1, if_pos rfl, a3]; exact coEq.refl _
  rw [hw] at hs2
  refine ⟨MJ_co hMJ hs2.symm, ?_, fun _ => ⟨hs2, rfl, hK.2.1, Nat.le_refl 4, ?_, Or.inl rfl, Or.inl rfl, Nat.zero_le _⟩⟩
  · show jk_rok C.1 C.2.1 (cF C (kc + 1)) (R.1 ++ [_]) _
    refine rok_snoc _ _ (rok_co _ _ _ co_forget h.2.1) ⟨fun _ => ?_, fun z => absurd z (show (1 : Int32) ≠ 2 from by decide), fun z => absurd rfl z⟩
    have : (jk_recs C.1 C.2.1 (cF C (kc + 1)) R.1 (jk_forget C.1 C.2.1 (cF C (kc + 1)) (jk_open C.1 C.2.1 (cF C (kc + 1)) K (kc + 1)))).1 9 = K.1 9 := hs1.1
    rw [this]; omega
  · show ([] : Jl) = (([] : List Jl).flatten ++ (cQ C (kc + 1) (38 + 0)).take 0).take 300
    rw [List.take_zero]; rfl
/-- behind the messages -/
theorem mfin_all (hC : CK C) (h1 : IV C Ws L kc) (h : IM C Ws false kc ck R K) : jk_gok C.1 C.2.1 (cF C kc) K R ∧ ∃ kc', (kc' = kc ∨ kc' = kc + 1) ∧ IV C Ws (jk_fin C.1 C.2.1 (cF C kc) K L R).2.1 kc' ∧ IM C Ws false kc' ck (jk_fin C.1 C.2.1 (cF C kc) K L R).2.2.1 (jk_fin C.1 C.2.1 (cF C kc) K L R).1 ∧ (jk_fin C.1 C.2.1 (cF C kc) K L R).2.2.2 = cF C kc' := by
  obtain ⟨hJ, hK⟩ := IM_J rfl h
  have h8 := hC.1
  cases hov : jk_over C.1 K with
  | true =>
    refine ⟨fun z => absurd (hov.symm.trans z) (by decide), kc, Or.inl rfl, ?_⟩
    rw [jk_fin, if_pos hov]; exact ⟨h1, h, rfl⟩
  | false =>
    obtain ⟨hlt, hj, h11, hnp, hjok⟩ := m_job hC hJ hK hov
    have hf := (over_not hov).1
    obtain ⟨q1, q2, q3, q4, q5⟩ := hC.2.2.1 kc hlt
    obtain ⟨f, hf16, hG4⟩ := (hC.2.1 kc (cJ C kc) (cC_get hlt)).2.2
    obtain ⟨s1, s2, s3, s4⟩ := hK.2.2.2
    have hd1 := dnOn_le (d := K.2.2.2.1) (k := 0) (n := 38)
    have hd2 := dnOn_le (d := K.2.2.2.1) (k := 38) (n := 6)
    have h12 := hJ.2.2.2.2.2.2.2.1.1
    have h13 := hJ.2.2.2.2.2.2.2.1.2.1
    have hlen : R.1.length < 360 := by
      have a13 := hJ.2.2.2.2.2.2.2.2.2.2.2.2.1
      rw [hf, if_pos rfl] at a13
      omega
    have h17 : K.1 17 ≤ 6 := by rcases s3 with e | ⟨_, e⟩ <;> omega
    have hg4 : ji (C.2.1 (cJ C kc) 4) = f ∧ jn0 (C.2.1 (cJ C kc) 4) := by obtain ⟨z1, z2⟩ := jn0_of (by omega) hG4; exact ⟨z2, z1⟩
    have hfst : (K.2.2.2.2.2.2).length ≤ 300 := by rw [s1, List.length_take]; omega
    have hFo : jf_ok (jx_up (cF C kc) (ji (C.2.1 (cJ C kc) 4)) K.2.2.2.2.2.2) := by
      intro g
      by_cases e : g = ji (C.2.1 (cJ C kc) 4)
      · subst e; rw [up_eq]; exact hfst
      · rw [up_ne _ _ e]; exact hC.2.2.2.2 kc g
    have hdb : K.1 13 = cN C kc → K.1 17 < cN C kc → ∃ u, u < 6 ∧ K.2.2.2.1 (38 + K.1 17) = Int32.ofNat u := fun z1 z2 => (parts_all hC hJ hf hlt (by omega)).2.2 _ z2
    have hgok : ∀ j, K.2.2.1 = some j → j < 8 ∧ jn0 (C.2.1 j 5) ∧ ji (C.2.1 j 5) ≤ 6 ∧ (K.1 13 = ji (C.2.1 j 5) → K.1 19 < 900000 ∧ (K.1 17 < ji (C.2.1 j 5) → jn0 (K.2.2.2.1 (38 + K.1 17))) ∧ (K.1 17 < ji (C.2.1 j 5) → ji (K.2.2.2.1 (38 + K.1 17)) < 7) ∧ ji (C.2.1 j 4) < 16 ∧ jn0 (C.2.1 j 4) ∧ R.1.length < 360 ∧ R.2.1 < 900000 ∧ K.1 9 < 90 ∧ jf_ok (jx_up (cF C kc) (ji (C.2.1 j 4)) K.2.2.2.2.2.2)) := by
      intro j hj'
      rw [hj] at hj'
      cases hj'
      have hw := hK.2.2.1
      refine ⟨q1, q3, q5, fun z => ⟨by omega, fun z2 => ?_, fun z2 => ?_, by rw [hg4.1]; exact hf16, hg4.2, hlen, by rw [hJ.1]; omega, by rw [hJ.2.2.1]; omega, hFo⟩⟩
      · obtain ⟨u, u1, u2⟩ := hdb z z2
        exact (jn0_of (by omega) u2).1
      · obtain ⟨u, u1, u2⟩ := hdb z z2
        rw [(jn0_of (by omega) u2).2]; omega
    refine ⟨fun _ => hgok, ?_⟩
    rw [jk_fin, if_neg (by rw [hov]; decide), hj]
    show ∃ kc', (kc' = kc ∨ kc' = kc + 1) ∧ IV C Ws (if K.1 13 = ji (C.2.1 (cJ C kc) 5) then jk_gath C.1 C.2.1 K L R (cF C kc) (ji (C.2.1 (cJ C kc) 5)) (ji (C.2.1 (cJ C kc) 4)) (ji (K.2.2.2.1 (38 + K.1 17))) else (K, L, R, cF C kc)).2.1 kc' ∧ IM C Ws false kc' ck (if K.1 13 = ji (C.2.1 (cJ C kc) 5) then jk_gath C.1 C.2.1 K L R (cF C kc) (ji (C.2.1 (cJ C kc) 5)) (ji (C.2.1 (cJ C kc) 4)) (ji (K.2.2.2.1 (38 + K.1 17))) else (K, L, R, cF C kc)).2.2.1 (if K.1 13 = ji (C.2.1 (cJ C kc) 5) then jk_gath C.1 C.2.1 K L R (cF C kc) (ji (C.2.1 (cJ C kc) 5)) (ji (C.2.1 (cJ C kc) 4)) (ji (K.2.2.2.1 (38 + K.1 17))) else (K, L, R, cF C kc)).1 ∧ (if K.1 13 = ji (C.2.1 (cJ C kc) 5) then jk_gath C.1 C.2.1 K L R (cF C kc) (ji (C.2.1 (cJ C kc) 5)) (ji (C.2.1 (cJ C kc) 4)) (ji (K.2.2.2.1 (38 + K.1 17))) else (K, L, R, cF C kc)).2.2.2 = cF C kc'
    by_cases h13c : K.1 13 = ji (C.2.1 (cJ C kc) 5)
    · rw [if_pos h13c, jk_gath]
      by_cases h17c : K.1 17 < ji (C.2.1 (cJ C kc) 5)
      · rw [if_pos h17c]
        by_cases h19 : K.1 19 + 1 ≤ 4
        · rw [if_pos h19]
          exact ⟨kc, Or.inl rfl, h1, IM_same h ⟨rfl, rfl, rfl, rfl, rfl, rfl, rfl, rfl⟩ ⟨hK.1, hK.2.1, h19, hK.2.2.2⟩, rfl⟩
        · rw [if_neg h19]
          refine ⟨kc, Or.inl rfl, ⟨h1.1, fun x hx m' hm => ?_, fun m' hm => ?_⟩, IM_same h ⟨rfl, rfl, rfl, rfl, rfl, rfl, rfl, rfl⟩ ⟨hK.1, hK.2.1, Nat.zero_le _, hK.2.2.2⟩, rfl⟩
          · obtain ⟨u, u1, u2⟩ := hdb h13c h17c
            rcases jn_snd_mem hm with z | ⟨z1, z2⟩
            · exact h1.2.1 x hx m' z
            · subst z2
              refine Or.inr (Or.inl ⟨rfl, 6, kc, 38 + K.1 17, K.1 18, rfl, by omega, by omega, ?_, hlt, Nat.le_refl _, rfl, by omega, rfl, by omega, fun z => by omega⟩)
              show Int32.ofNat (K.1 9) = _; rw [hJ.2.2.1]
          · obtain ⟨u, u1, u2⟩ := hdb h13c h17c
            have hu6 := (jn0_of (n := u) (by omega) u2).2
            rcases jn_snd_mem hm with z | ⟨z1, z2⟩
            · exact h1.2.2 m' z
            · rw [hu6] at z1; omega
      · rw [if_neg h17c]
        obtain ⟨c1, c2⟩ := m_commit hC h hov h13c h17c
        refine ⟨kc + 1, Or.inr rfl, IV_up h8 h1, ?_, c1⟩
        show IM C Ws false (kc + 1) ck _ (jk_open C.1 C.2.1 (jx_up (cF C kc) (ji (C.2.1 (cJ C kc) 4)) K.2.2.2.2.2.2) K (K.1 9 + 1))
        rw [c1]; exact c2
    · rw [if_neg h13c]; exact ⟨kc, Or.inl rfl, h1, h, rfl⟩
/-- what recall leaves of the rest of the memory -/
theorem recs_rest {cl : List Nat} {G : Nat → Nat → Int32} {F : Nat → Jl} : ∀ (l : List Je) (K : Jk), (K.1 11 = jk_spl G F cl[K.1 9]? ∧ K.1 16 = 0 ∧ K.1 19 = 4 ∧ K.1 17 = 0 ∧ K.1 18 = 0 ∧ K.2.2.2.2.2.2 = []) → ((jk_recs cl G F l K).1 11 = jk_spl G F cl[(jk_recs cl G F l K).1 9]? ∧ (jk_recs cl G F l K).1 16 = 0 ∧ (jk_recs cl G F l K).1 19 = 4 ∧ (jk_recs cl G F l K).1 17 = 0 ∧ (jk_recs cl G F l K).1 18 = 0 ∧ (jk_recs cl G F l K).2.2.2.2.2.2 = []) := by
  intro l
  induction l with
  | nil => intro K h; exact h
  | cons e l ih =>
    intro K h
    refine ih _ ?_
    rw [jk_rec1]
    split
    · exact ⟨rfl, h.2.1, rfl, rfl, rfl, rfl⟩
    · split
      · exact h
      · rw [jk_note]
        split <;> exact h
/-- a tick of the Master -/
theorem mwork_all {dn : Bool} (hC : CK C) (h1 : IV C Ws L kc) (h : IM C Ws dn kc ck R K) (hdn : L.2.1 6 = dn) (hck : ck < 80000000) : (L.2.1 6 = true → jk_rok C.1 C.2.1 (cF C kc) R.1 (jk_forget C.1 C.2.1 (cF C kc) K)) ∧ jk_bok C.1 C.2.1 (cF C kc) (jk_up C.1 C.2.1 (cF C kc) K L R) (jn_up L 6) R ∧ ∃ kc', (kc' = kc ∨ kc' = kc + 1) ∧ IV C Ws (jk_work C.1 C.2.1 (cF C kc) K L R).2.1 kc' ∧ IM C Ws false kc' (ck + 1) (jk_work C.1 C.2.1 (cF C kc) K L R).2.2.1 (jk_work C.1 C.2.1 (cF C kc) K L R).1 ∧ (jk_work C.1 C.2.1 (cF C kc) K L R).2.2.2 = cF C kc' := by
  have hup : IM C Ws false kc ck R (jk_up C.1 C.2.1 (cF C kc) K L R) := by
    rw [jk_up, hdn]
    cases dn with
    | false => exact h
    | true =>
      have h2 : coEq (jk_said C.1 C.2.1 (cF C kc) R (jk_recall C.1 C.2.1 (cF C kc) K R)) (jk_recall C.1 C.2.1 (cF C kc) K R) := co_recs _ _ _ co_forget
      obtain ⟨r1, r2, r3, r4, r5, r6⟩ := recs_rest R.1 (jk_forget C.1 C.2.1 (cF C kc) K) ⟨rfl, rfl, rfl, rfl, rfl, rfl⟩
      have hJ : MJ C Ws kc R (jk_recall C.1 C.2.1 (cF C kc) K R) := h.1
      refine ⟨MJ_co hJ h2.symm, rok_co _ _ _ co_forget h.2.1, fun _ => ⟨h2, ?_, ?_, ?_, ?_, Or.inl r5, Or.inl r4, ?_⟩⟩
      · have h9 : (jk_recs C.1 C.2.1 (cF C kc) R.1 (jk_forget C.1 C.2.1 (cF C kc) K)).1 9 = kc := hJ.2.2.1
        rw [h9] at r1; exact r1
      · show (jk_recs _ _ _ _ _).1 16 ≤ ck; rw [r2]; exact Nat.zero_le _
      · show (jk_recs _ _ _ _ _).1 19 ≤ 4; rw [r3]; exact Nat.le_refl _
      · show (jk_recs C.1 C.2.1 (cF C kc) R.1 (jk_forget C.1 C.2.1 (cF C kc) K)).2.2.2.2.2.2 = (((List.range ((jk_recs C.1 C.2.1 (cF C kc) R.1 (jk_forget C.1 C.2.1 (cF C kc) K)).1 17)).map (fun r => cQ C kc (38 + r))).flatten ++ (cQ C kc (38 + (jk_recs C.1 C.2.1 (cF C kc) R.1 (jk_forget C.1 C.2.1 (cF C kc) K)).1 17)).take ((jk_recs C.1 C.2.1 (cF C kc) R.1 (jk_forget C.1 C.2.1 (cF C kc) K)).1 18)).take 300
        rw [r4, r5, r6, List.take_zero]; rfl
      · show (jk_recs _ _ _ _ _).1 18 ≤ 4000; rw [r5]; exact Nat.zero_le _
  have hK := (hup.2.2 rfl).2
  have htick : IM C Ws false kc (ck + 1) R (jk_tick (jk_up C.1 C.2.1 (cF C kc) K L R)) := by
    have hup2 : IM C Ws false kc (ck + 1) R (jk_up C.1 C.2.1 (cF C kc) K L R) := ⟨hup.1, hup.2.1, fun _ => ⟨(hup.2.2 rfl).1, hK.1, by have := hK.2.1; omega, hK.2.2⟩⟩
    exact IM_same hup2 ⟨rfl, rfl, rfl, rfl, rfl, rfl, rfl, rfl⟩ ⟨hK.1, by show (jk_up C.1 C.2.1 (cF C kc) K L R).1 16 + 1 ≤ ck + 1; have := hK.2.1; omega, hK.2.2⟩
  have hiv : IV C Ws (jn_up L 6) kc := h1
  obtain ⟨i1, i2, i3⟩ := mhears_all hC ((jn_up L 6).1 6).length (jk_tick (jk_up C.1 C.2.1 (cF C kc) K L R)) (jn_up L 6) R hiv htick
  obtain ⟨f1, f2⟩ := mfin_all hC i2 i3
  exact ⟨fun _ => h.2.1, ⟨by have := hK.2.1; omega, i1, f1⟩, f2⟩
end MWORK
