/-! the Master hears: DONE -/
section MDONE
variable {C : Jc} {Ws : Nat → Jw} {L : Jn} {kc ck p t v : Nat} {K K' : Jk} {R R' : Jr} {m : Jm} {e e2 : Je}
/-- two entries more -/
theorem IM_w2 (h : IM C Ws false kc ck R K) (hc : coEq (jk_rec1 C.1 C.2.1 (cF C kc) (jk_rec1 C.1 C.2.1 (cF C kc) K e) e2) K') (hj : MJ C Ws kc (jr_w (jr_w R e) e2) K') (hk : MK C kc ck K')
    (hr : (e.1 = 1 → K.1 9 + 1 < 100) ∧ (e.1 = 2 → K.1 9 < C.1.length) ∧ (e.1 ≠ 1 → e.1 ≠ 2 → jn0 e.2.1 ∧ ji e.2.1 < 44 ∧ jn0 e.2.2.2 ∧ ji e.2.2.2 < 10000 ∧ K.1 12 < 10000 ∧ K.1 13 < 10000 ∧ K.1 14 < 10000000 ∧ K.1 15 < 10000000))
    (he2 : e2.1 = 2) (hr2 : (jk_rec1 C.1 C.2.1 (cF C kc) K e).1 9 < C.1.length) : IM C Ws false kc ck (jr_w (jr_w R e) e2) K' := by
  have h1 : coEq (jk_said C.1 C.2.1 (cF C kc) R K') (jk_said C.1 C.2.1 (cF C kc) R K) := co_recs _ _ _ co_forget
  have h2 : coEq (jk_said C.1 C.2.1 (cF C kc) R K') K := h1.trans (h.2.2 rfl).1
  have h2a : coEq (jk_said C.1 C.2.1 (cF C kc) (jr_w R e) K') (jk_rec1 C.1 C.2.1 (cF C kc) K e) := said_w.trans (co_rec1 h2)
  have h3 : coEq (jk_said C.1 C.2.1 (cF C kc) (jr_w (jr_w R e) e2) K') K' := (said_w.trans (co_rec1 h2a)).trans hc
  refine ⟨MJ_co hj h3.symm, ?_, fun _ => ⟨h3, hk⟩⟩
  rw [jr_w_1]
  refine rok_snoc _ _ ?_ ?_
  · rw [jr_w_1]
    refine rok_snoc _ _ (rok_co _ _ _ co_forget h.2.1) ?_
    have h2' : coEq (jk_recs C.1 C.2.1 (cF C kc) R.1 (jk_forget C.1 C.2.1 (cF C kc) K')) K := h2
    rw [h2'.1, h2'.2.2.2.2.1, h2'.2.2.2.2.2.1, h2'.2.2.2.2.2.2.1, h2'.2.2.2.2.2.2.2]
    exact hr
  · have h2' : coEq (jk_recs C.1 C.2.1 (cF C kc) (jr_w R e).1 (jk_forget C.1 C.2.1 (cF C kc) K')) (jk_rec1 C.1 C.2.1 (cF C kc) K e) := h2a
    rw [h2'.1]
    exact ⟨fun z => by rw [he2] at z; exact absurd z (by decide), fun _ => hr2, fun _ z => absurd he2 z⟩
theorem cT_len {l : Jl} (hC : CK C) (hv : cV C p t) (h : cT C p t = some l) : l.length ≤ 4000 := by
  rcases hv with ⟨h1, h2⟩ | ⟨h1, h2, ls, h3, h4⟩
  · rw [cT, tT, if_pos h1, me_spl] at h
    cases hm : me_map (C.2.2.1 (tJ C.1 p) 0) (me_rec (tI C.1 C.2.1 C.2.2.1 C.2.2.2 p) t) with
    | none => rw [hm] at h; cases h
    | some e =>
      rw [hm] at h
      have hl := me_map_len _ _ hm
      rw [me_rec_len] at hl
      have h' : (if (C.2.2.1 (tJ C.1 p) 1).length = 0 then some (srt e) else me_fo (C.2.2.1 (tJ C.1 p) 1) 1 (srt e)) = some l := h
      split at h'
      · cases h'; rw [srt_len]; omega
      · have := me_fo_len h'
        rw [srt_len] at this
        omega
  · rw [cT, tT, if_neg (by omega), h3] at h
    have h' : me_fo (C.2.2.1 (tJ C.1 p) 2) 2 (srt (me_gat (tN C.1 C.2.1 p) (t - 38) ls)) = some l := h
    have := me_fo_len h'
    rw [srt_len] at this
    have hg := me_gat_le (np := tN C.1 C.2.1 p) (r := t - 38) ls
    omega
/-- what a task that is done brings: all but the limits -/
theorem note_J {u : Nat} {l : Jl} (hJ : MJ C Ws kc R K) (hf : K.2.1 = -1) (hlt : kc < C.1.length) (hu : u < 6) (ht : t < 44) (hcv : cV C kc t) (hct : cT C kc t = some l) (hd : HD Ws u kc t) (hn : K.2.2.2.1 t = -1) (hl4 : l.length ≤ 4000) :
    mD C Ws kc (jk_note K t (Int32.ofNat u) l.length).2.2.2.1 ∧ mC C kc (jk_note K t (Int32.ofNat u) l.length) ∧ (jk_note K t (Int32.ofNat u) l.length).1 14 ≤ 10000 ∧ (jk_note K t (Int32.ofNat u) l.length).1 15 ≤ 10000
    ∧ (jk_note K t (Int32.ofNat u) l.length).1 12 + (jk_note K t (Int32.ofNat u) l.length).1 13 = K.1 12 + K.1 13 + 1 ∧ K.1 12 + K.1 13 ≤ 43
    ∧ (∀ i (x : Je), R.2.2 ≤ i → R.1[i]? = some x → x.1 = 0 → ∃ t' u', t' < 44 ∧ u' < 6 ∧ x.2.1 = Int32.ofNat t' ∧ x.2.2.1 = Int32.ofNat u' ∧ (jk_note K t (Int32.ofNat u) l.length).2.2.2.1 t' = Int32.ofNat u')
    ∧ (∀ i (x : Je), R.2.2 ≤ i → R.1[i]? = some x → x.1 = 0 → x.2.1 ≠ Int32.ofNat t) ∧ (jk_note K t (Int32.ofNat u) l.length).2.2.2.1 t = Int32.ofNat u := by
  obtain ⟨a1, a2, a3, a4, a5, a6, a7, ⟨b1, b2, b3, b4⟩, a9, a10, a11, a12, a13, a14, a15⟩ := hJ
  have hm1 : Int32.ofNat u ≠ -1 := jx_m1 (by omega)
  have hdb : (jk_note K t (Int32.ofNat u) l.length).2.2.2.1 = jx_up K.2.2.2.1 t (Int32.ofNat u) := by rw [jk_note]; split <;> rfl
  have hsz : cSz C kc t = l.length := by rw [cSz, hct]; rfl
  have h9 := a9 hf
  have hold : ∀ i (x : Je), R.2.2 ≤ i → R.1[i]? = some x → x.1 = 0 → ∃ t' u', t' < 44 ∧ u' < 6 ∧ x.2.1 = Int32.ofNat t' ∧ x.2.2.1 = Int32.ofNat u' ∧ K.2.2.2.1 t' = Int32.ofNat u' ∧ t' ≠ t := by
    intro i x h1 h2 h3
    obtain ⟨t', u', c1, c2, c3, c4, c5⟩ := a14 i x h1 h2 h3
    refine ⟨t', u', c1, c2, c3, c4, c5, fun e => ?_⟩
    subst e
    rw [hn] at c5
    exact absurd c5.symm (jx_m1 (by omega))
  rw [hdb]
  refine ⟨fun t' ht' => ?_, ?_, ?_, ?_, ?_, ?_, fun i x h1 h2 h3 => ?_, fun i x h1 h2 h3 e => ?_, up_eq _ _ _⟩
  · by_cases e : t' = t
    · subst e; rw [up_eq]; exact Or.inr ⟨u, l, hu, rfl, hlt, hcv, hct, hd⟩
    · rw [up_ne _ _ e]; exact a7 t' ht'
  · -- counts
    rw [mC, hdb]
    by_cases h38 : t < 38
    · have e1 := dnOn_up (d := K.2.2.2.1) (k := 0) (n := 38) (t := t) (x := Int32.ofNat u) (Nat.zero_le _) (by omega) hn hm1
      have e2 := dnOn_ne (d := K.2.2.2.1) (k := 38) (n := 6) (t := t) (x := Int32.ofNat u) (by omega)
      have e3 := sumOn_up (f := fun i => if K.2.2.2.1 i = -1 then 0 else cSz C kc i) (g := fun i => if jx_up K.2.2.2.1 t (Int32.ofNat u) i = -1 then 0 else cSz C kc i) (k := t) (fun i hi => by show (if jx_up _ _ _ i = -1 then 0 else _) = _; rw [up_ne _ _ hi]) 38 h38
      simp only [up_eq, hn, if_true, if_neg hm1] at e3
      have e4 : sumOn (fun i => if jx_up K.2.2.2.1 t (Int32.ofNat u) (38 + i) = -1 then 0 else cSz C kc (38 + i)) 6 = sumOn (fun i => if K.2.2.2.1 (38 + i) = -1 then 0 else cSz C kc (38 + i)) 6 := sumOn_eq 6 (fun i hi => by rw [up_ne _ _ (by omega)])
      rw [jk_note, if_pos h38, e1, e2, e4]
      refine ⟨?_, b2, ?_, b4⟩
      · show K.1 12 + 1 = _; omega
      · show K.1 14 + l.length = _; omega
    · have e1 := dnOn_up (d := K.2.2.2.1) (k := 38) (n := 6) (t := t) (x := Int32.ofNat u) (by omega) (by omega) hn hm1
      have e2 := dnOn_ne (d := K.2.2.2.1) (k := 0) (n := 38) (t := t) (x := Int32.ofNat u) (by omega)
      have e3 := sumOn_up (f := fun i => if K.2.2.2.1 (38 + i) = -1 then 0 else cSz C kc (38 + i)) (g := fun i => if jx_up K.2.2.2.1 t (Int32.ofNat u) (38 + i) = -1 then 0 else cSz C kc (38 + i)) (k := t - 38) (fun i hi => by show (if jx_up _ _ _ (38 + i) = -1 then 0 else _) = _; rw [up_ne _ _ (by omega)]) 6 (by omega)
      simp only [show 38 + (t - 38) = t from by omega, up_eq, hn, if_true, if_neg hm1] at e3
      have e4 : sumOn (fun i => if jx_up K.2.2.2.1 t (Int32.ofNat u) i = -1 then 0 else cSz C kc i) 38 = sumOn (fun i => if K.2.2.2.1 i = -1 then 0 else cSz C kc i) 38 := sumOn_eq 38 (fun i hi => by rw [up_ne _ _ (by omega)])
      rw [jk_note, if_neg h38, e1, e2, e4]
      refine ⟨b1, ?_, b3, ?_⟩
      · show K.1 13 + 1 = _; omega
      · show K.1 15 + l.length = _; omega
  · rw [jk_note]
    split
    · show K.1 14 + l.length ≤ 10000; omega
    · show K.1 14 ≤ 10000; omega
  · rw [jk_note]
    split
    · show K.1 15 ≤ 10000; omega
    · show K.1 15 + l.length ≤ 10000; omega
  · rw [jk_note]
    split
    · show K.1 12 + 1 + K.1 13 = _; omega
    · show K.1 12 + (K.1 13 + 1) = _; omega
  · have d1 := dnOn_le (d := K.2.2.2.1) (k := 0) (n := 38)
    have d2 := dnOn_le (d := K.2.2.2.1) (k := 38) (n := 6)
    by_cases h38 : t < 38
    · have e1 := dnOn_up (d := K.2.2.2.1) (k := 0) (n := 38) (t := t) (x := Int32.ofNat u) (Nat.zero_le _) (by omega) hn hm1
      have := dnOn_le (d := jx_up K.2.2.2.1 t (Int32.ofNat u)) (k := 0) (n := 38)
      omega
    · have e1 := dnOn_up (d := K.2.2.2.1) (k := 38) (n := 6) (t := t) (x := Int32.ofNat u) (by omega) (by omega) hn hm1
      have := dnOn_le (d := jx_up K.2.2.2.1 t (Int32.ofNat u)) (k := 38) (n := 6)
      omega
  · obtain ⟨t', u', c1, c2, c3, c4, c5, c6⟩ := hold i x h1 h2 h3
    exact ⟨t', u', c1, c2, c3, c4, by rw [up_ne _ _ c6]; exact c5⟩
  · obtain ⟨t', u', c1, c2, c3, c4, c5, c6⟩ := hold i x h1 h2 h3
    exact c6 (jx_inj (by omega) (by omega) (c3.symm.trans e))
/-- DONE -/
theorem mhear_done {u : Nat} {l : Jl} (hC : CK C) (h : IM C Ws false kc ck R K) (hov : jk_over C.1 K = false) (e3 : m.1 3 = Int32.ofNat u) (hu : u < 6) (ht : t < 44) (hcv : cV C kc t) (hct : cT C kc t = some l) (hd : HD Ws u kc t) : IM C Ws false kc ck (jk_done C.1 K R m t l.length).2 (jk_done C.1 K R m t l.length).1 ∧ l.length < 10000 ∧ (K.2.2.2.1 t = -1 → R.1.length < 359) := by
  obtain ⟨hJ, hK⟩ := IM_J rfl h
  obtain ⟨hlt, hj, h11, hnp, _⟩ := m_job hC hJ hK hov
  have hf := (over_not hov).1
  have hl4 := cT_len hC hcv hct
  have h8 := hC.1
  have hlen : K.2.2.2.1 t = -1 → R.1.length < 359 := by
    intro hn
    obtain ⟨_, _, _, _, _, n6, _⟩ := note_J hJ hf hlt hu ht hcv hct hd hn hl4
    have a13 := hJ.2.2.2.2.2.2.2.2.2.2.2.2.1
    rw [hf, if_pos rfl] at a13
    omega
  refine ⟨?_, by omega, hlen⟩
  rw [jk_done]
  by_cases hn : K.2.2.2.1 t = -1
  · rw [if_pos hn]
    obtain ⟨n1, n2, n3, n4, n5, n6, n7, n8, n9⟩ := note_J hJ hf hlt hu ht hcv hct hd hn hl4
    obtain ⟨a1, a2, a3, a4, a5, a6, a7, a8, a9, a10, a11, a12, a13, a14, a15⟩ := hJ
    have hd1 : jk_d1 K m t l.length = jk_note K t (Int32.ofNat u) l.length := by rw [jk_d1, e3]
    have hdr : jk_dr R m t l.length = jr_w R (0, Int32.ofNat t, Int32.ofNat u, Int32.ofNat l.length) := by rw [jk_dr, e3]
    rw [hd1, hdr]
    have hk9 : (jk_note K t (Int32.ofNat u) l.length).1 9 = K.1 9 := jk_note_p
    have hkj : (jk_note K t (Int32.ofNat u) l.length).2.2.1 = K.2.2.1 := by rw [jk_note]; split <;> rfl
    have hkf : (jk_note K t (Int32.ofNat u) l.length).2.1 = K.2.1 := by rw [jk_note]; split <;> rfl
    have hrec : jk_rec1 C.1 C.2.1 (cF C kc) K (0, Int32.ofNat t, Int32.ofNat u, Int32.ofNat l.length) = jk_note K t (Int32.ofNat u) l.length := by
      rw [jk_rec1, if_neg (show (0 : Int32) ≠ 1 from by decide), if_neg (show (0 : Int32) ≠ 2 from by decide)]
      show jk_note K (ji (Int32.ofNat t)) (Int32.ofNat u) (ji (Int32.ofNat l.length)) = _
      rw [ji_of (by omega), ji_of (by omega)]
    have hMK : MK C kc ck (jk_note K t (Int32.ofNat u) l.length) := by
      rw [jk_note]
      split
      · exact hK
      · exact hK
    have hr : ((0, Int32.ofNat t, Int32.ofNat u, Int32.ofNat l.length) : Je).1 = 1 → K.1 9 + 1 < 100 := fun z => absurd z (show (0 : Int32) ≠ 1 from by decide)
    have hrok : (((0, Int32.ofNat t, Int32.ofNat u, Int32.ofNat l.length) : Je).1 = 1 → K.1 9 + 1 < 100) ∧ (((0, Int32.ofNat t, Int32.ofNat u, Int32.ofNat l.length) : Je).1 = 2 → K.1 9 < C.1.length) ∧ (((0, Int32.ofNat t, Int32.ofNat u, Int32.ofNat l.length) : Je).1 ≠ 1 → ((0, Int32.ofNat t, Int32.ofNat u, Int32.ofNat l.length) : Je).1 ≠ 2 → jn0 (Int32.ofNat t) ∧ ji (Int32.ofNat t) < 44 ∧ jn0 (Int32.ofNat l.length) ∧ ji (Int32.ofNat l.length) < 10000 ∧ K.1 12 < 10000 ∧ K.1 13 < 10000 ∧ K.1 14 < 10000000 ∧ K.1 15 < 10000000) :=
      ⟨fun z => absurd z (show (0 : Int32) ≠ 1 from by decide), fun z => absurd z (show (0 : Int32) ≠ 2 from by decide), fun _ _ => ⟨(jn0_of (by omega) rfl).1, by rw [ji_of (by omega)]; exact ht, (jn0_of (by omega) rfl).1, by rw [ji_of (by omega)]; omega, by omega, by omega, by omega, by omega⟩⟩
    rw [hf, if_pos rfl] at a13
    have hl1 : (jr_w R (0, Int32.ofNat t, Int32.ofNat u, Int32.ofNat l.length)).1.length = R.1.length + 1 := jr_w_len
    have hent := ent_w (R := R) (e := (0, Int32.ofNat t, Int32.ofNat u, Int32.ofNat l.length)) (show (0 : Int32) ≠ 1 from by decide) n7 (fun _ => ⟨t, u, ht, hu, rfl, rfl, n9⟩)
    have hone := jr_one_w (R := R) (e := (0, Int32.ofNat t, Int32.ofNat u, Int32.ofNat l.length)) (show (0 : Int32) ≠ 1 from by decide) a15 (fun _ => n8)
    have hfj : (jr_w R (0, Int32.ofNat t, Int32.ofNat u, Int32.ofNat l.length)).2 = R.2 := by rw [jr_w_e (show (0 : Int32) ≠ 1 from by decide)]
    split
    · rename_i hx
      have hje : (C.1[K.1 9]?).getD 0 = cJ C kc := by rw [a3]; rfl
      have hm1 : Int32.ofNat (cJ C kc) ≠ -1 := jx_m1 (by have := (hC.2.2.1 kc hlt).1; omega)
      rw [hje]
      have hX : cX C kc := by
        rcases hx with hx | hx
        · refine tX_held (f := fun i => if (jk_note K t (Int32.ofNat u) l.length).2.2.2.1 i = -1 then none else cT C kc i) rfl (fun i l' hi e => ?_) ?_
          · split at e
            · cases e
            · rename_i hne
              rcases n1 i (by omega) with z | ⟨u', l2, z1, z2, z3, z4, z5, z6⟩
              · exact absurd z hne
              · exact ⟨z4, e⟩
          · rw [n2.2.2.1] at hx
            refine Nat.lt_of_lt_of_le hx (Nat.le_of_eq (sumOn_eq 38 (fun i hi => ?_)))
            split
            · rfl
            · rfl
        · refine tX_heldP (f := fun i => if (jk_note K t (Int32.ofNat u) l.length).2.2.2.1 (38 + i) = -1 then none else cT C kc (38 + i)) rfl (fun i l' hi e => ?_) ?_
          · split at e
            · cases e
            · rename_i hne
              rcases n1 (38 + i) (by omega) with z | ⟨u', l2, z1, z2, z3, z4, z5, z6⟩
              · exact absurd z hne
              · exact ⟨z4, e⟩
          · rw [n2.2.2.2] at hx
            refine Nat.lt_of_lt_of_le hx (Nat.le_of_eq (sumOn_eq 6 (fun i hi => ?_)))
            split
            · rfl
            · rfl
      refine IM_w2 h ?_ ?_ hMK hrok rfl (by rw [hrec, hk9]; omega)
      · rw [hrec, jk_rec1, if_neg (by decide), if_pos rfl, hk9, hje]; exact coEq.refl _
      · have hfj2 : (jr_w (jr_w R (0, Int32.ofNat t, Int32.ofNat u, Int32.ofNat l.length)) (2, -1, -1, 0)).2 = R.2 := by rw [jr_w_e (by decide)]; exact hfj
        have hl2 : (jr_w (jr_w R (0, Int32.ofNat t, Int32.ofNat u, Int32.ofNat l.length)) (2, -1, -1, 0)).1.length = R.1.length + 2 := by rw [jr_w_len, hl1]
        refine ⟨by rw [hfj2]; exact a1, a2, hk9.trans a3, hkj.trans a4, a5, Or.inr ⟨hlt, rfl, hX⟩, n1, n2, fun z => absurd z hm1, by show (jk_note K t _ _).1 14 ≤ _; omega, by show (jk_note K t _ _).1 15 ≤ _; omega, by rw [hfj2, hl2]; omega, ?_, ent_w (by decide) hent (fun z => absurd z (by decide)), jr_one_w (by decide) hone (fun z => absurd z (by decide))⟩
        rw [hl2]
        show R.1.length + 2 ≤ 45 * kc + (jk_note K t (Int32.ofNat u) l.length).1 12 + (jk_note K t (Int32.ofNat u) l.length).1 13 + (if Int32.ofNat (cJ C kc) = -1 then 0 else 1)
        rw [if_neg hm1]; omega
    · rename_i hx
      show IM C Ws false kc ck (jr_w R (0, Int32.ofNat t, Int32.ofNat u, Int32.ofNat l.length)) (jk_note K t (Int32.ofNat u) l.length)
      refine IM_w h (by rw [hrec]; exact coEq.refl _) ?_ hMK hrok
      have hxx : (jk_note K t (Int32.ofNat u) l.length).1 14 ≤ 1000 ∧ (jk_note K t (Int32.ofNat u) l.length).1 15 ≤ 300 := by omega
      refine ⟨by rw [hfj]; exact a1, a2, hk9.trans a3, hkj.trans a4, a5, by rw [hkf]; exact a6, n1, n2, fun _ => hxx, by omega, by omega, by rw [hfj, hl1]; omega, ?_, hent, hone⟩
      rw [hl1, hkf, hf, if_pos rfl]; omega
  · rw [if_neg hn]; exact h
end MDONE
