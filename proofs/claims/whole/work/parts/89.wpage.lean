/-! pages; all that a worker hears -/
section WPAGE
variable {C : Jc} {Ws : Nat → Jw} {L : Jn} {kc v p t : Nat} {W W' : Jw} {m : Jm}
theorem jw_pg2_sm {k tt : Nat} : (jw_pg2 W m k tt).1 0 = W.1 0 ∧ (jw_pg2 W m k tt).1 12 = W.1 12 ∧ (jw_pg2 W m k tt).1 13 = W.1 13 ∧ (jw_pg2 W m k tt).1 17 = 4 ∧ (jw_pg2 W m k tt).2.1 = W.2.1 ∧ (jw_pg2 W m k tt).2.2.1 = W.2.2.1 ∧ (jw_pg2 W m k tt).2.2.2.1 4 = W.2.2.2.1 4 ∧ (jw_pg2 W m k tt).2.2.2.1 5 = W.2.2.2.1 5 ∧ (jw_pg2 W m k tt).2.2.2.2 = W.2.2.2.2 := by
  rw [jw_pg2]; split <;> exact ⟨rfl, rfl, rfl, rfl, rfl, rfl, rfl, rfl, rfl⟩
/-- the page that worker v waits for, out of what the task made: it may be taken -/
theorem page_take {j x : Nat} {l : Jl} {f : Nat → Int32} (hC : CK C) (hok : wOK C Ws kc v W) (hj : W.2.1 = some j) (h12 : W.1 12 = 3) (hp : W.2.2.2.2.1 = Int32.ofNat p) (hpc : p < C.1.length)
    (hm : m = jd_page f x (jd_sel (cN C p) (W.1 15) (f 7) l)) (hx : x < 100000) (ht38 : W.1 15 < 38) (hcv : cV C p (W.1 15)) (hct : cT C p (W.1 15) = some l) (h7 : f 7 = Int32.ofNat (W.1 13) - 38) (h8x : x = W.1 16) :
    jn0 (m.1 9) ∧ jn0 (m.1 10) ∧ (W.2.2.2.1 1).length + ji (m.1 9) ≤ 1000 ∧ ji (m.1 9) ≤ 16 ∧ ji (m.1 10) ≤ 1000 ∧ W.1 16 ≤ 2000 ∧ W.1 15 ≤ 2000 ∧ ∀ Ws', (∀ u, u < 6 → Wle (Ws u) (Ws' u)) → wOK C Ws' kc v (jw_pg2 W m (ji (m.1 9)) (ji (m.1 10))) := by
  have h8 := hC.1
  obtain ⟨o1, o2, o3, o4⟩ := hok
  rcases o4 with ⟨_, _, d3⟩ | ⟨q, d1, d2, d3, d4, d5⟩
  · rw [hj] at d3; cases d3
  · have hqp : q = p := jx_inj (by omega) (by omega) (d1.symm.trans hp)
    subst hqp
    obtain ⟨b1, b2, b3, b4, b5⟩ := d5 j hj
    rcases b5 with ⟨c1, _⟩ | ⟨c1, _⟩ | ⟨c1, c2, ls, c3, c4, c5, c6⟩ | ⟨c1, _⟩
    · omega
    · omega
    · have hat : W.1 15 < ls.length := by
        rcases hcv with ⟨_, h2⟩ | ⟨h2, _⟩
        · rw [cA_len c3]; exact h2
        · omega
      have hl : ls[W.1 15]? = some l := by
        rw [← (me_seq_get _ _ c3).2 (W.1 15) (by rw [← cA_len c3]; exact hat)]
        have := hct
        rw [cT, tT, if_pos ht38] at this
        exact this
      have hf7 : f 7 = Int32.ofNat (W.1 13 - 38) := by rw [h7, show (38 : Int32) = Int32.ofNat 38 from rfl, jx_sub c2]
      have hsel : jd_sel (cN C q) (W.1 15) (f 7) l = me_sel (cN C q) (W.1 13 - 38) l := by rw [jd_sel_38 ht38, hf7]
      rw [hsel, h8x] at hm
      obtain ⟨g1, g2, g3, g4⟩ := jd_page_f f (W.1 16) (me_sel (cN C q) (W.1 13 - 38) l)
      rw [← hm] at g1 g2 g3 g4
      obtain ⟨w3a, w3b⟩ := w3_page (f := f) c5 hat hl
      rw [← hm] at w3a
      have hsum : l.length ≤ me_sum ls := by
        rw [me_sum_on]
        have h1 : (ls.getD (W.1 15) []).length = l.length := by rw [List.getD_eq_getElem?_getD, hl]; rfl
        have h2 := sumOn_mono (f := fun i => (ls.getD i []).length) (n := W.1 15 + 1) ls.length (by omega)
        have h3 : sumOn (fun i => (ls.getD i []).length) (W.1 15 + 1) = sumOn (fun i => (ls.getD i []).length) (W.1 15) + (ls.getD (W.1 15) []).length := rfl
        omega
      have hsl := me_sel_le (np := cN C q) (r := W.1 13 - 38) l
      have hk16 : (((me_sel (cN C q) (W.1 13 - 38) l).drop (W.1 16)).take 16).length ≤ 16 := by rw [List.length_take]; omega
      have ho16 : W.1 16 ≤ 1000 := by
        rcases c5.2.2.2.1 with e | ⟨_, e⟩
        · omega
        · rw [List.getD_eq_getElem?_getD, hl] at e
          have e' : W.1 16 < (me_sel (cN C q) (W.1 13 - 38) l).length := e
          omega
      obtain ⟨n1, n2⟩ := jn0_of (by omega) g1
      obtain ⟨n3, n4⟩ := jn0_of (by omega) g2
      have hls := cA_len c3
      have h38 : me_ns (cI C q) ≤ 38 := me_ns_38 (cI_600 hC)
      refine ⟨n1, n3, by rw [n2]; omega, by rw [n2]; exact hk16, by rw [n4]; omega, by omega, by omega, fun Ws' hWs => ?_⟩
      rw [n2, n4]
      obtain ⟨s1, s2, s3, s4, s5, s6, s7, s8, s9⟩ := jw_pg2_sm (W := W) (m := m) (k := (((me_sel (cN C q) (W.1 13 - 38) l).drop (W.1 16)).take 16).length) (tt := (me_sel (cN C q) (W.1 13 - 38) l).length)
      refine ⟨s1.trans o1, by omega, ⟨?_, fun e => ?_⟩, Or.inr ⟨q, by rw [s9]; exact d1, d2, d3, fun t l ht e => d4 t l ht (by rw [s9] at e; exact e), fun j' hj' => ?_⟩⟩
      · rw [wR2, s7, s8, s9]; exact o3.1
      · rw [s5, hj] at e; cases e
      · rw [s5] at hj'
        obtain ⟨f1, f2, f3, f4, f5⟩ := d5 j' hj'
        rw [s3]
        refine ⟨f1, f2, f3, by rw [s9]; exact f4, Or.inr (Or.inr (Or.inl ⟨s2.trans c1, by rw [s3]; exact c2, ls, c3, c4, by rw [s3]; exact w3a, fun s hs => ?_⟩))⟩
        obtain ⟨u, u1, u2, u3⟩ := c6 s hs
        exact ⟨u, u1, by rw [s6]; exact u2, HD_mono (by omega) (hWs u u1) u3⟩
    · omega
/-- PAGE -/
theorem hear_page (hC : CK C) (h : IV C Ws L kc) (hv : v < 6) (e2 : m.1 2 = 5) (hpg : mPg C kc m) (h38 : ∃ t, t < 38 ∧ m.1 6 = Int32.ofNat t) : jw_mok C.1 C.2.1 (Ws v) m ∧ SP C Ws L kc v (jw_hear C.1 C.2.1 (Ws v) L m) := by
  have h8 := hC.1
  have hnot : ∀ (x : Int32), x ≠ 5 → m.1 2 ≠ x := fun x hx e => hx (e.symm.trans e2)
  have hok := h.1 v hv
  have key : (Ws v).1 12 = 3 → jw_an (Ws v) m = true → jn0 (m.1 9) ∧ jn0 (m.1 10) ∧ ((Ws v).2.2.2.1 1).length + ji (m.1 9) ≤ 1000 ∧ ji (m.1 9) ≤ 16 ∧ ji (m.1 10) ≤ 1000 ∧ (Ws v).1 16 ≤ 2000 ∧ (Ws v).1 15 ≤ 2000 ∧ ∀ Ws', (∀ u, u < 6 → Wle (Ws u) (Ws' u)) → wOK C Ws' kc v (jw_pg2 (Ws v) m (ji (m.1 9)) (ji (m.1 10))) := by
    intro h12 han
    obtain ⟨p, t, l, f, x, a1, a2, a3, a4, a5, a6, a7, a8, a9, a10, a11⟩ := hpg
    obtain ⟨g1, g2, g3, g4⟩ := jd_page_f f x (jd_sel (cN C p) t (f 7) l)
    rw [← a1] at g1 g2 g3
    have han2 := of_decide_eq_true (p := m.1 2 = 5 ∧ m.1 5 = (Ws v).2.2.2.2.1 ∧ m.1 6 = Int32.ofNat ((Ws v).1 15) ∧ m.1 7 = Int32.ofNat ((Ws v).1 13) - 38 ∧ m.1 8 = Int32.ofNat ((Ws v).1 16)) han
    obtain ⟨n1, n2, n3, n4, n5⟩ := han2
    have hjob : ∃ j, (Ws v).2.1 = some j := by
      cases e : (Ws v).2.1 with
      | some j => exact ⟨j, rfl⟩
      | none => have := hok.2.2.1.2 e; omega
    obtain ⟨j, hj⟩ := hjob
    have hdp : (Ws v).2.2.2.2.1 = Int32.ofNat p := by rw [← n2, g3 5 (by decide) (by decide)]; exact a8
    -- bounds of what it waits for
    have hb : (Ws v).1 15 ≤ 38 ∧ (Ws v).1 16 < 100000 := by
      obtain ⟨o1, o2, o3, o4⟩ := hok
      rcases o4 with ⟨_, _, d3⟩ | ⟨q, d1, d2, d3, d4, d5⟩
      · rw [hj] at d3; cases d3
      · obtain ⟨b1, b2, b3, b4, b5⟩ := d5 j hj
        rcases b5 with ⟨c1, _⟩ | ⟨c1, _⟩ | ⟨c1, c2, ls, c3, c4, c5, c6⟩ | ⟨c1, _⟩
        · omega
        · omega
        · have hls := cA_len c3
          have h38' : me_ns (cI C q) ≤ 38 := me_ns_38 (cI_600 hC)
          refine ⟨by have := c5.2.1; omega, ?_⟩
          rcases c5.2.2.2.1 with e | ⟨e0, e⟩
          · omega
          · have hsl := me_sel_le (np := cN C q) (r := (Ws v).1 13 - 38) (ls.getD ((Ws v).1 15) [])
            have h2 := sumOn_mono (f := fun i => (ls.getD i []).length) (n := (Ws v).1 15 + 1) ls.length (by omega)
            have h3 : sumOn (fun i => (ls.getD i []).length) ((Ws v).1 15 + 1) = sumOn (fun i => (ls.getD i []).length) ((Ws v).1 15) + (ls.getD ((Ws v).1 15) []).length := rfl
            rw [← me_sum_on] at h2
            omega
        · omega
    have hta : t = (Ws v).1 15 := jx_inj (by omega) (by omega) (by rw [← n3, g3 6 (by decide) (by decide)]; exact a9.symm)
    have hxo : x = (Ws v).1 16 := jx_inj (by omega) (by omega) (by rw [← n5, g3 8 (by decide) (by decide)]; exact a10.symm)
    have ht38 : t < 38 := by
      obtain ⟨t2, b1, b2⟩ := h38
      have : t = t2 := jx_inj (by omega) (by omega) (by rw [← b2, g3 6 (by decide) (by decide)]; exact a9.symm)
      omega
    subst hta
    exact page_take hC hok hj h12 hdp a5 a1 a11 ht38 a3 a2 (by rw [← n4, g3 7 (by decide) (by decide)]) hxo
  refine ⟨⟨Or.inr (Or.inr (Or.inl e2)), fun e => absurd e (hnot 1 (by decide)), fun e => absurd e (hnot 4 (by decide)), fun _ h12 han => ?_⟩, ?_⟩
  · obtain ⟨k1, k2, k3, k4, k5, k6, k7, _⟩ := key h12 han
    exact ⟨k1, k2, k3, k4, k5, k6, k7⟩
  · rw [jw_hear, if_neg (hnot 1 (by decide)), if_neg (hnot 4 (by decide)), if_pos e2, jw_hp]
    by_cases h12 : (Ws v).1 12 = 3
    · rw [if_pos h12]
      by_cases han : jw_an (Ws v) m = true
      · rw [if_pos han]
        obtain ⟨_, _, _, _, _, _, _, k8⟩ := key h12 han
        have hs9 := (jw_pg2_sm (W := Ws v) (m := m) (k := ji (m.1 9)) (tt := ji (m.1 10))).2.2.2.2.2.2.2.2
        exact SP_keep hs9 (k8 _ (Wle_up (Or.inl ⟨by rw [hs9], fun t l e => by rw [hs9]; exact e⟩)))
      · rw [if_neg han]; exact SP_same h hv
    · rw [if_neg h12]; exact SP_same h hv
/-- whatever it hears -/
theorem hear_all (hC : CK C) (h : IV C Ws L kc) (hv : v < 6) (hm : mW C Ws kc v m) : jw_mok C.1 C.2.1 (Ws v) m ∧ SP C Ws L kc v (jw_hear C.1 C.2.1 (Ws v) L m) := by
  rcases hm with ⟨h1, p, t, a1, a2, a3, a4, a5, a6, a7, a8⟩ | ⟨h1, u, p, t, xo, a1, a2, a3, a4, a5, a6, a7, a8, a9, a10, a11⟩ | ⟨h1, h2, h3⟩ | ⟨h1, p, a1, a2⟩
  · exact hear_give hC h hv h1 a1 a2 a3 a4 a5 a6 a7 a8
  · exact hear_fetch hC h hv h1 a1 a2 a3 a4 a5 a6 a7 a8 a9 a10 a11
  · exact hear_page hC h hv h1 h2 h3
  · exact hear_gone h hv h1
/-- the messages that wait -/
theorem hears_all (hC : CK C) (hv : v < 6) : ∀ (n : Nat) (Ws : Nat → Jw) (L : Jn), IV C Ws L kc → jw_hok C.1 C.2.1 n (Ws v, L) ∧ IV C (jx_up Ws v (jw_hears C.1 C.2.1 n (Ws v, L)).1) (jw_hears C.1 C.2.1 n (Ws v, L)).2 kc := by
  intro n
  induction n with
  | zero => intro Ws L h; exact ⟨trivial, by show IV C (jx_up Ws v (Ws v)) L kc; rw [up_self]; exact h⟩
  | succ n ih =>
    intro Ws L h
    have hno : (Ws v).1 0 = v := (h.1 v hv).1
    rw [jw_hok, jw_hears]
    show ((Ws v).1 0 < 7 ∧ _) ∧ _
    rw [hno]
    cases hib : L.1 v with
    | nil =>
      simp only [hno, hib]
      obtain ⟨i1, i2⟩ := ih Ws L h
      exact ⟨⟨by omega, i1⟩, i2⟩
    | cons m l =>
      simp only [hno, hib]
      have hpop : IV C Ws (jn_pop L v l) kc := by
        refine ⟨h.1, fun x hx m' hm => h.2.1 x hx m' ?_, fun m' hm => h.2.2 m' ?_⟩
        · have hm' : m' ∈ jx_up L.1 v l x := hm
          by_cases e : x = v
          · subst e; rw [up_eq] at hm'; rw [hib]; exact List.mem_cons_of_mem _ hm'
          · rw [up_ne _ _ e] at hm'; exact hm'
        · have hm' : m' ∈ jx_up L.1 v l 6 := hm
          rw [up_ne _ _ (by omega)] at hm'; exact hm'
      obtain ⟨k1, k2⟩ := hear_all hC hpop hv (h.2.1 v hv m (by rw [hib]; exact List.mem_cons_self))
      have hiv := IV_sp hC.1 hpop hv k2
      obtain ⟨i1, i2⟩ := ih _ _ hiv
      rw [up_eq] at i1 i2
      rw [up_up] at i2
      exact ⟨⟨by omega, k1, i1⟩, i2⟩
end WPAGE
