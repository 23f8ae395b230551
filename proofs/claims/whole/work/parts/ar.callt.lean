/-! the calls, one by one (the rest) -/
section CALLT
variable {h h' g : sm_H} {L c n B N M lo hi : Nat} {xs : Nat → Int32} {b b' : Bool} {cl cl' : List Nat} {G G' : Nat → Nat → Int32} {PR PR' : Nat → Nat → List (Int32 × Int64)} {F F' : Nat → Jl} {D D' : List (Int32 × Int64)} {n' k' : Nat} {av mv : List Value} {k v p0 p1 p2 p3 p4 : Int32} {w q1 q2 : Int64}
theorem jm_f {m lo hi : Nat} (hx : m < 2147483648) (hl : lo < 2147483648) (hh : hi < 2147483648) (hf : m < lo ∨ hi < m) : jm_in (Int32.ofNat m) (Int32.ofNat lo) (Int32.ofNat hi) = false := by
  rw [jm_rng hx hl hh]
  rcases hf with z | z
  · rw [decide_eq_false (by omega)]; rfl
  · rw [decide_eq_false (show ¬ m ≤ hi by omega)]; cases decide (lo ≤ m) <;> rfl
theorem jm_t {m lo hi : Nat} (hl : lo ≤ m) (hh : m ≤ hi) (hx : hi < 2147483648) : jm_in (Int32.ofNat m) (Int32.ofNat lo) (Int32.ofNat hi) = true := by rw [jm_rng (by omega) (by omega) hx, decide_eq_true hl, decide_eq_true hh]; rfl
/-- job -/
theorem C_job (hv : INV L xs c h) : OKV L xs c h 187 [.ref 0, .int p0, .int p1, .int p2, .int p3, .int p4] 172 [.ref 598, .int p0, .int p1, .int p2, .int p3, .int p4] := by
  obtain ⟨hs, b, cl, G, PR, F, D, n, hc, hr⟩ := hv
  obtain ⟨x1, x2, x3, x4, x5, cl', F', x6, x7⟩ := CSt_f hc
  by_cases ho : jn_out p0 8
  · exact OKV_T (k := 1) hs hc hr (hx_job x1.1 (s_Mill_job_x ho) ca_187_0) (s_Ref_job1 (RSt_junk hr).1.1 rfl (jm_out (m := 7) (by omega) ho))
  · obtain ⟨j, hj, rfl⟩ := jn_in p0 ho
    have hj7 : jm_in (Int32.ofNat j) 0 7 = true := jm_in_n (k := 7) (by omega) (by omega)
    by_cases h1 : jn_out p1 16
    · exact OKV_T (k := 2) hs hc hr (hx_job x1.1 (s_Mill_job_a hj h1) ca_187_1) (s_Ref_job2a (RSt_junk hr).1.1 rfl hj7 (jm_out (m := 15) (by omega) h1))
    · obtain ⟨fa, hfa, ea⟩ := jn_in p1 h1
      have i1 : jm_in p1 0 15 = true := by rw [ea]; exact jm_in_n (k := 15) (by omega) (by omega)
      by_cases h3 : jn_out p3 16
      · exact OKV_T (k := 2) hs hc hr (hx_job x1.1 (s_Mill_job_o hj ea hfa h3) ca_187_1) (s_Ref_job2o (RSt_junk hr).1.1 rfl hj7 i1 (jm_out (m := 15) (by omega) h3))
      · obtain ⟨fo, hfo, eo⟩ := jn_in p3 h3
        have i3 : jm_in p3 0 15 = true := by rw [eo]; exact jm_in_n (k := 15) (by omega) (by omega)
        by_cases h2 : ¬ p2 = -1 ∧ jn_out p2 16
        · have i2 : jm_in p2 (-1) 15 = false := by
            rw [jm_in]
            rcases h2.2 with z | z
            · rw [decide_eq_false (show ¬ (-1 : Int32) ≤ p2 from fun e => by
                rw [Int32.le_iff_toInt_le, show (-1 : Int32).toInt = -1 from rfl] at e
                exact h2.1 (Int32.toInt_inj.1 (by rw [show (-1 : Int32).toInt = -1 from rfl]; omega)))]
              rfl
            · rw [decide_eq_false (show ¬ p2 ≤ (15 : Int32) from fun e => by
                rw [Int32.le_iff_toInt_le, show (15 : Int32).toInt = 15 from rfl] at e
                omega)]
              cases decide ((-1 : Int32) ≤ p2) <;> rfl
          exact OKV_T (k := 2) hs hc hr (hx_job x1.1 (s_Mill_job_b hj ea hfa eo hfo h2.1 h2.2) ca_187_1) (s_Ref_job2b (RSt_junk hr).1.1 rfl hj7 i1 i3 i2)
        · have hb : p2 = -1 ∨ ∃ k, k < 16 ∧ p2 = Int32.ofNat k := by
            by_cases e : p2 = -1
            · exact Or.inl e
            · exact Or.inr (jn_in p2 (fun z => h2 ⟨e, z⟩))
          have i2 : jm_in p2 (-1) 15 = true := by
            rcases hb with e | ⟨f, hf, e⟩
            · rw [e]; decide
            · rw [e, jm_in, show (15 : Int32) = Int32.ofNat 15 from rfl, jx_le (by omega) (by omega), decide_eq_true (show f ≤ 15 by omega), decide_eq_true (show (-1 : Int32) ≤ Int32.ofNat f from by
                rw [Int32.le_iff_toInt_le, sm_ofNat_toInt (by omega), show (-1 : Int32).toInt = -1 from rfl]; omega)]
              rfl
          by_cases h4 : p4.toInt < 1 ∨ 6 < p4.toInt
          · have i4 : jm_in p4 1 6 = false := by
              rw [jm_in]
              rcases h4 with z | z
              · rw [decide_eq_false (show ¬ (1 : Int32) ≤ p4 from fun e => by
                  rw [Int32.le_iff_toInt_le, show (1 : Int32).toInt = 1 from rfl] at e
                  omega)]
                rfl
              · rw [decide_eq_false (show ¬ p4 ≤ (6 : Int32) from fun e => by
                  rw [Int32.le_iff_toInt_le, show (6 : Int32).toInt = 6 from rfl] at e
                  omega)]
                cases decide ((1 : Int32) ≤ p4) <;> rfl
            exact OKV_T (k := 2) hs hc hr (hx_job x1.1 (s_Mill_job_p hj ea hfa eo hfo hb h4) ca_187_1) (s_Ref_job2p (RSt_junk hr).1.1 rfl hj7 i1 i3 i2 i4)
          · obtain ⟨np, hnp, ed⟩ := i_nn (x := p4) (by omega)
            have enp : p4.toInt = np := by rw [ed, sm_ofNat_toInt hnp]
            have i4 : jm_in p4 1 6 = true := by rw [ed]; exact jm_t (lo := 1) (hi := 6) (by omega) (by omega) (by omega)
            have hm := (RSt_junk hr).1.2.2.1 j 0 hj (by omega)
            have hd := (RSt_junk hr).1.2.2.1 j 2 hj (by omega)
            cases b with
            | true =>
              have r1 := s_Mill_job_r (b := p2) (c := p3) hj ea hfa eo hfo hb ed (by omega) (by omega) x1 x2
              by_cases y0 : (PR j 0).length = 0
              · exact OKV_T (k := 3) hs hc hr (hx_job x1.1 r1 ca_187_2) (s_Ref_job3m (RSt_junk hr).1.1 rfl hm.1 hd.1 hm.2.1 hd.2.1 hj i1 i3 i2 i4 y0)
              · by_cases y2 : (PR j 2).length = 0
                · exact OKV_T (k := 3) hs hc hr (hx_job x1.1 r1 ca_187_2) (s_Ref_job3r (RSt_junk hr).1.1 rfl hm.1 hd.1 hm.2.1 hd.2.1 hj i1 i3 i2 i4 y0 y2)
                · exact OKV_T (k := 3) hs hc hr (hx_job x1.1 r1 ca_187_2) (s_Ref_job3o (RSt_junk hr).1.1 rfl hm.1 hd.1 hm.2.1 hd.2.1 hj i1 i3 i2 i4 y0 y2 (RSt_junk hr).1.2.2.2.2.2.1)
            | false =>
              by_cases y0 : (PR j 0).length = 0
              · exact OKV_T (k := 3) hs hc hr (hx_job x1.1 (s_Mill_job_m hj ea hfa eo hfo hb ed (by omega) (by omega) x1 x2 x6 y0) ca_187_2) (s_Ref_job3m (RSt_junk hr).1.1 rfl hm.1 hd.1 hm.2.1 hd.2.1 hj i1 i3 i2 i4 y0)
              · by_cases y2 : (PR j 2).length = 0
                · exact OKV_T (k := 3) hs hc hr (hx_job x1.1 (s_Mill_job_n hj ea hfa eo hfo hb ed (by omega) (by omega) x1 x2 x6 y0 y2) ca_187_2) (s_Ref_job3r (RSt_junk hr).1.1 rfl hm.1 hd.1 hm.2.1 hd.2.1 hj i1 i3 i2 i4 y0 y2)
                · obtain ⟨h', r1, y3, y4⟩ := XI_job hj ea hfa eo hfo hb ed (by omega) (by omega) y0 y2 (CSt_0 hc)
                  exact OKV_O (cl' := []) hs hr y4 (ho_job x1.1 r1) (CSt_of y3) (fun g hg => by
                    obtain ⟨h2, r2, t1, t2, t3⟩ := RM_job hj i1 i3 i2 i4 y0 y2 hg.1
                    exact ⟨h2, r2, RSt_of t1, t2, t3⟩)
/-- drop -/
theorem C_drop (hv : INV L xs c h) : OKI L xs c h 188 [.ref 0, .int p0, .ref 624] 173 [.ref 598, .int p0] := by
  obtain ⟨hs, b, cl, G, PR, F, D, n, hc, hr⟩ := hv
  obtain ⟨x1, x2, x3, x4, x5, cl', F', x6, x7⟩ := CSt_f hc
  by_cases ho : jn_out p0 8
  · exact OKI_T (k := 1) hs hc hr (hx_drop x1.1 (s_Mill_drop_x ho) ca_188_0) (by decide) (s_Ref_drop1 (RSt_junk hr).1.1 (jm_out (m := 7) (by omega) ho))
  · obtain ⟨j, hj, rfl⟩ := jn_in p0 ho
    cases b with
    | true => exact OKI_T (k := 2) hs hc hr (hx_drop x1.1 (s_Mill_drop_r hj x1 x2) ca_188_2) (by decide) (s_Ref_drop2 (RSt_junk hr).1.1 (jm_in_n (k := 7) (by omega) (by omega)) (RSt_junk hr).1.2.2.2.2.2.1)
    | false =>
      obtain ⟨h', r1, y1, y2⟩ := XI_drop hj (CSt_0 hc)
      have h01 := (hr.1.2.2.2.2.1 j hj).2.1
      refine OKI_O (v := G j 1) (cl' := []) hs hr y2 (h01.elim Or.inl (fun e => Or.inr (Or.inl e))) (fun o1 o2 => ?_) (CSt_of y1) (fun g hg => by
        obtain ⟨h2, r2, t1, t2, t3⟩ := RM_drop hj hg.1
        exact ⟨h2, r2, RSt_of t1, t2, t3⟩)
      rcases h01 with e | e
      · rw [e] at r1 ⊢
        exact ho_drop0 x1.1 o1 o2 r1
      · rw [e] at r1 ⊢
        exact ho_drop1 x1.1 o1 o2 r1
/-- begin -/
theorem C_begin (hv : INV L xs c h) : OKI L xs c h 189 [.ref 0, .ref 624] 174 [.ref 598] := by
  obtain ⟨hs, b, cl, G, PR, F, D, n, hc, hr⟩ := hv
  obtain ⟨x1, x2, x3, x4, x5, cl', F', x6, x7⟩ := CSt_f hc
  cases b with
  | true => exact OKI_T (k := 1) hs hc hr (hx_begin x1.1 (s_Mill_begin_r x1 x2) ca_189_2) (by decide) (s_Ref_begin1 (RSt_junk hr).1.1 (RSt_junk hr).1.2.2.2.2.2.1)
  | false =>
    have epl : jx_pl h = pP G (mU G []) [] := by
      show jx_plan h 1 ((List.range' 0 8).countP (jx_md h 1)) [] = _
      rw [count_pP x6, plan_pP x6]
    by_cases hok : (jx_pl h).1 = true
    · obtain ⟨y0, h', r1, y1, y2⟩ := XI_begin (CSt_0 hc) hok
      rw [epl] at hok y0 r1 y1
      obtain ⟨l1, l2⟩ := pP_len (G := G) (mU G []) [] (fun j hj => by cases hj)
      exact OKI_O hs hr y2 (Or.inr (Or.inr (by decide))) (fun o1 o2 => ho_begin x1.1 o1 o2 r1) (Or.inr ⟨rfl, y0, x5, l2, 0, 0, Nat.zero_le _, y1⟩) (fun g hg => by
        obtain ⟨h2, r2, t1, t2, t3, t4⟩ := RM_begin hok hg.1
        exact ⟨h2, r2, ⟨t1, fun _ => t2⟩, t3, t4⟩)
    · obtain ⟨h1, r1, y1, y2⟩ := XI_begin_u (CSt_0 hc) hok
      rw [epl] at hok
      have hr1 : RSt false cl G PR F D n (hjunk h1) := RSt_junk (RSt_fr y2 (by omega) hr)
      obtain ⟨h2, r2, t1, t2, t3⟩ := RM_begin_u hok hr1.1
      exact OKI_X (k := 2) (cl := cl) hs y2 (CSt_of y1) (RSt_of t1) (hx_begin x1.1 r1 ca_189_3) (by decide) hr1.1.1 r2 t2 t3
/-- tick -/
theorem C_tick (hC : c ≤ 600) (hv : INV L xs c h) : OKV L xs c h 190 [.ref 0, .int p0, .int p1] 175 [.ref 598, .int p0, .int p1] := by
  obtain ⟨hs, b, cl, G, PR, F, D, n, hc, hr⟩ := hv
  obtain ⟨x1, x2, x3, x4, x5, cl', F', x6, x7⟩ := CSt_f hc
  by_cases ho : jn_out p0 7
  · exact OKV_T (k := 1) hs hc hr (hx_tick x1.1 (s_Mill_tick_x ho) ca_190_0) (s_Ref_tick1 (RSt_junk hr).1.1 (jm_out (m := 6) (by omega) ho))
  · obtain ⟨w, hw, rfl⟩ := jn_in p0 ho
    have hw6 : jm_in (Int32.ofNat w) 0 6 = true := jm_in_n (k := 6) (by omega) (by omega)
    by_cases h4 : p1.toInt < 1 ∨ 200 < p1.toInt
    · have i4 : jm_in p1 1 200 = false := by
        rw [jm_in]
        rcases h4 with z | z
        · rw [decide_eq_false (show ¬ (1 : Int32) ≤ p1 from fun e => by
            rw [Int32.le_iff_toInt_le, show (1 : Int32).toInt = 1 from rfl] at e
            omega)]
          rfl
        · rw [decide_eq_false (show ¬ p1 ≤ (200 : Int32) from fun e => by
            rw [Int32.le_iff_toInt_le, show (200 : Int32).toInt = 200 from rfl] at e
            omega)]
          cases decide ((1 : Int32) ≤ p1) <;> rfl
      exact OKV_T (k := 2) hs hc hr (hx_tick x1.1 (s_Mill_tick_n hw h4) ca_190_1) (s_Ref_tick2 (RSt_junk hr).1.1 hw6 i4)
    · obtain ⟨m, hm, rfl⟩ := i_nn (x := p1) (by omega)
      rw [sm_ofNat_toInt hm] at h4
      have i4 : jm_in (Int32.ofNat m) 1 200 = true := jm_t (lo := 1) (hi := 200) (by omega) (by omega) (by omega)
      cases b with
      | false => exact OKV_T (k := 3) hs hc hr (hx_tick x1.1 (s_Mill_tick_r hw (by omega) (by omega) x1 x2) ca_190_2) (s_Ref_tick3 (RSt_junk hr).1.1 hw6 i4 (RSt_junk hr).1.2.2.2.2.2.1)
      | true =>
        obtain ⟨y0, y1, y2, kc, ck, y3, y4⟩ := CSt_1 hc
        obtain ⟨h', r1, kc', y5, y6⟩ := RS_tick (k := m) y0 hw (by omega) (by omega) (by omega) y4
        exact OKV_O hs hr y6 (ho_tick x1.1 r1) (Or.inr ⟨rfl, y0, y1, y2, kc', ck + m, by omega, y5⟩) (fun g hg => ⟨_, s_Ref_tick0 hg.1.1 hw6 i4 hg.1.2.2.2.2.2.1, thr_0 hg⟩)
/-- crash -/
theorem C_crash (hv : INV L xs c h) : OKV L xs c h 191 [.ref 0, .int p0] 176 [.ref 598, .int p0] := by
  obtain ⟨hs, b, cl, G, PR, F, D, n, hc, hr⟩ := hv
  obtain ⟨x1, x2, x3, x4, x5, cl', F', x6, x7⟩ := CSt_f hc
  by_cases ho : jn_out p0 7
  · exact OKV_T (k := 1) hs hc hr (hx_crash x1.1 (s_Mill_crash_x ho) ca_191_0) (s_Ref_crash1 (RSt_junk hr).1.1 (jm_out (m := 6) (by omega) ho))
  · obtain ⟨w, hw, rfl⟩ := jn_in p0 ho
    have hw6 : jm_in (Int32.ofNat w) 0 6 = true := jm_in_n (k := 6) (by omega) (by omega)
    cases b with
    | false => exact OKV_T (k := 2) hs hc hr (hx_crash x1.1 (s_Mill_crash_r hw x1 x2) ca_191_2) (s_Ref_crash2 (RSt_junk hr).1.1 hw6 (RSt_junk hr).1.2.2.2.2.2.1)
    | true =>
      obtain ⟨y0, y1, y2, kc, ck, y3, y4⟩ := CSt_1 hc
      obtain ⟨h', r1, y5, y6⟩ := RS_crash y0 hw y4
      exact OKV_O hs hr y6 (ho_crash x1.1 r1) (Or.inr ⟨rfl, y0, y1, y2, kc, ck, by omega, y5⟩) (fun g hg => ⟨_, s_Ref_crash0 hg.1.1 hw6 hg.1.2.2.2.2.2.1, thr_0 hg⟩)
/-- line -/
theorem C_line (hv : INV L xs c h) : OKV L xs c h 192 [.ref 0, .int p0, .int p1] 177 [.ref 598, .int p0, .int p1] := by
  obtain ⟨hs, b, cl, G, PR, F, D, n, hc, hr⟩ := hv
  obtain ⟨x1, x2, x3, x4, x5, cl', F', x6, x7⟩ := CSt_f hc
  cases b with
  | false => exact OKV_T (k := 1) hs hc hr (hx_line x1.1 (s_Mill_line_r x1 x2) ca_192_2) (s_Ref_line1 (RSt_junk hr).1.1 (RSt_junk hr).1.2.2.2.2.2.1)
  | true =>
    obtain ⟨y0, y1, y2, kc, ck, y3, y4⟩ := CSt_1 hc
    obtain ⟨h', r1, y5, y6⟩ := RS_line (a := p0) (b := p1) y4
    exact OKV_O hs hr y6 (ho_line x1.1 r1) (Or.inr ⟨rfl, y0, y1, y2, kc, ck, by omega, y5⟩) (fun g hg => ⟨_, s_Ref_line0 hg.1.1 hg.1.2.2.2.2.2.1, thr_0 hg⟩)
/-- finish -/
theorem C_finish (hC : c ≤ 600) (hv : INV L xs c h) : OKI L xs c h 193 [.ref 0, .ref 624] 178 [.ref 598] := by
  obtain ⟨hs, b, cl, G, PR, F, D, n, hc, hr⟩ := hv
  obtain ⟨x1, x2, x3, x4, x5, cl', F', x6, x7⟩ := CSt_f hc
  cases b with
  | false => exact OKI_T (k := 1) hs hc hr (hx_finish x1.1 (s_Mill_finish_r x1 x2) ca_193_2) (by decide) (s_Ref_finish1 (RSt_junk hr).1.1 (RSt_junk hr).1.2.2.2.2.2.1)
  | true =>
    obtain ⟨y0, y1, y2, kc, ck, y3, y4⟩ := CSt_1 hc
    obtain ⟨h', r1, y5, y6⟩ := RS_finish y0 y1 (live_all y0) (by omega) y4
    exact OKI_O (cl' := []) hs hr y6 (Or.inr (Or.inr (by decide))) (fun o1 o2 => ho_finish x1.1 o1 o2 r1) (CSt_of y5) (fun g hg => by
      obtain ⟨h2, r2, t1, t2, t3⟩ := RM_finish y1.2.2 y0.1 y2 hg.1 (hg.2 rfl)
      exact ⟨h2, r2, RSt_of t1, t2, t3⟩)
/-- check -/
theorem C_check (hv : INV L xs c h) : sm_at h 0 21 = true ∧ mrO h 598 ∧ Run 149 [.ref 0] h (.inl (some (.int 0))) h ∧ INV L xs (c + 1) (setI h 598 18 0) := by
  obtain ⟨hs, b, cl, G, PR, F, D, n, hc, hr⟩ := hv
  have x1 := (CSt_f hc).1
  have z : Fr 598 624 h (setI h 598 18 0) := Fr.setI (by omega) (by omega)
  refine ⟨x1.1, hr.1.1, ?_, HS_up (HS_fr z (by omega) hs), b, cl, G, PR, F, D, n, CSt_fr z (by omega) (CSt_B (by omega) hc), RSt_thr hr⟩
  cases b with
  | false => exact XI_check (CSt_0 hc)
  | true =>
    obtain ⟨y0, y1, y2, kc, ck, y3, y4⟩ := CSt_1 hc
    exact RS_check y0 y4
end CALLT
