/-! a tick of a worker keeps the invariant -/
section WALL
variable {C : Jc} {Ws : Nat → Jw} {L : Jn} {kc v : Nat}
theorem act_all (hC : CK C) (h : IV C Ws L kc) (hv : v < 6) (hk : kc ≤ C.1.length) : jw_aok C.1 C.2.1 C.2.2.1 (cF C kc) (Ws v) ∧ SP C Ws L kc v (jw_act C.1 C.2.1 C.2.2.1 (cF C kc) (Ws v) L) := by
  have hok := h.1 v hv
  have h8 := hC.1
  obtain ⟨o1, o2, o3, o4⟩ := hok
  cases hj : (Ws v).2.1 with
  | none =>
    refine ⟨⟨by omega, fun j e => by rw [hj] at e; cases e⟩, ?_⟩
    rw [jw_act, hj]
    exact act_ask hC h hv
  | some j =>
    rcases o4 with ⟨_, _, d3⟩ | ⟨p, d1, d2, d3, d4, d5⟩
    · rw [hj] at d3; cases d3
    · obtain ⟨b1, b2, b3, b4, b5⟩ := d5 j hj
      subst b1
      obtain ⟨q1, q2, q3, q4, q5⟩ := hC.2.2.1 p d2
      have hin : jb_in C.2.1 (cF C kc) (cJ C p) = cI C p := hC.2.2.2.1 p kc d2 d3 hk
      have hbo : jb_ok C.2.1 (cJ C p) := (hC.2.1 p (cJ C p) (cC_get d2)).2.1
      have h600 : (cI C p).length ≤ 600 := cI_600 hC
      rw [jw_act, hj]
      show _ ∧ SP C Ws L kc v (if (Ws v).1 12 = 1 then jw_map (Ws v) L (jb_in C.2.1 (cF C kc) (cJ C p)) (C.2.2.1 (cJ C p)) else if (Ws v).1 12 = 3 then jw_fo1 C.1 C.2.1 (Ws v) L else jw_fold (Ws v) L (C.2.2.1 (cJ C p)))
      rcases b5 with ⟨c1, c2, c3⟩ | ⟨c1, c2, c3, c4, c5⟩ | ⟨c1, c2, ls, c3, c4, c5, c6⟩ | ⟨c1, c2, c3, c4⟩
      · -- MAPPING
        rw [if_pos c1, hin]
        refine ⟨⟨by omega, fun j' e => ?_⟩, act_map hC h hv hj rfl d1 d2 d3 b3 c1 c2 c3⟩
        rw [hj] at e
        cases e
        refine ⟨q1, q2, b2, fun _ => ?_, fun e => by omega, fun e => absurd c1 e⟩
        rw [hin]
        have h4 : (jw_mr (Ws v) (cI C p) (C.2.2.1 (cJ C p) 0)).2.length ≤ 4 := jq_grp_len _
        have hl := w1_len c3
        refine ⟨hbo, h600, fun hc => ?_, fun hc => ?_, fun hc _ => ?_⟩
        · obtain ⟨⟨a1, a2, a3, a4⟩, _⟩ := w1_end (L := L) (pr := C.2.2.1 (cJ C p)) c3 rfl hc
          exact ⟨a1, a2, by omega, a4⟩
        · obtain ⟨e, e1, e2, e3, e4, e5, _⟩ := c3
          omega
        · show _ + (srt _).length ≤ 64
          rw [srt_len, List.length_append]
          omega
      · -- COMBINING
        rw [if_neg (by omega), if_neg (by omega)]
        refine ⟨⟨by omega, fun j' e => ?_⟩, act_fold hC h hv hj rfl d1 d2 d3 b2 b3 b4 (Or.inl ⟨c1, c2, c3, c4, c5⟩)⟩
        rw [hj] at e
        cases e
        exact ⟨q1, q2, b2, fun e => by omega, fun e => by omega, fun _ _ => b4⟩
      · -- FETCHING
        rw [if_neg (by omega), if_pos c1]
        obtain ⟨f1, f2⟩ := act_fetch hC h hv hj rfl d1 d2 d3 b2 b3 c1 c2 c3 c4 c5 c6
        refine ⟨⟨by omega, fun j' e => ?_⟩, f2⟩
        rw [hj] at e
        cases e
        exact ⟨q1, q2, b2, fun e => by omega, fun _ => f1, fun _ e => absurd c1 e⟩
      · -- REDUCING
        rw [if_neg (by omega), if_neg (by omega)]
        refine ⟨⟨by omega, fun j' e => ?_⟩, act_fold hC h hv hj rfl d1 d2 d3 b2 b3 b4 (Or.inr ⟨c1, c2, c3, c4⟩)⟩
        rw [hj] at e
        cases e
        exact ⟨q1, q2, b2, fun e => by omega, fun e => by omega, fun _ _ => b4⟩
/-- a tick -/
theorem work_all (hC : CK C) (h : IV C Ws L kc) (hv : v < 6) (hk : kc ≤ C.1.length) : (Ws v).1 0 = v ∧ jw_hok C.1 C.2.1 (L.1 ((Ws v).1 0)).length (Ws v, jn_up L ((Ws v).1 0)) ∧ jw_aok C.1 C.2.1 C.2.2.1 (cF C kc) (jw_heard C.1 C.2.1 (Ws v) L).1 ∧ IV C (jx_up Ws v (jw_work C.1 C.2.1 C.2.2.1 (cF C kc) (Ws v) L).1) (jw_work C.1 C.2.1 C.2.2.1 (cF C kc) (Ws v) L).2 kc := by
  have hno := (h.1 v hv).1
  have hup : IV C Ws (jn_up L ((Ws v).1 0)) kc := h
  obtain ⟨i1, i2⟩ := hears_all hC hv (L.1 ((Ws v).1 0)).length Ws _ hup
  obtain ⟨a1, a2⟩ := act_all hC i2 hv hk
  rw [up_eq] at a1 a2
  have a3 := IV_sp hC.1 i2 hv a2
  rw [up_up] at a3
  exact ⟨hno, i1, a1, a3⟩
end WALL
