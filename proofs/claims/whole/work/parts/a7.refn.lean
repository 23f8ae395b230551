section REFN
variable {h h' : sm_H} {a : Nat} {Q : sm_R → sm_H → Prop} {P n t nx fr en stp vq : Nat} {ky c y x w : Int64} {kd : Int32} {u13 u14 u15 u16 u17 u18 u19 u20 : Option Value} {st : List Int64} {cs : Nat → Int64} {em g : Jl} {k : Nat} {pg : List (Int32 × Int64)} {h0 : sm_H}

set_option maxRecDepth 10000 in
theorem rc_allg {w16 mp cb : Int32} (r : RQ h a st cs em) (kk : Ev 160 240 [some (.ref a), some (.int (Int32.ofNat P)), some (.int mp), some (.int cb), some (.long ky), none, some (.ref vq), some (.int (Int32.ofNat fr)), some (.int (Int32.ofNat en)), some (.int (Int32.ofNat st.length)), some (.int (Int32.ofNat (t + 1))), some (.int (Int32.ofNat nx)), some (.int (Int32.ofNat stp)), u13, u14, u15, some (.int w16), some (.long (st.headD 0)), none, some (.long ((st.drop 1).headD 0)), none] [] h Q) : Ev 160 196 [some (.ref a), some (.int (Int32.ofNat P)), some (.int mp), some (.int cb), some (.long ky), none, some (.ref vq), some (.int (Int32.ofNat fr)), some (.int (Int32.ofNat en)), some (.int (Int32.ofNat st.length)), some (.int (Int32.ofNat t)), some (.int (Int32.ofNat nx)), some (.int (Int32.ofNat stp)), u13, u14, u15, some (.int w16), u17, u18, u19, u20] [] h Q := by
  have m0 := r.1
  have h12 := r.2.1
  rcases st with _ | ⟨z1, st⟩
  · exact rc_n0 m0 rfl kk
  · rcases st with _ | ⟨z2, st⟩
    · exact rc_n1 m0 rfl (RQ_top r) kk
    · rw [List.length_cons, List.length_cons] at h12
      exact rc_n2 m0 (by rw [List.length_cons, List.length_cons]; omega) h12 (RQ_top r) (RQ_top (RQ_pop r)) kk

set_option maxRecDepth 10000 in
theorem ro_2 (r : RQ h a st cs em) (op0 : gI h (a + 4) (40 * P + t) = 2) (ag0 : gL h (a + 7) (40 * P + t) = c) (hP : P < 24) (ht : t < 40) (he : en = fr + g.length) (hen : en < 1000000) (hnx : nx ≤ g.length) (hv1 : sm_at h vq 1 = true) (hv2 : ∀ i, i < g.length → sm_in (Int32.ofNat (fr + i)) (gS h vq).2 = true) (hv3 : ∀ i, i < g.length → gL h vq (fr + i) = jx_v g i) (hk0 : kd = 0 → nx < g.length) (kT : (jq_obey kd ky g g.length 2 c t (st, false, cs, em, nx)).2.2.1 = true → Q (.inl (some (.int 0))) h) (kN : (jq_obey kd ky g g.length 2 c t (st, false, cs, em, nx)).2.2.1 = false → ∀ h' v13 v14 v15 v16 v17 v18 v19 v20, RQ h' a (jq_obey kd ky g g.length 2 c t (st, false, cs, em, nx)).2.1 (jq_obey kd ky g g.length 2 c t (st, false, cs, em, nx)).2.2.2.1 (jq_obey kd ky g g.length 2 c t (st, false, cs, em, nx)).2.2.2.2.1 → FrL [a] [a + 22, a + 23, a + 24, a + 25] h h' → (∀ s, s ≠ 31 → gI h' a s = gI h a s) → Ev 160 721 [some (.ref a), some (.int (Int32.ofNat P)), some (.int (if kd = 0 then 1 else 0)), some (.int (if kd = 1 then 1 else 0)), some (.long ky), none, some (.ref vq), some (.int (Int32.ofNat fr)), some (.int (Int32.ofNat en)), some (.int (Int32.ofNat (jq_obey kd ky g g.length 2 c t (st, false, cs, em, nx)).2.1.length)), some (.int (Int32.ofNat (jq_obey kd ky g g.length 2 c t (st, false, cs, em, nx)).1)), some (.int (Int32.ofNat (fr + (jq_obey kd ky g g.length 2 c t (st, false, cs, em, nx)).2.2.2.2.2))), some (.int (Int32.ofNat stp)), v13, v14, v15, v16, v17, v18, v19, v20] [] h' Q) : Ev 160 62 [some (.ref a), some (.int (Int32.ofNat P)), some (.int (if kd = 0 then 1 else 0)), some (.int (if kd = 1 then 1 else 0)), some (.long ky), none, some (.ref vq), some (.int (Int32.ofNat fr)), some (.int (Int32.ofNat en)), some (.int (Int32.ofNat st.length)), some (.int (Int32.ofNat t)), some (.int (Int32.ofNat (fr + nx))), some (.int (Int32.ofNat stp)), u13, u14, u15, u16, u17, u18, u19, u20] [] h Q := by
  have m0 := r.1
  have h12 := r.2.1
  by_cases hf : st.length < 12
  · by_cases hk : kd = 0
    · have hlt := hk0 hk
      have e : jq_obey kd ky g g.length 2 c t (st, false, cs, em, nx) = (t + 1, (jx_v g nx :: st, false, cs, em, nx)) := by
        show (t + 1, jq_push (jq_rv kd g g.length (st, false, cs, em, nx)).1 (jq_rv kd g g.length (st, false, cs, em, nx)).2) = _
        rw [jq_rv, if_pos hk, jq_push, if_pos hf]
      rw [e] at kN
      refine rb_2 m0 op0 ag0 hP ht (Nat.zero_le _) h12 (by omega) ?_
      refine rc_all r ?_
      rw [if_pos hk] at kN ⊢
      exact rd_2m m0 hf hv1 (hv2 nx hlt) (hv3 nx hlt) (by omega) (by omega) (by omega) (kN rfl _ _ _ _ _ _ _ _ _ (RQ_push hf r) (FrL.setL (by simp)) (fun _ _ => rfl))
    · by_cases hlt : nx < g.length
      · have e : jq_obey kd ky g g.length 2 c t (st, false, cs, em, nx) = (t + 1, (jx_v g nx :: st, false, cs, em, nx + 1)) := by
          show (t + 1, jq_push (jq_rv kd g g.length (st, false, cs, em, nx)).1 (jq_rv kd g g.length (st, false, cs, em, nx)).2) = _
          rw [jq_rv, if_neg hk, if_neg (show ¬ g.length ≤ nx by omega), jq_push, if_pos hf]
        rw [e] at kN
        refine rb_2 m0 op0 ag0 hP ht (Nat.zero_le _) h12 (by omega) ?_
        refine rc_all r ?_
        rw [if_neg hk] at kN ⊢
        exact rd_2r m0 hf hv1 (hv2 nx hlt) (hv3 nx hlt) (by omega) (by omega) (by omega) (kN rfl _ _ _ _ _ _ _ _ _ (RQ_push hf r) (FrL.setL (by simp)) (fun _ _ => rfl))
      · have e : (jq_obey kd ky g g.length 2 c t (st, false, cs, em, nx)).2.2.1 = true := by
          show (jq_push (jq_rv kd g g.length (st, false, cs, em, nx)).1 (jq_rv kd g g.length (st, false, cs, em, nx)).2).2.1 = true
          rw [jq_rv, if_neg hk, if_pos (show g.length ≤ nx by omega), jq_push]
          split <;> rfl
        refine rb_2 m0 op0 ag0 hP ht (Nat.zero_le _) h12 (by omega) ?_
        refine rc_all r ?_
        exact re_2 m0 (by omega) (by omega) (kT e)
  · have e : (jq_obey kd ky g g.length 2 c t (st, false, cs, em, nx)).2.2.1 = true := by
      show (jq_push (jq_rv kd g g.length (st, false, cs, em, nx)).1 (jq_rv kd g g.length (st, false, cs, em, nx)).2).2.1 = true
      have hl : (jq_rv kd g g.length (st, false, cs, em, nx)).2.1 = st := by
        rw [jq_rv]
        split
        · rfl
        · split <;> rfl
      rw [jq_push, hl, if_neg hf]; rfl
    exact rf_2 m0 op0 ag0 hP ht (Nat.zero_le _) (by omega) (kT e)
set_option maxRecDepth 10000 in
theorem ro_3 (r : RQ h a st cs em) (op0 : gI h (a + 4) (40 * P + t) = 3) (ag0 : gL h (a + 7) (40 * P + t) = c) (hP : P < 24) (ht : t < 40) (he : en = fr + g.length) (hen : en < 1000000) (hnx : nx ≤ g.length)  (kT : (jq_obey kd ky g g.length 3 c t (st, false, cs, em, nx)).2.2.1 = true → Q (.inl (some (.int 0))) h) (kN : (jq_obey kd ky g g.length 3 c t (st, false, cs, em, nx)).2.2.1 = false → ∀ h' v13 v14 v15 v16 v17 v18 v19 v20, RQ h' a (jq_obey kd ky g g.length 3 c t (st, false, cs, em, nx)).2.1 (jq_obey kd ky g g.length 3 c t (st, false, cs, em, nx)).2.2.2.1 (jq_obey kd ky g g.length 3 c t (st, false, cs, em, nx)).2.2.2.2.1 → FrL [a] [a + 22, a + 23, a + 24, a + 25] h h' → (∀ s, s ≠ 31 → gI h' a s = gI h a s) → Ev 160 721 [some (.ref a), some (.int (Int32.ofNat P)), some (.int (if kd = 0 then 1 else 0)), some (.int (if kd = 1 then 1 else 0)), some (.long ky), none, some (.ref vq), some (.int (Int32.ofNat fr)), some (.int (Int32.ofNat en)), some (.int (Int32.ofNat (jq_obey kd ky g g.length 3 c t (st, false, cs, em, nx)).2.1.length)), some (.int (Int32.ofNat (jq_obey kd ky g g.length 3 c t (st, false, cs, em, nx)).1)), some (.int (Int32.ofNat (fr + (jq_obey kd ky g g.length 3 c t (st, false, cs, em, nx)).2.2.2.2.2))), some (.int (Int32.ofNat stp)), v13, v14, v15, v16, v17, v18, v19, v20] [] h' Q) : Ev 160 62 [some (.ref a), some (.int (Int32.ofNat P)), some (.int (if kd = 0 then 1 else 0)), some (.int (if kd = 1 then 1 else 0)), some (.long ky), none, some (.ref vq), some (.int (Int32.ofNat fr)), some (.int (Int32.ofNat en)), some (.int (Int32.ofNat st.length)), some (.int (Int32.ofNat t)), some (.int (Int32.ofNat (fr + nx))), some (.int (Int32.ofNat stp)), u13, u14, u15, u16, u17, u18, u19, u20] [] h Q := by
  have m0 := r.1
  have h12 := r.2.1
  by_cases hf : st.length < 12
  · have e : ∀ v, jq_rm kd g.length (st, false, cs, em, nx) = v → jq_obey kd ky g g.length 3 c t (st, false, cs, em, nx) = (t + 1, (v :: st, false, cs, em, nx)) := by
      intro v hv
      show (t + 1, jq_push (jq_rm kd g.length (st, false, cs, em, nx)) (st, false, cs, em, nx)) = _
      rw [hv, jq_push, if_pos hf]
    refine rb_3 m0 op0 ag0 hP ht (Nat.zero_le _) h12 (by omega) ?_
    refine rc_all r ?_
    by_cases hk : kd = 0
    · rw [e 0 (by rw [jq_rm, if_neg (fun z => z.1 hk)])] at kN
      rw [if_pos hk] at kN ⊢
      exact rd_3m m0 hf (kN rfl _ _ _ _ _ _ _ _ _ (RQ_push hf r) (FrL.setL (by simp)) (fun _ _ => rfl))
    · by_cases hlt : nx < g.length
      · rw [e 1 (by rw [jq_rm, if_pos ⟨hk, hlt⟩])] at kN
        rw [if_neg hk] at kN ⊢
        exact rd_3t m0 hf (by omega) (by omega) (kN rfl _ _ _ _ _ _ _ _ _ (RQ_push hf r) (FrL.setL (by simp)) (fun _ _ => rfl))
      · rw [e 0 (by rw [jq_rm, if_neg (fun z => hlt z.2)])] at kN
        rw [if_neg hk] at kN ⊢
        exact rd_3f m0 hf (by omega) (by omega) (kN rfl _ _ _ _ _ _ _ _ _ (RQ_push hf r) (FrL.setL (by simp)) (fun _ _ => rfl))
  · have e : (jq_obey kd ky g g.length 3 c t (st, false, cs, em, nx)).2.2.1 = true := by
      show (jq_push _ (st, false, cs, em, nx)).2.1 = true
      rw [jq_push, if_neg hf]; rfl
    exact rf_3 m0 op0 ag0 hP ht (Nat.zero_le _) (by omega) (kT e)
set_option maxRecDepth 10000 in
theorem ro_17 (r : RQ h a st cs em) (op0 : gI h (a + 4) (40 * P + t) = 17) (ag0 : gL h (a + 7) (40 * P + t) = c) (hP : P < 24) (ht : t < 40) (he : en = fr + g.length) (hen : en < 1000000) (hnx : nx ≤ g.length)  (kT : (jq_obey kd ky g g.length 17 c t (st, false, cs, em, nx)).2.2.1 = true → Q (.inl (some (.int 0))) h) (kN : (jq_obey kd ky g g.length 17 c t (st, false, cs, em, nx)).2.2.1 = false → ∀ h' v13 v14 v15 v16 v17 v18 v19 v20, RQ h' a (jq_obey kd ky g g.length 17 c t (st, false, cs, em, nx)).2.1 (jq_obey kd ky g g.length 17 c t (st, false, cs, em, nx)).2.2.2.1 (jq_obey kd ky g g.length 17 c t (st, false, cs, em, nx)).2.2.2.2.1 → FrL [a] [a + 22, a + 23, a + 24, a + 25] h h' → (∀ s, s ≠ 31 → gI h' a s = gI h a s) → Ev 160 721 [some (.ref a), some (.int (Int32.ofNat P)), some (.int (if kd = 0 then 1 else 0)), some (.int (if kd = 1 then 1 else 0)), some (.long ky), none, some (.ref vq), some (.int (Int32.ofNat fr)), some (.int (Int32.ofNat en)), some (.int (Int32.ofNat (jq_obey kd ky g g.length 17 c t (st, false, cs, em, nx)).2.1.length)), some (.int (Int32.ofNat (jq_obey kd ky g g.length 17 c t (st, false, cs, em, nx)).1)), some (.int (Int32.ofNat (fr + (jq_obey kd ky g g.length 17 c t (st, false, cs, em, nx)).2.2.2.2.2))), some (.int (Int32.ofNat stp)), v13, v14, v15, v16, v17, v18, v19, v20] [] h' Q) : Ev 160 62 [some (.ref a), some (.int (Int32.ofNat P)), some (.int (if kd = 0 then 1 else 0)), some (.int (if kd = 1 then 1 else 0)), some (.long ky), none, some (.ref vq), some (.int (Int32.ofNat fr)), some (.int (Int32.ofNat en)), some (.int (Int32.ofNat st.length)), some (.int (Int32.ofNat t)), some (.int (Int32.ofNat (fr + nx))), some (.int (Int32.ofNat stp)), u13, u14, u15, u16, u17, u18, u19, u20] [] h Q := by
  have m0 := r.1
  have h12 := r.2.1
  by_cases hk : kd = 1
  · rw [if_pos hk] at kN ⊢
    rcases st with _ | ⟨z1, st⟩
    · refine rx_17c1 m0 op0 ag0 hP ht (by decide) (kT ?_)
      show (jq_add (jq_of kd ky ([], true, cs, em, nx)).1 0 (jq_of kd ky ([], true, cs, em, nx)).2).2.1 = true
      rw [jq_of, if_pos hk, jq_add]
      split <;> rfl
    · refine rb_17c1 m0 op0 ag0 hP ht (by rw [List.length_cons]; omega) h12 ?_
      refine rc_allg r ?_
      by_cases h4 : em.length < 4
      · have e : jq_obey kd ky g g.length 17 c t (z1 :: st, false, cs, em, nx) = (t + 1, (st, false, cs, em ++ [(ky, z1)], nx)) := by
          show (t + 1, jq_add (jq_of kd ky (st, false, cs, em, nx)).1 z1 (jq_of kd ky (st, false, cs, em, nx)).2) = _
          rw [jq_of, if_pos hk, jq_add, if_pos h4]
        rw [e] at kN
        exact rd_17c1 m0 r.2.2.2.2.2.1 h4 (by rw [List.length_cons]; omega) (kN rfl _ _ _ _ _ _ _ _ _ (RQ_emit h4 (RQ_pop r)) (((FrL.setL (by simp)).trans (FrL.setL (by simp))).trans (FrL.setI (by simp))) (fun s hs => gI_ne (by omega)))
      · refine re_17c1 m0 r.2.2.2.2.2.1 (by have := r.2.2.2.2.1; omega) (kT ?_)
        show (jq_add (jq_of kd ky (st, false, cs, em, nx)).1 z1 (jq_of kd ky (st, false, cs, em, nx)).2).2.1 = true
        rw [jq_of, if_pos hk, jq_add, if_neg h4]; rfl
  · rw [if_neg hk] at kN ⊢
    rcases st with _ | ⟨z1, st⟩
    · refine rx_17c0 m0 op0 ag0 hP ht (by decide) (kT ?_)
      show (jq_add (jq_of kd ky ([], true, cs, em, nx)).1 0 (jq_of kd ky ([], true, cs, em, nx)).2).2.1 = true
      rw [jq_of, if_neg hk, jq_add]
      split <;> rfl
    · rcases st with _ | ⟨z2, st⟩
      · refine rx_17c0 m0 op0 ag0 hP ht (show 1 < 2 by decide) (kT ?_)
        show (jq_add (jq_of kd ky ([], false, cs, em, nx)).1 z1 (jq_of kd ky ([], false, cs, em, nx)).2).2.1 = true
        rw [jq_of, if_neg hk, jq_add]
        split <;> rfl
      · refine rb_17c0 m0 op0 ag0 hP ht (by rw [List.length_cons, List.length_cons]; omega) h12 ?_
        refine rc_allg r ?_
        by_cases h4 : em.length < 4
        · have e : jq_obey kd ky g g.length 17 c t (z1 :: z2 :: st, false, cs, em, nx) = (t + 1, (st, false, cs, em ++ [(z2, z1)], nx)) := by
            show (t + 1, jq_add (jq_of kd ky (z2 :: st, false, cs, em, nx)).1 z1 (jq_of kd ky (z2 :: st, false, cs, em, nx)).2) = _
            rw [jq_of, if_neg hk, jq_add]
            show (t + 1, if em.length < 4 then (st, false, cs, em ++ [(z2, z1)], nx) else _) = _
            rw [if_pos h4]
          rw [e] at kN
          exact rd_17c0 m0 r.2.2.2.2.2.1 h4 (by rw [List.length_cons, List.length_cons]; omega) (kN rfl _ _ _ _ _ _ _ _ _ (RQ_emit h4 (RQ_pop (RQ_pop r))) (((FrL.setL (by simp)).trans (FrL.setL (by simp))).trans (FrL.setI (by simp))) (fun s hs => gI_ne (by omega)))
        · refine re_17c0 m0 r.2.2.2.2.2.1 (by have := r.2.2.2.2.1; omega) (kT ?_)
          show (jq_add (jq_of kd ky (z2 :: st, false, cs, em, nx)).1 z1 (jq_of kd ky (z2 :: st, false, cs, em, nx)).2).2.1 = true
          rw [jq_of, if_neg hk, jq_add]
          show (if em.length < 4 then (st, false, cs, em ++ [(z2, z1)], nx) else _ : JQ).2.1 = true
          rw [if_neg h4]; rfl
set_option maxRecDepth 10000 in
theorem r_721 (kk : Ev 160 41 [some (.ref a), some (.int (Int32.ofNat P)), some (.int (if kd = 0 then 1 else 0)), some (.int (if kd = 1 then 1 else 0)), some (.long ky), none, some (.ref vq), some (.int (Int32.ofNat fr)), some (.int (Int32.ofNat en)), some (.int (Int32.ofNat n)), some (.int (Int32.ofNat t)), some (.int (Int32.ofNat nx)), some (.int (Int32.ofNat (stp + 1))), u13, u14, u15, u16, u17, u18, u19, u20] [] h Q) : Ev 160 721 [some (.ref a), some (.int (Int32.ofNat P)), some (.int (if kd = 0 then 1 else 0)), some (.int (if kd = 1 then 1 else 0)), some (.long ky), none, some (.ref vq), some (.int (Int32.ofNat fr)), some (.int (Int32.ofNat en)), some (.int (Int32.ofNat n)), some (.int (Int32.ofNat t)), some (.int (Int32.ofNat nx)), some (.int (Int32.ofNat stp)), u13, u14, u15, u16, u17, u18, u19, u20] [] h Q := by
  refine Er_run 2 (pc' := 41) (ls' := [some (.ref a), some (.int (Int32.ofNat P)), some (.int (if kd = 0 then 1 else 0)), some (.int (if kd = 1 then 1 else 0)), some (.long ky), none, some (.ref vq), some (.int (Int32.ofNat fr)), some (.int (Int32.ofNat en)), some (.int (Int32.ofNat n)), some (.int (Int32.ofNat t)), some (.int (Int32.ofNat nx)), some (.int ((Int32.ofNat stp) + (1 : Int32))), u13, u14, u15, u16, u17, u18, u19, u20]) (st' := []) rfl ?_
  rw [jx_s1]
  exact kk
/-- only the machine's own rows have changed -/
def CP (h0 h' : sm_H) (a : Nat) : Prop := FrL [a] [a + 22, a + 23, a + 24, a + 25] h0 h' ∧ ∀ s, s ≠ 31 → gI h' a s = gI h0 a s
def CE (h0 : sm_H) (a : Nat) (z : Bool × JQ) (r : sm_R) (h' : sm_H) : Prop := r = .inl (some (.int (if z.1 = true then 1 else 0))) ∧ CP h0 h' a ∧ (z.1 = true → RQ h' a z.2.1 z.2.2.2.1 z.2.2.2.2.1)
theorem obey_40 {q : JQ} (ht : t < 40) (hc : jq_arg k c) : (jq_obey kd ky g en k c t q).1 ≤ 40 := by
  unfold jq_obey
  split
  all_goals first
    | (show t + 1 ≤ 40; omega)
    | skip
  · obtain ⟨m, hm, e⟩ := hc.2 (Or.inl rfl)
    show c.toInt32.toNatClampNeg ≤ 40
    rw [mr_cn e (by omega)]; exact hm
  · obtain ⟨m, hm, e⟩ := hc.2 (Or.inr rfl)
    show (if (jq_pop q).1 = 0 then c.toInt32.toNatClampNeg else t + 1) ≤ 40
    split
    · rw [mr_cn e (by omega)]; exact hm
    · omega
theorem jq_eta (q : JQ) (hq : q.2.1 = false) : (q.1, false, q.2.2.1, q.2.2.2.1, q.2.2.2.2) = q := by
  obtain ⟨b1, b2, b3, b4, b5⟩ := q
  have e : b2 = false := hq
  subst e
  rfl
theorem arg_4 (hc : k = 4 ∨ k = 5) (ha : jq_arg k c) : ∃ m, m < 4 ∧ Int64.toInt32 c = Int32.ofNat m := by
  rcases ha.1 hc with e | e | e | e
  · exact ⟨0, by omega, by rw [e]; rfl⟩
  · exact ⟨1, by omega, by rw [e]; rfl⟩
  · exact ⟨2, by omega, by rw [e]; rfl⟩
  · exact ⟨3, by omega, by rw [e]; rfl⟩

set_option maxRecDepth 10000 in
theorem l_rcall (hok : jq_ok pg) (hl : pg.length ≤ 40) (hP : P < 24) (mn0 : gI h0 (a + 5) P = Int32.ofNat pg.length) (row0 : ∀ k p, pg[k]? = some p → gI h0 (a + 4) (40 * P + k) = p.1 ∧ gL h0 (a + 7) (40 * P + k) = p.2) (he : en = fr + g.length) (hen : en < 1000000) (hv1 : sm_at h0 vq 1 = true) (hv2 : ∀ i, i < g.length → sm_in (Int32.ofNat (fr + i)) (gS h0 vq).2 = true) (hv3 : ∀ i, i < g.length → gL h0 vq (fr + i) = jx_v g i) (hvq : vq ∉ [a + 22, a + 23, a + 24, a + 25]) : ∀ (f t nx : Nat) (st : List Int64) (cs : Nat → Int64) (em : Jl) (h : sm_H) (u13 u14 u15 u16 u17 u18 u19 u20 : Option Value), f ≤ 400 → t ≤ 40 → nx ≤ g.length → (kd = 0 → nx < g.length) → RQ h a st cs em → CP h0 h a → Ev 160 41 [some (.ref a), some (.int (Int32.ofNat P)), some (.int (if kd = 0 then 1 else 0)), some (.int (if kd = 1 then 1 else 0)), some (.long ky), none, some (.ref vq), some (.int (Int32.ofNat fr)), some (.int (Int32.ofNat en)), some (.int (Int32.ofNat st.length)), some (.int (Int32.ofNat t)), some (.int (Int32.ofNat (fr + nx))), some (.int (Int32.ofNat (400 - f))), u13, u14, u15, u16, u17, u18, u19, u20] [] h (CE h0 a (jq_loop pg kd ky g g.length f t (st, false, cs, em, nx))) := by
  intro f
  induction f with
  | zero =>
    intro t nx st cs em h u13 u14 u15 u16 u17 u18 u19 u20 hf ht hnx hkz r hcp
    have hmn : gI h (a + 5) P = Int32.ofNat pg.length := by rw [hcp.1.gi (by simp)]; exact mn0
    by_cases hz : pg.length ≤ t
    · exact ra_end r.1 hmn hP hl ht hz ⟨by rw [jq_loop, decide_eq_true hz]; rfl, hcp, fun _ => r⟩
    · exact ra_400 r.1 hmn hP hl ht (by omega) rfl ⟨by rw [jq_loop, decide_eq_false hz]; rfl, hcp, fun z => by rw [jq_loop, decide_eq_false hz] at z; cases z⟩
  | succ f ih =>
    intro t nx st cs em h u13 u14 u15 u16 u17 u18 u19 u20 hf ht hnx hkz r hcp
    have hmn : gI h (a + 5) P = Int32.ofNat pg.length := by rw [hcp.1.gi (by simp)]; exact mn0
    rw [jq_loop]
    cases hp : pg[t]? with
    | none =>
      have hz : pg.length ≤ t := List.getElem?_eq_none_iff.1 hp
      exact ra_end r.1 hmn hP hl ht hz ⟨rfl, hcp, fun _ => r⟩
    | some p =>
      have hz : t < pg.length := (List.getElem?_eq_some_iff.1 hp).1
      have hop : gI h (a + 4) (40 * P + t) = p.1 := by rw [hcp.1.gi (by simp)]; exact (row0 t p hp).1
      have hag : gL h (a + 7) (40 * P + t) = p.2 := by rw [hcp.1.gl (by simp)]; exact (row0 t p hp).2
      refine ra_go r.1 hmn hP hl ht hz (by omega) ?_
      obtain ⟨k, hk19, hpk, harg⟩ := hok p (List.mem_of_getElem? hp)
      have hkn : p.1.toNatClampNeg = k := mr_cn hpk (by omega)
      simp only
      by_cases h18 : p.1 = 18
      · rw [if_pos h18]
        refine rb_18 r.1 (hop.trans h18) hag hP (by omega) (Nat.zero_le _) r.2.1 ?_
        refine rc_all r ?_
        exact re_18 r.1 ⟨rfl, hcp, fun _ => r⟩
      rw [if_neg h18, hkn]
      have hk18 : k ≠ 18 := fun e => h18 (by rw [hpk, e]; rfl)
      have hv1' : sm_at h vq 1 = true := by rw [hcp.1.at]; exact hv1
      have hv2' : ∀ i, i < g.length → sm_in (Int32.ofNat (fr + i)) (gS h vq).2 = true := by rw [hcp.1.2.1]; exact hv2
      have hv3' : ∀ i, i < g.length → gL h vq (fr + i) = jx_v g i := by rw [hcp.1.gl hvq]; exact hv3
      have hn1 := jq_obey_nx2 (kd := kd) (ky := ky) (l := g) (en := g.length) (k := k) (c := p.2) (tt := t) (q := (st, false, cs, em, nx))
      have hn2 := jq_obey_nx (kd := kd) (ky := ky) (l := g) (k := k) (c := p.2) (t := t) (q := (st, false, cs, em, nx)) (show nx ≤ g.length from hnx)
      have h40 := obey_40 (kd := kd) (ky := ky) (g := g) (en := g.length) (q := (st, false, cs, em, nx)) (show t < 40 by omega) harg
      have kT : (jq_obey kd ky g g.length k p.2 t (st, false, cs, em, nx)).2.2.1 = true → CE h0 a (if (jq_obey kd ky g g.length k p.2 t (st, false, cs, em, nx)).2.2.1 = true then (false, (jq_obey kd ky g g.length k p.2 t (st, false, cs, em, nx)).2) else jq_loop pg kd ky g g.length f (jq_obey kd ky g g.length k p.2 t (st, false, cs, em, nx)).1 (jq_obey kd ky g g.length k p.2 t (st, false, cs, em, nx)).2) (.inl (some (.int 0))) h := fun z => by
        rw [if_pos z]; exact ⟨rfl, hcp, fun z => by cases z⟩
      have kN : (jq_obey kd ky g g.length k p.2 t (st, false, cs, em, nx)).2.2.1 = false → ∀ h' v13 v14 v15 v16 v17 v18 v19 v20, RQ h' a (jq_obey kd ky g g.length k p.2 t (st, false, cs, em, nx)).2.1 (jq_obey kd ky g g.length k p.2 t (st, false, cs, em, nx)).2.2.2.1 (jq_obey kd ky g g.length k p.2 t (st, false, cs, em, nx)).2.2.2.2.1 → FrL [a] [a + 22, a + 23, a + 24, a + 25] h h' → (∀ s, s ≠ 31 → gI h' a s = gI h a s) → Ev 160 721 [some (.ref a), some (.int (Int32.ofNat P)), some (.int (if kd = 0 then 1 else 0)), some (.int (if kd = 1 then 1 else 0)), some (.long ky), none, some (.ref vq), some (.int (Int32.ofNat fr)), some (.int (Int32.ofNat en)), some (.int (Int32.ofNat (jq_obey kd ky g g.length k p.2 t (st, false, cs, em, nx)).2.1.length)), some (.int (Int32.ofNat (jq_obey kd ky g g.length k p.2 t (st, false, cs, em, nx)).1)), some (.int (Int32.ofNat (fr + (jq_obey kd ky g g.length k p.2 t (st, false, cs, em, nx)).2.2.2.2.2))), some (.int (Int32.ofNat (400 - (f + 1)))), v13, v14, v15, v16, v17, v18, v19, v20] [] h' (CE h0 a (if (jq_obey kd ky g g.length k p.2 t (st, false, cs, em, nx)).2.2.1 = true then (false, (jq_obey kd ky g g.length k p.2 t (st, false, cs, em, nx)).2) else jq_loop pg kd ky g g.length f (jq_obey kd ky g g.length k p.2 t (st, false, cs, em, nx)).1 (jq_obey kd ky g g.length k p.2 t (st, false, cs, em, nx)).2)) := by
        intro z h' v13 v14 v15 v16 v17 v18 v19 v20 r' f' a'
        rw [if_neg (show ¬ (jq_obey kd ky g g.length k p.2 t (st, false, cs, em, nx)).2.2.1 = true by rw [z]; decide)]
        refine r_721 ?_
        have i := ih (jq_obey kd ky g g.length k p.2 t (st, false, cs, em, nx)).1 (jq_obey kd ky g g.length k p.2 t (st, false, cs, em, nx)).2.2.2.2.2 (jq_obey kd ky g g.length k p.2 t (st, false, cs, em, nx)).2.1 (jq_obey kd ky g g.length k p.2 t (st, false, cs, em, nx)).2.2.2.1 (jq_obey kd ky g g.length k p.2 t (st, false, cs, em, nx)).2.2.2.2.1 h' v13 v14 v15 v16 v17 v18 v19 v20 (by omega) h40 hn2 (fun hk => by
          rcases hn1 with e | e
          · rw [e]; exact hkz hk
          · exact absurd hk e.1) r' ⟨hcp.1.trans f', fun s hs => (a' s hs).trans (hcp.2 s hs)⟩
        have e3 : ((jq_obey kd ky g g.length k p.2 t (st, false, cs, em, nx)).2.1, false, (jq_obey kd ky g g.length k p.2 t (st, false, cs, em, nx)).2.2.2.1, (jq_obey kd ky g g.length k p.2 t (st, false, cs, em, nx)).2.2.2.2.1, (jq_obey kd ky g g.length k p.2 t (st, false, cs, em, nx)).2.2.2.2.2) = (jq_obey kd ky g g.length k p.2 t (st, false, cs, em, nx)).2 := jq_eta _ z
        rw [e3, show 400 - f = 400 - (f + 1) + 1 by omega] at i
        exact i
      revert kT kN hpk
      generalize hc2 : p.2 = cc at *
      intro hpk kT kN
      have hcs : k = 0 ∨ k = 1 ∨ k = 2 ∨ k = 3 ∨ k = 4 ∨ k = 5 ∨ k = 6 ∨ k = 7 ∨ k = 8 ∨ k = 9 ∨ k = 10 ∨ k = 11 ∨ k = 12 ∨ k = 13 ∨ k = 14 ∨ k = 15 ∨ k = 16 ∨ k = 17 := by omega
      have e1 : p.1 = Int32.ofNat k := hpk
      rcases hcs with hkk | hkk | hkk | hkk | hkk | hkk | hkk | hkk | hkk | hkk | hkk | hkk | hkk | hkk | hkk | hkk | hkk | hkk
      · subst hkk
        exact ro_0 r (hop.trans e1) hag hP (by omega) he hen hnx kT kN
      · subst hkk
        exact ro_1 r (hop.trans e1) hag hP (by omega) he hen hnx kT kN
      · subst hkk
        exact ro_2 r (hop.trans e1) hag hP (by omega) he hen hnx hv1' hv2' hv3' hkz kT kN
      · subst hkk
        exact ro_3 r (hop.trans e1) hag hP (by omega) he hen hnx kT kN
      · subst hkk
        obtain ⟨m, hm, hc⟩ := arg_4 (Or.inl rfl) harg
        exact ro_4 r (hop.trans e1) hag hP (by omega) he hen hnx hm hc kT kN
      · subst hkk
        obtain ⟨m, hm, hc⟩ := arg_4 (Or.inr rfl) harg
        exact ro_5 r (hop.trans e1) hag hP (by omega) he hen hnx hm hc kT kN
      · subst hkk
        exact ro_6 r (hop.trans e1) hag hP (by omega) he hen hnx kT kN
      · subst hkk
        exact ro_7 r (hop.trans e1) hag hP (by omega) he hen hnx kT kN
      · subst hkk
        exact ro_8 r (hop.trans e1) hag hP (by omega) he hen hnx kT kN
      · subst hkk
        exact ro_9 r (hop.trans e1) hag hP (by omega) he hen hnx kT kN
      · subst hkk
        exact ro_10 r (hop.trans e1) hag hP (by omega) he hen hnx kT kN
      · subst hkk
        exact ro_11 r (hop.trans e1) hag hP (by omega) he hen hnx kT kN
      · subst hkk
        exact ro_12 r (hop.trans e1) hag hP (by omega) he hen hnx kT kN
      · subst hkk
        exact ro_13 r (hop.trans e1) hag hP (by omega) he hen hnx kT kN
      · subst hkk
        exact ro_14 r (hop.trans e1) hag hP (by omega) he hen hnx kT kN
      · subst hkk
        obtain ⟨m, hm, hc⟩ := harg.2 (Or.inl rfl)
        exact ro_15 r (hop.trans e1) hag hP (by omega) he hen hnx hc hm kT kN
      · subst hkk
        obtain ⟨m, hm, hc⟩ := harg.2 (Or.inr rfl)
        exact ro_16 r (hop.trans e1) hag hP (by omega) he hen hnx hc hm kT kN
      · subst hkk
        exact ro_17 r (hop.trans e1) hag hP (by omega) he hen hnx kT kN
end REFN
