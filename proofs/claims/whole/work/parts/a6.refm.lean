/-- the reference's machine: stack, CELLS, what was emitted -/
def RQ (h : sm_H) (a : Nat) (st : List Int64) (cs : Nat → Int64) (em : Jl) : Prop := mrO h a ∧ st.length ≤ 12 ∧ (∀ i z, st.reverse[i]? = some z → gL h (a + 22) i = z) ∧ (∀ i, i < 4 → gL h (a + 23) i = cs i) ∧ em.length ≤ 4 ∧ gI h a 31 = Int32.ofNat em.length ∧ ∀ i p, em[i]? = some p → gL h (a + 24) i = p.1 ∧ gL h (a + 25) i = p.2
section REFM
variable {h h' : sm_H} {a : Nat} {Q : sm_R → sm_H → Prop} {P n t nx fr en stp vq : Nat} {ky c y x w : Int64} {kd : Int32} {u13 u14 u15 u16 u17 u18 u19 u20 : Option Value} {st : List Int64} {cs : Nat → Int64} {em g : Jl} {k : Nat}
theorem RQ_push (hn : st.length < 12) (r : RQ h a st cs em) : RQ (setL h (a + 22) st.length x) a (x :: st) cs em := by
  obtain ⟨r1, r2, r3, r4, r5, r6, r7⟩ := r
  refine ⟨mrO_setL r1, by rw [List.length_cons]; omega, fun i z hz => ?_, fun i hi => by rw [gL_ne (by omega)]; exact r4 i hi, r5, r6, fun i p hp => ⟨by rw [gL_ne (by omega)]; exact (r7 i p hp).1, by rw [gL_ne (by omega)]; exact (r7 i p hp).2⟩⟩
  rw [List.reverse_cons] at hz
  rcases Nat.lt_or_ge i st.length with e | e
  · rw [List.getElem?_append_left (by rw [List.length_reverse]; exact e)] at hz
    rw [gL_ne (by omega)]; exact r3 i z hz
  · rw [List.getElem?_append_right (by rw [List.length_reverse]; exact e), List.length_reverse] at hz
    have hi : i = st.length := by
      have := (List.getElem?_eq_some_iff.1 hz).1
      rw [List.length_singleton] at this
      omega
    subst hi
    rw [Nat.sub_self] at hz
    cases hz
    exact gL_eq
theorem RQ_pop (r : RQ h a (x :: st) cs em) : RQ h a st cs em := by
  obtain ⟨r1, r2, r3, r4, r5, r6, r7⟩ := r
  refine ⟨r1, by rw [List.length_cons] at r2; omega, fun i z hz => r3 i z ?_, r4, r5, r6, r7⟩
  have hi := (List.getElem?_eq_some_iff.1 hz).1
  rw [List.reverse_cons, List.getElem?_append_left hi]; exact hz
theorem RQ_top (r : RQ h a (x :: st) cs em) : gL h (a + 22) st.length = x := by
  refine r.2.2.1 _ _ ?_
  rw [List.reverse_cons, List.getElem?_append_right (by rw [List.length_reverse]; exact Nat.le_refl _), List.length_reverse, Nat.sub_self]; rfl
theorem RQ_cell {m : Nat} (r : RQ h a st cs em) : RQ (setL h (a + 23) m x) a st (fun i => if i = m then x else cs i) em := by
  obtain ⟨r1, r2, r3, r4, r5, r6, r7⟩ := r
  refine ⟨mrO_setL r1, r2, fun i z hz => by rw [gL_ne (by omega)]; exact r3 i z hz, fun i hi => ?_, r5, r6, fun i p hp => ⟨by rw [gL_ne (by omega)]; exact (r7 i p hp).1, by rw [gL_ne (by omega)]; exact (r7 i p hp).2⟩⟩
  show gL (setL h (a + 23) m x) (a + 23) i = (if i = m then x else cs i)
  by_cases e : i = m
  · subst e; rw [if_pos rfl, gL_eq]
  · rw [if_neg e, gL_ne (by omega)]; exact r4 i hi
theorem RQ_emit (he : em.length < 4) (r : RQ h a st cs em) : RQ (setI (setL (setL h (a + 24) em.length x) (a + 25) em.length y) a 31 (Int32.ofNat em.length + 1)) a st cs (em ++ [(x, y)]) := by
  obtain ⟨r1, r2, r3, r4, r5, r6, r7⟩ := r
  refine ⟨mrO_setI (mrO_setL (mrO_setL r1)), r2, fun i z hz => ?_, fun i hi => ?_, by rw [List.length_append, List.length_singleton]; omega, by rw [gI_eq, jx_s1, List.length_append, List.length_singleton], fun i p hp => ?_⟩
  · show gL (setL (setL h (a + 24) em.length x) (a + 25) em.length y) (a + 22) i = z
    rw [gL_ne (by omega), gL_ne (by omega)]; exact r3 i z hz
  · show gL (setL (setL h (a + 24) em.length x) (a + 25) em.length y) (a + 23) i = cs i
    rw [gL_ne (by omega), gL_ne (by omega)]; exact r4 i hi
  · show gL (setL (setL h (a + 24) em.length x) (a + 25) em.length y) (a + 24) i = p.1 ∧ gL (setL (setL h (a + 24) em.length x) (a + 25) em.length y) (a + 25) i = p.2
    rcases Nat.lt_or_ge i em.length with e | e
    · rw [List.getElem?_append_left e] at hp
      rw [gL_ne (by omega), gL_ne (by omega), gL_ne (by omega), gL_ne (by omega)]; exact r7 i p hp
    · rw [List.getElem?_append_right e] at hp
      have hi : i = em.length := by
        have := (List.getElem?_eq_some_iff.1 hp).1
        rw [List.length_singleton] at this
        omega
      subst hi
      rw [Nat.sub_self] at hp
      cases hp
      exact ⟨by rw [gL_ne (by omega), gL_eq], gL_eq⟩
theorem RQ_swap (r : RQ h a (y :: x :: st) cs em) : RQ (setL (setL h (a + 22) (st.length + 1) x) (a + 22) st.length y) a (x :: y :: st) cs em := by
  have h12 := r.2.1
  rw [List.length_cons, List.length_cons] at h12
  have r0 := RQ_pop (RQ_pop r)
  have r1 := RQ_push (x := y) (by omega) r0
  have r2 := RQ_push (x := x) (by rw [List.length_cons]; omega) r1
  have e : setL (setL h (a + 22) (st.length + 1) x) (a + 22) st.length y = setL (setL h (a + 22) st.length y) (a + 22) (st.length + 1) x := by
    show (gN h, gS h, gI h, sm_up (sm_up (gL h) (a + 22) (st.length + 1) x) (a + 22) st.length y, gR h, gJ h, gD h) = (gN h, gS h, gI h, sm_up (sm_up (gL h) (a + 22) st.length y) (a + 22) (st.length + 1) x, gR h, gJ h, gD h)
    congr 4
    funext b j
    rw [sm_up, sm_up, sm_up, sm_up]
    by_cases e1 : b = a + 22 ∧ j = st.length
    · rw [if_pos e1, if_neg (by omega), if_pos e1]
    · rw [if_neg e1, if_neg e1]
  rw [e]
  exact r2
/-- the locals y and x -/
theorem rc_all {w16 : Int32} (r : RQ h a st cs em) (kk : Ev 160 240 [some (.ref a), some (.int (Int32.ofNat P)), some (.int (if kd = 0 then 1 else 0)), some (.int (if kd = 1 then 1 else 0)), some (.long ky), none, some (.ref vq), some (.int (Int32.ofNat fr)), some (.int (Int32.ofNat en)), some (.int (Int32.ofNat st.length)), some (.int (Int32.ofNat (t + 1))), some (.int (Int32.ofNat nx)), some (.int (Int32.ofNat stp)), u13, u14, u15, some (.int w16), some (.long (st.headD 0)), none, some (.long ((st.drop 1).headD 0)), none] [] h Q) : Ev 160 196 [some (.ref a), some (.int (Int32.ofNat P)), some (.int (if kd = 0 then 1 else 0)), some (.int (if kd = 1 then 1 else 0)), some (.long ky), none, some (.ref vq), some (.int (Int32.ofNat fr)), some (.int (Int32.ofNat en)), some (.int (Int32.ofNat st.length)), some (.int (Int32.ofNat t)), some (.int (Int32.ofNat nx)), some (.int (Int32.ofNat stp)), u13, u14, u15, some (.int w16), u17, u18, u19, u20] [] h Q := by
  have m0 := r.1
  have h12 := r.2.1
  rcases st with _ | ⟨z1, st⟩
  · exact rc_n0 m0 rfl kk
  · rcases st with _ | ⟨z2, st⟩
    · exact rc_n1 m0 rfl (RQ_top r) kk
    · rw [List.length_cons, List.length_cons] at h12
      exact rc_n2 m0 (by rw [List.length_cons, List.length_cons]; omega) h12 (RQ_top r) (RQ_top (RQ_pop r)) kk

set_option maxRecDepth 10000 in
theorem ro_0 (r : RQ h a st cs em) (op0 : gI h (a + 4) (40 * P + t) = 0) (ag0 : gL h (a + 7) (40 * P + t) = c) (hP : P < 24) (ht : t < 40) (he : en = fr + g.length) (hen : en < 1000000) (hnx : nx ≤ g.length)  (kT : (jq_obey kd ky g g.length 0 c t (st, false, cs, em, nx)).2.2.1 = true → Q (.inl (some (.int 0))) h) (kN : (jq_obey kd ky g g.length 0 c t (st, false, cs, em, nx)).2.2.1 = false → ∀ h' v13 v14 v15 v16 v17 v18 v19 v20, RQ h' a (jq_obey kd ky g g.length 0 c t (st, false, cs, em, nx)).2.1 (jq_obey kd ky g g.length 0 c t (st, false, cs, em, nx)).2.2.2.1 (jq_obey kd ky g g.length 0 c t (st, false, cs, em, nx)).2.2.2.2.1 → FrL [a] [a + 22, a + 23, a + 24, a + 25] h h' → (∀ s, s ≠ 31 → gI h' a s = gI h a s) → Ev 160 721 [some (.ref a), some (.int (Int32.ofNat P)), some (.int (if kd = 0 then 1 else 0)), some (.int (if kd = 1 then 1 else 0)), some (.long ky), none, some (.ref vq), some (.int (Int32.ofNat fr)), some (.int (Int32.ofNat en)), some (.int (Int32.ofNat (jq_obey kd ky g g.length 0 c t (st, false, cs, em, nx)).2.1.length)), some (.int (Int32.ofNat (jq_obey kd ky g g.length 0 c t (st, false, cs, em, nx)).1)), some (.int (Int32.ofNat (fr + (jq_obey kd ky g g.length 0 c t (st, false, cs, em, nx)).2.2.2.2.2))), some (.int (Int32.ofNat stp)), v13, v14, v15, v16, v17, v18, v19, v20] [] h' Q) : Ev 160 62 [some (.ref a), some (.int (Int32.ofNat P)), some (.int (if kd = 0 then 1 else 0)), some (.int (if kd = 1 then 1 else 0)), some (.long ky), none, some (.ref vq), some (.int (Int32.ofNat fr)), some (.int (Int32.ofNat en)), some (.int (Int32.ofNat st.length)), some (.int (Int32.ofNat t)), some (.int (Int32.ofNat (fr + nx))), some (.int (Int32.ofNat stp)), u13, u14, u15, u16, u17, u18, u19, u20] [] h Q := by
  have m0 := r.1
  have h12 := r.2.1
  by_cases hf : st.length < 12
  · have e : jq_obey kd ky g g.length 0 c t (st, false, cs, em, nx) = (t + 1, (c :: st, false, cs, em, nx)) := by
      show (t + 1, jq_push _ (st, false, cs, em, nx)) = _
      rw [jq_push, if_pos hf]
    rw [e] at kN
    refine rb_0 m0 op0 ag0 hP ht (Nat.zero_le _) h12 (by omega) ?_
    refine rc_all r ?_
    exact rd_0 m0 hf (kN rfl _ _ _ _ _ _ _ _ _ (RQ_push hf r) (FrL.setL (by simp)) (fun _ _ => rfl))
  · have e : (jq_obey kd ky g g.length 0 c t (st, false, cs, em, nx)).2.2.1 = true := by
      show (jq_push _ (st, false, cs, em, nx)).2.1 = true
      rw [jq_push, if_neg hf]; rfl
    exact rf_0 m0 op0 ag0 hP ht (Nat.zero_le _) (by omega) (kT e)
set_option maxRecDepth 10000 in
theorem ro_1 (r : RQ h a st cs em) (op0 : gI h (a + 4) (40 * P + t) = 1) (ag0 : gL h (a + 7) (40 * P + t) = c) (hP : P < 24) (ht : t < 40) (he : en = fr + g.length) (hen : en < 1000000) (hnx : nx ≤ g.length)  (kT : (jq_obey kd ky g g.length 1 c t (st, false, cs, em, nx)).2.2.1 = true → Q (.inl (some (.int 0))) h) (kN : (jq_obey kd ky g g.length 1 c t (st, false, cs, em, nx)).2.2.1 = false → ∀ h' v13 v14 v15 v16 v17 v18 v19 v20, RQ h' a (jq_obey kd ky g g.length 1 c t (st, false, cs, em, nx)).2.1 (jq_obey kd ky g g.length 1 c t (st, false, cs, em, nx)).2.2.2.1 (jq_obey kd ky g g.length 1 c t (st, false, cs, em, nx)).2.2.2.2.1 → FrL [a] [a + 22, a + 23, a + 24, a + 25] h h' → (∀ s, s ≠ 31 → gI h' a s = gI h a s) → Ev 160 721 [some (.ref a), some (.int (Int32.ofNat P)), some (.int (if kd = 0 then 1 else 0)), some (.int (if kd = 1 then 1 else 0)), some (.long ky), none, some (.ref vq), some (.int (Int32.ofNat fr)), some (.int (Int32.ofNat en)), some (.int (Int32.ofNat (jq_obey kd ky g g.length 1 c t (st, false, cs, em, nx)).2.1.length)), some (.int (Int32.ofNat (jq_obey kd ky g g.length 1 c t (st, false, cs, em, nx)).1)), some (.int (Int32.ofNat (fr + (jq_obey kd ky g g.length 1 c t (st, false, cs, em, nx)).2.2.2.2.2))), some (.int (Int32.ofNat stp)), v13, v14, v15, v16, v17, v18, v19, v20] [] h' Q) : Ev 160 62 [some (.ref a), some (.int (Int32.ofNat P)), some (.int (if kd = 0 then 1 else 0)), some (.int (if kd = 1 then 1 else 0)), some (.long ky), none, some (.ref vq), some (.int (Int32.ofNat fr)), some (.int (Int32.ofNat en)), some (.int (Int32.ofNat st.length)), some (.int (Int32.ofNat t)), some (.int (Int32.ofNat (fr + nx))), some (.int (Int32.ofNat stp)), u13, u14, u15, u16, u17, u18, u19, u20] [] h Q := by
  have m0 := r.1
  have h12 := r.2.1
  by_cases hf : st.length < 12
  · have e : jq_obey kd ky g g.length 1 c t (st, false, cs, em, nx) = (t + 1, (ky :: st, false, cs, em, nx)) := by
      show (t + 1, jq_push _ (st, false, cs, em, nx)) = _
      rw [jq_push, if_pos hf]
    rw [e] at kN
    refine rb_1 m0 op0 ag0 hP ht (Nat.zero_le _) h12 (by omega) ?_
    refine rc_all r ?_
    exact rd_1 m0 hf (kN rfl _ _ _ _ _ _ _ _ _ (RQ_push hf r) (FrL.setL (by simp)) (fun _ _ => rfl))
  · have e : (jq_obey kd ky g g.length 1 c t (st, false, cs, em, nx)).2.2.1 = true := by
      show (jq_push _ (st, false, cs, em, nx)).2.1 = true
      rw [jq_push, if_neg hf]; rfl
    exact rf_1 m0 op0 ag0 hP ht (Nat.zero_le _) (by omega) (kT e)
set_option maxRecDepth 10000 in
theorem ro_4 (r : RQ h a st cs em) (op0 : gI h (a + 4) (40 * P + t) = 4) (ag0 : gL h (a + 7) (40 * P + t) = c) (hP : P < 24) (ht : t < 40) (he : en = fr + g.length) (hen : en < 1000000) (hnx : nx ≤ g.length) {m : Nat} (hm : m < 4) (hc : Int64.toInt32 c = Int32.ofNat m) (kT : (jq_obey kd ky g g.length 4 c t (st, false, cs, em, nx)).2.2.1 = true → Q (.inl (some (.int 0))) h) (kN : (jq_obey kd ky g g.length 4 c t (st, false, cs, em, nx)).2.2.1 = false → ∀ h' v13 v14 v15 v16 v17 v18 v19 v20, RQ h' a (jq_obey kd ky g g.length 4 c t (st, false, cs, em, nx)).2.1 (jq_obey kd ky g g.length 4 c t (st, false, cs, em, nx)).2.2.2.1 (jq_obey kd ky g g.length 4 c t (st, false, cs, em, nx)).2.2.2.2.1 → FrL [a] [a + 22, a + 23, a + 24, a + 25] h h' → (∀ s, s ≠ 31 → gI h' a s = gI h a s) → Ev 160 721 [some (.ref a), some (.int (Int32.ofNat P)), some (.int (if kd = 0 then 1 else 0)), some (.int (if kd = 1 then 1 else 0)), some (.long ky), none, some (.ref vq), some (.int (Int32.ofNat fr)), some (.int (Int32.ofNat en)), some (.int (Int32.ofNat (jq_obey kd ky g g.length 4 c t (st, false, cs, em, nx)).2.1.length)), some (.int (Int32.ofNat (jq_obey kd ky g g.length 4 c t (st, false, cs, em, nx)).1)), some (.int (Int32.ofNat (fr + (jq_obey kd ky g g.length 4 c t (st, false, cs, em, nx)).2.2.2.2.2))), some (.int (Int32.ofNat stp)), v13, v14, v15, v16, v17, v18, v19, v20] [] h' Q) : Ev 160 62 [some (.ref a), some (.int (Int32.ofNat P)), some (.int (if kd = 0 then 1 else 0)), some (.int (if kd = 1 then 1 else 0)), some (.long ky), none, some (.ref vq), some (.int (Int32.ofNat fr)), some (.int (Int32.ofNat en)), some (.int (Int32.ofNat st.length)), some (.int (Int32.ofNat t)), some (.int (Int32.ofNat (fr + nx))), some (.int (Int32.ofNat stp)), u13, u14, u15, u16, u17, u18, u19, u20] [] h Q := by
  have m0 := r.1
  have h12 := r.2.1
  by_cases hf : st.length < 12
  · have e : jq_obey kd ky g g.length 4 c t (st, false, cs, em, nx) = (t + 1, (cs c.toInt32.toNatClampNeg :: st, false, cs, em, nx)) := by
      show (t + 1, jq_push _ (st, false, cs, em, nx)) = _
      rw [jq_push, if_pos hf]
    rw [e] at kN
    refine rb_4 m0 op0 ag0 hP ht (Nat.zero_le _) h12 (by omega) ?_
    refine rc_all r ?_
    exact rd_4 m0 hf hm hc (by rw [show c.toInt32.toNatClampNeg = m from mr_cn hc (by omega)]; exact r.2.2.2.1 m hm) (kN rfl _ _ _ _ _ _ _ _ _ (RQ_push hf r) (FrL.setL (by simp)) (fun _ _ => rfl))
  · have e : (jq_obey kd ky g g.length 4 c t (st, false, cs, em, nx)).2.2.1 = true := by
      show (jq_push _ (st, false, cs, em, nx)).2.1 = true
      rw [jq_push, if_neg hf]; rfl
    exact rf_4 m0 op0 ag0 hP ht (Nat.zero_le _) (by omega) (kT e)
set_option maxRecDepth 10000 in
theorem ro_13 (r : RQ h a st cs em) (op0 : gI h (a + 4) (40 * P + t) = 13) (ag0 : gL h (a + 7) (40 * P + t) = c) (hP : P < 24) (ht : t < 40) (he : en = fr + g.length) (hen : en < 1000000) (hnx : nx ≤ g.length)  (kT : (jq_obey kd ky g g.length 13 c t (st, false, cs, em, nx)).2.2.1 = true → Q (.inl (some (.int 0))) h) (kN : (jq_obey kd ky g g.length 13 c t (st, false, cs, em, nx)).2.2.1 = false → ∀ h' v13 v14 v15 v16 v17 v18 v19 v20, RQ h' a (jq_obey kd ky g g.length 13 c t (st, false, cs, em, nx)).2.1 (jq_obey kd ky g g.length 13 c t (st, false, cs, em, nx)).2.2.2.1 (jq_obey kd ky g g.length 13 c t (st, false, cs, em, nx)).2.2.2.2.1 → FrL [a] [a + 22, a + 23, a + 24, a + 25] h h' → (∀ s, s ≠ 31 → gI h' a s = gI h a s) → Ev 160 721 [some (.ref a), some (.int (Int32.ofNat P)), some (.int (if kd = 0 then 1 else 0)), some (.int (if kd = 1 then 1 else 0)), some (.long ky), none, some (.ref vq), some (.int (Int32.ofNat fr)), some (.int (Int32.ofNat en)), some (.int (Int32.ofNat (jq_obey kd ky g g.length 13 c t (st, false, cs, em, nx)).2.1.length)), some (.int (Int32.ofNat (jq_obey kd ky g g.length 13 c t (st, false, cs, em, nx)).1)), some (.int (Int32.ofNat (fr + (jq_obey kd ky g g.length 13 c t (st, false, cs, em, nx)).2.2.2.2.2))), some (.int (Int32.ofNat stp)), v13, v14, v15, v16, v17, v18, v19, v20] [] h' Q) : Ev 160 62 [some (.ref a), some (.int (Int32.ofNat P)), some (.int (if kd = 0 then 1 else 0)), some (.int (if kd = 1 then 1 else 0)), some (.long ky), none, some (.ref vq), some (.int (Int32.ofNat fr)), some (.int (Int32.ofNat en)), some (.int (Int32.ofNat st.length)), some (.int (Int32.ofNat t)), some (.int (Int32.ofNat (fr + nx))), some (.int (Int32.ofNat stp)), u13, u14, u15, u16, u17, u18, u19, u20] [] h Q := by
  have m0 := r.1
  have h12 := r.2.1
  rcases st with _ | ⟨z1, st⟩
  · exact rx_13 m0 op0 ag0 hP ht (by decide) (kT rfl)
  · refine rb_13 m0 op0 ag0 hP ht (by rw [List.length_cons]; omega) h12 ?_
    refine rc_all r ?_
    exact rd_13 m0 (by rw [List.length_cons]; omega) (kN rfl _ _ _ _ _ _ _ _ _ (RQ_pop r) (FrL.refl h) (fun _ _ => rfl))
set_option maxRecDepth 10000 in
theorem ro_5 (r : RQ h a st cs em) (op0 : gI h (a + 4) (40 * P + t) = 5) (ag0 : gL h (a + 7) (40 * P + t) = c) (hP : P < 24) (ht : t < 40) (he : en = fr + g.length) (hen : en < 1000000) (hnx : nx ≤ g.length) {m : Nat} (hm : m < 4) (hc : Int64.toInt32 c = Int32.ofNat m) (kT : (jq_obey kd ky g g.length 5 c t (st, false, cs, em, nx)).2.2.1 = true → Q (.inl (some (.int 0))) h) (kN : (jq_obey kd ky g g.length 5 c t (st, false, cs, em, nx)).2.2.1 = false → ∀ h' v13 v14 v15 v16 v17 v18 v19 v20, RQ h' a (jq_obey kd ky g g.length 5 c t (st, false, cs, em, nx)).2.1 (jq_obey kd ky g g.length 5 c t (st, false, cs, em, nx)).2.2.2.1 (jq_obey kd ky g g.length 5 c t (st, false, cs, em, nx)).2.2.2.2.1 → FrL [a] [a + 22, a + 23, a + 24, a + 25] h h' → (∀ s, s ≠ 31 → gI h' a s = gI h a s) → Ev 160 721 [some (.ref a), some (.int (Int32.ofNat P)), some (.int (if kd = 0 then 1 else 0)), some (.int (if kd = 1 then 1 else 0)), some (.long ky), none, some (.ref vq), some (.int (Int32.ofNat fr)), some (.int (Int32.ofNat en)), some (.int (Int32.ofNat (jq_obey kd ky g g.length 5 c t (st, false, cs, em, nx)).2.1.length)), some (.int (Int32.ofNat (jq_obey kd ky g g.length 5 c t (st, false, cs, em, nx)).1)), some (.int (Int32.ofNat (fr + (jq_obey kd ky g g.length 5 c t (st, false, cs, em, nx)).2.2.2.2.2))), some (.int (Int32.ofNat stp)), v13, v14, v15, v16, v17, v18, v19, v20] [] h' Q) : Ev 160 62 [some (.ref a), some (.int (Int32.ofNat P)), some (.int (if kd = 0 then 1 else 0)), some (.int (if kd = 1 then 1 else 0)), some (.long ky), none, some (.ref vq), some (.int (Int32.ofNat fr)), some (.int (Int32.ofNat en)), some (.int (Int32.ofNat st.length)), some (.int (Int32.ofNat t)), some (.int (Int32.ofNat (fr + nx))), some (.int (Int32.ofNat stp)), u13, u14, u15, u16, u17, u18, u19, u20] [] h Q := by
  have m0 := r.1
  have h12 := r.2.1
  rcases st with _ | ⟨z1, st⟩
  · exact rx_5 m0 op0 ag0 hP ht (by decide) (kT rfl)
  · have e : jq_obey kd ky g g.length 5 c t (z1 :: st, false, cs, em, nx) = (t + 1, (st, false, (fun i => if i = m then z1 else cs i), em, nx)) := by
      show (t + 1, jq_put c z1 (st, false, cs, em, nx)) = _
      rw [jq_put, show c.toInt32.toNatClampNeg = m from mr_cn hc (by omega)]
    rw [e] at kN
    refine rb_5 m0 op0 ag0 hP ht (by rw [List.length_cons]; omega) h12 ?_
    refine rc_all r ?_
    exact rd_5 m0 (by rw [List.length_cons]; omega) h12 hm hc (RQ_top r) (kN rfl _ _ _ _ _ _ _ _ _ (RQ_cell (RQ_pop r)) (FrL.setL (by simp)) (fun _ _ => rfl))
set_option maxRecDepth 10000 in
theorem ro_12 (r : RQ h a st cs em) (op0 : gI h (a + 4) (40 * P + t) = 12) (ag0 : gL h (a + 7) (40 * P + t) = c) (hP : P < 24) (ht : t < 40) (he : en = fr + g.length) (hen : en < 1000000) (hnx : nx ≤ g.length)  (kT : (jq_obey kd ky g g.length 12 c t (st, false, cs, em, nx)).2.2.1 = true → Q (.inl (some (.int 0))) h) (kN : (jq_obey kd ky g g.length 12 c t (st, false, cs, em, nx)).2.2.1 = false → ∀ h' v13 v14 v15 v16 v17 v18 v19 v20, RQ h' a (jq_obey kd ky g g.length 12 c t (st, false, cs, em, nx)).2.1 (jq_obey kd ky g g.length 12 c t (st, false, cs, em, nx)).2.2.2.1 (jq_obey kd ky g g.length 12 c t (st, false, cs, em, nx)).2.2.2.2.1 → FrL [a] [a + 22, a + 23, a + 24, a + 25] h h' → (∀ s, s ≠ 31 → gI h' a s = gI h a s) → Ev 160 721 [some (.ref a), some (.int (Int32.ofNat P)), some (.int (if kd = 0 then 1 else 0)), some (.int (if kd = 1 then 1 else 0)), some (.long ky), none, some (.ref vq), some (.int (Int32.ofNat fr)), some (.int (Int32.ofNat en)), some (.int (Int32.ofNat (jq_obey kd ky g g.length 12 c t (st, false, cs, em, nx)).2.1.length)), some (.int (Int32.ofNat (jq_obey kd ky g g.length 12 c t (st, false, cs, em, nx)).1)), some (.int (Int32.ofNat (fr + (jq_obey kd ky g g.length 12 c t (st, false, cs, em, nx)).2.2.2.2.2))), some (.int (Int32.ofNat stp)), v13, v14, v15, v16, v17, v18, v19, v20] [] h' Q) : Ev 160 62 [some (.ref a), some (.int (Int32.ofNat P)), some (.int (if kd = 0 then 1 else 0)), some (.int (if kd = 1 then 1 else 0)), some (.long ky), none, some (.ref vq), some (.int (Int32.ofNat fr)), some (.int (Int32.ofNat en)), some (.int (Int32.ofNat st.length)), some (.int (Int32.ofNat t)), some (.int (Int32.ofNat (fr + nx))), some (.int (Int32.ofNat stp)), u13, u14, u15, u16, u17, u18, u19, u20] [] h Q := by
  have m0 := r.1
  have h12 := r.2.1
  rcases st with _ | ⟨z1, st⟩
  · exact rx_12 m0 op0 ag0 hP ht (by decide) (kT rfl)
  · by_cases hf : (z1 :: st).length < 12
    · have hf1 : st.length < 12 := by rw [List.length_cons] at hf; omega
      have e : jq_obey kd ky g g.length 12 c t (z1 :: st, false, cs, em, nx) = (t + 1, (z1 :: z1 :: st, false, cs, em, nx)) := by
        show (t + 1, jq_push z1 (jq_push z1 (st, false, cs, em, nx))) = _
        rw [jq_push, jq_push, if_pos hf1, if_pos hf]
      rw [e] at kN
      refine rb_12 m0 op0 ag0 hP ht (by rw [List.length_cons]; omega) h12 (by omega) ?_
      refine rc_all r ?_
      exact rd_12 m0 hf (kN rfl _ _ _ _ _ _ _ _ _ (RQ_push hf r) (FrL.setL (by simp)) (fun _ _ => rfl))
    · have hf1 : st.length < 12 := by rw [List.length_cons] at h12; omega
      have e : (jq_obey kd ky g g.length 12 c t (z1 :: st, false, cs, em, nx)).2.2.1 = true := by
        show (jq_push z1 (jq_push z1 (st, false, cs, em, nx))).2.1 = true
        rw [jq_push, jq_push, if_pos hf1, if_neg hf]; rfl
      exact rf_12 m0 op0 ag0 hP ht (by rw [List.length_cons]; omega) (by omega) (kT e)
set_option maxRecDepth 10000 in
theorem ro_14 (r : RQ h a st cs em) (op0 : gI h (a + 4) (40 * P + t) = 14) (ag0 : gL h (a + 7) (40 * P + t) = c) (hP : P < 24) (ht : t < 40) (he : en = fr + g.length) (hen : en < 1000000) (hnx : nx ≤ g.length)  (kT : (jq_obey kd ky g g.length 14 c t (st, false, cs, em, nx)).2.2.1 = true → Q (.inl (some (.int 0))) h) (kN : (jq_obey kd ky g g.length 14 c t (st, false, cs, em, nx)).2.2.1 = false → ∀ h' v13 v14 v15 v16 v17 v18 v19 v20, RQ h' a (jq_obey kd ky g g.length 14 c t (st, false, cs, em, nx)).2.1 (jq_obey kd ky g g.length 14 c t (st, false, cs, em, nx)).2.2.2.1 (jq_obey kd ky g g.length 14 c t (st, false, cs, em, nx)).2.2.2.2.1 → FrL [a] [a + 22, a + 23, a + 24, a + 25] h h' → (∀ s, s ≠ 31 → gI h' a s = gI h a s) → Ev 160 721 [some (.ref a), some (.int (Int32.ofNat P)), some (.int (if kd = 0 then 1 else 0)), some (.int (if kd = 1 then 1 else 0)), some (.long ky), none, some (.ref vq), some (.int (Int32.ofNat fr)), some (.int (Int32.ofNat en)), some (.int (Int32.ofNat (jq_obey kd ky g g.length 14 c t (st, false, cs, em, nx)).2.1.length)), some (.int (Int32.ofNat (jq_obey kd ky g g.length 14 c t (st, false, cs, em, nx)).1)), some (.int (Int32.ofNat (fr + (jq_obey kd ky g g.length 14 c t (st, false, cs, em, nx)).2.2.2.2.2))), some (.int (Int32.ofNat stp)), v13, v14, v15, v16, v17, v18, v19, v20] [] h' Q) : Ev 160 62 [some (.ref a), some (.int (Int32.ofNat P)), some (.int (if kd = 0 then 1 else 0)), some (.int (if kd = 1 then 1 else 0)), some (.long ky), none, some (.ref vq), some (.int (Int32.ofNat fr)), some (.int (Int32.ofNat en)), some (.int (Int32.ofNat st.length)), some (.int (Int32.ofNat t)), some (.int (Int32.ofNat (fr + nx))), some (.int (Int32.ofNat stp)), u13, u14, u15, u16, u17, u18, u19, u20] [] h Q := by
  have m0 := r.1
  have h12 := r.2.1
  rcases st with _ | ⟨z1, st⟩
  · exact rx_14 m0 op0 ag0 hP ht (by decide) (kT rfl)
  · rcases st with _ | ⟨z2, st⟩
    · exact rx_14 m0 op0 ag0 hP ht (show 1 < 2 by decide) (kT rfl)
    · have hl : st.length + 2 ≤ 12 := by rw [List.length_cons, List.length_cons] at h12; exact h12
      have e : jq_obey kd ky g g.length 14 c t (z1 :: z2 :: st, false, cs, em, nx) = (t + 1, (z2 :: z1 :: st, false, cs, em, nx)) := by
        show (t + 1, jq_push z2 (jq_push z1 (st, false, cs, em, nx))) = _
        rw [jq_push, jq_push, if_pos (show st.length < 12 by omega), if_pos (show (z1 :: st).length < 12 by rw [List.length_cons]; omega)]
      rw [e] at kN
      refine rb_14 m0 op0 ag0 hP ht (by rw [List.length_cons, List.length_cons]; omega) h12 ?_
      refine rc_all r ?_
      exact rd_14 m0 (by rw [List.length_cons, List.length_cons]; omega) h12 (kN rfl _ _ _ _ _ _ _ _ _ (RQ_swap r) ((FrL.setL (by simp)).trans (FrL.setL (by simp))) (fun _ _ => rfl))
set_option maxRecDepth 10000 in
theorem ro_15 (r : RQ h a st cs em) (op0 : gI h (a + 4) (40 * P + t) = 15) (ag0 : gL h (a + 7) (40 * P + t) = c) (hP : P < 24) (ht : t < 40) (he : en = fr + g.length) (hen : en < 1000000) (hnx : nx ≤ g.length) {m : Nat} (hc : Int64.toInt32 c = Int32.ofNat m) (hm : m ≤ 40) (kT : (jq_obey kd ky g g.length 15 c t (st, false, cs, em, nx)).2.2.1 = true → Q (.inl (some (.int 0))) h) (kN : (jq_obey kd ky g g.length 15 c t (st, false, cs, em, nx)).2.2.1 = false → ∀ h' v13 v14 v15 v16 v17 v18 v19 v20, RQ h' a (jq_obey kd ky g g.length 15 c t (st, false, cs, em, nx)).2.1 (jq_obey kd ky g g.length 15 c t (st, false, cs, em, nx)).2.2.2.1 (jq_obey kd ky g g.length 15 c t (st, false, cs, em, nx)).2.2.2.2.1 → FrL [a] [a + 22, a + 23, a + 24, a + 25] h h' → (∀ s, s ≠ 31 → gI h' a s = gI h a s) → Ev 160 721 [some (.ref a), some (.int (Int32.ofNat P)), some (.int (if kd = 0 then 1 else 0)), some (.int (if kd = 1 then 1 else 0)), some (.long ky), none, some (.ref vq), some (.int (Int32.ofNat fr)), some (.int (Int32.ofNat en)), some (.int (Int32.ofNat (jq_obey kd ky g g.length 15 c t (st, false, cs, em, nx)).2.1.length)), some (.int (Int32.ofNat (jq_obey kd ky g g.length 15 c t (st, false, cs, em, nx)).1)), some (.int (Int32.ofNat (fr + (jq_obey kd ky g g.length 15 c t (st, false, cs, em, nx)).2.2.2.2.2))), some (.int (Int32.ofNat stp)), v13, v14, v15, v16, v17, v18, v19, v20] [] h' Q) : Ev 160 62 [some (.ref a), some (.int (Int32.ofNat P)), some (.int (if kd = 0 then 1 else 0)), some (.int (if kd = 1 then 1 else 0)), some (.long ky), none, some (.ref vq), some (.int (Int32.ofNat fr)), some (.int (Int32.ofNat en)), some (.int (Int32.ofNat st.length)), some (.int (Int32.ofNat t)), some (.int (Int32.ofNat (fr + nx))), some (.int (Int32.ofNat stp)), u13, u14, u15, u16, u17, u18, u19, u20] [] h Q := by
  have m0 := r.1
  have h12 := r.2.1
  have e : jq_obey kd ky g g.length 15 c t (st, false, cs, em, nx) = (m, (st, false, cs, em, nx)) := by
    show (c.toInt32.toNatClampNeg, _) = _
    rw [show c.toInt32.toNatClampNeg = m from mr_cn hc (by omega)]
  rw [e] at kN
  refine rb_15 m0 op0 ag0 hP ht (Nat.zero_le _) h12 ?_
  refine rc_all r ?_
  exact rd_15 m0 hc (kN rfl _ _ _ _ _ _ _ _ _ r (FrL.refl h) (fun _ _ => rfl))
set_option maxRecDepth 10000 in
theorem ro_16 (r : RQ h a st cs em) (op0 : gI h (a + 4) (40 * P + t) = 16) (ag0 : gL h (a + 7) (40 * P + t) = c) (hP : P < 24) (ht : t < 40) (he : en = fr + g.length) (hen : en < 1000000) (hnx : nx ≤ g.length) {m : Nat} (hc : Int64.toInt32 c = Int32.ofNat m) (hm : m ≤ 40) (kT : (jq_obey kd ky g g.length 16 c t (st, false, cs, em, nx)).2.2.1 = true → Q (.inl (some (.int 0))) h) (kN : (jq_obey kd ky g g.length 16 c t (st, false, cs, em, nx)).2.2.1 = false → ∀ h' v13 v14 v15 v16 v17 v18 v19 v20, RQ h' a (jq_obey kd ky g g.length 16 c t (st, false, cs, em, nx)).2.1 (jq_obey kd ky g g.length 16 c t (st, false, cs, em, nx)).2.2.2.1 (jq_obey kd ky g g.length 16 c t (st, false, cs, em, nx)).2.2.2.2.1 → FrL [a] [a + 22, a + 23, a + 24, a + 25] h h' → (∀ s, s ≠ 31 → gI h' a s = gI h a s) → Ev 160 721 [some (.ref a), some (.int (Int32.ofNat P)), some (.int (if kd = 0 then 1 else 0)), some (.int (if kd = 1 then 1 else 0)), some (.long ky), none, some (.ref vq), some (.int (Int32.ofNat fr)), some (.int (Int32.ofNat en)), some (.int (Int32.ofNat (jq_obey kd ky g g.length 16 c t (st, false, cs, em, nx)).2.1.length)), some (.int (Int32.ofNat (jq_obey kd ky g g.length 16 c t (st, false, cs, em, nx)).1)), some (.int (Int32.ofNat (fr + (jq_obey kd ky g g.length 16 c t (st, false, cs, em, nx)).2.2.2.2.2))), some (.int (Int32.ofNat stp)), v13, v14, v15, v16, v17, v18, v19, v20] [] h' Q) : Ev 160 62 [some (.ref a), some (.int (Int32.ofNat P)), some (.int (if kd = 0 then 1 else 0)), some (.int (if kd = 1 then 1 else 0)), some (.long ky), none, some (.ref vq), some (.int (Int32.ofNat fr)), some (.int (Int32.ofNat en)), some (.int (Int32.ofNat st.length)), some (.int (Int32.ofNat t)), some (.int (Int32.ofNat (fr + nx))), some (.int (Int32.ofNat stp)), u13, u14, u15, u16, u17, u18, u19, u20] [] h Q := by
  have m0 := r.1
  have h12 := r.2.1
  rcases st with _ | ⟨z1, st⟩
  · exact rx_16 m0 op0 ag0 hP ht (by decide) (kT rfl)
  · refine rb_16 m0 op0 ag0 hP ht (by rw [List.length_cons]; omega) h12 ?_
    refine rc_all r ?_
    by_cases hz : z1 = 0
    · have e : jq_obey kd ky g g.length 16 c t (z1 :: st, false, cs, em, nx) = (m, (st, false, cs, em, nx)) := by
        show (if z1 = 0 then c.toInt32.toNatClampNeg else t + 1, _) = _
        rw [if_pos hz, show c.toInt32.toNatClampNeg = m from mr_cn hc (by omega)]; rfl
      rw [e] at kN
      exact rd_16z m0 (by rw [List.length_cons]; omega) hc hz (kN rfl _ _ _ _ _ _ _ _ _ (RQ_pop r) (FrL.refl h) (fun _ _ => rfl))
    · have e : jq_obey kd ky g g.length 16 c t (z1 :: st, false, cs, em, nx) = (t + 1, (st, false, cs, em, nx)) := by
        show (if z1 = 0 then c.toInt32.toNatClampNeg else t + 1, _) = _
        rw [if_neg hz]; rfl
      rw [e] at kN
      exact rd_16n m0 (by rw [List.length_cons]; omega) hz (kN rfl _ _ _ _ _ _ _ _ _ (RQ_pop r) (FrL.refl h) (fun _ _ => rfl))
set_option maxRecDepth 10000 in
theorem ro_6 (r : RQ h a st cs em) (op0 : gI h (a + 4) (40 * P + t) = 6) (ag0 : gL h (a + 7) (40 * P + t) = c) (hP : P < 24) (ht : t < 40) (he : en = fr + g.length) (hen : en < 1000000) (hnx : nx ≤ g.length)  (kT : (jq_obey kd ky g g.length 6 c t (st, false, cs, em, nx)).2.2.1 = true → Q (.inl (some (.int 0))) h) (kN : (jq_obey kd ky g g.length 6 c t (st, false, cs, em, nx)).2.2.1 = false → ∀ h' v13 v14 v15 v16 v17 v18 v19 v20, RQ h' a (jq_obey kd ky g g.length 6 c t (st, false, cs, em, nx)).2.1 (jq_obey kd ky g g.length 6 c t (st, false, cs, em, nx)).2.2.2.1 (jq_obey kd ky g g.length 6 c t (st, false, cs, em, nx)).2.2.2.2.1 → FrL [a] [a + 22, a + 23, a + 24, a + 25] h h' → (∀ s, s ≠ 31 → gI h' a s = gI h a s) → Ev 160 721 [some (.ref a), some (.int (Int32.ofNat P)), some (.int (if kd = 0 then 1 else 0)), some (.int (if kd = 1 then 1 else 0)), some (.long ky), none, some (.ref vq), some (.int (Int32.ofNat fr)), some (.int (Int32.ofNat en)), some (.int (Int32.ofNat (jq_obey kd ky g g.length 6 c t (st, false, cs, em, nx)).2.1.length)), some (.int (Int32.ofNat (jq_obey kd ky g g.length 6 c t (st, false, cs, em, nx)).1)), some (.int (Int32.ofNat (fr + (jq_obey kd ky g g.length 6 c t (st, false, cs, em, nx)).2.2.2.2.2))), some (.int (Int32.ofNat stp)), v13, v14, v15, v16, v17, v18, v19, v20] [] h' Q) : Ev 160 62 [some (.ref a), some (.int (Int32.ofNat P)), some (.int (if kd = 0 then 1 else 0)), some (.int (if kd = 1 then 1 else 0)), some (.long ky), none, some (.ref vq), some (.int (Int32.ofNat fr)), some (.int (Int32.ofNat en)), some (.int (Int32.ofNat st.length)), some (.int (Int32.ofNat t)), some (.int (Int32.ofNat (fr + nx))), some (.int (Int32.ofNat stp)), u13, u14, u15, u16, u17, u18, u19, u20] [] h Q := by
  have m0 := r.1
  have h12 := r.2.1
  rcases st with _ | ⟨z1, st⟩
  · exact rx_6 m0 op0 ag0 hP ht (by decide) (kT rfl)
  · rcases st with _ | ⟨z2, st⟩
    · exact rx_6 m0 op0 ag0 hP ht (show 1 < 2 by decide) (kT rfl)
    · have hl : st.length + 2 ≤ 12 := by rw [List.length_cons, List.length_cons] at h12; exact h12
      have h2 : 2 ≤ (z1 :: z2 :: st).length := by rw [List.length_cons, List.length_cons]; omega
      have key : ∀ v, jq_obey kd ky g g.length 6 c t (z1 :: z2 :: st, false, cs, em, nx) = (t + 1, (v :: st, false, cs, em, nx)) → Ev 160 721 [some (.ref a), some (.int (Int32.ofNat P)), some (.int (if kd = 0 then 1 else 0)), some (.int (if kd = 1 then 1 else 0)), some (.long ky), none, some (.ref vq), some (.int (Int32.ofNat fr)), some (.int (Int32.ofNat en)), some (.int (Int32.ofNat (st.length + 1))), some (.int (Int32.ofNat (t + 1))), some (.int (Int32.ofNat (fr + nx))), some (.int (Int32.ofNat stp)), some (.int ((6 : Int32))), some (.long c), none, some (.int ((2 : Int32))), some (.long z1), none, some (.long z2), none] [] (setL h (a + 22) st.length v) Q := by
        intro v e
        rw [e] at kN
        exact kN rfl _ _ _ _ _ _ _ _ _ (RQ_push (by omega) (RQ_pop (RQ_pop r))) (FrL.setL (by simp)) (fun _ _ => rfl)
      refine rb_6 m0 op0 ag0 hP ht h2 h12 ?_
      refine rc_all r ?_
      exact rd_6 m0 h2 h12 (key _ (by show (t + 1, jq_push _ (st, false, cs, em, nx)) = _; rw [jq_push, if_pos (show st.length < 12 by omega)]; rfl))
set_option maxRecDepth 10000 in
theorem ro_7 (r : RQ h a st cs em) (op0 : gI h (a + 4) (40 * P + t) = 7) (ag0 : gL h (a + 7) (40 * P + t) = c) (hP : P < 24) (ht : t < 40) (he : en = fr + g.length) (hen : en < 1000000) (hnx : nx ≤ g.length)  (kT : (jq_obey kd ky g g.length 7 c t (st, false, cs, em, nx)).2.2.1 = true → Q (.inl (some (.int 0))) h) (kN : (jq_obey kd ky g g.length 7 c t (st, false, cs, em, nx)).2.2.1 = false → ∀ h' v13 v14 v15 v16 v17 v18 v19 v20, RQ h' a (jq_obey kd ky g g.length 7 c t (st, false, cs, em, nx)).2.1 (jq_obey kd ky g g.length 7 c t (st, false, cs, em, nx)).2.2.2.1 (jq_obey kd ky g g.length 7 c t (st, false, cs, em, nx)).2.2.2.2.1 → FrL [a] [a + 22, a + 23, a + 24, a + 25] h h' → (∀ s, s ≠ 31 → gI h' a s = gI h a s) → Ev 160 721 [some (.ref a), some (.int (Int32.ofNat P)), some (.int (if kd = 0 then 1 else 0)), some (.int (if kd = 1 then 1 else 0)), some (.long ky), none, some (.ref vq), some (.int (Int32.ofNat fr)), some (.int (Int32.ofNat en)), some (.int (Int32.ofNat (jq_obey kd ky g g.length 7 c t (st, false, cs, em, nx)).2.1.length)), some (.int (Int32.ofNat (jq_obey kd ky g g.length 7 c t (st, false, cs, em, nx)).1)), some (.int (Int32.ofNat (fr + (jq_obey kd ky g g.length 7 c t (st, false, cs, em, nx)).2.2.2.2.2))), some (.int (Int32.ofNat stp)), v13, v14, v15, v16, v17, v18, v19, v20] [] h' Q) : Ev 160 62 [some (.ref a), some (.int (Int32.ofNat P)), some (.int (if kd = 0 then 1 else 0)), some (.int (if kd = 1 then 1 else 0)), some (.long ky), none, some (.ref vq), some (.int (Int32.ofNat fr)), some (.int (Int32.ofNat en)), some (.int (Int32.ofNat st.length)), some (.int (Int32.ofNat t)), some (.int (Int32.ofNat (fr + nx))), some (.int (Int32.ofNat stp)), u13, u14, u15, u16, u17, u18, u19, u20] [] h Q := by
  have m0 := r.1
  have h12 := r.2.1
  rcases st with _ | ⟨z1, st⟩
  · exact rx_7 m0 op0 ag0 hP ht (by decide) (kT rfl)
  · rcases st with _ | ⟨z2, st⟩
    · exact rx_7 m0 op0 ag0 hP ht (show 1 < 2 by decide) (kT rfl)
    · have hl : st.length + 2 ≤ 12 := by rw [List.length_cons, List.length_cons] at h12; exact h12
      have h2 : 2 ≤ (z1 :: z2 :: st).length := by rw [List.length_cons, List.length_cons]; omega
      have key : ∀ v, jq_obey kd ky g g.length 7 c t (z1 :: z2 :: st, false, cs, em, nx) = (t + 1, (v :: st, false, cs, em, nx)) → Ev 160 721 [some (.ref a), some (.int (Int32.ofNat P)), some (.int (if kd = 0 then 1 else 0)), some (.int (if kd = 1 then 1 else 0)), some (.long ky), none, some (.ref vq), some (.int (Int32.ofNat fr)), some (.int (Int32.ofNat en)), some (.int (Int32.ofNat (st.length + 1))), some (.int (Int32.ofNat (t + 1))), some (.int (Int32.ofNat (fr + nx))), some (.int (Int32.ofNat stp)), some (.int ((7 : Int32))), some (.long c), none, some (.int ((2 : Int32))), some (.long z1), none, some (.long z2), none] [] (setL h (a + 22) st.length v) Q := by
        intro v e
        rw [e] at kN
        exact kN rfl _ _ _ _ _ _ _ _ _ (RQ_push (by omega) (RQ_pop (RQ_pop r))) (FrL.setL (by simp)) (fun _ _ => rfl)
      refine rb_7 m0 op0 ag0 hP ht h2 h12 ?_
      refine rc_all r ?_
      exact rd_7 m0 h2 h12 (key _ (by show (t + 1, jq_push _ (st, false, cs, em, nx)) = _; rw [jq_push, if_pos (show st.length < 12 by omega)]; rfl))
set_option maxRecDepth 10000 in
theorem ro_8 (r : RQ h a st cs em) (op0 : gI h (a + 4) (40 * P + t) = 8) (ag0 : gL h (a + 7) (40 * P + t) = c) (hP : P < 24) (ht : t < 40) (he : en = fr + g.length) (hen : en < 1000000) (hnx : nx ≤ g.length)  (kT : (jq_obey kd ky g g.length 8 c t (st, false, cs, em, nx)).2.2.1 = true → Q (.inl (some (.int 0))) h) (kN : (jq_obey kd ky g g.length 8 c t (st, false, cs, em, nx)).2.2.1 = false → ∀ h' v13 v14 v15 v16 v17 v18 v19 v20, RQ h' a (jq_obey kd ky g g.length 8 c t (st, false, cs, em, nx)).2.1 (jq_obey kd ky g g.length 8 c t (st, false, cs, em, nx)).2.2.2.1 (jq_obey kd ky g g.length 8 c t (st, false, cs, em, nx)).2.2.2.2.1 → FrL [a] [a + 22, a + 23, a + 24, a + 25] h h' → (∀ s, s ≠ 31 → gI h' a s = gI h a s) → Ev 160 721 [some (.ref a), some (.int (Int32.ofNat P)), some (.int (if kd = 0 then 1 else 0)), some (.int (if kd = 1 then 1 else 0)), some (.long ky), none, some (.ref vq), some (.int (Int32.ofNat fr)), some (.int (Int32.ofNat en)), some (.int (Int32.ofNat (jq_obey kd ky g g.length 8 c t (st, false, cs, em, nx)).2.1.length)), some (.int (Int32.ofNat (jq_obey kd ky g g.length 8 c t (st, false, cs, em, nx)).1)), some (.int (Int32.ofNat (fr + (jq_obey kd ky g g.length 8 c t (st, false, cs, em, nx)).2.2.2.2.2))), some (.int (Int32.ofNat stp)), v13, v14, v15, v16, v17, v18, v19, v20] [] h' Q) : Ev 160 62 [some (.ref a), some (.int (Int32.ofNat P)), some (.int (if kd = 0 then 1 else 0)), some (.int (if kd = 1 then 1 else 0)), some (.long ky), none, some (.ref vq), some (.int (Int32.ofNat fr)), some (.int (Int32.ofNat en)), some (.int (Int32.ofNat st.length)), some (.int (Int32.ofNat t)), some (.int (Int32.ofNat (fr + nx))), some (.int (Int32.ofNat stp)), u13, u14, u15, u16, u17, u18, u19, u20] [] h Q := by
  have m0 := r.1
  have h12 := r.2.1
  rcases st with _ | ⟨z1, st⟩
  · exact rx_8 m0 op0 ag0 hP ht (by decide) (kT rfl)
  · rcases st with _ | ⟨z2, st⟩
    · exact rx_8 m0 op0 ag0 hP ht (show 1 < 2 by decide) (kT rfl)
    · have hl : st.length + 2 ≤ 12 := by rw [List.length_cons, List.length_cons] at h12; exact h12
      have h2 : 2 ≤ (z1 :: z2 :: st).length := by rw [List.length_cons, List.length_cons]; omega
      have key : ∀ v, jq_obey kd ky g g.length 8 c t (z1 :: z2 :: st, false, cs, em, nx) = (t + 1, (v :: st, false, cs, em, nx)) → Ev 160 721 [some (.ref a), some (.int (Int32.ofNat P)), some (.int (if kd = 0 then 1 else 0)), some (.int (if kd = 1 then 1 else 0)), some (.long ky), none, some (.ref vq), some (.int (Int32.ofNat fr)), some (.int (Int32.ofNat en)), some (.int (Int32.ofNat (st.length + 1))), some (.int (Int32.ofNat (t + 1))), some (.int (Int32.ofNat (fr + nx))), some (.int (Int32.ofNat stp)), some (.int ((8 : Int32))), some (.long c), none, some (.int ((2 : Int32))), some (.long z1), none, some (.long z2), none] [] (setL h (a + 22) st.length v) Q := by
        intro v e
        rw [e] at kN
        exact kN rfl _ _ _ _ _ _ _ _ _ (RQ_push (by omega) (RQ_pop (RQ_pop r))) (FrL.setL (by simp)) (fun _ _ => rfl)
      refine rb_8 m0 op0 ag0 hP ht h2 h12 ?_
      refine rc_all r ?_
      exact rd_8 m0 h2 h12 (key _ (by show (t + 1, jq_push _ (st, false, cs, em, nx)) = _; rw [jq_push, if_pos (show st.length < 12 by omega)]; rfl))
set_option maxRecDepth 10000 in
theorem ro_10 (r : RQ h a st cs em) (op0 : gI h (a + 4) (40 * P + t) = 10) (ag0 : gL h (a + 7) (40 * P + t) = c) (hP : P < 24) (ht : t < 40) (he : en = fr + g.length) (hen : en < 1000000) (hnx : nx ≤ g.length)  (kT : (jq_obey kd ky g g.length 10 c t (st, false, cs, em, nx)).2.2.1 = true → Q (.inl (some (.int 0))) h) (kN : (jq_obey kd ky g g.length 10 c t (st, false, cs, em, nx)).2.2.1 = false → ∀ h' v13 v14 v15 v16 v17 v18 v19 v20, RQ h' a (jq_obey kd ky g g.length 10 c t (st, false, cs, em, nx)).2.1 (jq_obey kd ky g g.length 10 c t (st, false, cs, em, nx)).2.2.2.1 (jq_obey kd ky g g.length 10 c t (st, false, cs, em, nx)).2.2.2.2.1 → FrL [a] [a + 22, a + 23, a + 24, a + 25] h h' → (∀ s, s ≠ 31 → gI h' a s = gI h a s) → Ev 160 721 [some (.ref a), some (.int (Int32.ofNat P)), some (.int (if kd = 0 then 1 else 0)), some (.int (if kd = 1 then 1 else 0)), some (.long ky), none, some (.ref vq), some (.int (Int32.ofNat fr)), some (.int (Int32.ofNat en)), some (.int (Int32.ofNat (jq_obey kd ky g g.length 10 c t (st, false, cs, em, nx)).2.1.length)), some (.int (Int32.ofNat (jq_obey kd ky g g.length 10 c t (st, false, cs, em, nx)).1)), some (.int (Int32.ofNat (fr + (jq_obey kd ky g g.length 10 c t (st, false, cs, em, nx)).2.2.2.2.2))), some (.int (Int32.ofNat stp)), v13, v14, v15, v16, v17, v18, v19, v20] [] h' Q) : Ev 160 62 [some (.ref a), some (.int (Int32.ofNat P)), some (.int (if kd = 0 then 1 else 0)), some (.int (if kd = 1 then 1 else 0)), some (.long ky), none, some (.ref vq), some (.int (Int32.ofNat fr)), some (.int (Int32.ofNat en)), some (.int (Int32.ofNat st.length)), some (.int (Int32.ofNat t)), some (.int (Int32.ofNat (fr + nx))), some (.int (Int32.ofNat stp)), u13, u14, u15, u16, u17, u18, u19, u20] [] h Q := by
  have m0 := r.1
  have h12 := r.2.1
  rcases st with _ | ⟨z1, st⟩
  · exact rx_10 m0 op0 ag0 hP ht (by decide) (kT rfl)
  · rcases st with _ | ⟨z2, st⟩
    · exact rx_10 m0 op0 ag0 hP ht (show 1 < 2 by decide) (kT rfl)
    · have hl : st.length + 2 ≤ 12 := by rw [List.length_cons, List.length_cons] at h12; exact h12
      have h2 : 2 ≤ (z1 :: z2 :: st).length := by rw [List.length_cons, List.length_cons]; omega
      have key : ∀ v, jq_obey kd ky g g.length 10 c t (z1 :: z2 :: st, false, cs, em, nx) = (t + 1, (v :: st, false, cs, em, nx)) → Ev 160 721 [some (.ref a), some (.int (Int32.ofNat P)), some (.int (if kd = 0 then 1 else 0)), some (.int (if kd = 1 then 1 else 0)), some (.long ky), none, some (.ref vq), some (.int (Int32.ofNat fr)), some (.int (Int32.ofNat en)), some (.int (Int32.ofNat (st.length + 1))), some (.int (Int32.ofNat (t + 1))), some (.int (Int32.ofNat (fr + nx))), some (.int (Int32.ofNat stp)), some (.int ((10 : Int32))), some (.long c), none, some (.int ((2 : Int32))), some (.long z1), none, some (.long z2), none] [] (setL h (a + 22) st.length v) Q := by
        intro v e
        rw [e] at kN
        exact kN rfl _ _ _ _ _ _ _ _ _ (RQ_push (by omega) (RQ_pop (RQ_pop r))) (FrL.setL (by simp)) (fun _ _ => rfl)
      refine rb_10 m0 op0 ag0 hP ht h2 h12 ?_
      refine rc_all r ?_
      by_cases hxy : z1 ≤ z2
      · exact rd_10f m0 h2 h12 hxy (key 0 (by show (t + 1, jq_push (if z2 < z1 then 1 else 0) (st, false, cs, em, nx)) = _; rw [if_neg (Int64.not_lt.2 hxy), jq_push, if_pos (show st.length < 12 by omega)]))
      · exact rd_10t m0 h2 h12 hxy (key 1 (by show (t + 1, jq_push (if z2 < z1 then 1 else 0) (st, false, cs, em, nx)) = _; rw [if_pos (Int64.not_le.1 hxy), jq_push, if_pos (show st.length < 12 by omega)]))
set_option maxRecDepth 10000 in
theorem ro_11 (r : RQ h a st cs em) (op0 : gI h (a + 4) (40 * P + t) = 11) (ag0 : gL h (a + 7) (40 * P + t) = c) (hP : P < 24) (ht : t < 40) (he : en = fr + g.length) (hen : en < 1000000) (hnx : nx ≤ g.length)  (kT : (jq_obey kd ky g g.length 11 c t (st, false, cs, em, nx)).2.2.1 = true → Q (.inl (some (.int 0))) h) (kN : (jq_obey kd ky g g.length 11 c t (st, false, cs, em, nx)).2.2.1 = false → ∀ h' v13 v14 v15 v16 v17 v18 v19 v20, RQ h' a (jq_obey kd ky g g.length 11 c t (st, false, cs, em, nx)).2.1 (jq_obey kd ky g g.length 11 c t (st, false, cs, em, nx)).2.2.2.1 (jq_obey kd ky g g.length 11 c t (st, false, cs, em, nx)).2.2.2.2.1 → FrL [a] [a + 22, a + 23, a + 24, a + 25] h h' → (∀ s, s ≠ 31 → gI h' a s = gI h a s) → Ev 160 721 [some (.ref a), some (.int (Int32.ofNat P)), some (.int (if kd = 0 then 1 else 0)), some (.int (if kd = 1 then 1 else 0)), some (.long ky), none, some (.ref vq), some (.int (Int32.ofNat fr)), some (.int (Int32.ofNat en)), some (.int (Int32.ofNat (jq_obey kd ky g g.length 11 c t (st, false, cs, em, nx)).2.1.length)), some (.int (Int32.ofNat (jq_obey kd ky g g.length 11 c t (st, false, cs, em, nx)).1)), some (.int (Int32.ofNat (fr + (jq_obey kd ky g g.length 11 c t (st, false, cs, em, nx)).2.2.2.2.2))), some (.int (Int32.ofNat stp)), v13, v14, v15, v16, v17, v18, v19, v20] [] h' Q) : Ev 160 62 [some (.ref a), some (.int (Int32.ofNat P)), some (.int (if kd = 0 then 1 else 0)), some (.int (if kd = 1 then 1 else 0)), some (.long ky), none, some (.ref vq), some (.int (Int32.ofNat fr)), some (.int (Int32.ofNat en)), some (.int (Int32.ofNat st.length)), some (.int (Int32.ofNat t)), some (.int (Int32.ofNat (fr + nx))), some (.int (Int32.ofNat stp)), u13, u14, u15, u16, u17, u18, u19, u20] [] h Q := by
  have m0 := r.1
  have h12 := r.2.1
  rcases st with _ | ⟨z1, st⟩
  · exact rx_11 m0 op0 ag0 hP ht (by decide) (kT rfl)
  · rcases st with _ | ⟨z2, st⟩
    · exact rx_11 m0 op0 ag0 hP ht (show 1 < 2 by decide) (kT rfl)
    · have hl : st.length + 2 ≤ 12 := by rw [List.length_cons, List.length_cons] at h12; exact h12
      have h2 : 2 ≤ (z1 :: z2 :: st).length := by rw [List.length_cons, List.length_cons]; omega
      have key : ∀ v, jq_obey kd ky g g.length 11 c t (z1 :: z2 :: st, false, cs, em, nx) = (t + 1, (v :: st, false, cs, em, nx)) → Ev 160 721 [some (.ref a), some (.int (Int32.ofNat P)), some (.int (if kd = 0 then 1 else 0)), some (.int (if kd = 1 then 1 else 0)), some (.long ky), none, some (.ref vq), some (.int (Int32.ofNat fr)), some (.int (Int32.ofNat en)), some (.int (Int32.ofNat (st.length + 1))), some (.int (Int32.ofNat (t + 1))), some (.int (Int32.ofNat (fr + nx))), some (.int (Int32.ofNat stp)), some (.int ((11 : Int32))), some (.long c), none, some (.int ((2 : Int32))), some (.long z1), none, some (.long z2), none] [] (setL h (a + 22) st.length v) Q := by
        intro v e
        rw [e] at kN
        exact kN rfl _ _ _ _ _ _ _ _ _ (RQ_push (by omega) (RQ_pop (RQ_pop r))) (FrL.setL (by simp)) (fun _ _ => rfl)
      refine rb_11 m0 op0 ag0 hP ht h2 h12 ?_
      refine rc_all r ?_
      by_cases hxy : z2 = z1
      · exact rd_11t m0 h2 h12 hxy (key 1 (by show (t + 1, jq_push (if z2 = z1 then 1 else 0) (st, false, cs, em, nx)) = _; rw [if_pos hxy, jq_push, if_pos (show st.length < 12 by omega)]))
      · exact rd_11f m0 h2 h12 hxy (key 0 (by show (t + 1, jq_push (if z2 = z1 then 1 else 0) (st, false, cs, em, nx)) = _; rw [if_neg hxy, jq_push, if_pos (show st.length < 12 by omega)]))
set_option maxRecDepth 10000 in
theorem ro_9 (r : RQ h a st cs em) (op0 : gI h (a + 4) (40 * P + t) = 9) (ag0 : gL h (a + 7) (40 * P + t) = c) (hP : P < 24) (ht : t < 40) (he : en = fr + g.length) (hen : en < 1000000) (hnx : nx ≤ g.length)  (kT : (jq_obey kd ky g g.length 9 c t (st, false, cs, em, nx)).2.2.1 = true → Q (.inl (some (.int 0))) h) (kN : (jq_obey kd ky g g.length 9 c t (st, false, cs, em, nx)).2.2.1 = false → ∀ h' v13 v14 v15 v16 v17 v18 v19 v20, RQ h' a (jq_obey kd ky g g.length 9 c t (st, false, cs, em, nx)).2.1 (jq_obey kd ky g g.length 9 c t (st, false, cs, em, nx)).2.2.2.1 (jq_obey kd ky g g.length 9 c t (st, false, cs, em, nx)).2.2.2.2.1 → FrL [a] [a + 22, a + 23, a + 24, a + 25] h h' → (∀ s, s ≠ 31 → gI h' a s = gI h a s) → Ev 160 721 [some (.ref a), some (.int (Int32.ofNat P)), some (.int (if kd = 0 then 1 else 0)), some (.int (if kd = 1 then 1 else 0)), some (.long ky), none, some (.ref vq), some (.int (Int32.ofNat fr)), some (.int (Int32.ofNat en)), some (.int (Int32.ofNat (jq_obey kd ky g g.length 9 c t (st, false, cs, em, nx)).2.1.length)), some (.int (Int32.ofNat (jq_obey kd ky g g.length 9 c t (st, false, cs, em, nx)).1)), some (.int (Int32.ofNat (fr + (jq_obey kd ky g g.length 9 c t (st, false, cs, em, nx)).2.2.2.2.2))), some (.int (Int32.ofNat stp)), v13, v14, v15, v16, v17, v18, v19, v20] [] h' Q) : Ev 160 62 [some (.ref a), some (.int (Int32.ofNat P)), some (.int (if kd = 0 then 1 else 0)), some (.int (if kd = 1 then 1 else 0)), some (.long ky), none, some (.ref vq), some (.int (Int32.ofNat fr)), some (.int (Int32.ofNat en)), some (.int (Int32.ofNat st.length)), some (.int (Int32.ofNat t)), some (.int (Int32.ofNat (fr + nx))), some (.int (Int32.ofNat stp)), u13, u14, u15, u16, u17, u18, u19, u20] [] h Q := by
  have m0 := r.1
  have h12 := r.2.1
  rcases st with _ | ⟨z1, st⟩
  · exact rx_9 m0 op0 ag0 hP ht (by decide) (kT rfl)
  · rcases st with _ | ⟨z2, st⟩
    · exact rx_9 m0 op0 ag0 hP ht (show 1 < 2 by decide) (kT (by show (jq_div 0 z1 ([], true, cs, em, nx)).2.1 = true; rw [jq_div]; split <;> rfl))
    · have hl : st.length + 2 ≤ 12 := by rw [List.length_cons, List.length_cons] at h12; exact h12
      have h2 : 2 ≤ (z1 :: z2 :: st).length := by rw [List.length_cons, List.length_cons]; omega
      have key : ∀ v, jq_obey kd ky g g.length 9 c t (z1 :: z2 :: st, false, cs, em, nx) = (t + 1, (v :: st, false, cs, em, nx)) → Ev 160 721 [some (.ref a), some (.int (Int32.ofNat P)), some (.int (if kd = 0 then 1 else 0)), some (.int (if kd = 1 then 1 else 0)), some (.long ky), none, some (.ref vq), some (.int (Int32.ofNat fr)), some (.int (Int32.ofNat en)), some (.int (Int32.ofNat (st.length + 1))), some (.int (Int32.ofNat (t + 1))), some (.int (Int32.ofNat (fr + nx))), some (.int (Int32.ofNat stp)), some (.int ((9 : Int32))), some (.long c), none, some (.int ((2 : Int32))), some (.long z1), none, some (.long z2), none] [] (setL h (a + 22) st.length v) Q := by
        intro v e
        rw [e] at kN
        exact kN rfl _ _ _ _ _ _ _ _ _ (RQ_push (by omega) (RQ_pop (RQ_pop r))) (FrL.setL (by simp)) (fun _ _ => rfl)
      refine rb_9 m0 op0 ag0 hP ht h2 h12 ?_
      refine rc_all r ?_
      by_cases hz : z1 = 0
      · have e : (jq_obey kd ky g g.length 9 c t (z1 :: z2 :: st, false, cs, em, nx)).2.2.1 = true := by
          show (jq_div z2 z1 (st, false, cs, em, nx)).2.1 = true
          rw [jq_div, if_pos hz]; rfl
        exact re_9 m0 hz (kT e)
      · exact rd_9 m0 h2 h12 hz (key _ (by show (t + 1, jq_div z2 z1 (st, false, cs, em, nx)) = _; rw [jq_div, if_neg hz, jq_push, if_pos (show st.length < 12 by omega)]; rfl))
end REFM
