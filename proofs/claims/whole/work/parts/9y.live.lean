/-! finish comes to an end -/
/-- a worker works at a task that is not done, or is given one: done in n rounds -/
def US (S : Gs) (n : Nat) : Prop := ∃ v t, v < 6 ∧ t < 44 ∧ S.2.2.1.2.2.2.1 t = -1 ∧ (S.2.2.1.1 12 < S.2.2.1.1 11 → t < 38) ∧ (((∃ j, (S.2.2.2 v).2.1 = some j) ∧ (S.2.2.2 v).2.2.2.2.1 = Int32.ofNat (gK S) ∧ (S.2.2.2 v).1 13 = t ∧ rk (S.2.2.2 v) ≤ n) ∨ ((S.2.2.2 v).2.1 = none ∧ (∃ m, m ∈ S.1.1 v ∧ m.1 2 = 1 ∧ m.1 5 = Int32.ofNat (gK S) ∧ m.1 6 = Int32.ofNat t) ∧ (if t < 38 then 200 else 1608) ≤ n))
/-- worker w asks in n rounds -/
def NM (S : Gs) (w n : Nat) : Prop := ((∃ j, (S.2.2.2 w).2.1 = some j) ∧ rk (S.2.2.2 w) + 10 ≤ n) ∨ ((S.2.2.2 w).2.1 = none ∧ (S.1.1 w).countP lG = 0 ∧ 4 - (S.2.2.2 w).1 17 ≤ n) ∨ ((S.2.2.2 w).2.1 = none ∧ 1620 ≤ n)
section LIVE
variable {C : Jc} {S S' : Gs} {r q ck v w n t : Nat}
theorem gm_W (S : Gs) : (gm C S).2.2.2 = S.2.2.2 := rfl
theorem grd_m (S : Gs) : grd C S = gm C (gws C 6 S) := rfl
theorem grd_W : (grd C S).2.2.2 = (gws C 6 S).2.2.2 := by rw [grd_m, gm_W]
theorem U_round (hC : CK C) (hr : 3 ≤ r) (hck : ck < 80000000) (h : PI C r 0 ck S) (hov : gOv C S = false) (hu : US S n) :
    gOv C (grd C S) = true ∨ gV C (grd C S) + gT S ≤ gV C S ∨ (SMe S (grd C S) ∧ gV C (grd C S) ≤ gV C S ∧ ∃ n', n' < n ∧ US (grd C S) n') := by
  obtain ⟨v, t, hv, ht, hd, hph, hb⟩ := hu
  have hcnt := cnt_le hC h (by omega) hov
  have h8 := hC.1
  have hpv := PI_ws hC (by omega) h v (by omega)
  obtain ⟨e1, e2⟩ := gws_K (C := C) (S := S) v
  have ek : gK (gws C v S) = gK S := by show (gws C v S).2.1.2.1 = _; rw [e2]
  have eW : (gws C v S).2.2.2 v = S.2.2.2 v := gws_lo v v (Nat.le_refl v)
  have hkl : gK S ≤ C.1.length := by omega
  have hi : IV C (gws C v S).2.2.2 (gws C v S).1 (gK S) := by have := hpv.1.1; rw [ek] at this; exact this
  have hfv : FV (gK S) v (gws C v S).2.2.2 (gws C v S).1 := by have := hpv.2.2.1 v hv (Or.inr hr); rw [ek] at this; exact this
  have egw : gws C (v + 1) S = ((jw_work C.1 C.2.1 C.2.2.1 (cF C (gK S)) ((gws C v S).2.2.2 v) (gws C v S).1).2, (gws C v S).2.1, (gws C v S).2.2.1, jx_up (gws C v S).2.2.2 v (jw_work C.1 C.2.1 C.2.2.1 (cF C (gK S)) ((gws C v S).2.2.2 v) (gws C v S).1).1) := by
    show gw C v (gws C v S) = _
    rw [gw, ek]
  -- what the tick of v makes
  have key : (∃ m, m ∈ (gws C (v + 1) S).1.1 6 ∧ (m.1 2 = 2 ∨ m.1 2 = 3) ∧ m.1 5 = Int32.ofNat (gK S) ∧ m.1 6 = Int32.ofNat t) ∨ ∃ j, ((gws C (v + 1) S).2.2.2 v).2.1 = some j ∧ ((gws C (v + 1) S).2.2.2 v).2.2.2.2.1 = Int32.ofNat (gK S) ∧ ((gws C (v + 1) S).2.2.2 v).1 13 = t ∧ rk ((gws C (v + 1) S).2.2.2 v) < n := by
    rw [egw]
    show (∃ m, m ∈ (jw_work C.1 C.2.1 C.2.2.1 (cF C (gK S)) ((gws C v S).2.2.2 v) (gws C v S).1).2.1 6 ∧ _) ∨ ∃ j, (jx_up (gws C v S).2.2.2 v (jw_work C.1 C.2.1 C.2.2.1 (cF C (gK S)) ((gws C v S).2.2.2 v) (gws C v S).1).1 v).2.1 = some j ∧ (jx_up (gws C v S).2.2.2 v (jw_work C.1 C.2.1 C.2.2.1 (cF C (gK S)) ((gws C v S).2.2.2 v) (gws C v S).1).1 v).2.2.2.2.1 = _ ∧ (jx_up (gws C v S).2.2.2 v (jw_work C.1 C.2.1 C.2.2.1 (cF C (gK S)) ((gws C v S).2.2.2 v) (gws C v S).1).1 v).1 13 = t ∧ rk (jx_up (gws C v S).2.2.2 v (jw_work C.1 C.2.1 C.2.2.1 (cF C (gK S)) ((gws C v S).2.2.2 v) (gws C v S).1).1 v) < n
    rw [up_eq]
    rcases hb with ⟨⟨j, b1⟩, b2, b3, b4⟩ | ⟨b1, ⟨m, b2, b3, b4, b5⟩, b6⟩
    · rcases busy_tick (j := j) (p := gK S) hC hkl hv (show 2 ≤ r by omega) hi hpv.2.1 hfv (by rw [eW]; exact b1) (by rw [eW]; exact b2) (by omega) with ⟨_, c | ⟨m, c1, c2, c3, c4⟩⟩ | ⟨c1, c2, c3, c4⟩
      · omega
      · refine Or.inl ⟨m, c1, c2, c3, ?_⟩
        rw [c4, eW, b3]
      · refine Or.inr ⟨j, c1, c2, ?_, ?_⟩
        · rw [c3, eW]; exact b3
        · rw [eW] at c4 ⊢; omega
    · have hm : m ∈ (gws C v S).1.1 v := ws_sub hC (by omega) h v (Nat.zero_le _) (by omega) (Or.inr (Nat.le_refl v)) (show m ∈ (gws C 0 S).1.1 v from b2)
      rcases idle_give hC hkl hv (show 2 ≤ r by omega) hi hpv.2.1 (by rw [eW]; exact b1) hm b3 b4 b5 ht with c | ⟨j, c1, c2, c3, c4⟩
      · exact Or.inl c
      · exact Or.inr ⟨j, c1, c2, c3, Nat.lt_of_lt_of_le c4 b6⟩
  have main := rd_cases (ask := False) (dne := ∃ m, m ∈ (gws C (v + 1) S).1.1 6 ∧ (m.1 2 = 2 ∨ m.1 2 = 3) ∧ m.1 5 = Int32.ofNat (gK S) ∧ m.1 6 = Int32.ofNat t) (w := 0) hC hr hck h hov (by omega) (fun z => z.elim) (fun z => z.elim) (fun z => by
    obtain ⟨m, z1, z2, z3, z4⟩ := z
    exact ⟨m, t, ws_sub hC (by omega) h 6 (by omega) (Nat.le_refl 6) (Or.inr (Nat.le_refl 6)) z1, z2, z3, z4, ht, hd⟩)
  rcases main with m1 | m1 | ⟨m1, m2, _, _, _, m3⟩
  · exact Or.inl m1
  · exact Or.inr (Or.inl m1)
  · refine Or.inr (Or.inr ⟨m1, m2, ?_⟩)
    rcases key with k | ⟨j, k1, k2, k3, k4⟩
    · exact absurd k m3
    · have eWv : (grd C S).2.2.2 v = (gws C (v + 1) S).2.2.2 v := by rw [grd_W]; exact gws_hi 6 v hv
      obtain ⟨n1, n2, n3, n4, n5⟩ := m1
      refine ⟨rk ((gws C (v + 1) S).2.2.2 v), k4, v, t, hv, ht, by rw [n3]; exact hd, by rw [n4, n2]; exact hph, Or.inl ⟨⟨j, by rw [eWv]; exact k1⟩, by rw [eWv, n1]; exact k2, by rw [eWv]; exact k3, by rw [eWv]; exact Nat.le_refl _⟩⟩
/-- no worker gives -/
theorem w_nog (hC : CK C) (hq : q < 6) (h : PI C r q ck S) {x : Nat} : ((gw C q S).1.1 x).countP lG ≤ (S.1.1 x).countP lG := by
  obtain ⟨h1, h2, _⟩ := h
  have hi := h1.1
  have hno := (hi.1 q hq).1
  obtain ⟨⟨k1, k2⟩, k3, k4⟩ := hears_ind hC hq (kc := gK S) (P := fun Ws' L' => QH r q Ws' L' ∧ (L'.1 x).countP lG ≤ (S.1.1 x).countP lG) (fun Ws' L' m' l hi' hP hib hm' _ _ => ⟨QH_step hq hP.1 hib hm', by
    have h0 : (jn_pop L' q l).2.2.1 = 0 ∧ (jn_pop L' q l).2.2.2 = 0 := hP.1.1.1
    have hx' : ((jn_pop L' q l).1 x).countP lG ≤ (S.1.1 x).countP lG := Nat.le_trans (pop_le hib) hP.2
    rcases hear_eff hm' (Ws' q) (jn_pop L' q l) with ⟨e, _⟩ | ⟨_, m2, e, e2, _⟩ | ⟨u2, m2, _, _, _, _, _, e, e2⟩
    · rw [e]; exact hx'
    · rw [e]; exact Nat.le_trans (snd_n h0.1 h0.2 (Or.inr (decide_eq_false (by rw [e2]; decide)))) hx'
    · rw [e]; exact Nat.le_trans (snd_n h0.1 h0.2 (Or.inr (decide_eq_false (by rcases e2 with e2 | e2 <;> rw [e2] <;> decide)))) hx'⟩) (S.1.1 q).length S.2.2.2 (jn_up S.1 q) (show IV C S.2.2.2 (jn_up S.1 q) (gK S) from hi) ⟨QH_up hq h2, Nat.le_refl _⟩ (Nat.le_refl _)
  have hh : jw_heard C.1 C.2.1 (S.2.2.2 q) S.1 = jw_hears C.1 C.2.1 (S.1.1 q).length (S.2.2.2 q, jn_up S.1 q) := by rw [jw_heard, hno]
  show ((jw_work C.1 C.2.1 C.2.2.1 (cF C (gK S)) (S.2.2.2 q) S.1).2.1 x).countP lG ≤ _
  rw [jw_work, hh]
  have hw := k3.1 q hq
  rw [up_eq] at hw
  have h0 := k1.1.1
  rcases act_eff (F := cF C (gK S)) hw (jw_hears C.1 C.2.1 (S.1.1 q).length (S.2.2.2 q, jn_up S.1 q)).2 with e | ⟨m', e, e2⟩ | ⟨m', e, e2, _⟩ | ⟨m', u2, e, _, _, e2, _⟩
  · rw [e]; exact k2
  · rw [e]; exact Nat.le_trans (snd_n h0.1 h0.2 (Or.inr (decide_eq_false (by rcases e2 with e2 | e2 <;> rw [e2] <;> decide)))) k2
  · rw [e]; exact Nat.le_trans (snd_n h0.1 h0.2 (Or.inr (decide_eq_false (by rw [e2]; decide)))) k2
  · rw [e]; exact Nat.le_trans (snd_n h0.1 h0.2 (Or.inr (decide_eq_false (by rw [e2]; decide)))) k2
theorem ws_nog (hC : CK C) (hr : 2 ≤ r) (h : PI C r 0 ck S) {x : Nat} : ∀ b, b ≤ 6 → ((gws C b S).1.1 x).countP lG ≤ (S.1.1 x).countP lG := by
  intro b
  induction b with
  | zero => intro _; exact Nat.le_refl _
  | succ b ih => intro hb; exact Nat.le_trans (w_nog hC (by omega) (PI_ws hC hr h b (by omega))) (ih (by omega))
theorem N_round (hC : CK C) (hr : 3 ≤ r) (hck : ck < 80000000) (h : PI C r 0 ck S) (hov : gOv C S = false) (hw : w < 6) (hav : ∃ t0, AV C (gK S) S.2.2.1 w t0) (hn : NM S w n) :
    gOv C (grd C S) = true ∨ gV C (grd C S) + gT S ≤ gV C S ∨ (SMe S (grd C S) ∧ gV C (grd C S) ≤ gV C S ∧ (US (grd C S) (if S.2.2.1.1 12 < S.2.2.1.1 11 then 200 else 1608) ∨ ((grd C S).2.2.1.2.2.2.2.1 = S.2.2.1.2.2.2.2.1 ∧ ∃ n', n' < n ∧ NM (grd C S) w n'))) := by
  have hcnt := cnt_le hC h (by omega) hov
  have h8 := hC.1
  have hpw := PI_ws hC (by omega) h w (by omega)
  have hpw1 := PI_ws hC (by omega) h (w + 1) (by omega)
  obtain ⟨e1, e2⟩ := gws_K (C := C) (S := S) w
  have ek : gK (gws C w S) = gK S := by show (gws C w S).2.1.2.1 = _; rw [e2]
  have eW : (gws C w S).2.2.2 w = S.2.2.2 w := gws_lo w w (Nat.le_refl w)
  have hkl : gK S ≤ C.1.length := by omega
  have hi : IV C (gws C w S).2.2.2 (gws C w S).1 (gK S) := by have := hpw.1.1; rw [ek] at this; exact this
  have hfv : FV (gK S) w (gws C w S).2.2.2 (gws C w S).1 := by have := hpw.2.2.1 w hw (Or.inr hr); rw [ek] at this; exact this
  have egw : gws C (w + 1) S = ((jw_work C.1 C.2.1 C.2.2.1 (cF C (gK S)) ((gws C w S).2.2.2 w) (gws C w S).1).2, (gws C w S).2.1, (gws C w S).2.2.1, jx_up (gws C w S).2.2.2 w (jw_work C.1 C.2.1 C.2.2.1 (cF C (gK S)) ((gws C w S).2.2.2 w) (gws C w S).1).1) := by
    show gw C w (gws C w S) = _
    rw [gw, ek]
  have eWw : (grd C S).2.2.2 w = (gws C (w + 1) S).2.2.2 w := by rw [grd_W]; exact gws_hi 6 w hw
  have eW1 : (gws C (w + 1) S).2.2.2 w = (jw_work C.1 C.2.1 C.2.2.1 (cF C (gK S)) ((gws C w S).2.2.2 w) (gws C w S).1).1 := by rw [egw]; exact up_eq _ _ _
  have eL1 : (gws C (w + 1) S).1 = (jw_work C.1 C.2.1 C.2.2.1 (cF C (gK S)) ((gws C w S).2.2.2 w) (gws C w S).1).2 := by rw [egw]
  have main := rd_cases (ask := ∃ m, m ∈ (gws C 6 S).1.1 6 ∧ m.1 2 = 0 ∧ m.1 3 = Int32.ofNat w) (dne := False) hC hr hck h hov hw (fun z => z) (fun _ => hav) (fun z => z.elim)
  rcases main with m1 | m1 | ⟨m1, m2, _, m3, m4, _⟩
  · exact Or.inl m1
  · exact Or.inr (Or.inl m1)
  · refine Or.inr (Or.inr ⟨m1, m2, ?_⟩)
    obtain ⟨n1, n2, n3, n4, n5⟩ := m1
    have hS' := PI_rd hC (show 2 ≤ r by omega) hck h
    by_cases hG : ∃ v m, v < 6 ∧ m ∈ (grd C S).1.1 v ∧ m.1 2 = 1
    · obtain ⟨v, m, g1, g2, g3⟩ := hG
      obtain ⟨a1, t, a2, a3, a4, a5⟩ := m3 v g1 m g2 g3
      have hidle : ((grd C S).2.2.2 v).2.1 = none := hS'.2.1.2.1.2 (by omega) v g1 (List.countP_pos_iff.2 ⟨m, g2, decide_eq_true g3⟩)
      refine Or.inl ⟨v, t, g1, a3, by rw [n3]; exact a4, by rw [n4, n2]; exact a5, Or.inr ⟨hidle, ⟨m, g2, g3, by rw [n1]; exact a1, a2⟩, ?_⟩⟩
      by_cases hc : S.2.2.1.1 12 < S.2.2.1.1 11
      · rw [if_pos hc, if_pos (a5 hc)]; exact Nat.le_refl _
      · rw [if_neg hc]; split <;> omega
    · rcases m4 with m4 | ⟨m4, m5⟩
      · exact absurd m4 hG
      · refine Or.inr ⟨m4, ?_⟩
        have hz : ((grd C S).1.1 w).countP lG = 0 := by
          rw [List.countP_eq_zero]
          intro m hm e
          exact hG ⟨w, m, hw, hm, of_decide_eq_true e⟩
        have toidle : ((grd C S).2.2.2 w).2.1 = none → 10 ≤ n → ∃ n', n' < n ∧ NM (grd C S) w n' := fun z1 z2 => ⟨4, by omega, Or.inr (Or.inl ⟨z1, hz, by omega⟩)⟩
        rcases hn with ⟨⟨j, b1⟩, b2⟩ | ⟨b1, b2, b3⟩ | ⟨b1, b2⟩
        · obtain ⟨p, hp, hp8⟩ : ∃ p, ((gws C w S).2.2.2 w).2.2.2.2.1 = Int32.ofNat p ∧ p < 8 := by
            obtain ⟨_, _, _, ⟨_, _, z⟩ | ⟨p, z1, z2, _⟩⟩ := hi.1 w hw
            · rw [eW, b1] at z; cases z
            · exact ⟨p, z1, by omega⟩
          rcases busy_tick (j := j) hC hkl hw (show 2 ≤ r by omega) hi hpw.2.1 hfv (by rw [eW]; exact b1) hp hp8 with ⟨c1, _⟩ | ⟨c1, _, _, c4⟩
          · exact toidle (by rw [eWw, eW1]; exact c1) (by omega)
          · refine ⟨rk ((grd C S).2.2.2 w) + 10, ?_, Or.inl ⟨⟨j, by rw [eWw, eW1]; exact c1⟩, Nat.le_refl _⟩⟩
            rw [eWw, eW1]
            rw [eW] at c4 ⊢
            omega
        · have hz0 : ((gws C w S).1.1 w).countP lG = 0 := by
            have := ws_nog (x := w) hC (by omega) h w (by omega)
            omega
          obtain ⟨c1, c2⟩ := idle_none hC hw (show 2 ≤ r by omega) hi hpw.2.1 (by rw [eW]; exact b1) hz0
          rcases c2 with ⟨c2, c3⟩ | ⟨m, c2, c3, c4⟩
          · refine ⟨4 - ((S.2.2.2 w).1 17 + 1), by rw [eW] at c2; omega, Or.inr (Or.inl ⟨by rw [eWw, eW1]; exact c1, hz, ?_⟩)⟩
            rw [eWw, eW1, c3, eW]; exact Nat.le_refl _
          · exfalso
            refine m5 ⟨m, ws_sub hC (by omega) h (a := w + 1) 6 (by omega) (Nat.le_refl 6) (Or.inr (Nat.le_refl 6)) ?_, c3, c4⟩
            rw [eL1]; exact c2
        · cases hj : ((grd C S).2.2.2 w).2.1 with
          | none => exact toidle hj (by omega)
          | some j =>
            have hb := rk_le hC (hS'.1.1.1 w hw) hj
            exact ⟨rk ((grd C S).2.2.2 w) + 10, by omega, Or.inl ⟨⟨j, hj⟩, Nat.le_refl _⟩⟩
theorem grds_s (k : Nat) (S : Gs) : grds C (k + 1) S = grds C k (grd C S) := rfl
theorem U_chain (hC : CK C) : ∀ (n : Nat) (S : Gs) (r ck : Nat), 3 ≤ r → ck + n < 79000000 → PI C r 0 ck S → gOv C S = false → US S n → ∃ k, 1 ≤ k ∧ k ≤ n + 1 ∧ (gOv C (grds C k S) = true ∨ (gV C (grds C k S) + gT S ≤ gV C S ∧ ∃ r', 3 ≤ r' ∧ PI C r' 0 (ck + k) (grds C k S))) := by
  intro n
  induction n using Nat.strongRecOn with
  | _ n ih =>
    intro S r ck hr hck h hov hu
    have hS' := PI_rd hC (show 2 ≤ r by omega) (by omega) h
    rcases U_round hC hr (by omega) h hov hu with m1 | m1 | ⟨m1, m2, n', m3, m4⟩
    · exact ⟨1, Nat.le_refl 1, by omega, Or.inl m1⟩
    · exact ⟨1, Nat.le_refl 1, by omega, Or.inr ⟨m1, r + 1, by omega, hS'⟩⟩
    · cases ho : gOv C (grd C S) with
      | true => exact ⟨1, Nat.le_refl 1, by omega, Or.inl ho⟩
      | false =>
        obtain ⟨k, k1, k2, k3⟩ := ih n' m3 (grd C S) (r + 1) (ck + 1) (by omega) (by omega) hS' ho m4
        have eT : gT (grd C S) = gT S := by rw [gT, gT, m1.2.2.2.1, m1.2.1]
        refine ⟨k + 1, by omega, by omega, ?_⟩
        rw [grds_s]
        rcases k3 with k3 | ⟨k3, r', k4, k5⟩
        · exact Or.inl k3
        · rw [eT] at k3
          exact Or.inr ⟨by omega, r', k4, by rw [show ck + (k + 1) = ck + 1 + k by omega]; exact k5⟩
theorem N_chain (hC : CK C) (hw : w < 6) : ∀ (n : Nat) (S : Gs) (r ck : Nat), 3 ≤ r → ck + n < 78000000 → PI C r 0 ck S → gOv C S = false → (∃ t0, AV C (gK S) S.2.2.1 w t0) → NM S w n → ∃ k, 1 ≤ k ∧ k ≤ n + 2 + (if S.2.2.1.1 12 < S.2.2.1.1 11 then 200 else 1608) ∧ (gOv C (grds C k S) = true ∨ (gV C (grds C k S) + gT S ≤ gV C S ∧ ∃ r', 3 ≤ r' ∧ PI C r' 0 (ck + k) (grds C k S))) := by
  intro n
  induction n using Nat.strongRecOn with
  | _ n ih =>
    intro S r ck hr hck h hov hav hn
    have hS' := PI_rd hC (show 2 ≤ r by omega) (by omega) h
    rcases N_round hC hr (by omega) h hov hw hav hn with m1 | m1 | ⟨m1, m2, m3⟩
    · exact ⟨1, Nat.le_refl 1, by omega, Or.inl m1⟩
    · exact ⟨1, Nat.le_refl 1, by omega, Or.inr ⟨m1, r + 1, by omega, hS'⟩⟩
    · cases ho : gOv C (grd C S) with
      | true => exact ⟨1, Nat.le_refl 1, by omega, Or.inl ho⟩
      | false =>
        have eT : gT (grd C S) = gT S := by rw [gT, gT, m1.2.2.2.1, m1.2.1]
        have fin : ∀ k, 1 ≤ k → k ≤ n + 1 + (if S.2.2.1.1 12 < S.2.2.1.1 11 then 200 else 1608) → (gOv C (grds C k (grd C S)) = true ∨ (gV C (grds C k (grd C S)) + gT (grd C S) ≤ gV C (grd C S) ∧ ∃ r', 3 ≤ r' ∧ PI C r' 0 (ck + 1 + k) (grds C k (grd C S)))) → ∃ k, 1 ≤ k ∧ k ≤ n + 2 + (if S.2.2.1.1 12 < S.2.2.1.1 11 then 200 else 1608) ∧ (gOv C (grds C k S) = true ∨ (gV C (grds C k S) + gT S ≤ gV C S ∧ ∃ r', 3 ≤ r' ∧ PI C r' 0 (ck + k) (grds C k S))) := by
          intro k k1 k2 k3
          refine ⟨k + 1, by omega, by omega, ?_⟩
          rw [grds_s]
          rcases k3 with k3 | ⟨k3, r', k4, k5⟩
          · exact Or.inl k3
          · rw [eT] at k3
            exact Or.inr ⟨by omega, r', k4, by rw [show ck + (k + 1) = ck + 1 + k by omega]; exact k5⟩
        rcases m3 with m3 | ⟨m3, n', m4, m5⟩
        · obtain ⟨k, k1, k2, k3⟩ := U_chain hC _ (grd C S) (r + 1) (ck + 1) (by omega) (by
            have : (if S.2.2.1.1 12 < S.2.2.1.1 11 then 200 else 1608) ≤ 1608 := by split <;> omega
            omega) hS' ho m3
          exact fin k k1 (by omega) k3
        · obtain ⟨t0, v1, v2, v3, v4⟩ := hav
          obtain ⟨k, k1, k2, k3⟩ := ih n' m4 (grd C S) (r + 1) (ck + 1) (by omega) (by omega) hS' ho ⟨t0, by rw [m1.2.2.1]; exact v1, by rw [m3]; exact v2, by rw [m1.2.2.2.1, m1.2.1]; exact v3, by rw [m1.2.2.2.1, m1.2.1, m1.1]; exact v4⟩ m5
          rw [m1.2.2.2.1, m1.2.1] at k2
          exact fin k k1 (by omega) k3
/-- some progress is made -/
theorem one_step (hC : CK C) (hr : 3 ≤ r) (hck : ck < 77000000) (h : PI C r 0 ck S) (hov : gOv C S = false) : ∃ k, 1 ≤ k ∧ k ≤ 4000 ∧ (gOv C (grds C k S) = true ∨ (gV C (grds C k S) + k ≤ gV C S ∧ ∃ r', 3 ≤ r' ∧ PI C r' 0 (ck + k) (grds C k S))) := by
  have hcnt := cnt_le hC h (by omega) hov
  obtain ⟨c1, c2, c3, c4, c5, c6, c7, c8⟩ := hcnt
  by_cases h13 : S.2.2.1.1 13 = cN C (gK S)
  · have hS' := PI_rd hC (show 2 ≤ r by omega) (by omega) h
    refine ⟨1, Nat.le_refl 1, by omega, ?_⟩
    have main := rd_cases (ask := False) (dne := False) (w := 0) hC hr (by omega) h hov (by omega) (fun z => z.elim) (fun z => z.elim) (fun z => z.elim)
    have hT : 1 ≤ gT S := by rw [gT]; split <;> omega
    rcases main with m1 | m1 | ⟨_, _, m1, _⟩
    · exact Or.inl m1
    · exact Or.inr ⟨Nat.le_trans (Nat.add_le_add_left hT _) m1, r + 1, by omega, hS'⟩
    · exact Or.inr ⟨m1 h13, r + 1, by omega, hS'⟩
  · have hg : gvn S.2.2.1 := h.1.2.2.2
    obtain ⟨w, hw, t0, hav⟩ : ∃ w, w < 6 ∧ ∃ t0, AV C (gK S) S.2.2.1 w t0 := by
      obtain ⟨t0, d1, d2, d3⟩ : ∃ t0, S.2.2.1.2.2.2.1 t0 = -1 ∧ (S.2.2.1.1 12 < S.2.2.1.1 11 → t0 < S.2.2.1.1 11) ∧ (¬ S.2.2.1.1 12 < S.2.2.1.1 11 → 38 ≤ t0 ∧ t0 < 38 + cN C (gK S)) := by
        by_cases hc : S.2.2.1.1 12 < S.2.2.1.1 11
        · obtain ⟨t0, d1, d2⟩ := c7 hc
          exact ⟨t0, d2, fun _ => d1, fun z => absurd hc z⟩
        · obtain ⟨t0, d1, d2, d3⟩ := c8 (by omega)
          exact ⟨t0, d3, fun z => absurd z hc, fun _ => ⟨d1, d2⟩⟩
      rcases hg t0 with e | ⟨w, e1, e2⟩
      · exact ⟨0, by omega, t0, d1, Or.inr e, d2, d3⟩
      · exact ⟨w, e1, t0, d1, Or.inl e2, d2, d3⟩
    have hn : NM S w 1620 := by
      cases hj : (S.2.2.2 w).2.1 with
      | none => exact Or.inr (Or.inr ⟨hj, Nat.le_refl _⟩)
      | some j =>
        have hb := rk_le hC (h.1.1.1 w hw) hj
        exact Or.inl ⟨⟨j, hj⟩, by omega⟩
    obtain ⟨k, k1, k2, k3⟩ := N_chain hC hw 1620 S r ck hr (by omega) h hov ⟨t0, hav⟩ hn
    have hT : k ≤ gT S ∧ k ≤ 4000 := by
      rw [gT]
      by_cases hc : S.2.2.1.1 12 < S.2.2.1.1 11
      · rw [if_pos hc] at k2 ⊢
        omega
      · rw [if_neg hc] at k2 ⊢
        omega
    refine ⟨k, k1, hT.2, ?_⟩
    rcases k3 with k3 | ⟨k3, k4⟩
    · exact Or.inl k3
    · exact Or.inr ⟨Nat.le_trans (Nat.add_le_add_left hT.1 _) k3, k4⟩
theorem grds_add : ∀ (a b : Nat) (S : Gs), grds C (a + b) S = grds C b (grds C a S) := by
  intro a
  induction a with
  | zero => intro b S; rw [Nat.zero_add]; rfl
  | succ a ih => intro b S; rw [show a + 1 + b = (a + b) + 1 by omega, grds_s, ih, grds_s]
theorem live_go (hC : CK C) : ∀ (V : Nat) (S : Gs) (r ck : Nat), 3 ≤ r → ck + V < 76000000 → PI C r 0 ck S → gV C S ≤ V → ∃ k, k ≤ V + 4000 ∧ gOv C (grds C k S) = true := by
  intro V
  induction V using Nat.strongRecOn with
  | _ V ih =>
    intro S r ck hr hck h hV
    cases ho : gOv C S with
    | true => exact ⟨0, by omega, ho⟩
    | false =>
      obtain ⟨k, k1, k2, k3⟩ := one_step hC hr (by omega) h ho
      rcases k3 with k3 | ⟨k3, r', k4, k5⟩
      · exact ⟨k, by omega, k3⟩
      · obtain ⟨k', q1, q2⟩ := ih (V - k) (by omega) (grds C k S) r' (ck + k) k4 (by omega) k5 (by omega)
        exact ⟨k + k', by omega, by rw [grds_add]; exact q2⟩
/-- finish comes to an end -/
theorem live_all (hC : CK C) : Live C := by
  intro S ck hck h h1 h2
  have hp := PI_first hC (by omega) h h1 h2
  cases ho : gOv C (grds C 3 S) with
  | true => exact ⟨3, by omega, ho⟩
  | false =>
    have hcnt := cnt_le hC hp (by omega) ho
    obtain ⟨c1, c2, c3, c4, c5, c6, c7, c8⟩ := hcnt
    have hV : gV C (grds C 3 S) ≤ 950000 := by
      have h8 := hC.1
      rw [gV]
      have x1 : (C.1.length - gK (grds C 3 S)) * 105100 ≤ 840800 := Nat.le_trans (Nat.mul_le_mul_right _ (show C.1.length - gK (grds C 3 S) ≤ 8 by omega)) (by decide)
      have x2 : ((grds C 3 S).2.2.1.1 11 - (grds C 3 S).2.2.1.1 12) * 1840 ≤ 69920 := Nat.le_trans (Nat.mul_le_mul_right _ (show (grds C 3 S).2.2.1.1 11 - (grds C 3 S).2.2.1.1 12 ≤ 38 by omega)) (by decide)
      have x3 : (cN C (gK (grds C 3 S)) - (grds C 3 S).2.2.1.1 13) * 3250 ≤ 19500 := Nat.le_trans (Nat.mul_le_mul_right _ (show cN C (gK (grds C 3 S)) - (grds C 3 S).2.2.1.1 13 ≤ 6 by omega)) (by decide)
      exact Nat.le_trans (Nat.add_le_add (Nat.add_le_add (Nat.add_le_add x1 x2) x3) c6) (by decide)
    obtain ⟨k, k1, k2⟩ := live_go hC 950000 (grds C 3 S) 3 (ck + 3) (Nat.le_refl 3) (by omega) hp hV
    exact ⟨3 + k, by omega, by rw [grds_add]; exact k2⟩
end LIVE
