/-! what a worker does keeps the invariant -/
section WACT
variable {C : Jc} {Ws Ws' : Nat → Jw} {L : Jn} {kc v p t : Nat} {W W' : Jw} {m : Jm}
/-- a step that leaves disk, task and number as they were -/
theorem wOK_sm {j : Nat} (hok : wOK C Ws kc v W) (hj : W.2.1 = some j) (hp : W.2.2.2.2.1 = Int32.ofNat p) (hpc : p < C.1.length) (h8 : C.1.length ≤ 8) (hs : jw_sm W W') (h12 : W'.1 12 ≠ 0) (hst : wSt C Ws' p W') : wOK C Ws' kc v W' := by
  obtain ⟨s1, s2, s3, s4, s5, s6, s7, s8, s9, s10⟩ := hs
  obtain ⟨o1, o2, o3, o4⟩ := hok
  rcases o4 with ⟨_, _, d3⟩ | ⟨q, d1, d2, d3, d4, d5⟩
  · rw [hj] at d3; cases d3
  · have hqp : q = p := jx_inj (by omega) (by omega) (d1.symm.trans hp)
    subst hqp
    refine ⟨s1.trans o1, by omega, ⟨?_, fun e => ?_⟩, Or.inr ⟨q, by rw [s10]; exact d1, d2, d3, fun t l ht e => d4 t l ht (by rw [s10] at e; exact e), fun j' hj' => ?_⟩⟩
    · rw [wR2, s8, s9, s10]; exact o3.1
    · rw [s6, hj] at e; cases e
    · rw [s6] at hj'
      obtain ⟨f1, f2, f3, f4, f5⟩ := d5 j' hj'
      rw [s3]
      exact ⟨f1, f2, f3, by rw [s10]; exact f4, hst⟩
theorem SP_sm {j : Nat} (hok : wOK C Ws kc v (Ws v)) (hj : (Ws v).2.1 = some j) (hp : (Ws v).2.2.2.2.1 = Int32.ofNat p) (hpc : p < C.1.length) (h8 : C.1.length ≤ 8) (hs : jw_sm (Ws v) W') (h12 : W'.1 12 ≠ 0) (hst : wSt C (jx_up Ws v W') p W') : SP C Ws L kc v (W', L) :=
  SP_keep hs.2.2.2.2.2.2.2.2.2 (wOK_sm hok hj hp hpc h8 hs h12 hst)
/-- a task is done: it tells the Master -/
theorem SP_done2 {l : Jl} (hok : wOK C (jx_up Ws v (jw_rest W)) kc v (jw_rest W)) (hno : W.1 0 = v) (hw : Wle (Ws v) W) (hv : v < 6) (hp : W.2.2.2.2.1 = Int32.ofNat p) (hpc : p < C.1.length) (hpk : p ≤ kc) (ht : t < 44) (hta : W.2.2.2.2.2 t = some l) (hcv : cV C p t) (hct : cT C p t = some l) : SP C Ws L kc v (jw_rest W, jn_snd L (jw_let W 2 t) 6) := by
  have hw2 : Wle (Ws v) (jw_rest W) := hw
  refine SP_snd hw2 hok (fun h => by omega) (fun _ => Or.inr (Or.inl ⟨rfl, v, p, t, l, ?_, hv, hp, hpc, hpk, rfl, ht, hcv, hct, ?_, Or.inl ⟨l, ?_, ?_⟩⟩))
  · show Int32.ofNat (W.1 0) = _; rw [hno]
  · show Int32.ofNat (jd_am (W.2.2.2.2.2 t)) = _; rw [hta]; rfl
  · rw [up_eq]; exact hp
  · rw [up_eq]; exact hta
/-- waited -/
theorem wOK_17 {x : Nat} (h8 : C.1.length ≤ 8) (hw : ∀ u, u < 6 → Wle (Ws u) (Ws' u)) (hx : x ≤ 4) (h : wOK C Ws kc v W) : wOK C Ws' kc v (jw_sg W 17 x) := by
  obtain ⟨h1, h2, h3, h4⟩ := wOK_mono h8 hw (Nat.le_refl kc) h
  exact ⟨h1, hx, h3, h4⟩
theorem sg_sg {W : Jw} {i x y : Nat} : jw_sg (jw_sg W i x) i y = jw_sg W i y := by rw [jw_sg, jw_sg, jw_sg]; show (jx_up (jx_up W.1 i x) i y, W.2) = _; rw [up_up]
/-- ASK -/
theorem act_ask (hC : CK C) (h : IV C Ws L kc) (hv : v < 6) : SP C Ws L kc v (jw_ask (Ws v) L) := by
  have hok := h.1 v hv
  have hle : ∀ x, Wle (Ws v) (jw_sg (Ws v) 17 x) := fun x => Or.inl ⟨rfl, fun _ _ e => e⟩
  rw [jw_ask]
  split
  · rename_i hc
    exact SP_keep rfl (wOK_17 hC.1 (Wle_up (hle _)) hc hok)
  · rw [sg_sg]
    refine SP_snd (hle 0) (wOK_17 hC.1 (Wle_up (hle _)) (Nat.zero_le 4) hok) (fun hx => by omega) (fun _ => Or.inl ⟨rfl, v, ?_, hv⟩)
    show Int32.ofNat ((Ws v).1 0) = _
    rw [hok.1]
/-- MAPPING -/
theorem act_map {j : Nat} (hC : CK C) (h : IV C Ws L kc) (hv : v < 6) (hj : (Ws v).2.1 = some j) (hjp : j = cJ C p) (hp : (Ws v).2.2.2.2.1 = Int32.ofNat p) (hpc : p < C.1.length) (hpk : p ≤ kc) (hcv : cV C p ((Ws v).1 13)) (h12 : (Ws v).1 12 = 1) (h38 : (Ws v).1 13 < 38) (hw1 : w1 (C.2.2.1 (cJ C p) 0) (me_rec (cI C p) ((Ws v).1 13)) (Ws v)) : SP C Ws L kc v (jw_map (Ws v) L (cI C p) (C.2.2.1 j)) := by
  subst hjp
  have hok := h.1 v hv
  by_cases hc : (Ws v).1 15 < 16 ∧ (Ws v).1 13 * 16 + (Ws v).1 15 < (cI C p).length
  · by_cases hr : (jw_mr (Ws v) (cI C p) (C.2.2.1 (cJ C p) 0)).1 = true
    · obtain ⟨_, _, a3, a4, a5, a6, a7⟩ := w1_one (L := L) hw1 rfl hc hr
      have e : jw_map (Ws v) L (cI C p) (C.2.2.1 (cJ C p)) = ((jw_map (Ws v) L (cI C p) (C.2.2.1 (cJ C p))).1, L) := Prod.ext rfl a4
      rw [e]
      exact SP_sm hok hj hp hpc hC.1 a5 (by omega) (Or.inl ⟨a6.trans h12, by rw [a5.2.2.1]; exact h38, by rw [a5.2.2.1]; exact a3⟩)
    · obtain ⟨a1, a2⟩ := w1_trap (L := L) hw1 rfl hc hr
      rw [a2]
      have hT : cT C p ((Ws v).1 13) = none := by rw [cT, tT, if_pos h38]; exact a1
      exact SP_fail hok (Wle.refl _) hp hpc hpk (tX_task hcv hT)
  · obtain ⟨_, a2, a3, a4, a5, a6, a7⟩ := w1_end (L := L) hw1 rfl hc
    have e : jw_map (Ws v) L (cI C p) (C.2.2.1 (cJ C p)) = ((jw_map (Ws v) L (cI C p) (C.2.2.1 (cJ C p))).1, L) := Prod.ext rfl a5
    rw [e]
    refine SP_sm hok hj hp hpc hC.1 a6 (by omega) (Or.inr (Or.inl ⟨a7, by rw [a6.2.2.1]; exact h38, ?_, a3, a4⟩))
    rw [a6.2.2.1, cT, tT, if_pos h38]; exact a2
/-- what is kept -/
theorem keep_M (hok : wOK C Ws kc v W) (hp : W.2.2.2.2.1 = Int32.ofNat p) (hpc : p < C.1.length) (h8 : C.1.length ≤ 8) (h38 : W.1 13 < 38) (hcv : cV C p (W.1 13)) (hta : W.2.2.2.2.2 (W.1 13) = none) (hT : cT C p (W.1 13) = some (W.2.2.2.1 2)) : wOK C Ws' kc v (jw_rest (jw_kpM W)) := by
  obtain ⟨o1, o2, o3, o4⟩ := hok
  rcases o4 with ⟨d1, _⟩ | ⟨q, d1, d2, d3, d4, d5⟩
  · rw [d1] at hp; exact absurd hp.symm (jx_m1 (by omega))
  · have hqp : q = p := jx_inj (by omega) (by omega) (d1.symm.trans hp)
    subst hqp
    refine ⟨o1, Nat.le_refl 4, ⟨⟨?_, ?_⟩, fun _ => rfl⟩, Or.inr ⟨q, d1, d2, d3, fun t l ht e => ?_, fun j hj => by cases hj⟩⟩
    · show (W.2.2.2.1 4 ++ W.2.2.2.1 2).length = sumOn (fun t => jd_am (jx_up W.2.2.2.2.2 (W.1 13) (some (W.2.2.2.1 2)) t)) 38
      have := sumOn_up (f := fun t => jd_am (W.2.2.2.2.2 t)) (g := fun t => jd_am (jx_up W.2.2.2.2.2 (W.1 13) (some (W.2.2.2.1 2)) t)) (k := W.1 13) (fun i hi => by show jd_am (jx_up _ _ _ i) = _; rw [up_ne _ _ hi]) 38 h38
      simp only [up_eq, hta] at this
      have h0 : jd_am (none : Option Jl) = 0 := rfl
      have h1 : jd_am (some (W.2.2.2.1 2)) = (W.2.2.2.1 2).length := rfl
      rw [List.length_append, o3.1.1]
      omega
    · show (W.2.2.2.1 5).length = sumOn (fun i => jd_am (jx_up W.2.2.2.2.2 (W.1 13) (some (W.2.2.2.1 2)) (38 + i))) 6
      rw [o3.1.2]
      exact sumOn_eq 6 (fun i hi => by rw [up_ne _ _ (by omega)])
    · have e' : jx_up W.2.2.2.2.2 (W.1 13) (some (W.2.2.2.1 2)) t = some l := e
      by_cases et : t = W.1 13
      · subst et
        rw [up_eq] at e'
        cases e'
        exact ⟨hcv, hT⟩
      · rw [up_ne _ _ et] at e'; exact d4 t l ht e'
theorem keep_R (hok : wOK C Ws kc v W) (hp : W.2.2.2.2.1 = Int32.ofNat p) (hpc : p < C.1.length) (h8 : C.1.length ≤ 8) (h38 : 38 ≤ W.1 13) (h44 : W.1 13 < 44) (hcv : cV C p (W.1 13)) (hta : W.2.2.2.2.2 (W.1 13) = none) (hT : cT C p (W.1 13) = some (W.2.2.2.1 2)) : wOK C Ws' kc v (jw_rest (jw_kpR W)) := by
  obtain ⟨o1, o2, o3, o4⟩ := hok
  rcases o4 with ⟨d1, _⟩ | ⟨q, d1, d2, d3, d4, d5⟩
  · rw [d1] at hp; exact absurd hp.symm (jx_m1 (by omega))
  · have hqp : q = p := jx_inj (by omega) (by omega) (d1.symm.trans hp)
    subst hqp
    refine ⟨o1, Nat.le_refl 4, ⟨⟨?_, ?_⟩, fun _ => rfl⟩, Or.inr ⟨q, d1, d2, d3, fun t l ht e => ?_, fun j hj => by cases hj⟩⟩
    · show (W.2.2.2.1 4).length = sumOn (fun t => jd_am (jx_up W.2.2.2.2.2 (W.1 13) (some (W.2.2.2.1 2)) t)) 38
      rw [o3.1.1]
      exact sumOn_eq 38 (fun i hi => by rw [up_ne _ _ (by omega)])
    · show (W.2.2.2.1 5 ++ W.2.2.2.1 2).length = sumOn (fun i => jd_am (jx_up W.2.2.2.2.2 (W.1 13) (some (W.2.2.2.1 2)) (38 + i))) 6
      have := sumOn_up (f := fun i => jd_am (W.2.2.2.2.2 (38 + i))) (g := fun i => jd_am (jx_up W.2.2.2.2.2 (W.1 13) (some (W.2.2.2.1 2)) (38 + i))) (k := W.1 13 - 38) (fun i hi => by show jd_am (jx_up _ _ _ (38 + i)) = _; rw [up_ne _ _ (by omega)]) 6 (by omega)
      simp only [show 38 + (W.1 13 - 38) = W.1 13 from by omega, up_eq, hta] at this
      have h0 : jd_am (none : Option Jl) = 0 := rfl
      have h1 : jd_am (some (W.2.2.2.1 2)) = (W.2.2.2.1 2).length := rfl
      rw [List.length_append, o3.1.2]
      omega
    · have e' : jx_up W.2.2.2.2.2 (W.1 13) (some (W.2.2.2.1 2)) t = some l := e
      by_cases et : t = W.1 13
      · subst et
        rw [up_eq] at e'
        cases e'
        exact ⟨hcv, hT⟩
      · rw [up_ne _ _ et] at e'; exact d4 t l ht e'
/-- keep -/
theorem act_keep (hC : CK C) (h : IV C Ws L kc) (hv : v < 6) (hp : (Ws v).2.2.2.2.1 = Int32.ofNat p) (hpc : p < C.1.length) (hpk : p ≤ kc) (h44 : (Ws v).1 13 < 44) (hcv : cV C p ((Ws v).1 13)) (hta : (Ws v).2.2.2.2.2 ((Ws v).1 13) = none) (hT : cT C p ((Ws v).1 13) = some ((Ws v).2.2.2.1 2)) : SP C Ws L kc v (jw_keep (Ws v) L) := by
  have hok := h.1 v hv
  have h8 := hC.1
  have hdk : wDk C p (Ws v) ∧ wR2 (Ws v) := by
    obtain ⟨o1, o2, o3, o4⟩ := hok
    rcases o4 with ⟨d1, _⟩ | ⟨q, d1, d2, d3, d4, d5⟩
    · rw [d1] at hp; exact absurd hp.symm (jx_m1 (by omega))
    · have hqp : q = p := jx_inj (by omega) (by omega) (d1.symm.trans hp)
      subst hqp
      exact ⟨d4, o3.1⟩
  have hup : ∀ t l, t < 44 → jx_up (Ws v).2.2.2.2.2 ((Ws v).1 13) (some ((Ws v).2.2.2.1 2)) t = some l → cV C p t ∧ cT C p t = some l := by
    intro t l ht e'
    by_cases et : t = (Ws v).1 13
    · subst et
      rw [up_eq] at e'
      cases e'
      exact ⟨hcv, hT⟩
    · rw [up_ne _ _ et] at e'; exact hdk.1 t l ht e'
  have hlt : ∀ t l, (Ws v).2.2.2.2.2 t = some l → jx_up (Ws v).2.2.2.2.2 ((Ws v).1 13) (some ((Ws v).2.2.2.1 2)) t = some l := by
    intro t l e
    have : t ≠ (Ws v).1 13 := fun et => by rw [et, hta] at e; cases e
    rw [up_ne _ _ this]; exact e
  rw [jw_keep]
  have h0 : jd_am (none : Option Jl) = 0 := rfl
  have h1 : jd_am (some ((Ws v).2.2.2.1 2)) = ((Ws v).2.2.2.1 2).length := rfl
  by_cases h38 : (Ws v).1 13 < 38
  · rw [if_pos h38]
    by_cases hf : ((Ws v).2.2.2.1 4).length + ((Ws v).2.2.2.1 2).length ≤ 1000
    · rw [if_pos hf]
      exact SP_done2 (W := jw_kpM (Ws v)) (keep_M hok hp hpc h8 h38 hcv hta hT) hok.1 (Or.inl ⟨rfl, hlt⟩) hv hp hpc hpk h44 (up_eq _ _ _) hcv hT
    · rw [if_neg hf]
      refine SP_fail hok (Wle.refl _) hp hpc hpk (tX_held (f := jx_up (Ws v).2.2.2.2.2 ((Ws v).1 13) (some ((Ws v).2.2.2.1 2))) rfl (fun i l hi e => hup i l (by omega) e) ?_)
      have := sumOn_up (f := fun t => jd_am ((Ws v).2.2.2.2.2 t)) (g := fun t => jd_am (jx_up (Ws v).2.2.2.2.2 ((Ws v).1 13) (some ((Ws v).2.2.2.1 2)) t)) (k := (Ws v).1 13) (fun i hi => by show jd_am (jx_up _ _ _ i) = _; rw [up_ne _ _ hi]) 38 h38
      simp only [up_eq, hta] at this
      rw [hdk.2.1] at hf
      omega
  · rw [if_neg h38]
    by_cases hf : ((Ws v).2.2.2.1 5).length + ((Ws v).2.2.2.1 2).length ≤ 300
    · rw [if_pos hf]
      exact SP_done2 (W := jw_kpR (Ws v)) (keep_R hok hp hpc h8 (by omega) h44 hcv hta hT) hok.1 (Or.inl ⟨rfl, hlt⟩) hv hp hpc hpk h44 (up_eq _ _ _) hcv hT
    · rw [if_neg hf]
      refine SP_fail hok (Wle.refl _) hp hpc hpk (tX_heldP (f := fun i => jx_up (Ws v).2.2.2.2.2 ((Ws v).1 13) (some ((Ws v).2.2.2.1 2)) (38 + i)) rfl (fun i l hi e => hup (38 + i) l (by omega) e) ?_)
      have := sumOn_up (f := fun i => jd_am ((Ws v).2.2.2.2.2 (38 + i))) (g := fun i => jd_am (jx_up (Ws v).2.2.2.2.2 ((Ws v).1 13) (some ((Ws v).2.2.2.1 2)) (38 + i))) (k := (Ws v).1 13 - 38) (fun i hi => by show jd_am (jx_up _ _ _ (38 + i)) = _; rw [up_ne _ _ (by omega)]) 6 (by omega)
      simp only [show 38 + ((Ws v).1 13 - 38) = (Ws v).1 13 from by omega, up_eq, hta] at this
      rw [hdk.2.2] at hf
      omega
end WACT
