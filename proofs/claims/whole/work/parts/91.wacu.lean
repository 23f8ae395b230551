/-! what a worker does: KEY by KEY, fetching; all of it -/
section WACU
variable {C : Jc} {Ws Ws' : Nat → Jw} {L : Jn} {kc v p t : Nat} {W W' : Jw} {m : Jm}
theorem sumOn_one {f : Nat → Nat} {k n : Nat} (hk : k < n) (h0 : ∀ i, i ≠ k → f i = 0) : sumOn f n = f k := by
  have := sumOn_up (f := fun _ => 0) (g := f) (k := k) (fun i hi => h0 i hi) n hk
  rw [sumOn_zero n (fun _ _ => rfl)] at this
  omega
/-- a PART that is too large -/
theorem tX_big {x : Jl} (h38 : 38 ≤ t) (h44 : t < 44) (hcv : cV C p t) (hct : cT C p t = some x) (hx : 300 < x.length) : cX C p := by
  refine tX_heldP (f := fun i => if i = t - 38 then some x else none) rfl (fun i l hi e => ?_) ?_
  · split at e
    · rename_i hi2
      cases e
      subst hi2
      rw [show 38 + (t - 38) = t from by omega]
      exact ⟨hcv, hct⟩
    · cases e
  · rw [sumOn_one (k := t - 38) (by omega) (fun i hi => by rw [if_neg hi]; rfl), if_pos rfl]
    exact hx
/-- COMBINING, REDUCING -/
theorem act_fold {j : Nat} (hC : CK C) (h : IV C Ws L kc) (hv : v < 6) (hj : (Ws v).2.1 = some j) (hjp : j = cJ C p) (hp : (Ws v).2.2.2.2.1 = Int32.ofNat p) (hpc : p < C.1.length) (hpk : p ≤ kc) (h44 : (Ws v).1 13 < 44) (hcv : cV C p ((Ws v).1 13)) (hta : (Ws v).2.2.2.2.2 ((Ws v).1 13) = none)
    (hst : ((Ws v).1 12 = 2 ∧ (Ws v).1 13 < 38 ∧ w2 (C.2.2.1 (cJ C p) 1) 1 (cT C p ((Ws v).1 13)) (Ws v) ∧ ((Ws v).2.2.2.1 1).length ≤ 64 ∧ ((Ws v).2.2.2.1 2).length + 4 * (((Ws v).2.2.2.1 1).length - (Ws v).1 15) ≤ 256) ∨ ((Ws v).1 12 = 4 ∧ 38 ≤ (Ws v).1 13 ∧ w2 (C.2.2.1 (cJ C p) 2) 2 (cT C p ((Ws v).1 13)) (Ws v) ∧ ((Ws v).2.2.2.1 1).length ≤ 1000)) : SP C Ws L kc v (jw_fold (Ws v) L (C.2.2.1 j)) := by
  subst hjp
  have hok := h.1 v hv
  have hw2 : w2 (C.2.2.1 (cJ C p) (jw_wh (Ws v))) (Int32.ofNat (jw_wh (Ws v))) (cT C p ((Ws v).1 13)) (Ws v) := by
    rcases hst with ⟨a1, _, a3, _⟩ | ⟨a1, _, a3, _⟩
    · rw [show jw_wh (Ws v) = 1 from by rw [jw_wh, if_pos a1]]; exact a3
    · rw [show jw_wh (Ws v) = 2 from by rw [jw_wh, if_neg (by omega)]]; exact a3
  by_cases hc : (Ws v).1 15 < ((Ws v).2.2.2.1 1).length
  · by_cases hr : (jw_fr1 (Ws v) (C.2.2.1 (cJ C p))).1 = true
    · by_cases hf : ((Ws v).2.2.2.1 2).length + (jw_fr1 (Ws v) (C.2.2.1 (cJ C p))).2.length ≤ 300
      · obtain ⟨b1, b2, b3, b4, b5, b6, b7, b8⟩ := w2_one (L := L) hw2 hc hr hf
        have e : jw_fold (Ws v) L (C.2.2.1 (cJ C p)) = ((jw_fold (Ws v) L (C.2.2.1 (cJ C p))).1, L) := Prod.ext rfl b2
        rw [e]
        refine SP_sm hok hj hp hpc hC.1 b3 (by rcases hst with ⟨a1, _⟩ | ⟨a1, _⟩ <;> omega) ?_
        rcases hst with ⟨a1, a2, a3, a4, a5⟩ | ⟨a1, a2, a3, a4⟩
        · refine Or.inr (Or.inl ⟨b4.trans a1, by rw [b3.2.2.1]; exact a2, ?_, by rw [b5]; exact a4, ?_⟩)
          · rw [show jw_wh (Ws v) = 1 from by rw [jw_wh, if_pos a1]] at b1
            rw [b3.2.2.1]; exact b1
          · rw [b5, b7, List.length_append]; omega
        · refine Or.inr (Or.inr (Or.inr ⟨b4.trans a1, by rw [b3.2.2.1]; exact a2, ?_, by rw [b5]; exact a4⟩))
          rw [show jw_wh (Ws v) = 2 from by rw [jw_wh, if_neg (by omega)]] at b1
          rw [b3.2.2.1]; exact b1
      · obtain ⟨b1, b2⟩ := w2_full (L := L) hw2 hc hr hf
        rw [b2]
        refine SP_fail hok (Wle.refl _) hp hpc hpk ?_
        rcases hst with ⟨a1, a2, a3, a4, a5⟩ | ⟨a1, a2, a3, a4⟩
        · exfalso
          have := jq_grp_len (pg := C.2.2.1 (cJ C p) (jw_wh (Ws v))) (kd := Int32.ofNat (jw_wh (Ws v))) ((((Ws v).2.2.2.1 1).drop ((Ws v).1 15)).take (jx_eok ((Ws v).2.2.2.1 1) ((Ws v).1 15) - (Ws v).1 15))
          have h4 : (jw_fr1 (Ws v) (C.2.2.1 (cJ C p))).2.length ≤ 4 := this
          omega
        · cases hT : cT C p ((Ws v).1 13) with
          | none => exact tX_task hcv hT
          | some x => exact tX_big a2 h44 hcv hT (b1 x hT)
    · obtain ⟨b1, b2⟩ := w2_trap (L := L) hw2 hc hr
      rw [b2]
      exact SP_fail hok (Wle.refl _) hp hpc hpk (tX_task hcv b1)
  · obtain ⟨b1, b2⟩ := w2_end (L := L) hw2 hc
    rw [b2]
    exact act_keep hC h hv hp hpc hpk h44 hcv hta b1
/-- FETCHING; what it must hold to, and that it keeps it -/
theorem act_fetch {j : Nat} {ls : List Jl} (hC : CK C) (h : IV C Ws L kc) (hv : v < 6) (hj : (Ws v).2.1 = some j) (hjp : j = cJ C p) (hp : (Ws v).2.2.2.2.1 = Int32.ofNat p) (hpc : p < C.1.length) (hpk : p ≤ kc) (h44 : (Ws v).1 13 < 44) (hcv : cV C p ((Ws v).1 13)) (h12 : (Ws v).1 12 = 3) (h38 : 38 ≤ (Ws v).1 13) (c3 : cA C p = some ls) (c4 : me_sum ls ≤ 1000) (c5 : w3 (cN C p) ((Ws v).1 13 - 38) ls (Ws v)) (c6 : ∀ s, s < ls.length → ∃ u, u < 6 ∧ (Ws v).2.2.1 s = Int32.ofNat u ∧ HD Ws u p s) :
    ((Ws v).1 11 ≤ 38 ∧ (Ws v).1 16 < 100000 ∧ ((Ws v).1 15 < (Ws v).1 11 → jn0 ((Ws v).2.2.1 ((Ws v).1 15))) ∧ ((Ws v).1 15 < (Ws v).1 11 → ji ((Ws v).2.2.1 ((Ws v).1 15)) < 7) ∧ ((Ws v).1 15 < (Ws v).1 11 → ji ((Ws v).2.2.1 ((Ws v).1 15)) = (Ws v).1 0 → jc_ok C.1 C.2.1 (Ws v).2.2.2.2.1 ∧ (jw_an (Ws v) (jw_mine (Ws v) (jc_np C.1 C.2.1 (Ws v).2.2.2.2.1)) = true → jn0 ((jw_mine (Ws v) (jc_np C.1 C.2.1 (Ws v).2.2.2.2.1)).1 9) ∧ jn0 ((jw_mine (Ws v) (jc_np C.1 C.2.1 (Ws v).2.2.2.2.1)).1 10) ∧ ((Ws v).2.2.2.1 1).length + ji ((jw_mine (Ws v) (jc_np C.1 C.2.1 (Ws v).2.2.2.2.1)).1 9) ≤ 1000 ∧ ji ((jw_mine (Ws v) (jc_np C.1 C.2.1 (Ws v).2.2.2.2.1)).1 9) ≤ 16 ∧ ji ((jw_mine (Ws v) (jc_np C.1 C.2.1 (Ws v).2.2.2.2.1)).1 10) ≤ 1000 ∧ (Ws v).1 16 ≤ 2000 ∧ (Ws v).1 15 ≤ 2000)))
    ∧ SP C Ws L kc v (jw_fo1 C.1 C.2.1 (Ws v) L) := by
  have h8 := hC.1
  have hok := h.1 v hv
  have hls := cA_len c3
  have h38' : me_ns (cI C p) ≤ 38 := me_ns_38 (cI_600 hC)
  have h11 : (Ws v).1 11 = ls.length := c5.1
  have ho16 : (Ws v).1 16 ≤ 1000 := by
    rcases c5.2.2.2.1 with e | ⟨e0, e⟩
    · omega
    · have hsl := me_sel_le (np := cN C p) (r := (Ws v).1 13 - 38) (ls.getD ((Ws v).1 15) [])
      have h2 := sumOn_mono (f := fun i => (ls.getD i []).length) (n := (Ws v).1 15 + 1) ls.length (by omega)
      have h3 : sumOn (fun i => (ls.getD i []).length) ((Ws v).1 15 + 1) = sumOn (fun i => (ls.getD i []).length) ((Ws v).1 15) + (ls.getD ((Ws v).1 15) []).length := rfl
      rw [← me_sum_on] at h2
      omega
  have hnp : jc_np C.1 C.2.1 (Ws v).2.2.2.2.1 = cN C p := by rw [hp]; exact (cC_j hpc h8).2
  rw [jw_fo1, hnp]
  have hat0 := c5.2.1
  by_cases hlt : (Ws v).1 15 < (Ws v).1 11
  · obtain ⟨u, u1, u2, u3⟩ := c6 ((Ws v).1 15) (by omega)
    obtain ⟨n1, n2⟩ := jn0_of (by omega) u2
    rw [n2]
    by_cases huv : u = (Ws v).1 0
    · have huv2 : u = v := huv.trans hok.1
      subst huv2
      -- it has the SPLIT itself
      have hl : ∃ l, (Ws u).2.2.2.2.2 ((Ws u).1 15) = some l := by
        rcases u3 with ⟨l, _, a2⟩ | ⟨q, a1, a2, a3⟩
        · exact ⟨l, a2⟩
        · have := jx_inj (by omega) (by omega) (a1.symm.trans hp); omega
      obtain ⟨l, hl⟩ := hl
      have hdk : cV C p ((Ws u).1 15) ∧ cT C p ((Ws u).1 15) = some l := by
        rcases hok.2.2.2 with ⟨d1, _⟩ | ⟨q, d1, d2, d3, d4, d5⟩
        · rw [d1] at hp; exact absurd hp.symm (jx_m1 (by omega))
        · have hqp : q = p := jx_inj (by omega) (by omega) (d1.symm.trans hp)
          subst hqp
          exact d4 _ l (by omega) hl
      have hmine : jw_mine (Ws u) (cN C p) = jd_page (jw_pf (Ws u) (Int32.ofNat ((Ws u).1 0)) ((Ws u).1 15) (Int32.ofNat ((Ws u).1 13) - 38) ((Ws u).1 16)) ((Ws u).1 16) (jd_sel (cN C p) ((Ws u).1 15) (jw_pf (Ws u) (Int32.ofNat ((Ws u).1 0)) ((Ws u).1 15) (Int32.ofNat ((Ws u).1 13) - 38) ((Ws u).1 16) 7) l) := by
        rw [jw_mine, jw_pg, hl]; rfl
      obtain ⟨k1, k2, k3, k4, k5, k6, k7, k8⟩ := page_take hC hok hj h12 hp hpc hmine (by omega) (by omega) hdk.1 hdk.2 rfl rfl
      refine ⟨⟨by omega, by omega, fun _ => n1, fun _ => by omega, fun _ _ => ⟨by rw [hp]; exact cC_ok hC hpc, fun _ => ⟨k1, k2, k3, k4, k5, k6, k7⟩⟩⟩, ?_⟩
      rw [jw_fo, if_pos hlt, if_pos huv, jw_hp, if_pos h12]
      split
      · have hs9 := (jw_pg2_sm (W := Ws u) (m := jw_mine (Ws u) (cN C p)) (k := ji ((jw_mine (Ws u) (cN C p)).1 9)) (tt := ji ((jw_mine (Ws u) (cN C p)).1 10))).2.2.2.2.2.2.2.2
        exact SP_keep hs9 (k8 _ (Wle_up (Or.inl ⟨by rw [hs9], fun t l e => by rw [hs9]; exact e⟩)))
      · exact SP_same h hv
    · refine ⟨⟨by omega, by omega, fun _ => n1, fun _ => by omega, fun _ e => absurd e huv⟩, ?_⟩
      rw [jw_fo, if_pos hlt, if_neg huv]
      have hle : ∀ x, Wle (Ws v) (jw_sg (Ws v) 17 x) := fun x => Or.inl ⟨rfl, fun _ _ e => e⟩
      split
      · rename_i hc
        exact SP_keep rfl (wOK_17 hC.1 (Wle_up (hle _)) hc hok)
      · rw [sg_sg]
        refine SP_snd (hle 0) (wOK_17 hC.1 (Wle_up (hle _)) (Nat.zero_le 4) hok) (fun _ => Or.inr (Or.inl ⟨rfl, v, p, (Ws v).1 15, (Ws v).1 16, ?_, by omega, ?_, hp, hpc, hpk, rfl, by omega, rfl, by omega, fun _ => by omega⟩)) (fun hx => by omega)
        · show Int32.ofNat ((Ws v).1 0) = _; rw [hok.1]
        · intro e; exact huv (e.symm.trans hok.1.symm)
  · refine ⟨⟨by omega, by omega, fun e => absurd e hlt, fun e => absurd e hlt, fun e => absurd e hlt⟩, ?_⟩
    rw [jw_fo, if_neg hlt]
    obtain ⟨b1, b2, b3⟩ := w3_end (pr := C.2.2.1 (cJ C p)) c5 hlt
    have hT : cT C p ((Ws v).1 13) = me_red (C.2.2.1 (cJ C p)) (cN C p) ls ((Ws v).1 13 - 38) := by rw [cT, tT, if_neg (by omega), show tA C.1 C.2.1 C.2.2.1 C.2.2.2 p = some ls from c3]; rfl
    refine SP_sm hok hj hp hpc h8 ⟨rfl, rfl, rfl, rfl, rfl, rfl, rfl, rfl, rfl, rfl⟩ (by show (4 : Nat) ≠ 0; omega) (Or.inr (Or.inr (Or.inr ⟨rfl, h38, ?_, ?_⟩)))
    · show w2 _ 2 (cT C p ((Ws v).1 13)) _
      rw [hT]; exact b1
    · rw [b2, srt_len]
      exact Nat.le_trans (me_gat_le _) c4
end WACU
