/-! the Master hears: ASK, FAIL, DONE -/
section MHEAR
variable {C : Jc} {Ws : Nat → Jw} {L : Jn} {kc ck p t v : Nat} {K K' : Jk} {R R' : Jr} {m : Jm} {e : Je}
/-- a step of the Master to z, no COMMIT, is fine -/
def SM (C : Jc) (Ws : Nat → Jw) (L : Jn) (kc ck : Nat) (z : Jy) : Prop := IM C Ws false kc ck z.2.2 z.1 ∧ (∀ x, x < 6 → ∀ m, m ∈ z.2.1.1 x → m ∈ L.1 x ∨ mW C Ws kc x m) ∧ ∀ m, m ∈ z.2.1.1 6 → m ∈ L.1 6 ∨ mM C Ws kc m
theorem IM_J {dn : Bool} (hd : dn = false) (h : IM C Ws dn kc ck R K) : MJ C Ws kc R K ∧ MK C kc ck K := ⟨MJ_co h.1 (h.2.2 hd).1, (h.2.2 hd).2⟩
/-- the journal is as it was -/
theorem IM_same (h : IM C Ws false kc ck R K) (hc : coEq K K') (hk : MK C kc ck K') : IM C Ws false kc ck R K' := by
  have h1 : coEq (jk_said C.1 C.2.1 (cF C kc) R K) (jk_said C.1 C.2.1 (cF C kc) R K') := co_recs _ _ _ co_forget
  exact ⟨MJ_co h.1 h1, rok_co _ _ _ co_forget h.2.1, fun _ => ⟨(h1.symm.trans (h.2.2 rfl).1).trans hc, hk⟩⟩
/-- an entry more -/
theorem IM_w (h : IM C Ws false kc ck R K) (hc : coEq (jk_rec1 C.1 C.2.1 (cF C kc) K e) K') (hj : MJ C Ws kc (jr_w R e) K') (hk : MK C kc ck K')
    (hr : (e.1 = 1 → K.1 9 + 1 < 100) ∧ (e.1 = 2 → K.1 9 < C.1.length) ∧ (e.1 ≠ 1 → e.1 ≠ 2 → jn0 e.2.1 ∧ ji e.2.1 < 44 ∧ jn0 e.2.2.2 ∧ ji e.2.2.2 < 10000 ∧ K.1 12 < 10000 ∧ K.1 13 < 10000 ∧ K.1 14 < 10000000 ∧ K.1 15 < 10000000)) : IM C Ws false kc ck (jr_w R e) K' := by
  have h1 : coEq (jk_said C.1 C.2.1 (cF C kc) R K') (jk_said C.1 C.2.1 (cF C kc) R K) := co_recs _ _ _ co_forget
  have h2 : coEq (jk_said C.1 C.2.1 (cF C kc) R K') K := h1.trans (h.2.2 rfl).1
  have h3 : coEq (jk_said C.1 C.2.1 (cF C kc) (jr_w R e) K') K' := (said_w.trans (co_rec1 h2)).trans hc
  refine ⟨MJ_co hj h3.symm, ?_, fun _ => ⟨h3, hk⟩⟩
  rw [jr_w_1]
  refine rok_snoc _ _ (rok_co _ _ _ co_forget h.2.1) ?_
  have h2' : coEq (jk_recs C.1 C.2.1 (cF C kc) R.1 (jk_forget C.1 C.2.1 (cF C kc) K')) K := h2
  rw [h2'.1, h2'.2.2.2.2.1, h2'.2.2.2.2.2.1, h2'.2.2.2.2.2.2.1, h2'.2.2.2.2.2.2.2]
  exact hr
theorem over_not (hov : jk_over C.1 K = false) : K.2.1 = -1 ∧ K.1 9 < C.1.length := by
  rw [jk_over, Bool.or_eq_false_iff] at hov
  have h1 := of_decide_eq_false hov.1
  have h2 := of_decide_eq_false hov.2
  exact ⟨Decidable.not_not.1 h1, by omega⟩
/-- the JOB of a Master that is not done -/
theorem m_job (hC : CK C) (h : MJ C Ws kc R K) (hk : MK C kc ck K) (hov : jk_over C.1 K = false) : kc < C.1.length ∧ K.2.2.1 = some (cJ C kc) ∧ K.1 11 = me_ns (cI C kc) ∧ jk_np C.2.1 K = cN C kc ∧ jk_jok C.1 C.2.1 K := by
  obtain ⟨a1, a2, a3, a4, _⟩ := h
  have hlt : kc < C.1.length := by have := (over_not hov).2; omega
  obtain ⟨q1, q2, q3, q4, q5⟩ := hC.2.2.1 kc hlt
  have hj : K.2.2.1 = some (cJ C kc) := a4.trans (cC_get hlt)
  have h11 : K.1 11 = me_ns (cI C kc) := by rw [hk.1, cC_get hlt]; rfl
  refine ⟨hlt, hj, h11, by rw [jk_np, hj]; rfl, by omega, by rw [a3]; exact a4, fun j e => ?_, by rw [h11]; exact me_ns_38 (cI_600 hC)⟩
  rw [hj] at e
  cases e
  exact ⟨q1, q3, q5⟩
theorem scan_spec {x : Int32} : ∀ (n t : Nat) (f : Option Nat) (q : Nat), jk_scan K x n t f = some q → f = some q ∨ (t ≤ q ∧ q < t + n ∧ K.2.2.2.1 q = -1) := by
  intro n
  induction n with
  | zero => intro t f q h; exact Or.inl h
  | succ n ih =>
    intro t f q h
    rw [jk_scan] at h
    split at h
    · rename_i hd
      split at h
      · cases h; exact Or.inr ⟨Nat.le_refl _, by omega, hd⟩
      · rcases ih (t + 1) _ q h with e | ⟨e1, e2, e3⟩
        · split at e
          · cases e; exact Or.inr ⟨Nat.le_refl _, by omega, hd⟩
          · exact Or.inl e
        · exact Or.inr ⟨by omega, by omega, e3⟩
    · rcases ih (t + 1) f q h with e | ⟨e1, e2, e3⟩
      · exact Or.inl e
      · exact Or.inr ⟨by omega, by omega, e3⟩
theorem jx_64 (x : Int32) : x.toInt64.toInt32 = x := by simp
/-- ASK -/
theorem mhear_ask {u : Nat} (hC : CK C) (h : IM C Ws false kc ck R K) (hov : jk_over C.1 K = false) (hu : u < 6) (e3 : m.1 3 = Int32.ofNat u) : SM C Ws L kc ck ((jk_ask K L (jk_np C.2.1 K) u).1, (jk_ask K L (jk_np C.2.1 K) u).2, R) := by
  obtain ⟨hJ, hK⟩ := IM_J rfl h
  obtain ⟨hlt, hj, h11, hnp, _⟩ := m_job hC hJ hK hov
  have hf := (over_not hov).1
  have h38 : me_ns (cI C kc) ≤ 38 := me_ns_38 (cI_600 hC)
  obtain ⟨q1, q2, q3, q4, q5⟩ := hC.2.2.1 kc hlt
  rw [hnp]
  cases hq : jk_tf K (Int32.ofNat u) (cN C kc) with
  | none => rw [jk_ask, hq]; exact ⟨h, fun _ _ _ hm => Or.inl hm, fun _ hm => Or.inl hm⟩
  | some t =>
    rw [jk_ask, hq]
    have htv : t < 44 ∧ cV C kc t ∧ (38 ≤ t → me_ns (cI C kc) ≤ K.1 12) := by
      rw [jk_tf] at hq
      split at hq
      · rename_i hc
        rcases scan_spec _ _ _ _ hq with e | ⟨e1, e2, e3⟩
        · cases e
        · exact ⟨by omega, Or.inl ⟨by omega, by show t < me_ns (cI C kc); omega⟩, fun _ => by omega⟩
      · rename_i hc
        rcases scan_spec _ _ _ _ hq with e | ⟨e1, e2, e3⟩
        · cases e
        · exact ⟨by omega, Or.inr ⟨by omega, by show t - 38 < cN C kc; omega, splits_all hC hJ hf hlt (by omega)⟩, fun _ => by omega⟩
    obtain ⟨ht, hcv, hall⟩ := htv
    refine ⟨IM_same h ⟨rfl, rfl, rfl, rfl, rfl, rfl, rfl, rfl⟩ hK, fun x hx m' hm => ?_, fun m' hm => ?_⟩
    · rcases jn_snd_mem hm with a | ⟨a1, a2⟩
      · exact Or.inl a
      · subst a1
        subst a2
        refine Or.inr (Or.inl ⟨rfl, kc, t, ?_, hlt, Nat.le_refl _, rfl, ht, hcv, ?_, fun h38t s hs => ?_⟩)
        · show Int32.ofNat (K.1 9) = _; rw [hJ.2.2.1]
        · show Int32.ofNat (K.1 11) = _; rw [h11]
        · have hget : jm_get (jk_gm K t x) s = (K.2.2.2.1 s).toInt64 := by
            show ((jk_hl K (K.1 11))[s]?).getD 0 = _
            rw [jk_hl, List.getElem?_map, List.getElem?_range (by omega)]; rfl
          rw [hget, jx_64]
          obtain ⟨a1, a2, a3, a4, a5, a6, a7, ⟨b1, b2, b3, b4⟩, _⟩ := hJ
          have hbad : ∀ i, me_ns (cI C kc) ≤ i → i < 38 → K.2.2.2.1 (0 + i) = -1 := by
            intro i h1 h2
            rw [Nat.zero_add]
            rcases a7 i (by omega) with e | ⟨u, l, _, _, _, c4, _⟩
            · exact e
            · rcases c4 with ⟨_, c5⟩ | ⟨c5, _⟩
              · have c5' : i < me_ns (cI C kc) := c5
                omega
              · omega
          have hd := dnOn_all (d := K.2.2.2.1) (k := 0) 38 (me_ns (cI C kc)) h38 hbad (by have := hall h38t; omega) s hs
          rw [Nat.zero_add] at hd
          rcases a7 s (by omega) with e | ⟨w, l, c1, c2, c3, c4, c5, c6⟩
          · exact absurd e hd
          · exact ⟨w, c1, c2, c6⟩
    · rcases jn_snd_mem hm with a | ⟨a1, a2⟩
      · exact Or.inl a
      · omega
theorem jr_w_e (hn : e.1 ≠ 1) : jr_w R e = (R.1 ++ [e], R.2.1, R.2.2) := by rw [jr_w, if_neg hn]
theorem jr_one_w (hn : e.1 ≠ 1) (ho : jr_one R) (h : e.1 = 0 → ∀ i (x : Je), R.2.2 ≤ i → R.1[i]? = some x → x.1 = 0 → x.2.1 ≠ e.2.1) : jr_one (jr_w R e) := by
  rw [jr_w_e hn]
  intro i k x y h1 h2 h3 h4 hh
  have h3' : (R.1 ++ [e])[i]? = some x := h3
  have h4' : (R.1 ++ [e])[k]? = some y := h4
  have hk := (List.getElem?_eq_some_iff.1 h4').1
  rw [List.length_append, List.length_singleton] at hk
  by_cases hkl : k < R.1.length
  · rw [List.getElem?_append_left hkl] at h4'
    rw [List.getElem?_append_left (by omega)] at h3'
    exact ho i k x y h1 h2 h3' h4' hh
  · have hke : k = R.1.length := by omega
    subst hke
    have : e = y := by simpa using h4'
    subst this
    rw [List.getElem?_append_left h2] at h3'
    exact h hh.2.1 i x h1 h3' hh.1 hh.2.2
theorem ent_w (hn : e.1 ≠ 1) {P : Je → Prop} (h : ∀ i (x : Je), R.2.2 ≤ i → R.1[i]? = some x → x.1 = 0 → P x) (he : e.1 = 0 → P e) : ∀ i (x : Je), (jr_w R e).2.2 ≤ i → (jr_w R e).1[i]? = some x → x.1 = 0 → P x := by
  rw [jr_w_e hn]
  intro i x h1 h2 h3
  have h2' : (R.1 ++ [e])[i]? = some x := h2
  by_cases hi : i < R.1.length
  · rw [List.getElem?_append_left hi] at h2'; exact h i x h1 h2' h3
  · have hl := (List.getElem?_eq_some_iff.1 h2').1
    rw [List.length_append, List.length_singleton] at hl
    have hie : i = R.1.length := by omega
    subst hie
    have : e = x := by simpa using h2'
    subst this
    exact he h3
/-- FAIL -/
theorem m_fail (hC : CK C) (h : IM C Ws false kc ck R K) (hov : jk_over C.1 K = false) (hx : cX C kc) : IM C Ws false kc ck (jr_w R (2, -1, -1, 0)) (jk_sf K (Int32.ofNat ((C.1[K.1 9]?).getD 0))) := by
  obtain ⟨hJ, hK⟩ := IM_J rfl h
  obtain ⟨hlt, hj, h11, hnp, _⟩ := m_job hC hJ hK hov
  have hf := (over_not hov).1
  obtain ⟨a1, a2, a3, a4, a5, a6, a7, a8, a9, a10, a11, a12, a13, a14, a15⟩ := hJ
  have hje : (C.1[K.1 9]?).getD 0 = cJ C kc := by rw [a3]; rfl
  rw [hje]
  have hm1 : Int32.ofNat (cJ C kc) ≠ -1 := jx_m1 (by have := (hC.2.2.1 kc hlt).1; omega)
  refine IM_w h ?_ ?_ hK ⟨fun e => absurd e (by decide), fun _ => by omega, fun _ e => absurd rfl e⟩
  · rw [jk_rec1, if_neg (by decide), if_pos rfl, hje]; exact coEq.refl _
  · refine ⟨by rw [jr_w_e (by decide)]; exact a1, a2, a3, a4, a5, Or.inr ⟨hlt, rfl, hx⟩, a7, a8, fun e => absurd e hm1, a10, a11, ?_, ?_, ent_w (by decide) a14 (fun e => absurd e (by decide)), jr_one_w (by decide) a15 (fun e => absurd e (by decide))⟩
    · rw [jr_w_e (by decide)]; show R.2.2 ≤ (R.1 ++ [_]).length; rw [List.length_append]; omega
    · rw [hf, if_pos rfl] at a13
      rw [jr_w_e (by decide)]
      show (R.1 ++ [_]).length ≤ 45 * kc + K.1 12 + K.1 13 + (if Int32.ofNat (cJ C kc) = -1 then 0 else 1)
      rw [List.length_append, List.length_singleton, if_neg hm1]; omega
end MHEAR
