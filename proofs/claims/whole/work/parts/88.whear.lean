/-! what a worker hears keeps the invariant -/
section WHEAR
variable {C : Jc} {Ws : Nat → Jw} {L : Jn} {kc v p t : Nat} {W W' : Jw} {m : Jm}
theorem ji_of {n : Nat} (h : n < 2147483648) : ji (Int32.ofNat n) = n := jx_cn h
theorem jn0_of {x : Int32} {n : Nat} (h : n < 2147483648) (e : x = Int32.ofNat n) : jn0 x ∧ ji x = n := by subst e; exact ⟨by rw [jn0, ji_of h], ji_of h⟩
theorem np_ok {n : Nat} (h1 : 1 ≤ n) (h6 : n ≤ 6) : ¬ Int32.ofNat n ≤ 0 ∧ (Int32.ofNat n).toInt64 ≠ 0 := by
  have : n = 1 ∨ n = 2 ∨ n = 3 ∨ n = 4 ∨ n = 5 ∨ n = 6 := by omega
  rcases this with rfl | rfl | rfl | rfl | rfl | rfl <;> decide
theorem cC_get (hp : p < C.1.length) : C.1[p]? = some (cJ C p) := by
  rw [cJ, tJ, List.getElem?_eq_getElem hp]; rfl
theorem cC_j (hp : p < C.1.length) (h8 : C.1.length ≤ 8) : jc_j C.1 (Int32.ofNat p) = cJ C p ∧ jc_np C.1 C.2.1 (Int32.ofNat p) = cN C p := by
  have e : jc_j C.1 (Int32.ofNat p) = cJ C p := by rw [jc_j, ji_of (by omega)]; rfl
  exact ⟨e, by rw [jc_np, e]; rfl⟩
theorem cC_ok (hC : CK C) (hp : p < C.1.length) : jc_ok C.1 C.2.1 (Int32.ofNat p) := by
  have h8 := hC.1
  obtain ⟨e1, e2⟩ := cC_j hp h8
  obtain ⟨a1, a2, a3, a4, a5⟩ := hC.2.2.1 p hp
  refine ⟨(jn0_of (by omega) rfl).1, ?_⟩
  rw [ji_of (by omega), e1, e2]
  exact ⟨hp, cC_get hp, a1, a3, np_ok a4 a5⟩
theorem o_lt {a b : Nat} (ha : a < 2147483648) (hb : b < 2147483648) : Int32.ofNat a < Int32.ofNat b ↔ a < b := by
  have := jx_lt ha hb
  rw [decide_eq_decide] at this
  exact this
theorem m1_lt {a : Nat} (ha : a < 2147483648) : (-1 : Int32) < Int32.ofNat a := by
  rw [Int32.lt_iff_toInt_lt, sm_ofNat_toInt ha]
  have : (-1 : Int32).toInt = -1 := by decide
  omega
/-- GIVE -/
theorem hear_give (hC : CK C) (h : IV C Ws L kc) (hv : v < 6) (e2 : m.1 2 = 1) (e5 : m.1 5 = Int32.ofNat p) (hpc : p < C.1.length) (hpk : p ≤ kc) (e6 : m.1 6 = Int32.ofNat t) (ht : t < 44) (hcv : cV C p t) (e9 : m.1 9 = Int32.ofNat (me_ns (cI C p)))
    (hho : 38 ≤ t → ∀ s, s < me_ns (cI C p) → ∃ u, u < 6 ∧ (jm_get m s).toInt32 = Int32.ofNat u ∧ HD Ws u p s) : jw_mok C.1 C.2.1 (Ws v) m ∧ SP C Ws L kc v (jw_hear C.1 C.2.1 (Ws v) L m) := by
  have h8 := hC.1
  have h38 : me_ns (cI C p) ≤ 38 := me_ns_38 (cI_600 hC)
  obtain ⟨j1, j2⟩ := jn0_of (by omega) e6
  obtain ⟨k1, k2⟩ := jn0_of (by omega) e9
  have hnot : ∀ (x : Int32), x ≠ 1 → m.1 2 ≠ x := fun x hx e => hx (e.symm.trans e2)
  refine ⟨⟨Or.inl e2, fun _ => ⟨by rw [e5]; exact cC_ok hC hpc, j1, by omega, k1, by omega⟩, fun e => absurd e (hnot 4 (by decide)), fun e => absurd e (hnot 5 (by decide))⟩, ?_⟩
  rw [jw_hear, if_pos e2, j2, k2, e5, (cC_j hpc h8).1, ji_of (by omega), jw_give]
  obtain ⟨o1, o2, o3, o4⟩ := h.1 v hv
  by_cases hb : (Ws v).2.1.isSome = true
  · rw [if_pos hb]; exact SP_same h hv
  · rw [if_neg hb]
    by_cases ho : Int32.ofNat p < (Ws v).2.2.2.2.1
    · rw [if_pos ho]; exact SP_same h hv
    · rw [if_neg ho]
      by_cases hw : (Ws v).2.2.2.2.1 < Int32.ofNat p
      · rw [if_pos hw, jw_take, if_neg (by show ¬ (none : Option Jl).isSome = true; decide)]
        have hle : Wle (Ws v) (jw_start (jw_wipe (Ws v) (Int32.ofNat p)) m (cJ C p) t (me_ns (cI C p))) := Or.inr ⟨p, rfl, by omega, fun q hq e => by rw [e] at hw; exact (o_lt (by omega) (by omega)).1 hw⟩
        refine ⟨hle, ?_, fun _ _ _ hm => Or.inl hm, fun _ hm => Or.inl hm⟩
        refine wOK_start ⟨o1, ?_⟩ rfl hpc hpk (fun t l _ e => by cases e) rfl ht hcv rfl (fun h38 s hs => ?_)
        · exact ⟨(sumOn_zero 38 (fun i _ => rfl)).symm, (sumOn_zero 6 (fun i _ => rfl)).symm⟩
        · obtain ⟨u, a1, a2, a3⟩ := hho h38 s hs
          exact ⟨u, a1, a2, HD_mono (by omega) (Wle_up hle u a1) a3⟩
      · rw [if_neg hw]
        rcases o4 with ⟨d1, _⟩ | ⟨q, d1, d2, d3, d4, d5⟩
        · exact absurd (d1 ▸ m1_lt (by omega)) hw
        · have hqp : q = p := by
            rw [d1] at ho hw
            rw [o_lt (by omega) (by omega)] at ho hw
            omega
          subst hqp
          rw [jw_take]
          by_cases hd : ((Ws v).2.2.2.2.2 t).isSome = true
          · rw [if_pos hd]
            obtain ⟨l, hl⟩ := Option.isSome_iff_exists.1 hd
            exact SP_done (h.1 v hv) (Wle.refl _) hv d1 d2 d3 ht hl (d4 t l ht hl).1 (d4 t l ht hl).2
          · rw [if_neg hd]
            have hn : (Ws v).2.2.2.2.2 t = none := by
              cases e : (Ws v).2.2.2.2.2 t with
              | none => rfl
              | some l => exact absurd (by rw [e]; rfl) hd
            have hle : Wle (Ws v) (jw_start (Ws v) m (cJ C q) t (me_ns (cI C q))) := Or.inl ⟨rfl, fun _ _ e => e⟩
            refine ⟨hle, ?_, fun _ _ _ hm => Or.inl hm, fun _ hm => Or.inl hm⟩
            exact wOK_start ⟨o1, o3.1⟩ d1 hpc hpk d4 rfl ht hcv hn (fun h38 s hs => by
              obtain ⟨u, a1, a2, a3⟩ := hho h38 s hs
              exact ⟨u, a1, a2, HD_mono (by omega) (Wle_up hle u a1) a3⟩)
/-- a page of what lies on the disk -/
theorem mPg_of {u x : Nat} {r : Int32} {l : Jl} (hp : W.2.2.2.2.1 = Int32.ofNat p) (hpc : p < C.1.length) (hpk : p ≤ kc) (ht : t < 44) (hx : x < 100000) (hta : W.2.2.2.2.2 t = some l) (hcv : cV C p t) (hct : cT C p t = some l) : mPg C kc (jw_pg W (cN C p) (Int32.ofNat u) t r x) := by
  refine ⟨p, t, l, jw_pf W (Int32.ofNat u) t r x, x, ?_, hct, hcv, ht, hpc, hpk, rfl, hp, rfl, rfl, hx⟩
  rw [jw_pg, hta]; rfl
/-- FETCH -/
theorem hear_fetch {u xo : Nat} (hC : CK C) (h : IV C Ws L kc) (hv : v < 6) (e2 : m.1 2 = 4) (e3 : m.1 3 = Int32.ofNat u) (hu : u < 7) (huv : u ≠ v) (e5 : m.1 5 = Int32.ofNat p) (hpc : p < C.1.length) (hpk : p ≤ kc) (e6 : m.1 6 = Int32.ofNat t) (ht : t < 44) (e8 : m.1 8 = Int32.ofNat xo) (hxo : xo < 100000) (h38 : u < 6 → t < 38) : jw_mok C.1 C.2.1 (Ws v) m ∧ SP C Ws L kc v (jw_hear C.1 C.2.1 (Ws v) L m) := by
  have h8 := hC.1
  obtain ⟨j1, j2⟩ := jn0_of (by omega) e6
  obtain ⟨k1, k2⟩ := jn0_of (by omega) e3
  obtain ⟨i1, i2⟩ := jn0_of (by omega) e8
  have hnot : ∀ (x : Int32), x ≠ 4 → m.1 2 ≠ x := fun x hx e => hx (e.symm.trans e2)
  obtain ⟨o1, o2, o3, o4⟩ := h.1 v hv
  have hdp : m.1 5 = (Ws v).2.2.2.2.1 → jc_ok C.1 C.2.1 (Ws v).2.2.2.2.1 := fun e => by rw [← e, e5]; exact cC_ok hC hpc
  refine ⟨⟨Or.inr (Or.inl e2), fun e => absurd e (hnot 1 (by decide)), fun _ => ⟨k1, by omega, j1, by omega, i1, by omega, fun e _ => hdp e⟩, fun e => absurd e (hnot 5 (by decide))⟩, ?_⟩
  rw [jw_hear, if_neg (hnot 1 (by decide)), if_pos e2, j2, k2, i2, jw_fet]
  by_cases hlt : m.1 5 < (Ws v).2.2.2.2.1
  · rw [if_pos hlt]
    have hpk2 : p < kc := by
      rcases o4 with ⟨d1, _⟩ | ⟨q, d1, d2, d3, _⟩
      · rw [d1, e5] at hlt
        exact absurd hlt (Int32.not_lt.2 (Int32.le_of_lt (m1_lt (by omega))))
      · rw [d1, e5, o_lt (by omega) (by omega)] at hlt
        omega
    have hm6 : ∀ (x : Nat), x = u → (jw_gone (Ws v) x t (m.1 5)).1 2 = 6 ∧ (jw_gone (Ws v) x t (m.1 5)).1 5 = Int32.ofNat p := fun x _ => ⟨rfl, e5⟩
    exact SP_snd (Wle.refl _) (by rw [up_self]; exact h.1 v hv) (fun _ => Or.inr (Or.inr (Or.inr ⟨rfl, p, e5, hpk2⟩))) (fun _ => Or.inr (Or.inr (Or.inr (Or.inr ⟨rfl, p, e5, hpk2⟩))))
  · rw [if_neg hlt]
    by_cases hd : m.1 5 = (Ws v).2.2.2.2.1 ∧ ((Ws v).2.2.2.2.2 t).isSome = true
    · rw [if_pos hd]
      obtain ⟨l, hl⟩ := Option.isSome_iff_exists.1 hd.2
      have hdp2 : (Ws v).2.2.2.2.1 = Int32.ofNat p := hd.1.symm.trans e5
      have hdk : cV C p t ∧ cT C p t = some l := by
        rcases o4 with ⟨d1, d2, _⟩ | ⟨q, d1, d2, d3, d4, _⟩
        · rw [d2 t ht] at hl; cases hl
        · have : q = p := jx_inj (by omega) (by omega) (d1.symm.trans hdp2)
          subst this
          exact d4 t l ht hl
      have hnp : jc_np C.1 C.2.1 (Ws v).2.2.2.2.1 = cN C p := by rw [hdp2]; exact (cC_j hpc h8).2
      rw [hnp]
      have hpg : mPg C kc (jw_pg (Ws v) (cN C p) (Int32.ofNat u) t (m.1 7) xo) := mPg_of hdp2 hpc hpk ht hxo hl hdk.1 hdk.2
      have hf : ∀ i, i ≠ 9 → i ≠ 10 → (jw_pg (Ws v) (cN C p) (Int32.ofNat u) t (m.1 7) xo).1 i = jw_pf (Ws v) (Int32.ofNat u) t (m.1 7) xo i := fun i h9 h10 => by rw [jw_pg, jd_ld_f h9 h10]
      refine SP_snd (Wle.refl _) (by rw [up_self]; exact h.1 v hv) (fun hu6 => Or.inr (Or.inr (Or.inl ⟨?_, hpg, t, h38 hu6, ?_⟩))) (fun _ => Or.inr (Or.inr (Or.inr (Or.inl ⟨?_, hpg⟩))))
      · rw [hf 2 (by decide) (by decide)]; rfl
      · rw [hf 6 (by decide) (by decide)]; rfl
      · rw [hf 2 (by decide) (by decide)]; rfl
    · rw [if_neg hd]; exact SP_same h hv
/-- GONE -/
theorem hear_gone (h : IV C Ws L kc) (hv : v < 6) (e2 : m.1 2 = 6) : jw_mok C.1 C.2.1 (Ws v) m ∧ SP C Ws L kc v (jw_hear C.1 C.2.1 (Ws v) L m) := by
  have hnot : ∀ (x : Int32), x ≠ 6 → m.1 2 ≠ x := fun x hx e => hx (e.symm.trans e2)
  refine ⟨⟨Or.inr (Or.inr (Or.inr e2)), fun e => absurd e (hnot 1 (by decide)), fun e => absurd e (hnot 4 (by decide)), fun e => absurd e (hnot 5 (by decide))⟩, ?_⟩
  rw [jw_hear, if_neg (hnot 1 (by decide)), if_neg (hnot 4 (by decide)), if_neg (hnot 5 (by decide)), if_pos e2]
  split
  · split
    · exact SP_rest h hv
    · exact SP_same h hv
  · exact SP_same h hv
end WHEAR
