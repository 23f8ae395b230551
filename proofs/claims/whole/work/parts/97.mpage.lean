/-! the Master hears: PAGE; all that it hears -/
section MPAGE
variable {C : Jc} {Ws : Nat → Jw} {L : Jn} {kc ck p t v : Nat} {K K' : Jk} {R R' : Jr} {m : Jm}
theorem take_take_app {X B : Jl} {n : Nat} : (X.take n ++ B).take n = (X ++ B).take n := by
  rcases Nat.le_total n X.length with h | h
  · rw [List.take_append_of_le_length (by rw [List.length_take]; omega), List.take_append_of_le_length h, List.take_take, Nat.min_self]
  · rw [List.take_of_length_le h]
/-- the page that the Master waits for -/
theorem mpage_take (hC : CK C) (h : IM C Ws false kc ck R K) (hov : jk_over C.1 K = false) (hpg : mPg C kc m) (h5 : m.1 5 = Int32.ofNat (K.1 9)) (han : jk_an K m = true) :
    (jn0 (m.1 9) ∧ jn0 (m.1 10) ∧ ji (m.1 9) ≤ 16 ∧ ji (m.1 10) ≤ 100000 ∧ K.1 18 ≤ 100000 ∧ K.1 17 ≤ 2000) ∧ IM C Ws false kc ck R (jk_pg2 K m (ji (m.1 9)) (ji (m.1 10))) := by
  obtain ⟨hJ, hK⟩ := IM_J rfl h
  obtain ⟨hlt, hj, h11, hnp, _⟩ := m_job hC hJ hK hov
  obtain ⟨q1, q2, q3, q4, q5⟩ := hC.2.2.1 kc hlt
  have h8 := hC.1
  obtain ⟨p, t, l, f, x, a1, a2, a3, a4, a5, a6, a7, a8, a9, a10, a11⟩ := hpg
  obtain ⟨g1, g2, g3, g4⟩ := jd_page_f f x (jd_sel (cN C p) t (f 7) l)
  rw [← a1] at g1 g2 g3 g4
  have han2 := of_decide_eq_true (p := m.1 2 = 5 ∧ m.1 5 = Int32.ofNat (K.1 9) ∧ m.1 6 = Int32.ofNat (38 + K.1 17) ∧ m.1 7 = Int32.ofNat (K.1 17) ∧ m.1 8 = Int32.ofNat (K.1 18)) han
  obtain ⟨n1, n2, n3, n4, n5⟩ := han2
  have hpk : p = kc := jx_inj (by omega) (by omega) (by rw [← a8, ← g3 5 (by decide) (by decide), n2, hJ.2.2.1])
  subst hpk
  obtain ⟨s1, s2, s3, s4⟩ := hK.2.2.2
  have hpart : K.1 17 ≤ 6 := by rcases s3 with e | ⟨_, e⟩ <;> omega
  have ht : t = 38 + K.1 17 := jx_inj (by omega) (by omega) (by rw [← a9, ← g3 6 (by decide) (by decide), n3])
  subst ht
  have hl4 := cT_len hC a3 a2
  have hcq : cQ C p (38 + K.1 17) = l := by rw [cQ, a2]; rfl
  rw [hcq] at s1 s2
  have hoff : K.1 18 ≤ 4000 := by rcases s2 with e | ⟨_, e⟩ <;> omega
  have hx : x = K.1 18 := jx_inj (by omega) (by omega) (by rw [← a10, ← g3 8 (by decide) (by decide), n5])
  subst hx
  have hsel : jd_sel (cN C p) (38 + K.1 17) (f 7) l = l := by rw [jd_sel, if_neg (by omega)]
  rw [hsel] at g1 g2 g4
  have hk16 : ((l.drop (K.1 18)).take 16).length ≤ 16 := by rw [List.length_take]; omega
  have hkl : ((l.drop (K.1 18)).take 16).length = min 16 (l.length - K.1 18) := by rw [List.length_take, List.length_drop]
  obtain ⟨j1, j2⟩ := jn0_of (by omega) g1
  obtain ⟨j3, j4⟩ := jn0_of (by omega) g2
  refine ⟨⟨j1, j3, by omega, by omega, by omega, by omega⟩, ?_⟩
  have hprs : jm_prs m (ji (m.1 9)) = (l.drop (K.1 18)).take 16 := by rw [j2, a1, hsel]; exact (jd_page_f f (K.1 18) l).2.2.2
  have hpn : K.1 17 < cN C p := by
    rcases a3 with ⟨z, _⟩ | ⟨_, z, _⟩
    · omega
    · have z' : 38 + K.1 17 - 38 < cN C p := z
      omega
  have hst : (K.2.2.2.2.2.2 ++ jm_prs m (ji (m.1 9))).take 300 = (((List.range (K.1 17)).map (fun r => cQ C p (38 + r))).flatten ++ l.take (K.1 18 + 16)).take 300 := by
    rw [hprs, s1, take_take_app, List.append_assoc, List.take_add]
  rw [jk_pg2]
  by_cases hc : K.1 18 + ji (m.1 9) < ji (m.1 10)
  · rw [if_pos hc]
    refine IM_same h ⟨rfl, rfl, rfl, rfl, rfl, rfl, rfl, rfl⟩ ⟨hK.1, hK.2.1, Nat.le_refl 4, ?_, Or.inr ⟨hpn, ?_⟩, s3, by show K.1 18 + ji (m.1 9) ≤ 4000; omega⟩
    · show (K.2.2.2.2.2.2 ++ jm_prs m (ji (m.1 9))).take 300 = (_ ++ (cQ C p (38 + K.1 17)).take (K.1 18 + ji (m.1 9))).take 300
      rw [hst, hcq, show ji (m.1 9) = 16 from by omega]
      rfl
    · show K.1 18 + ji (m.1 9) < (cQ C p (38 + K.1 17)).length
      rw [hcq]; omega
  · rw [if_neg hc]
    refine IM_same h ⟨rfl, rfl, rfl, rfl, rfl, rfl, rfl, rfl⟩ ⟨hK.1, hK.2.1, Nat.le_refl 4, ?_, Or.inl rfl, Or.inr ⟨hlt, ?_⟩, Nat.zero_le _⟩
    · show (K.2.2.2.2.2.2 ++ jm_prs m (ji (m.1 9))).take 300 = (((List.range (K.1 17 + 1)).map (fun r => cQ C p (38 + r))).flatten ++ (cQ C p (38 + (K.1 17 + 1))).take 0).take 300
      have hall : l.take (K.1 18 + 16) = l := List.take_of_length_le (by omega)
      rw [hst, hall, List.take_zero, List.append_nil, List.range_succ, List.map_append, List.flatten_append]
      simp only [List.map_cons, List.map_nil, List.flatten_cons, List.flatten_nil, List.append_nil, hcq]
    · show K.1 17 + 1 ≤ cN C p; omega
/-- whatever the Master hears -/
theorem mhear_all (hC : CK C) (h : IM C Ws false kc ck R K) (hov : jk_over C.1 K = false) (hm : mM C Ws kc m) : jk_mok C.1 C.2.1 K R m ∧ SM C Ws L kc ck (jk_hear C.1 C.2.1 K L R m) := by
  obtain ⟨hJ, hK⟩ := IM_J rfl h
  obtain ⟨hlt, hj, h11, hnp, hjok⟩ := m_job hC hJ hK hov
  have hf := (over_not hov).1
  have h8 := hC.1
  have hd1 := dnOn_le (d := K.2.2.2.1) (k := 0) (n := 38)
  have hd2 := dnOn_le (d := K.2.2.2.1) (k := 38) (n := 6)
  have h12 := hJ.2.2.2.2.2.2.2.1.1
  have h13 := hJ.2.2.2.2.2.2.2.1.2.1
  have hlen : R.1.length < 360 := by
    have a13 := hJ.2.2.2.2.2.2.2.2.2.2.2.2.1
    rw [hf, if_pos rfl] at a13
    omega
  have hcm : R.2.1 < 800000 := by rw [hJ.1]; omega
  have hlim := hJ.2.2.2.2.2.2.2.2.1 hf
  have hkeep : SM C Ws L kc ck (K, L, R) := ⟨h, fun _ _ _ hm => Or.inl hm, fun _ hm => Or.inl hm⟩
  have h9 := hJ.2.2.1
  rcases hm with ⟨e2, u, e3, hu⟩ | ⟨e2, u, p, t, l, a1, a2, a3, a4, a5, a6, a7, a8, a9, a10, a11⟩ | ⟨e2, p, a1, a2, a3, a4⟩ | ⟨e2, hpg⟩ | ⟨e2, p, a1, a2⟩
  · have hnot : ∀ (x : Int32), x ≠ 0 → m.1 2 ≠ x := fun x hx z => hx (z.symm.trans e2)
    obtain ⟨j1, j2⟩ := jn0_of (by omega) e3
    refine ⟨⟨Or.inl e2, hjok, hlen, hcm, fun _ => ⟨j1, by omega⟩, fun z => absurd z (hnot 2 (by decide)), fun z => absurd z (hnot 5 (by decide))⟩, ?_⟩
    rw [jk_hear, if_pos e2, j2]
    exact mhear_ask hC h hov hu e3
  · have hnot : ∀ (x : Int32), x ≠ 2 → m.1 2 ≠ x := fun x hx z => hx (z.symm.trans e2)
    obtain ⟨j1, j2⟩ := jn0_of (by omega) a6
    have hin : m.1 5 = Int32.ofNat (K.1 9) → p = kc := fun z => jx_inj (by omega) (by omega) (by rw [← a3, z, h9])
    refine ⟨⟨Or.inr (Or.inl e2), hjok, hlen, hcm, fun z => absurd z (hnot 0 (by decide)), fun _ z => ?_, fun z => absurd z (hnot 5 (by decide))⟩, ?_⟩
    · have hp := hin z
      subst hp
      obtain ⟨_, b2, b3⟩ := mhear_done hC h hov a1 a2 a7 a8 a9 a11
      obtain ⟨j3, j4⟩ := jn0_of (by omega) a10
      rw [j2, j4]
      exact ⟨j1, a7, j3, b2, by omega, by omega, by omega, by omega, b3⟩
    · rw [jk_hear, if_neg (hnot 0 (by decide))]
      by_cases z : m.1 5 = Int32.ofNat (K.1 9)
      · have hp := hin z
        subst hp
        rw [if_pos z, if_pos e2]
        have hl4 := cT_len hC a8 a9
        obtain ⟨j3, j4⟩ := jn0_of (by omega) a10
        rw [j2, j4]
        exact ⟨(mhear_done hC h hov a1 a2 a7 a8 a9 a11).1, fun _ _ _ hm => Or.inl hm, fun _ hm => Or.inl hm⟩
      · rw [if_neg z]; exact hkeep
  · have hnot : ∀ (x : Int32), x ≠ 3 → m.1 2 ≠ x := fun x hx z => hx (z.symm.trans e2)
    refine ⟨⟨Or.inr (Or.inr (Or.inl e2)), hjok, hlen, hcm, fun z => absurd z (hnot 0 (by decide)), fun z => absurd z (hnot 2 (by decide)), fun z => absurd z (hnot 5 (by decide))⟩, ?_⟩
    rw [jk_hear, if_neg (hnot 0 (by decide))]
    by_cases z : m.1 5 = Int32.ofNat (K.1 9)
    · have hp : p = kc := jx_inj (by omega) (by omega) (by rw [← a1, z, h9])
      subst hp
      rw [if_pos z, if_neg (hnot 2 (by decide)), if_pos e2]
      exact ⟨m_fail hC h hov a4, fun _ _ _ hm => Or.inl hm, fun _ hm => Or.inl hm⟩
    · rw [if_neg z]; exact hkeep
  · have hnot : ∀ (x : Int32), x ≠ 5 → m.1 2 ≠ x := fun x hx z => hx (z.symm.trans e2)
    refine ⟨⟨Or.inr (Or.inr (Or.inr (Or.inl e2))), hjok, hlen, hcm, fun z => absurd z (hnot 0 (by decide)), fun z => absurd z (hnot 2 (by decide)), fun _ z han => (mpage_take hC h hov hpg z han).1⟩, ?_⟩
    rw [jk_hear, if_neg (hnot 0 (by decide))]
    by_cases z : m.1 5 = Int32.ofNat (K.1 9)
    · rw [if_pos z, if_neg (hnot 2 (by decide)), if_neg (hnot 3 (by decide)), if_pos e2, jk_hp]
      split
      · rename_i han
        exact ⟨(mpage_take hC h hov hpg z han).2, fun _ _ _ hm => Or.inl hm, fun _ hm => Or.inl hm⟩
      · exact hkeep
    · rw [if_neg z]; exact hkeep
  · have hnot : ∀ (x : Int32), x ≠ 6 → m.1 2 ≠ x := fun x hx z => hx (z.symm.trans e2)
    refine ⟨⟨Or.inr (Or.inr (Or.inr (Or.inr e2))), hjok, hlen, hcm, fun z => absurd z (hnot 0 (by decide)), fun z => absurd z (hnot 2 (by decide)), fun z => absurd z (hnot 5 (by decide))⟩, ?_⟩
    rw [jk_hear, if_neg (hnot 0 (by decide))]
    by_cases z : m.1 5 = Int32.ofNat (K.1 9)
    · rw [if_pos z, if_neg (hnot 2 (by decide)), if_neg (hnot 3 (by decide)), if_neg (hnot 5 (by decide))]; exact hkeep
    · rw [if_neg z]; exact hkeep
/-- all that waits for the Master -/
theorem mhears_all (hC : CK C) : ∀ (n : Nat) (K : Jk) (L : Jn) (R : Jr), IV C Ws L kc → IM C Ws false kc ck R K → jk_hok C.1 C.2.1 n (K, L, R) ∧ IV C Ws (jk_hears C.1 C.2.1 n (K, L, R)).2.1 kc ∧ IM C Ws false kc ck (jk_hears C.1 C.2.1 n (K, L, R)).2.2 (jk_hears C.1 C.2.1 n (K, L, R)).1 := by
  intro n
  induction n with
  | zero => intro K L R h1 h2; exact ⟨trivial, h1, h2⟩
  | succ n ih =>
    intro K L R h1 h2
    rw [jk_hok, jk_hears]
    cases hib : L.1 6 with
    | nil => simp only [hib]; exact ih K L R h1 h2
    | cons m l =>
      simp only [hib]
      have hpop : IV C Ws (jn_pop L 6 l) kc := by
        refine ⟨h1.1, fun x hx m' hm => h1.2.1 x hx m' ?_, fun m' hm => h1.2.2 m' ?_⟩
        · have hm' : m' ∈ jx_up L.1 6 l x := hm
          rw [up_ne _ _ (by omega)] at hm'; exact hm'
        · have hm' : m' ∈ jx_up L.1 6 l 6 := hm
          rw [up_eq] at hm'; rw [hib]; exact List.mem_cons_of_mem _ hm'
      by_cases hov : jk_over C.1 K = true
      · rw [if_pos hov, if_pos hov]; exact ih K _ R hpop h2
      · rw [if_neg hov, if_neg hov]
        obtain ⟨k1, k2, k3, k4⟩ := mhear_all (L := jn_pop L 6 l) hC h2 (by cases e : jk_over C.1 K with
          | true => exact absurd e hov
          | false => rfl) (h1.2.2 m (by rw [hib]; exact List.mem_cons_self))
        have hiv : IV C Ws (jk_hear C.1 C.2.1 K (jn_pop L 6 l) R m).2.1 kc := ⟨h1.1, fun x hx m' hm => (k3 x hx m' hm).elim (hpop.2.1 x hx m') id, fun m' hm => (k4 m' hm).elim (hpop.2.2 m') id⟩
        obtain ⟨i1, i2, i3⟩ := ih _ _ _ hiv k2
        exact ⟨⟨k1, i1⟩, i2, i3⟩
end MPAGE
