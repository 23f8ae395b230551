section REFO
variable {h h' : sm_H} {a : Nat} {P n t nx fr en stp vq kq i j : Nat} {ky c y x w A B : Int64} {kd : Int32} {st : List Int64} {cs : Nat → Int64} {em g l l' : Jl} {k : Nat} {pg : List (Int32 × Int64)} {h0 : sm_H}

set_option maxRecDepth 10000 in
theorem rq_new (m0 : mrO h a) : RQ (setL (setL (setL (setL (setI h a 31 0) (a + 23) 0 0) (a + 23) 1 0) (a + 23) 2 0) (a + 23) 3 0) a [] (fun _ => 0) [] ∧ CP h (setL (setL (setL (setL (setI h a 31 0) (a + 23) 0 0) (a + 23) 1 0) (a + 23) 2 0) (a + 23) 3 0) a := by
  refine ⟨⟨mrO_setL (mrO_setL (mrO_setL (mrO_setL (mrO_setI m0)))), Nat.zero_le _, fun i z hz => by simp at hz, fun i hi => ?_, Nat.zero_le _, gI_eq, fun i p hp => by simp at hp⟩, ((((FrL.setI (by simp)).trans (FrL.setL (by simp))).trans (FrL.setL (by simp))).trans (FrL.setL (by simp))).trans (FrL.setL (by simp)), fun s hs => gI_ne (by omega)⟩
  by_cases e3 : i = 3
  · subst e3; exact gL_eq
  · rw [gL_ne (by omega)]
    by_cases e2 : i = 2
    · subst e2; exact gL_eq
    · rw [gL_ne (by omega)]
      by_cases e1 : i = 1
      · subst e1; exact gL_eq
      · rw [gL_ne (by omega)]
        rw [show i = 0 by omega]; exact gL_eq
/-- call -/
theorem s_Ref_call (m0 : mrO h a) (hok : jq_ok pg) (hl : pg.length ≤ 40) (hP : P < 24) (mn0 : gI h (a + 5) P = Int32.ofNat pg.length) (row0 : ∀ k p, pg[k]? = some p → gI h (a + 4) (40 * P + k) = p.1 ∧ gL h (a + 7) (40 * P + k) = p.2) (he : en = fr + g.length) (hen : en < 1000000) (hv1 : sm_at h vq 1 = true) (hv2 : ∀ i, i < g.length → sm_in (Int32.ofNat (fr + i)) (gS h vq).2 = true) (hv3 : ∀ i, i < g.length → gL h vq (fr + i) = jx_v g i) (hvq : vq ∉ [a + 22, a + 23, a + 24, a + 25]) (hg : 0 < g.length) (hky : ky = jx_k g 0) : ∃ h', Run 160 [.ref a, .int (Int32.ofNat P), .int (if kd = 0 then 1 else 0), .int (if kd = 1 then 1 else 0), .long ky, .ref vq, .int (Int32.ofNat fr), .int (Int32.ofNat en)] h (.inl (some (.int (if (jq_grp pg kd g).1 = true then 1 else 0)))) h' ∧ CP h h' a ∧ ((jq_grp pg kd g).1 = true → gI h' a 31 = Int32.ofNat (jq_grp pg kd g).2.length ∧ ∀ i p, (jq_grp pg kd g).2[i]? = some p → gL h' (a + 24) i = p.1 ∧ gL h' (a + 25) i = p.2) := by
  obtain ⟨r0, c0⟩ := rq_new (h := h) m0
  have kk := l_rcall (kd := kd) (ky := ky) (vq := vq) (fr := fr) hok hl hP mn0 row0 he hen hv1 hv2 hv3 hvq 400 0 0 [] (fun _ => 0) [] _ none none none none none none none none (Nat.le_refl _) (by omega) (Nat.zero_le _) (fun _ => hg) r0 c0
  have hx : Ev 160 0 (sm_pad (sm_ent [.ref a, .int (Int32.ofNat P), .int (if kd = 0 then 1 else 0), .int (if kd = 1 then 1 else 0), .long ky, .ref vq, .int (Int32.ofNat fr), .int (Int32.ofNat en)]) (sm_prog.2.1 160)) [] h (CE h a (jq_loop pg kd ky g g.length 400 0 ([], false, (fun _ => 0), [], 0))) := by
    show Ev 160 0 [some (.ref a), some (.int (Int32.ofNat P)), some (.int (if kd = 0 then 1 else 0)), some (.int (if kd = 1 then 1 else 0)), some (.long ky), none, some (.ref vq), some (.int (Int32.ofNat fr)), some (.int (Int32.ofNat en)), none, none, none, none, none, none, none, none, none, none, none, none] [] h _
    refine Er_run 8 (pc' := 12) (ls' := [some (.ref a), some (.int (Int32.ofNat P)), some (.int (if kd = 0 then 1 else 0)), some (.int (if kd = 1 then 1 else 0)), some (.long ky), none, some (.ref vq), some (.int (Int32.ofNat fr)), some (.int (Int32.ofNat en)), some (.int ((0 : Int32))), some (.int ((0 : Int32))), some (.int (Int32.ofNat fr)), none, none, none, none, none, none, none, none, none]) (st' := [.int ((0 : Int32)), .ref a]) rfl ?_
    refine Er_putI rfl m0.1 ?_
    refine Er_run 5 (pc' := bif decide (((4 : Int32)) ≤ ((0 : Int32))) then 38 else 24) (ls' := [some (.ref a), some (.int (Int32.ofNat P)), some (.int (if kd = 0 then 1 else 0)), some (.int (if kd = 1 then 1 else 0)), some (.long ky), none, some (.ref vq), some (.int (Int32.ofNat fr)), some (.int (Int32.ofNat en)), some (.int ((0 : Int32))), some (.int ((0 : Int32))), some (.int (Int32.ofNat fr)), some (.int ((0 : Int32))), none, none, none, none, none, none, none, none]) (st' := []) rfl ?_
    refine Er_pc (t := 24) (show (bif decide (((4 : Int32)) ≤ ((0 : Int32))) then 38 else 24) = 24 from by rw [show (decide (((4 : Int32)) ≤ ((0 : Int32)))) = false from by decide]; rfl) ?_
    refine Er_run 1 (pc' := 25) (ls' := [some (.ref a), some (.int (Int32.ofNat P)), some (.int (if kd = 0 then 1 else 0)), some (.int (if kd = 1 then 1 else 0)), some (.long ky), none, some (.ref vq), some (.int (Int32.ofNat fr)), some (.int (Int32.ofNat en)), some (.int ((0 : Int32))), some (.int ((0 : Int32))), some (.int (Int32.ofNat fr)), some (.int ((0 : Int32))), none, none, none, none, none, none, none, none]) (st' := [.ref a]) rfl ?_
    refine Er_getR (x := a + 23) rfl m0.1 (m0.2 (27, 23, 1, 4) (by decide)).1 ?_
    refine Er_run 2 (pc' := 31) (ls' := [some (.ref a), some (.int (Int32.ofNat P)), some (.int (if kd = 0 then 1 else 0)), some (.int (if kd = 1 then 1 else 0)), some (.long ky), none, some (.ref vq), some (.int (Int32.ofNat fr)), some (.int (Int32.ofNat en)), some (.int ((0 : Int32))), some (.int ((0 : Int32))), some (.int (Int32.ofNat fr)), some (.int ((0 : Int32))), none, none, none, none, none, none, none, none]) (st' := [.long ((0 : Int64)), .int ((0 : Int32)), .ref (a + 23)]) rfl ?_
    refine Er_last rfl (m0.2 (27, 23, 1, 4) (by decide)).2.1 (mr_in (i := 0) (k := 4) rfl (by omega) (by decide) (m0.2 (27, 23, 1, 4) (by decide)).2.2) ?_
    rw [mr_cn (x := (0 : Int32)) (i := 0) rfl (by omega)]
    refine Er_run 5 (pc' := bif decide (((4 : Int32)) ≤ (((0 : Int32)) + (1 : Int32))) then 38 else 24) (ls' := [some (.ref a), some (.int (Int32.ofNat P)), some (.int (if kd = 0 then 1 else 0)), some (.int (if kd = 1 then 1 else 0)), some (.long ky), none, some (.ref vq), some (.int (Int32.ofNat fr)), some (.int (Int32.ofNat en)), some (.int ((0 : Int32))), some (.int ((0 : Int32))), some (.int (Int32.ofNat fr)), some (.int (((0 : Int32)) + (1 : Int32))), none, none, none, none, none, none, none, none]) (st' := []) rfl ?_
    refine Er_pc (t := 24) (show (bif decide (((4 : Int32)) ≤ (((0 : Int32)) + (1 : Int32))) then 38 else 24) = 24 from by rw [show (decide (((4 : Int32)) ≤ (((0 : Int32)) + (1 : Int32)))) = false from by decide]; rfl) ?_
    refine Er_run 1 (pc' := 25) (ls' := [some (.ref a), some (.int (Int32.ofNat P)), some (.int (if kd = 0 then 1 else 0)), some (.int (if kd = 1 then 1 else 0)), some (.long ky), none, some (.ref vq), some (.int (Int32.ofNat fr)), some (.int (Int32.ofNat en)), some (.int ((0 : Int32))), some (.int ((0 : Int32))), some (.int (Int32.ofNat fr)), some (.int (((0 : Int32)) + (1 : Int32))), none, none, none, none, none, none, none, none]) (st' := [.ref a]) rfl ?_
    refine Er_getR (x := a + 23) rfl m0.1 (m0.2 (27, 23, 1, 4) (by decide)).1 ?_
    refine Er_run 2 (pc' := 31) (ls' := [some (.ref a), some (.int (Int32.ofNat P)), some (.int (if kd = 0 then 1 else 0)), some (.int (if kd = 1 then 1 else 0)), some (.long ky), none, some (.ref vq), some (.int (Int32.ofNat fr)), some (.int (Int32.ofNat en)), some (.int ((0 : Int32))), some (.int ((0 : Int32))), some (.int (Int32.ofNat fr)), some (.int (((0 : Int32)) + (1 : Int32))), none, none, none, none, none, none, none, none]) (st' := [.long ((0 : Int64)), .int (((0 : Int32)) + (1 : Int32)), .ref (a + 23)]) rfl ?_
    refine Er_last rfl (m0.2 (27, 23, 1, 4) (by decide)).2.1 (mr_in (i := 1) (k := 4) (by decide) (by omega) (by decide) (m0.2 (27, 23, 1, 4) (by decide)).2.2) ?_
    rw [mr_cn (x := ((0 : Int32)) + (1 : Int32)) (i := 1) (by decide) (by omega)]
    refine Er_run 5 (pc' := bif decide (((4 : Int32)) ≤ ((((0 : Int32)) + (1 : Int32)) + (1 : Int32))) then 38 else 24) (ls' := [some (.ref a), some (.int (Int32.ofNat P)), some (.int (if kd = 0 then 1 else 0)), some (.int (if kd = 1 then 1 else 0)), some (.long ky), none, some (.ref vq), some (.int (Int32.ofNat fr)), some (.int (Int32.ofNat en)), some (.int ((0 : Int32))), some (.int ((0 : Int32))), some (.int (Int32.ofNat fr)), some (.int ((((0 : Int32)) + (1 : Int32)) + (1 : Int32))), none, none, none, none, none, none, none, none]) (st' := []) rfl ?_
    refine Er_pc (t := 24) (show (bif decide (((4 : Int32)) ≤ ((((0 : Int32)) + (1 : Int32)) + (1 : Int32))) then 38 else 24) = 24 from by rw [show (decide (((4 : Int32)) ≤ ((((0 : Int32)) + (1 : Int32)) + (1 : Int32)))) = false from by decide]; rfl) ?_
    refine Er_run 1 (pc' := 25) (ls' := [some (.ref a), some (.int (Int32.ofNat P)), some (.int (if kd = 0 then 1 else 0)), some (.int (if kd = 1 then 1 else 0)), some (.long ky), none, some (.ref vq), some (.int (Int32.ofNat fr)), some (.int (Int32.ofNat en)), some (.int ((0 : Int32))), some (.int ((0 : Int32))), some (.int (Int32.ofNat fr)), some (.int ((((0 : Int32)) + (1 : Int32)) + (1 : Int32))), none, none, none, none, none, none, none, none]) (st' := [.ref a]) rfl ?_
    refine Er_getR (x := a + 23) rfl m0.1 (m0.2 (27, 23, 1, 4) (by decide)).1 ?_
    refine Er_run 2 (pc' := 31) (ls' := [some (.ref a), some (.int (Int32.ofNat P)), some (.int (if kd = 0 then 1 else 0)), some (.int (if kd = 1 then 1 else 0)), some (.long ky), none, some (.ref vq), some (.int (Int32.ofNat fr)), some (.int (Int32.ofNat en)), some (.int ((0 : Int32))), some (.int ((0 : Int32))), some (.int (Int32.ofNat fr)), some (.int ((((0 : Int32)) + (1 : Int32)) + (1 : Int32))), none, none, none, none, none, none, none, none]) (st' := [.long ((0 : Int64)), .int ((((0 : Int32)) + (1 : Int32)) + (1 : Int32)), .ref (a + 23)]) rfl ?_
    refine Er_last rfl (m0.2 (27, 23, 1, 4) (by decide)).2.1 (mr_in (i := 2) (k := 4) (by decide) (by omega) (by decide) (m0.2 (27, 23, 1, 4) (by decide)).2.2) ?_
    rw [mr_cn (x := (((0 : Int32)) + (1 : Int32)) + (1 : Int32)) (i := 2) (by decide) (by omega)]
    refine Er_run 5 (pc' := bif decide (((4 : Int32)) ≤ (((((0 : Int32)) + (1 : Int32)) + (1 : Int32)) + (1 : Int32))) then 38 else 24) (ls' := [some (.ref a), some (.int (Int32.ofNat P)), some (.int (if kd = 0 then 1 else 0)), some (.int (if kd = 1 then 1 else 0)), some (.long ky), none, some (.ref vq), some (.int (Int32.ofNat fr)), some (.int (Int32.ofNat en)), some (.int ((0 : Int32))), some (.int ((0 : Int32))), some (.int (Int32.ofNat fr)), some (.int (((((0 : Int32)) + (1 : Int32)) + (1 : Int32)) + (1 : Int32))), none, none, none, none, none, none, none, none]) (st' := []) rfl ?_
    refine Er_pc (t := 24) (show (bif decide (((4 : Int32)) ≤ (((((0 : Int32)) + (1 : Int32)) + (1 : Int32)) + (1 : Int32))) then 38 else 24) = 24 from by rw [show (decide (((4 : Int32)) ≤ (((((0 : Int32)) + (1 : Int32)) + (1 : Int32)) + (1 : Int32)))) = false from by decide]; rfl) ?_
    refine Er_run 1 (pc' := 25) (ls' := [some (.ref a), some (.int (Int32.ofNat P)), some (.int (if kd = 0 then 1 else 0)), some (.int (if kd = 1 then 1 else 0)), some (.long ky), none, some (.ref vq), some (.int (Int32.ofNat fr)), some (.int (Int32.ofNat en)), some (.int ((0 : Int32))), some (.int ((0 : Int32))), some (.int (Int32.ofNat fr)), some (.int (((((0 : Int32)) + (1 : Int32)) + (1 : Int32)) + (1 : Int32))), none, none, none, none, none, none, none, none]) (st' := [.ref a]) rfl ?_
    refine Er_getR (x := a + 23) rfl m0.1 (m0.2 (27, 23, 1, 4) (by decide)).1 ?_
    refine Er_run 2 (pc' := 31) (ls' := [some (.ref a), some (.int (Int32.ofNat P)), some (.int (if kd = 0 then 1 else 0)), some (.int (if kd = 1 then 1 else 0)), some (.long ky), none, some (.ref vq), some (.int (Int32.ofNat fr)), some (.int (Int32.ofNat en)), some (.int ((0 : Int32))), some (.int ((0 : Int32))), some (.int (Int32.ofNat fr)), some (.int (((((0 : Int32)) + (1 : Int32)) + (1 : Int32)) + (1 : Int32))), none, none, none, none, none, none, none, none]) (st' := [.long ((0 : Int64)), .int (((((0 : Int32)) + (1 : Int32)) + (1 : Int32)) + (1 : Int32)), .ref (a + 23)]) rfl ?_
    refine Er_last rfl (m0.2 (27, 23, 1, 4) (by decide)).2.1 (mr_in (i := 3) (k := 4) (by decide) (by omega) (by decide) (m0.2 (27, 23, 1, 4) (by decide)).2.2) ?_
    rw [mr_cn (x := ((((0 : Int32)) + (1 : Int32)) + (1 : Int32)) + (1 : Int32)) (i := 3) (by decide) (by omega)]
    refine Er_run 5 (pc' := bif decide (((4 : Int32)) ≤ ((((((0 : Int32)) + (1 : Int32)) + (1 : Int32)) + (1 : Int32)) + (1 : Int32))) then 38 else 24) (ls' := [some (.ref a), some (.int (Int32.ofNat P)), some (.int (if kd = 0 then 1 else 0)), some (.int (if kd = 1 then 1 else 0)), some (.long ky), none, some (.ref vq), some (.int (Int32.ofNat fr)), some (.int (Int32.ofNat en)), some (.int ((0 : Int32))), some (.int ((0 : Int32))), some (.int (Int32.ofNat fr)), some (.int ((((((0 : Int32)) + (1 : Int32)) + (1 : Int32)) + (1 : Int32)) + (1 : Int32))), none, none, none, none, none, none, none, none]) (st' := []) rfl ?_
    refine Er_pc (t := 38) (show (bif decide (((4 : Int32)) ≤ ((((((0 : Int32)) + (1 : Int32)) + (1 : Int32)) + (1 : Int32)) + (1 : Int32))) then 38 else 24) = 38 from by rw [show (decide (((4 : Int32)) ≤ ((((((0 : Int32)) + (1 : Int32)) + (1 : Int32)) + (1 : Int32)) + (1 : Int32)))) = true from by decide]; rfl) ?_
    refine Er_run 2 (pc' := 41) (ls' := [some (.ref a), some (.int (Int32.ofNat P)), some (.int (if kd = 0 then 1 else 0)), some (.int (if kd = 1 then 1 else 0)), some (.long ky), none, some (.ref vq), some (.int (Int32.ofNat fr)), some (.int (Int32.ofNat en)), some (.int ((0 : Int32))), some (.int ((0 : Int32))), some (.int (Int32.ofNat fr)), some (.int ((0 : Int32))), none, none, none, none, none, none, none, none]) (st' := []) rfl ?_
    exact kk
  obtain ⟨r, h', hr, e, hcp, hq⟩ := Run_of (Nat.le_of_ble_eq_true rfl) hx
  subst e
  subst hky
  refine ⟨h', hr, hcp, fun z => ?_⟩
  have q := hq z
  exact ⟨q.2.2.2.2.2.1, q.2.2.2.2.2.2⟩
/-- the hole is at j, what lay at j .. i - 1 has moved up -/
def SN (h g : sm_H) (kq vq i j : Nat) : Prop := FrL [] [kq, vq] h g ∧ ∀ u, u ≠ j → gL g kq u = (if j < u ∧ u ≤ i then gL h kq (u - 1) else gL h kq u) ∧ gL g vq u = (if j < u ∧ u ≤ i then gL h vq (u - 1) else gL h vq u)
theorem SN_step {g : sm_H} (hne : kq ≠ vq) (hj : 1 ≤ j) (hji : j ≤ i) (s : SN h g kq vq i j) : SN h (setL (setL g kq j (gL h kq (j - 1))) vq j (gL h vq (j - 1))) kq vq i (j - 1) := by
  refine ⟨(s.1.trans (FrL.setL (by simp))).trans (FrL.setL (by simp)), fun u hu => ?_⟩
  by_cases e : u = j
  · subst e
    refine ⟨?_, ?_⟩
    · rw [gL_ne (fun z => hne z.1), gL_eq, if_pos ⟨by omega, hji⟩]
    · rw [gL_eq, if_pos ⟨by omega, hji⟩]
  · obtain ⟨s1, s2⟩ := s.2 u e
    refine ⟨?_, ?_⟩
    · rw [gL_ne (fun z => e z.2), gL_ne (fun z => e z.2), s1]
      by_cases c : j < u ∧ u ≤ i
      · rw [if_pos c, if_pos ⟨by omega, c.2⟩]
      · rw [if_neg c, if_neg (by omega)]
    · rw [gL_ne (fun z => e z.2), gL_ne (fun z => e z.2), s2]
      by_cases c : j < u ∧ u ≤ i
      · rw [if_pos c, if_pos ⟨by omega, c.2⟩]
      · rw [if_neg c, if_neg (by omega)]

set_option maxRecDepth 10000 in
theorem l_sin {Q : sm_R → sm_H → Prop} {len : Nat} (hne : kq ≠ vq) (hak0 : sm_at h kq 1 = true) (hav0 : sm_at h vq 1 = true) (hlk0 : (gS h kq).2 = len) (hlv0 : (gS h vq).2 = len) (hi : i < len) (hlen : len < 100000) (kk : ∀ j g, j ≤ i → SN h g kq vq i j → (∀ u, j ≤ u → u < i → A < gL h kq u) → (j = 0 ∨ gL h kq (j - 1) ≤ A) → Ev 161 71 [some (.ref kq), some (.ref vq), some (.int ((0 : Int32))), some (.int (Int32.ofNat n)), some (.int (Int32.ofNat i)), some (.long A), none, some (.long B), none, some (.int (Int32.ofNat j))] [] g Q) : ∀ (j : Nat) (g : sm_H), j ≤ i → SN h g kq vq i j → (∀ u, j ≤ u → u < i → A < gL h kq u) → Ev 161 27 [some (.ref kq), some (.ref vq), some (.int ((0 : Int32))), some (.int (Int32.ofNat n)), some (.int (Int32.ofNat i)), some (.long A), none, some (.long B), none, some (.int (Int32.ofNat j))] [] g Q := by
  intro j
  induction j with
  | zero =>
    intro g hji s hp
    have hak : sm_at g kq 1 = true := by rw [s.1.at]; exact hak0
    have hav : sm_at g vq 1 = true := by rw [s.1.at]; exact hav0
    refine Er_run 3 (pc' := bif decide ((Int32.ofNat 0) ≤ ((0 : Int32))) then 71 else 33) (ls' := [some (.ref kq), some (.ref vq), some (.int ((0 : Int32))), some (.int (Int32.ofNat n)), some (.int (Int32.ofNat i)), some (.long A), none, some (.long B), none, some (.int (Int32.ofNat 0))]) (st' := []) rfl ?_
    refine Er_pc (t := 71) (show (bif decide ((Int32.ofNat 0) ≤ ((0 : Int32))) then 71 else 33) = 71 from by rw [show (decide ((Int32.ofNat 0) ≤ ((0 : Int32)))) = true from by decide]; rfl) ?_
    exact kk 0 g (Nat.zero_le _) s hp (Or.inl rfl)
  | succ j ih =>
    intro g hji s hp
    have hak : sm_at g kq 1 = true := by rw [s.1.at]; exact hak0
    have hav : sm_at g vq 1 = true := by rw [s.1.at]; exact hav0
    have hlk : (gS g kq).2 = len := by rw [s.1.2.1]; exact hlk0
    have hlv : (gS g vq).2 = len := by rw [s.1.2.1]; exact hlv0
    have s1 : gL g kq j = gL h kq j := by rw [(s.2 j (by omega)).1, if_neg (by omega)]
    have s2 : gL g vq j = gL h vq j := by rw [(s.2 j (by omega)).2, if_neg (by omega)]
    refine Er_run 3 (pc' := bif decide ((Int32.ofNat (j + 1)) ≤ ((0 : Int32))) then 71 else 33) (ls' := [some (.ref kq), some (.ref vq), some (.int ((0 : Int32))), some (.int (Int32.ofNat n)), some (.int (Int32.ofNat i)), some (.long A), none, some (.long B), none, some (.int (Int32.ofNat (j + 1)))]) (st' := []) rfl ?_
    refine Er_pc (t := 33) (show (bif decide ((Int32.ofNat (j + 1)) ≤ ((0 : Int32))) then 71 else 33) = 33 from by rw [show (decide ((Int32.ofNat (j + 1)) ≤ ((0 : Int32)))) = false from by rw [show (0 : Int32) = Int32.ofNat 0 from rfl, jx_le (by omega) (by omega)]; exact decide_eq_false (by omega)]; rfl) ?_
    refine Er_run 4 (pc' := 38) (ls' := [some (.ref kq), some (.ref vq), some (.int ((0 : Int32))), some (.int (Int32.ofNat n)), some (.int (Int32.ofNat i)), some (.long A), none, some (.long B), none, some (.int (Int32.ofNat (j + 1)))]) (st' := [.int ((Int32.ofNat (j + 1)) - ((1 : Int32))), .ref kq]) rfl ?_
    refine Er_lald (v := gL h kq j) rfl hak (mr_in (i := j) (k := len) (mr_s1 (n := j + 1) (by omega)) (by omega) (by omega) (hlk)) (mr_atL (mr_s1 (n := j + 1) (by omega)) (by omega) s1) ?_
    refine Er_run 3 (pc' := bif decide ((lg_cmp (gL h kq j) A) ≤ 0) then 71 else 45) (ls' := [some (.ref kq), some (.ref vq), some (.int ((0 : Int32))), some (.int (Int32.ofNat n)), some (.int (Int32.ofNat i)), some (.long A), none, some (.long B), none, some (.int (Int32.ofNat (j + 1)))]) (st' := []) rfl ?_
    refine Er_if (fun hc1 => ?_) (fun hc1 => ?_)
    · skip
      exact kk (j + 1) g hji s hp (Or.inr (by have := hc1; rw [jx_cmple] at this; exact of_decide_eq_true this))
    · skip
      refine Er_run 6 (pc' := 53) (ls' := [some (.ref kq), some (.ref vq), some (.int ((0 : Int32))), some (.int (Int32.ofNat n)), some (.int (Int32.ofNat i)), some (.long A), none, some (.long B), none, some (.int (Int32.ofNat (j + 1)))]) (st' := [.int ((Int32.ofNat (j + 1)) - ((1 : Int32))), .ref kq, .int (Int32.ofNat (j + 1)), .ref kq]) rfl ?_
      refine Er_lald (v := gL h kq j) rfl hak (mr_in (i := j) (k := len) (mr_s1 (n := j + 1) (by omega)) (by omega) (by omega) (hlk)) (mr_atL (mr_s1 (n := j + 1) (by omega)) (by omega) s1) ?_
      refine Er_last rfl hak (mr_in (i := (j + 1)) (k := len) rfl (by omega) (by omega) (hlk)) ?_
      refine Er_run 6 (pc' := 63) (ls' := [some (.ref kq), some (.ref vq), some (.int ((0 : Int32))), some (.int (Int32.ofNat n)), some (.int (Int32.ofNat i)), some (.long A), none, some (.long B), none, some (.int (Int32.ofNat (j + 1)))]) (st' := [.int ((Int32.ofNat (j + 1)) - ((1 : Int32))), .ref vq, .int (Int32.ofNat (j + 1)), .ref vq]) rfl ?_
      refine Er_lald (v := gL h vq j) rfl hav (mr_in (i := j) (k := len) (mr_s1 (n := j + 1) (by omega)) (by omega) (by omega) (hlv)) (mr_atL (mr_s1 (n := j + 1) (by omega)) (by omega) (show gL (setL g kq ((Int32.ofNat (j + 1)).toNatClampNeg) (gL h kq j)) vq j = gL h vq j from by rw [mr_ncL (fun z => hne z.symm)]; exact s2)) ?_
      refine Er_last rfl hav (mr_in (i := (j + 1)) (k := len) rfl (by omega) (by omega) (hlv)) ?_
      refine Er_run 2 (pc' := 27) (ls' := [some (.ref kq), some (.ref vq), some (.int ((0 : Int32))), some (.int (Int32.ofNat n)), some (.int (Int32.ofNat i)), some (.long A), none, some (.long B), none, some (.int ((Int32.ofNat (j + 1)) + (-1 : Int32)))]) (st' := []) rfl ?_
      rw [mr_m1 (n := j + 1) (by omega), mr_cn (x := Int32.ofNat (j + 1)) rfl (by omega)]
      refine ih _ (by omega) (SN_step hne (by omega) hji s) (fun u h1 h2 => ?_)
      by_cases e : u = j
      · rw [e]; have := hc1; rw [jx_cmple] at this; exact Int64.not_le.1 (of_decide_eq_false this)
      · exact hp u (by omega) h2
end REFO
