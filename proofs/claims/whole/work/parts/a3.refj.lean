/-- only the rows of ints I and of longs L have changed -/
def FrL (I L : List Nat) (h h' : sm_H) : Prop := gN h' = gN h ∧ gS h' = gS h ∧ gR h' = gR h ∧ gJ h' = gJ h ∧ gD h' = gD h ∧ (∀ c, c ∉ I → gI h' c = gI h c) ∧ ∀ c, c ∉ L → gL h' c = gL h c
section REFJ
variable {h h' h2 : sm_H} {a : Nat} {x y z t : Int32} {n f i j k : Nat} {c : Int64} {I L I2 L2 : List Nat} {D : List (Int32 × Int64)}
theorem FrL.refl (h : sm_H) : FrL I L h h := ⟨rfl, rfl, rfl, rfl, rfl, fun _ _ => rfl, fun _ _ => rfl⟩
theorem FrL.trans (p : FrL I L h h') (q : FrL I L h' h2) : FrL I L h h2 := ⟨q.1.trans p.1, q.2.1.trans p.2.1, q.2.2.1.trans p.2.2.1, q.2.2.2.1.trans p.2.2.2.1, q.2.2.2.2.1.trans p.2.2.2.2.1, fun c hc => (q.2.2.2.2.2.1 c hc).trans (p.2.2.2.2.2.1 c hc), fun c hc => (q.2.2.2.2.2.2 c hc).trans (p.2.2.2.2.2.2 c hc)⟩
theorem FrL.mono (hI : ∀ c, c ∈ I → c ∈ I2) (hL : ∀ c, c ∈ L → c ∈ L2) (p : FrL I L h h') : FrL I2 L2 h h' := ⟨p.1, p.2.1, p.2.2.1, p.2.2.2.1, p.2.2.2.2.1, fun c hc => p.2.2.2.2.2.1 c (fun e => hc (hI c e)), fun c hc => p.2.2.2.2.2.2 c (fun e => hc (hL c e))⟩
theorem FrL.setI {q : Nat} {v : Int32} (hq : q ∈ I) : FrL I L h (setI h q i v) := ⟨rfl, rfl, rfl, rfl, rfl, fun c hc => mr_ncI (fun e => hc (e ▸ hq)), fun _ _ => rfl⟩
theorem FrL.setL {q : Nat} {v : Int64} (hq : q ∈ L) : FrL I L h (setL h q i v) := ⟨rfl, rfl, rfl, rfl, rfl, fun _ _ => rfl, fun c hc => mr_ncL (fun e => hc (e ▸ hq))⟩
theorem FrL.gi {q : Nat} (p : FrL I L h h') (hq : q ∉ I) : gI h' q = gI h q := p.2.2.2.2.2.1 q hq
theorem FrL.gl {q : Nat} (p : FrL I L h h') (hq : q ∉ L) : gL h' q = gL h q := p.2.2.2.2.2.2 q hq
theorem FrL.at {q k : Nat} (p : FrL I L h h') : sm_at h' q k = sm_at h q k := by rw [sm_at, sm_at, p.1, p.2.1]
theorem FrL.mrO (p : FrL I L h h') (m : mrO h a) : mrO h' a := by
  refine ⟨by rw [p.at]; exact m.1, fun x hx => ?_⟩
  obtain ⟨a1, a2, a3⟩ := m.2 x hx
  exact ⟨by rw [p.2.2.1]; exact a1, by rw [p.at]; exact a2, by rw [p.2.1]; exact a3⟩
theorem FrL.Fr {lo hi : Nat} (p : FrL I L h h') (hI : ∀ c, c ∈ I → lo ≤ c ∧ c < hi) (hL : ∀ c, c ∈ L → lo ≤ c ∧ c < hi) : Fr lo hi h h' :=
  ⟨p.1, p.2.1, p.2.2.2.1, p.2.2.2.2.1, fun c hc => ⟨p.gi (fun e => by have := hI c e; omega), p.gl (fun e => by have := hL c e; omega), by rw [p.2.2.1]⟩⟩

theorem l_prog1 {Q : sm_R → sm_H → Prop} (m0 : mrO h a) (nw0 : gI h a 15 = Int32.ofNat D.length) (dd0 : ∀ k p, D[k]? = some p → gI h (a + 6) k = p.1) (da0 : ∀ k p, D[k]? = some p → gL h (a + 8) k = p.2) (hD : D.length ≤ 40) : ∀ (f i : Nat) (w : Int32), i + f = D.length → Ev 171 87 [some (.ref a), some (.int x), some (.int y), some (.int (if (D.drop i).any (jx_lb D.length) = true then 0 else w)), some (.int (Int32.ofNat D.length)), none, none] [] h Q → Ev 171 30 [some (.ref a), some (.int x), some (.int y), some (.int w), some (.int (Int32.ofNat i)), none, none] [] h Q := by
  intro f
  induction f with
  | zero =>
    intro i w hi kk
    have e : i = D.length := by omega
    subst e
    refine Er_run 2 (pc' := 33) (ls' := [some (.ref a), some (.int x), some (.int y), some (.int w), some (.int (Int32.ofNat D.length)), none, none]) (st' := [.ref a, .int (Int32.ofNat D.length)]) rfl ?_
    refine Er_getI (v := Int32.ofNat D.length) rfl m0.1 nw0 ?_
    refine Er_run 1 (pc' := bif decide ((Int32.ofNat D.length) ≤ (Int32.ofNat D.length)) then 87 else 39) (ls' := [some (.ref a), some (.int x), some (.int y), some (.int w), some (.int (Int32.ofNat D.length)), none, none]) (st' := []) rfl ?_
    refine Er_pc (t := 87) (show (bif decide ((Int32.ofNat D.length) ≤ (Int32.ofNat D.length)) then 87 else 39) = 87 from by rw [show (decide ((Int32.ofNat D.length) ≤ (Int32.ofNat D.length))) = true from by rw [jx_le (by omega) (by omega)]; exact decide_eq_true (Nat.le_refl _)]; rfl) ?_
    rw [List.drop_length] at kk
    exact kk
  | succ f ih =>
    intro i w hi kk
    obtain ⟨p, hp⟩ : ∃ p, D[i]? = some p := ⟨D[i]'(by omega), List.getElem?_eq_getElem (by omega)⟩
    have hany : (D.drop i).any (jx_lb D.length) = (jx_lb D.length p || (D.drop (i + 1)).any (jx_lb D.length)) := by
      rw [List.drop_eq_getElem_cons (by omega), List.any_cons]
      have : D[i]'(by omega) = p := by rw [List.getElem?_eq_getElem (by omega)] at hp; exact Option.some.inj hp
      rw [this]
    refine Er_run 2 (pc' := 33) (ls' := [some (.ref a), some (.int x), some (.int y), some (.int w), some (.int (Int32.ofNat i)), none, none]) (st' := [.ref a, .int (Int32.ofNat i)]) rfl ?_
    refine Er_getI (v := Int32.ofNat D.length) rfl m0.1 nw0 ?_
    refine Er_run 1 (pc' := bif decide ((Int32.ofNat D.length) ≤ (Int32.ofNat i)) then 87 else 39) (ls' := [some (.ref a), some (.int x), some (.int y), some (.int w), some (.int (Int32.ofNat i)), none, none]) (st' := []) rfl ?_
    refine Er_pc (t := 39) (show (bif decide ((Int32.ofNat D.length) ≤ (Int32.ofNat i)) then 87 else 39) = 39 from by rw [show (decide ((Int32.ofNat D.length) ≤ (Int32.ofNat i))) = false from by rw [jx_le (by omega) (by omega)]; exact decide_eq_false (by omega)]; rfl) ?_
    refine Er_run 1 (pc' := 40) (ls' := [some (.ref a), some (.int x), some (.int y), some (.int w), some (.int (Int32.ofNat i)), none, none]) (st' := [.ref a]) rfl ?_
    refine Er_getR (x := a + 6) rfl m0.1 (m0.2 (5, 6, 0, 40) (by decide)).1 ?_
    refine Er_run 1 (pc' := 45) (ls' := [some (.ref a), some (.int x), some (.int y), some (.int w), some (.int (Int32.ofNat i)), none, none]) (st' := [.int (Int32.ofNat i), .ref (a + 6)]) rfl ?_
    refine Er_iald (v := p.1) rfl (m0.2 (5, 6, 0, 40) (by decide)).2.1 (mr_in (i := i) (k := 40) rfl (by omega) (by decide) (m0.2 (5, 6, 0, 40) (by decide)).2.2) (mr_atI rfl (by omega) (dd0 i p hp)) ?_
    refine Er_run 2 (pc' := bif decide (p.1 = ((15 : Int32))) then 63 else 51) (ls' := [some (.ref a), some (.int x), some (.int y), some (.int w), some (.int (Int32.ofNat i)), none, none]) (st' := []) rfl ?_
    refine Er_if (fun hc1 => ?_) (fun hc1 => ?_)
    · skip
      refine Er_run 1 (pc' := 64) (ls' := [some (.ref a), some (.int x), some (.int y), some (.int w), some (.int (Int32.ofNat i)), none, none]) (st' := [.ref a]) rfl ?_
      refine Er_getR (x := a + 8) rfl m0.1 (m0.2 (7, 8, 1, 40) (by decide)).1 ?_
      refine Er_run 1 (pc' := 69) (ls' := [some (.ref a), some (.int x), some (.int y), some (.int w), some (.int (Int32.ofNat i)), none, none]) (st' := [.int (Int32.ofNat i), .ref (a + 8)]) rfl ?_
      refine Er_lald (v := p.2) rfl (m0.2 (7, 8, 1, 40) (by decide)).2.1 (mr_in (i := i) (k := 40) rfl (by omega) (by decide) (m0.2 (7, 8, 1, 40) (by decide)).2.2) (mr_atL rfl (by omega) (da0 i p hp)) ?_
      refine Er_run 1 (pc' := 71) (ls' := [some (.ref a), some (.int x), some (.int y), some (.int w), some (.int (Int32.ofNat i)), none, none]) (st' := [.ref a, .long (p.2)]) rfl ?_
      refine Er_getI (v := Int32.ofNat D.length) rfl m0.1 nw0 ?_
      refine Er_run 3 (pc' := bif decide ((lg_cmp p.2 (Int32.toInt64 (Int32.ofNat D.length))) ≤ 0) then 81 else 79) (ls' := [some (.ref a), some (.int x), some (.int y), some (.int w), some (.int (Int32.ofNat i)), none, none]) (st' := []) rfl ?_
      refine Er_if (fun hc2 => ?_) (fun hc2 => ?_)
      · skip
        refine Er_run 2 (pc' := 30) (ls' := [some (.ref a), some (.int x), some (.int y), some (.int w), some (.int ((Int32.ofNat i) + (1 : Int32))), none, none]) (st' := []) rfl ?_
        have lb : jx_lb D.length p = false := by rw [jx_lb, decide_eq_true (show p.1 = 15 ∨ p.1 = 16 from Or.inl (of_decide_eq_true hc1)), show (decide (lg_cmp p.2 (Int32.toInt64 (Int32.ofNat D.length)) ≤ 0)) = true from hc2]; rfl
        rw [jx_s1]
        refine ih (i + 1) _ (by omega) ?_
        rw [hany, lb] at kk
        rw [Bool.false_or] at kk
        exact kk
      · skip
        refine Er_run 4 (pc' := 30) (ls' := [some (.ref a), some (.int x), some (.int y), some (.int ((0 : Int32))), some (.int ((Int32.ofNat i) + (1 : Int32))), none, none]) (st' := []) rfl ?_
        have lb : jx_lb D.length p = true := by rw [jx_lb, decide_eq_true (show p.1 = 15 ∨ p.1 = 16 from Or.inl (of_decide_eq_true hc1)), show (decide (lg_cmp p.2 (Int32.toInt64 (Int32.ofNat D.length)) ≤ 0)) = false from hc2]; rfl
        rw [jx_s1]
        refine ih (i + 1) _ (by omega) ?_
        rw [hany, lb] at kk
        rw [show (if (D.drop (i + 1)).any (jx_lb D.length) = true then (0 : Int32) else (0 : Int32)) = 0 from by split <;> rfl]
        exact kk
    · skip
      refine Er_run 1 (pc' := 52) (ls' := [some (.ref a), some (.int x), some (.int y), some (.int w), some (.int (Int32.ofNat i)), none, none]) (st' := [.ref a]) rfl ?_
      refine Er_getR (x := a + 6) rfl m0.1 (m0.2 (5, 6, 0, 40) (by decide)).1 ?_
      refine Er_run 1 (pc' := 57) (ls' := [some (.ref a), some (.int x), some (.int y), some (.int w), some (.int (Int32.ofNat i)), none, none]) (st' := [.int (Int32.ofNat i), .ref (a + 6)]) rfl ?_
      refine Er_iald (v := p.1) rfl (m0.2 (5, 6, 0, 40) (by decide)).2.1 (mr_in (i := i) (k := 40) rfl (by omega) (by decide) (m0.2 (5, 6, 0, 40) (by decide)).2.2) (mr_atI rfl (by omega) (dd0 i p hp)) ?_
      refine Er_run 2 (pc' := bif !decide (p.1 = ((16 : Int32))) then 81 else 63) (ls' := [some (.ref a), some (.int x), some (.int y), some (.int w), some (.int (Int32.ofNat i)), none, none]) (st' := []) rfl ?_
      refine Er_if (fun hc3 => ?_) (fun hc3 => ?_)
      · skip
        refine Er_run 2 (pc' := 30) (ls' := [some (.ref a), some (.int x), some (.int y), some (.int w), some (.int ((Int32.ofNat i) + (1 : Int32))), none, none]) (st' := []) rfl ?_
        have lb : jx_lb D.length p = false := by rw [jx_lb, decide_eq_false (show ¬ (p.1 = 15 ∨ p.1 = 16) from fun z => z.elim (of_decide_eq_false hc1) (by have := hc3; simpa using this))]; rfl
        rw [jx_s1]
        refine ih (i + 1) _ (by omega) ?_
        rw [hany, lb] at kk
        rw [Bool.false_or] at kk
        exact kk
      · skip
        refine Er_run 1 (pc' := 64) (ls' := [some (.ref a), some (.int x), some (.int y), some (.int w), some (.int (Int32.ofNat i)), none, none]) (st' := [.ref a]) rfl ?_
        refine Er_getR (x := a + 8) rfl m0.1 (m0.2 (7, 8, 1, 40) (by decide)).1 ?_
        refine Er_run 1 (pc' := 69) (ls' := [some (.ref a), some (.int x), some (.int y), some (.int w), some (.int (Int32.ofNat i)), none, none]) (st' := [.int (Int32.ofNat i), .ref (a + 8)]) rfl ?_
        refine Er_lald (v := p.2) rfl (m0.2 (7, 8, 1, 40) (by decide)).2.1 (mr_in (i := i) (k := 40) rfl (by omega) (by decide) (m0.2 (7, 8, 1, 40) (by decide)).2.2) (mr_atL rfl (by omega) (da0 i p hp)) ?_
        refine Er_run 1 (pc' := 71) (ls' := [some (.ref a), some (.int x), some (.int y), some (.int w), some (.int (Int32.ofNat i)), none, none]) (st' := [.ref a, .long (p.2)]) rfl ?_
        refine Er_getI (v := Int32.ofNat D.length) rfl m0.1 nw0 ?_
        refine Er_run 3 (pc' := bif decide ((lg_cmp p.2 (Int32.toInt64 (Int32.ofNat D.length))) ≤ 0) then 81 else 79) (ls' := [some (.ref a), some (.int x), some (.int y), some (.int w), some (.int (Int32.ofNat i)), none, none]) (st' := []) rfl ?_
        refine Er_if (fun hc4 => ?_) (fun hc4 => ?_)
        · skip
          refine Er_run 2 (pc' := 30) (ls' := [some (.ref a), some (.int x), some (.int y), some (.int w), some (.int ((Int32.ofNat i) + (1 : Int32))), none, none]) (st' := []) rfl ?_
          have lb : jx_lb D.length p = false := by rw [jx_lb, decide_eq_true (show p.1 = 15 ∨ p.1 = 16 from Or.inr (of_decide_eq_true (by have := hc3; simpa using this))), show (decide (lg_cmp p.2 (Int32.toInt64 (Int32.ofNat D.length)) ≤ 0)) = true from hc4]; rfl
          rw [jx_s1]
          refine ih (i + 1) _ (by omega) ?_
          rw [hany, lb] at kk
          rw [Bool.false_or] at kk
          exact kk
        · skip
          refine Er_run 4 (pc' := 30) (ls' := [some (.ref a), some (.int x), some (.int y), some (.int ((0 : Int32))), some (.int ((Int32.ofNat i) + (1 : Int32))), none, none]) (st' := []) rfl ?_
          have lb : jx_lb D.length p = true := by rw [jx_lb, decide_eq_true (show p.1 = 15 ∨ p.1 = 16 from Or.inr (of_decide_eq_true (by have := hc3; simpa using this))), show (decide (lg_cmp p.2 (Int32.toInt64 (Int32.ofNat D.length)) ≤ 0)) = false from hc4]; rfl
          rw [jx_s1]
          refine ih (i + 1) _ (by omega) ?_
          rw [hany, lb] at kk
          rw [show (if (D.drop (i + 1)).any (jx_lb D.length) = true then (0 : Int32) else (0 : Int32)) = 0 from by split <;> rfl]
          exact kk
theorem mr_40 {P : Nat} : (40 : Int32) * Int32.ofNat P + Int32.ofNat i = Int32.ofNat (40 * P + i) := by rw [Int32.ofNat_add, Int32.ofNat_mul]; rfl

theorem cp_stI {g h0 : sm_H} {P : Nat} {p : Int32 × Int64} (hi : i < D.length) (hp : D[i]? = some p) (hc : (∀ k p, k < i → D[k]? = some p → gI g (a + 4) (40 * P + k) = p.1) ∧ ∀ u, (u < 40 * P ∨ 40 * P + D.length ≤ u) → gI g (a + 4) u = gI h0 (a + 4) u) : (∀ k q, k < i + 1 → D[k]? = some q → gI (setI g (a + 4) (40 * P + i) p.1) (a + 4) (40 * P + k) = q.1) ∧ ∀ u, (u < 40 * P ∨ 40 * P + D.length ≤ u) → gI (setI g (a + 4) (40 * P + i) p.1) (a + 4) u = gI h0 (a + 4) u := by
  refine ⟨fun k q hk hq => ?_, fun u hu => by rw [gI_ne (by omega)]; exact hc.2 u hu⟩
  by_cases e : k = i
  · subst e
    rw [hp] at hq
    cases hq
    exact gI_eq
  · rw [gI_ne (by omega)]
    exact hc.1 k q (by omega) hq
theorem cp_stL {g h0 : sm_H} {P : Nat} {p : Int32 × Int64} (hi : i < D.length) (hp : D[i]? = some p) (hc : (∀ k p, k < i → D[k]? = some p → gL g (a + 7) (40 * P + k) = p.2) ∧ ∀ u, (u < 40 * P ∨ 40 * P + D.length ≤ u) → gL g (a + 7) u = gL h0 (a + 7) u) : (∀ k q, k < i + 1 → D[k]? = some q → gL (setL g (a + 7) (40 * P + i) p.2) (a + 7) (40 * P + k) = q.2) ∧ ∀ u, (u < 40 * P ∨ 40 * P + D.length ≤ u) → gL (setL g (a + 7) (40 * P + i) p.2) (a + 7) u = gL h0 (a + 7) u := by
  refine ⟨fun k q hk hq => ?_, fun u hu => by rw [gL_ne (by omega)]; exact hc.2 u hu⟩
  by_cases e : k = i
  · subst e
    rw [hp] at hq
    cases hq
    exact gL_eq
  · rw [gL_ne (by omega)]
    exact hc.1 k q (by omega) hq
theorem l_prog2 {Q : sm_R → sm_H → Prop} {P : Nat} {w : Int32} {h0 : sm_H} (hP : P < 24) (hD : D.length ≤ 40) (kk : ∀ g, FrL [a, a + 4] [a + 7] h0 g ∧ mrO g a ∧ (∀ k p, D[k]? = some p → gI g (a + 4) (40 * P + k) = p.1) ∧ (∀ u, (u < 40 * P ∨ 40 * P + D.length ≤ u) → gI g (a + 4) u = gI h0 (a + 4) u) ∧ (∀ k p, D[k]? = some p → gL g (a + 7) (40 * P + k) = p.2) ∧ (∀ u, (u < 40 * P ∨ 40 * P + D.length ≤ u) → gL g (a + 7) u = gL h0 (a + 7) u) ∧ gI g a = gI h0 a → Ev 171 203 [some (.ref a), some (.int x), some (.int y), some (.int w), some (.int (Int32.ofNat P)), some (.int (Int32.ofNat D.length)), some (.int (Int32.ofNat D.length))] [] g Q) : ∀ (f i : Nat) (g : sm_H), i + f = D.length → mrO g a → FrL [a, a + 4] [a + 7] h0 g → gI g a = gI h0 a → (∀ k p, D[k]? = some p → gI g (a + 6) k = p.1) → (∀ k p, D[k]? = some p → gL g (a + 8) k = p.2) → ((∀ k p, k < i → D[k]? = some p → gI g (a + 4) (40 * P + k) = p.1) ∧ ∀ u, (u < 40 * P ∨ 40 * P + D.length ≤ u) → gI g (a + 4) u = gI h0 (a + 4) u) → ((∀ k p, k < i → D[k]? = some p → gL g (a + 7) (40 * P + k) = p.2) ∧ ∀ u, (u < 40 * P ∨ 40 * P + D.length ≤ u) → gL g (a + 7) u = gL h0 (a + 7) u) → Ev 171 150 [some (.ref a), some (.int x), some (.int y), some (.int w), some (.int (Int32.ofNat P)), some (.int (Int32.ofNat D.length)), some (.int (Int32.ofNat i))] [] g Q := by
  intro f
  induction f with
  | zero =>
    intro i g hi m0 zz aa0 dd0 da0 co0 ca0
    have e : i = D.length := by omega
    subst e
    refine Er_run 3 (pc' := bif decide ((Int32.ofNat D.length) ≤ (Int32.ofNat D.length)) then 203 else 157) (ls' := [some (.ref a), some (.int x), some (.int y), some (.int w), some (.int (Int32.ofNat P)), some (.int (Int32.ofNat D.length)), some (.int (Int32.ofNat D.length))]) (st' := []) rfl ?_
    refine Er_pc (t := 203) (show (bif decide ((Int32.ofNat D.length) ≤ (Int32.ofNat D.length)) then 203 else 157) = 203 from by rw [show (decide ((Int32.ofNat D.length) ≤ (Int32.ofNat D.length))) = true from by rw [jx_le (by omega) (by omega)]; exact decide_eq_true (Nat.le_refl _)]; rfl) ?_
    exact kk g ⟨zz, m0, fun k p hk => co0.1 k p (List.getElem?_eq_some_iff.1 hk).1 hk, co0.2, fun k p hk => ca0.1 k p (List.getElem?_eq_some_iff.1 hk).1 hk, ca0.2, aa0⟩
  | succ f ih =>
    intro i g hi m0 zz aa0 dd0 da0 co0 ca0
    obtain ⟨p, hp⟩ : ∃ p, D[i]? = some p := ⟨D[i]'(by omega), List.getElem?_eq_getElem (by omega)⟩
    have z0 : FrL [a, a + 4] [a + 7] g g := FrL.refl g
    refine Er_run 3 (pc' := bif decide ((Int32.ofNat D.length) ≤ (Int32.ofNat i)) then 203 else 157) (ls' := [some (.ref a), some (.int x), some (.int y), some (.int w), some (.int (Int32.ofNat P)), some (.int (Int32.ofNat D.length)), some (.int (Int32.ofNat i))]) (st' := []) rfl ?_
    refine Er_pc (t := 157) (show (bif decide ((Int32.ofNat D.length) ≤ (Int32.ofNat i)) then 203 else 157) = 157 from by rw [show (decide ((Int32.ofNat D.length) ≤ (Int32.ofNat i))) = false from by rw [jx_le (by omega) (by omega)]; exact decide_eq_false (by omega)]; rfl) ?_
    refine Er_run 1 (pc' := 158) (ls' := [some (.ref a), some (.int x), some (.int y), some (.int w), some (.int (Int32.ofNat P)), some (.int (Int32.ofNat D.length)), some (.int (Int32.ofNat i))]) (st' := [.ref a]) rfl ?_
    refine Er_getR (x := a + 4) rfl m0.1 (m0.2 (3, 4, 0, 960) (by decide)).1 ?_
    refine Er_run 6 (pc' := 170) (ls' := [some (.ref a), some (.int x), some (.int y), some (.int w), some (.int (Int32.ofNat P)), some (.int (Int32.ofNat D.length)), some (.int (Int32.ofNat i))]) (st' := [.ref a, .int ((((40 : Int32)) * (Int32.ofNat P)) + (Int32.ofNat i)), .ref (a + 4)]) rfl ?_
    refine Er_getR (x := a + 6) rfl m0.1 (m0.2 (5, 6, 0, 40) (by decide)).1 ?_
    refine Er_run 1 (pc' := 175) (ls' := [some (.ref a), some (.int x), some (.int y), some (.int w), some (.int (Int32.ofNat P)), some (.int (Int32.ofNat D.length)), some (.int (Int32.ofNat i))]) (st' := [.int (Int32.ofNat i), .ref (a + 6), .int ((((40 : Int32)) * (Int32.ofNat P)) + (Int32.ofNat i)), .ref (a + 4)]) rfl ?_
    refine Er_iald (v := p.1) rfl (m0.2 (5, 6, 0, 40) (by decide)).2.1 (mr_in (i := i) (k := 40) rfl (by omega) (by decide) (m0.2 (5, 6, 0, 40) (by decide)).2.2) (mr_atI rfl (by omega) (dd0 i p hp)) ?_
    refine Er_iast rfl (m0.2 (3, 4, 0, 960) (by decide)).2.1 (mr_in (i := (40 * P + i)) (k := 960) mr_40 (by omega) (by decide) (m0.2 (3, 4, 0, 960) (by decide)).2.2) ?_
    rw [mr_cn (x := (((40 : Int32)) * (Int32.ofNat P)) + (Int32.ofNat i)) (i := (40 * P + i)) mr_40 (by omega)]
    have m1 : mrO (setI g (a + 4) ((40 * P + i)) p.1) a := mrO_setI m0
    have z1 : FrL [a, a + 4] [a + 7] g (setI g (a + 4) ((40 * P + i)) p.1) := z0.trans (FrL.setI (by simp))
    have dd1 : ∀ k d, D[k]? = some d → gI (setI g (a + 4) ((40 * P + i)) p.1) (a + 6) k = d.1 := by rw [show gI (setI g (a + 4) ((40 * P + i)) p.1) (a + 6) = gI g (a + 6) from mr_ncI (by omega)]; exact dd0
    have da1 : ∀ k d, D[k]? = some d → gL (setI g (a + 4) ((40 * P + i)) p.1) (a + 8) k = d.2 := da0
    have co1 : (∀ k d, k < i + 1 → D[k]? = some d → gI (setI g (a + 4) ((40 * P + i)) p.1) (a + 4) (40 * P + k) = d.1) ∧ ∀ u, (u < 40 * P ∨ 40 * P + D.length ≤ u) → gI (setI g (a + 4) ((40 * P + i)) p.1) (a + 4) u = gI h0 (a + 4) u := (cp_stI (by omega) hp co0)
    have ca1 : (∀ k d, k < i → D[k]? = some d → gL (setI g (a + 4) ((40 * P + i)) p.1) (a + 7) (40 * P + k) = d.2) ∧ ∀ u, (u < 40 * P ∨ 40 * P + D.length ≤ u) → gL (setI g (a + 4) ((40 * P + i)) p.1) (a + 7) u = gL h0 (a + 7) u := ca0
    have aa1 : gI (setI g (a + 4) ((40 * P + i)) p.1) a = gI h0 a := by rw [show gI (setI g (a + 4) ((40 * P + i)) p.1) a = gI g a from mr_ncI (by omega)]; exact aa0
    generalize (setI g (a + 4) ((40 * P + i)) p.1) = h1 at m1 z1 dd1 da1 co1 ca1 aa1 ⊢
    refine Er_run 1 (pc' := 178) (ls' := [some (.ref a), some (.int x), some (.int y), some (.int w), some (.int (Int32.ofNat P)), some (.int (Int32.ofNat D.length)), some (.int (Int32.ofNat i))]) (st' := [.ref a]) rfl ?_
    refine Er_getR (x := a + 7) rfl m1.1 (m1.2 (6, 7, 1, 960) (by decide)).1 ?_
    refine Er_run 6 (pc' := 190) (ls' := [some (.ref a), some (.int x), some (.int y), some (.int w), some (.int (Int32.ofNat P)), some (.int (Int32.ofNat D.length)), some (.int (Int32.ofNat i))]) (st' := [.ref a, .int ((((40 : Int32)) * (Int32.ofNat P)) + (Int32.ofNat i)), .ref (a + 7)]) rfl ?_
    refine Er_getR (x := a + 8) rfl m1.1 (m1.2 (7, 8, 1, 40) (by decide)).1 ?_
    refine Er_run 1 (pc' := 195) (ls' := [some (.ref a), some (.int x), some (.int y), some (.int w), some (.int (Int32.ofNat P)), some (.int (Int32.ofNat D.length)), some (.int (Int32.ofNat i))]) (st' := [.int (Int32.ofNat i), .ref (a + 8), .int ((((40 : Int32)) * (Int32.ofNat P)) + (Int32.ofNat i)), .ref (a + 7)]) rfl ?_
    refine Er_lald (v := p.2) rfl (m1.2 (7, 8, 1, 40) (by decide)).2.1 (mr_in (i := i) (k := 40) rfl (by omega) (by decide) (m1.2 (7, 8, 1, 40) (by decide)).2.2) (mr_atL rfl (by omega) (da1 i p hp)) ?_
    refine Er_last rfl (m1.2 (6, 7, 1, 960) (by decide)).2.1 (mr_in (i := (40 * P + i)) (k := 960) mr_40 (by omega) (by decide) (m1.2 (6, 7, 1, 960) (by decide)).2.2) ?_
    rw [mr_cn (x := (((40 : Int32)) * (Int32.ofNat P)) + (Int32.ofNat i)) (i := (40 * P + i)) mr_40 (by omega)]
    have m2 : mrO (setL h1 (a + 7) ((40 * P + i)) p.2) a := mrO_setL m1
    have z2 : FrL [a, a + 4] [a + 7] g (setL h1 (a + 7) ((40 * P + i)) p.2) := z1.trans (FrL.setL (by simp))
    have dd2 : ∀ k d, D[k]? = some d → gI (setL h1 (a + 7) ((40 * P + i)) p.2) (a + 6) k = d.1 := dd1
    have da2 : ∀ k d, D[k]? = some d → gL (setL h1 (a + 7) ((40 * P + i)) p.2) (a + 8) k = d.2 := by rw [show gL (setL h1 (a + 7) ((40 * P + i)) p.2) (a + 8) = gL h1 (a + 8) from mr_ncL (by omega)]; exact da1
    have co2 : (∀ k d, k < i + 1 → D[k]? = some d → gI (setL h1 (a + 7) ((40 * P + i)) p.2) (a + 4) (40 * P + k) = d.1) ∧ ∀ u, (u < 40 * P ∨ 40 * P + D.length ≤ u) → gI (setL h1 (a + 7) ((40 * P + i)) p.2) (a + 4) u = gI h0 (a + 4) u := co1
    have ca2 : (∀ k d, k < i + 1 → D[k]? = some d → gL (setL h1 (a + 7) ((40 * P + i)) p.2) (a + 7) (40 * P + k) = d.2) ∧ ∀ u, (u < 40 * P ∨ 40 * P + D.length ≤ u) → gL (setL h1 (a + 7) ((40 * P + i)) p.2) (a + 7) u = gL h0 (a + 7) u := (cp_stL (by omega) hp ca1)
    have aa2 : gI (setL h1 (a + 7) ((40 * P + i)) p.2) a = gI h0 a := aa1
    generalize (setL h1 (a + 7) ((40 * P + i)) p.2) = h2 at m2 z2 dd2 da2 co2 ca2 aa2 ⊢
    refine Er_run 2 (pc' := 150) (ls' := [some (.ref a), some (.int x), some (.int y), some (.int w), some (.int (Int32.ofNat P)), some (.int (Int32.ofNat D.length)), some (.int ((Int32.ofNat i) + (1 : Int32)))]) (st' := []) rfl ?_
    rw [jx_s1]
    exact ih (i + 1) h2 (by omega) m2 (zz.trans z2) aa2 dd2 da2 co2 ca2
end REFJ
