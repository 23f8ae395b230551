/-- worked has gone on from h to g -/
def WX (h g : sm_H) (a : Nat) : Prop := FrL [a] [a + 16, a + 17, a + 18, a + 19, a + 20, a + 21, a + 22, a + 23, a + 24, a + 25] h g ∧ ∀ s, s ≠ 30 → s ≠ 31 → gI g a s = gI h a s
/-- what worked leaves: o is what the JOB makes, fo its OUTPUT -/
def WK (h g : sm_H) (a fo : Nat) (o : Option Jl) : Prop := FrL [a, a + 3] [a + 1, a + 2, a + 16, a + 17, a + 18, a + 19, a + 20, a + 21, a + 22, a + 23, a + 24, a + 25] h g ∧ (∀ s, s ≠ 30 → s ≠ 31 → gI g a s = gI h a s)
  ∧ (o = none → gI g (a + 3) = gI h (a + 3) ∧ gL g (a + 1) = gL h (a + 1) ∧ gL g (a + 2) = gL h (a + 2))
  ∧ ∀ l, o = some l → gI g (a + 3) fo = Int32.ofNat l.length ∧ (∀ f, f ≠ fo → gI g (a + 3) f = gI h (a + 3) f) ∧ (∀ i p, l[i]? = some p → gL g (a + 1) (300 * fo + i) = p.1 ∧ gL g (a + 2) (300 * fo + i) = p.2) ∧ ∀ u, (u < 300 * fo ∨ 300 * fo + 300 ≤ u) → gL g (a + 1) u = gL h (a + 1) u ∧ gL g (a + 2) u = gL h (a + 2) u
section REFY
variable {h h0 g g1 : sm_H} {a : Nat} {Q : sm_R → sm_H → Prop} {n c i j t r np made fo fa fb n1 n2 : Nat} {k v : Int64} {e em l T S' R0 inp : Jl} {p : Int64 × Int64} {u5 u6 u7 : Option Value} {pg : List (Int32 × Int64)} {pr : Nat → List (Int32 × Int64)} {ls : List Jl}
theorem WX.put {v : Int32} : WX h (setI h a 30 v) a := ⟨FrL.setI (by simp), fun s h1 h2 => gI_ne (by omega)⟩
theorem WX.mf (z : WX h g a) (c : MF g g1 a) : WX h g1 a := ⟨z.1.trans (c.1.mono (fun x hx => hx) (fun x hx => by simp at hx ⊢; omega)), fun s h1 h2 => (c.2 s h1 h2).trans (z.2 s h1 h2)⟩
theorem WX.fl (z : WX h g a) (c : FrL [] [a + 18, a + 19] g g1) : WX h g1 a := ⟨z.1.trans (c.mono (fun x hx => by cases hx) (fun x hx => by simp at hx ⊢; omega)), fun s h1 h2 => (by rw [c.gi (by simp)]; exact z.2 s h1 h2)⟩
theorem WX.wc (z : WX h g a) (c : WC g g1 a) : WX h g1 a := ⟨z.1.trans (c.1.mono (fun x hx => hx) (fun x hx => by simp at hx ⊢; omega)), fun s h1 h2 => (c.2 s h2).trans (z.2 s h1 h2)⟩
theorem WX.none (z : WX h g a) : WK h g a fo none := ⟨z.1.mono (fun x hx => by simp at hx ⊢; omega) (fun x hx => by simp at hx ⊢; omega), z.2, fun _ => ⟨z.1.gi (by simp), z.1.gl (by simp), z.1.gl (by simp)⟩, fun l hl => by cases hl⟩
theorem gL_cpe {q0 sp q1 dp m : Nat} : gL (sm_cpL h q0 sp q1 dp m) q1 = va_cpy (gL h q0) (gL h q1) sp dp m := if_pos rfl
theorem gL_cpn {q0 sp q1 dp m : Nat} (hc : c ≠ q1) : gL (sm_cpL h q0 sp q1 dp m) c = gL h c := if_neg hc
theorem FrL.cpL {I L : List Nat} {q0 sp q1 dp m : Nat} (hq : q1 ∈ L) : FrL I L h (sm_cpL h q0 sp q1 dp m) := ⟨rfl, rfl, rfl, rfl, rfl, fun _ _ => rfl, fun c hc => gL_cpn (fun e => hc (e ▸ hq))⟩
/-- the OUTPUT's RECORDS are laid down -/
theorem WK_cp (z : WX h g a) (hk : PK g (a + 20) (a + 21) l) (hl : l.length ≤ 300) : WK h (sm_cpL (sm_cpL (setI g (a + 3) fo (Int32.ofNat l.length)) (a + 20) 0 (a + 1) (300 * fo) l.length) (a + 21) 0 (a + 2) (300 * fo) l.length) a fo (some l) := by
  have e3 : gI (setI g (a + 3) fo (Int32.ofNat l.length)) (a + 3) fo = Int32.ofNat l.length := gI_eq
  have e3' : ∀ f, f ≠ fo → gI (setI g (a + 3) fo (Int32.ofNat l.length)) (a + 3) f = gI g (a + 3) f := fun f hf => gI_ne (by omega)
  have e0 : gI (setI g (a + 3) fo (Int32.ofNat l.length)) a = gI g a := mr_ncI (by omega)
  have eL : gL (setI g (a + 3) fo (Int32.ofNat l.length)) = gL g := rfl
  have f1 : FrL [a, a + 3] [a + 1, a + 2, a + 16, a + 17, a + 18, a + 19, a + 20, a + 21, a + 22, a + 23, a + 24, a + 25] h (setI g (a + 3) fo (Int32.ofNat l.length)) := (z.1.mono (fun x hx => by simp at hx ⊢; omega) (fun x hx => by simp at hx ⊢; omega)).trans (FrL.setI (by simp))
  generalize setI g (a + 3) fo (Int32.ofNat l.length) = g2 at e3 e3' e0 eL f1 ⊢
  have b1 : gL (sm_cpL g2 (a + 20) 0 (a + 1) (300 * fo) l.length) (a + 1) = va_cpy (gL g2 (a + 20)) (gL g2 (a + 1)) 0 (300 * fo) l.length := gL_cpe
  have b2 : ∀ c, c ≠ a + 1 → gL (sm_cpL g2 (a + 20) 0 (a + 1) (300 * fo) l.length) c = gL g2 c := fun c hc => gL_cpn hc
  have b3 : gI (sm_cpL g2 (a + 20) 0 (a + 1) (300 * fo) l.length) = gI g2 := rfl
  have f2 : FrL [a, a + 3] [a + 1, a + 2, a + 16, a + 17, a + 18, a + 19, a + 20, a + 21, a + 22, a + 23, a + 24, a + 25] h (sm_cpL g2 (a + 20) 0 (a + 1) (300 * fo) l.length) := f1.trans (FrL.cpL (by simp))
  generalize sm_cpL g2 (a + 20) 0 (a + 1) (300 * fo) l.length = g3 at b1 b2 b3 f2 ⊢
  have d1 : gL (sm_cpL g3 (a + 21) 0 (a + 2) (300 * fo) l.length) (a + 2) = va_cpy (gL g3 (a + 21)) (gL g3 (a + 2)) 0 (300 * fo) l.length := gL_cpe
  have d2 : ∀ c, c ≠ a + 2 → gL (sm_cpL g3 (a + 21) 0 (a + 2) (300 * fo) l.length) c = gL g3 c := fun c hc => gL_cpn hc
  have d3 : gI (sm_cpL g3 (a + 21) 0 (a + 2) (300 * fo) l.length) = gI g3 := rfl
  have f3 : FrL [a, a + 3] [a + 1, a + 2, a + 16, a + 17, a + 18, a + 19, a + 20, a + 21, a + 22, a + 23, a + 24, a + 25] h (sm_cpL g3 (a + 21) 0 (a + 2) (300 * fo) l.length) := f2.trans (FrL.cpL (by simp))
  generalize sm_cpL g3 (a + 21) 0 (a + 2) (300 * fo) l.length = g4 at d1 d2 d3 f3 ⊢
  have k1 : gL g4 (a + 1) = va_cpy (gL g (a + 20)) (gL g (a + 1)) 0 (300 * fo) l.length := by rw [d2 _ (by omega), b1, eL]
  have k2 : gL g4 (a + 2) = va_cpy (gL g (a + 21)) (gL g (a + 2)) 0 (300 * fo) l.length := by rw [d1, b2 _ (by omega), b2 _ (by omega), eL]
  refine ⟨f3, fun s h1 h2 => by rw [d3, b3, e0]; exact z.2 s h1 h2, fun e => (by cases e), fun l' hl' => ?_⟩
  cases hl'
  refine ⟨by rw [d3, b3]; exact e3, fun f hf => by rw [d3, b3, e3' f hf, z.1.gi (by simp)], fun i p hi => ?_, fun u hu => ?_⟩
  · have hlt : i < l.length := (List.getElem?_eq_some_iff.1 hi).1
    obtain ⟨q1, q2⟩ := hk i p hi
    rw [k1, k2]
    constructor
    · show (if 300 * fo ≤ 300 * fo + i ∧ 300 * fo + i < 300 * fo + l.length then gL g (a + 20) (0 + (300 * fo + i - 300 * fo)) else _) = _
      rw [if_pos (by omega), show 0 + (300 * fo + i - 300 * fo) = i by omega]; exact q1
    · show (if 300 * fo ≤ 300 * fo + i ∧ 300 * fo + i < 300 * fo + l.length then gL g (a + 21) (0 + (300 * fo + i - 300 * fo)) else _) = _
      rw [if_pos (by omega), show 0 + (300 * fo + i - 300 * fo) = i by omega]; exact q2
  · rw [k1, k2]
    constructor
    · show (if 300 * fo ≤ u ∧ u < 300 * fo + l.length then _ else gL g (a + 1) u) = _
      rw [if_neg (by omega), z.1.gl (by simp)]
    · show (if 300 * fo ≤ u ∧ u < 300 * fo + l.length then _ else gL g (a + 2) u) = _
      rw [if_neg (by omega), z.1.gl (by simp)]
theorem lb_286y (m0 : mrO g a) (ou0 : gI g (a + 11) j = Int32.ofNat fo) (hj : j < 8) (hfo : fo < 16) (hc : made ≤ 300) (hq : Q (.inl (some (.int 1))) (sm_cpL (sm_cpL (setI g (a + 3) fo (Int32.ofNat made)) (a + 20) 0 (a + 1) (300 * fo) made) (a + 21) 0 (a + 2) (300 * fo) made)) : Ev 164 286 [some (.ref a), some (.int (Int32.ofNat j)), some (.int (Int32.ofNat n)), some (.int (Int32.ofNat made)), some (.int (Int32.ofNat r)), u5, u6, u7] [] g Q := by
  refine lb_286 m0 ou0 hj hfo hc ?_
  rw [mr_300, jx_cn (show 300 * fo < 2147483648 by omega), jx_cn (show made < 2147483648 by omega), show (0 : Int32).toNatClampNeg = 0 from rfl]
  exact hq
set_option maxRecDepth 10000 in
theorem wk_1 (m0 : mrO g a) (hj : j < 8) (fi0 : gI g (a + 9) j = Int32.ofNat fa) (hfa : fa < 16) (sa0 : gI g (a + 3) fa = Int32.ofNat n1) (se0 : gI g (a + 10) j = (-1 : Int32)) (kk : Ev 164 47 [some (.ref a), some (.int (Int32.ofNat j)), some (.int (Int32.ofNat n1)), some (.int ((0 : Int32))), some (.int (Int32.ofNat (16 * 0))), none, none, none] [] (setI g a 30 0) Q) : Ev 164 0 [some (.ref a), some (.int (Int32.ofNat j)), none, none, none, none, none, none] [] g Q := by
  refine Er_run 1 (pc' := 1) (ls' := [some (.ref a), some (.int (Int32.ofNat j)), none, none, none, none, none, none]) (st' := [.ref a]) rfl ?_
  refine Er_getR (x := a + 3) rfl m0.1 (m0.2 (2, 3, 0, 16) (by decide)).1 ?_
  refine Er_run 1 (pc' := 5) (ls' := [some (.ref a), some (.int (Int32.ofNat j)), none, none, none, none, none, none]) (st' := [.ref a, .ref (a + 3)]) rfl ?_
  refine Er_getR (x := a + 9) rfl m0.1 (m0.2 (8, 9, 0, 8) (by decide)).1 ?_
  refine Er_run 1 (pc' := 9) (ls' := [some (.ref a), some (.int (Int32.ofNat j)), none, none, none, none, none, none]) (st' := [.int (Int32.ofNat j), .ref (a + 9), .ref (a + 3)]) rfl ?_
  refine Er_iald (v := Int32.ofNat fa) rfl (m0.2 (8, 9, 0, 8) (by decide)).2.1 (mr_in (i := j) (k := 8) rfl (by omega) (by decide) (m0.2 (8, 9, 0, 8) (by decide)).2.2) (mr_atI rfl (by omega) fi0) ?_
  refine Er_iald (v := Int32.ofNat n1) rfl (m0.2 (2, 3, 0, 16) (by decide)).2.1 (mr_in (i := fa) (k := 16) rfl (by omega) (by decide) (m0.2 (2, 3, 0, 16) (by decide)).2.2) (mr_atI rfl (by omega) sa0) ?_
  refine Er_run 1 (pc' := 12) (ls' := [some (.ref a), some (.int (Int32.ofNat j)), none, none, none, none, none, none]) (st' := [.ref a, .int (Int32.ofNat n1)]) rfl ?_
  refine Er_getR (x := a + 10) rfl m0.1 (m0.2 (9, 10, 0, 8) (by decide)).1 ?_
  refine Er_run 1 (pc' := 16) (ls' := [some (.ref a), some (.int (Int32.ofNat j)), none, none, none, none, none, none]) (st' := [.int (Int32.ofNat j), .ref (a + 10), .int (Int32.ofNat n1)]) rfl ?_
  refine Er_iald (v := (-1 : Int32)) rfl (m0.2 (9, 10, 0, 8) (by decide)).2.1 (mr_in (i := j) (k := 8) rfl (by omega) (by decide) (m0.2 (9, 10, 0, 8) (by decide)).2.2) (mr_atI rfl (by omega) se0) ?_
  refine Er_run 1 (pc' := bif decide (0 ≤ ((-1 : Int32))) then 24 else 20) (ls' := [some (.ref a), some (.int (Int32.ofNat j)), none, none, none, none, none, none]) (st' := [.int (Int32.ofNat n1)]) rfl ?_
  refine Er_pc (t := 20) (show (bif decide (0 ≤ ((-1 : Int32))) then 24 else 20) = 20 from by rw [show (decide (0 ≤ ((-1 : Int32)))) = false from by decide]; rfl) ?_
  refine Er_run 8 (pc' := 41) (ls' := [some (.ref a), some (.int (Int32.ofNat j)), some (.int ((Int32.ofNat n1) + ((0 : Int32)))), some (.int ((0 : Int32))), none, none, none, none]) (st' := [.int ((0 : Int32)), .ref a]) rfl ?_
  refine Er_putI rfl m0.1 ?_
  refine Er_run 2 (pc' := 47) (ls' := [some (.ref a), some (.int (Int32.ofNat j)), some (.int ((Int32.ofNat n1) + ((0 : Int32)))), some (.int ((0 : Int32))), some (.int ((0 : Int32))), none, none, none]) (st' := []) rfl ?_
  rw [Int32.add_zero]
  exact kk
set_option maxRecDepth 10000 in
theorem wk_2 (m0 : mrO g a) (hj : j < 8) (fi0 : gI g (a + 9) j = Int32.ofNat fa) (hfa : fa < 16) (sa0 : gI g (a + 3) fa = Int32.ofNat n1) (se0 : gI g (a + 10) j = Int32.ofNat fb) (hfb : fb < 16) (sb0 : gI g (a + 3) fb = Int32.ofNat n2) (kk : Ev 164 47 [some (.ref a), some (.int (Int32.ofNat j)), some (.int (Int32.ofNat (n1 + n2))), some (.int ((0 : Int32))), some (.int (Int32.ofNat (16 * 0))), none, none, none] [] (setI g a 30 0) Q) : Ev 164 0 [some (.ref a), some (.int (Int32.ofNat j)), none, none, none, none, none, none] [] g Q := by
  refine Er_run 1 (pc' := 1) (ls' := [some (.ref a), some (.int (Int32.ofNat j)), none, none, none, none, none, none]) (st' := [.ref a]) rfl ?_
  refine Er_getR (x := a + 3) rfl m0.1 (m0.2 (2, 3, 0, 16) (by decide)).1 ?_
  refine Er_run 1 (pc' := 5) (ls' := [some (.ref a), some (.int (Int32.ofNat j)), none, none, none, none, none, none]) (st' := [.ref a, .ref (a + 3)]) rfl ?_
  refine Er_getR (x := a + 9) rfl m0.1 (m0.2 (8, 9, 0, 8) (by decide)).1 ?_
  refine Er_run 1 (pc' := 9) (ls' := [some (.ref a), some (.int (Int32.ofNat j)), none, none, none, none, none, none]) (st' := [.int (Int32.ofNat j), .ref (a + 9), .ref (a + 3)]) rfl ?_
  refine Er_iald (v := Int32.ofNat fa) rfl (m0.2 (8, 9, 0, 8) (by decide)).2.1 (mr_in (i := j) (k := 8) rfl (by omega) (by decide) (m0.2 (8, 9, 0, 8) (by decide)).2.2) (mr_atI rfl (by omega) fi0) ?_
  refine Er_iald (v := Int32.ofNat n1) rfl (m0.2 (2, 3, 0, 16) (by decide)).2.1 (mr_in (i := fa) (k := 16) rfl (by omega) (by decide) (m0.2 (2, 3, 0, 16) (by decide)).2.2) (mr_atI rfl (by omega) sa0) ?_
  refine Er_run 1 (pc' := 12) (ls' := [some (.ref a), some (.int (Int32.ofNat j)), none, none, none, none, none, none]) (st' := [.ref a, .int (Int32.ofNat n1)]) rfl ?_
  refine Er_getR (x := a + 10) rfl m0.1 (m0.2 (9, 10, 0, 8) (by decide)).1 ?_
  refine Er_run 1 (pc' := 16) (ls' := [some (.ref a), some (.int (Int32.ofNat j)), none, none, none, none, none, none]) (st' := [.int (Int32.ofNat j), .ref (a + 10), .int (Int32.ofNat n1)]) rfl ?_
  refine Er_iald (v := Int32.ofNat fb) rfl (m0.2 (9, 10, 0, 8) (by decide)).2.1 (mr_in (i := j) (k := 8) rfl (by omega) (by decide) (m0.2 (9, 10, 0, 8) (by decide)).2.2) (mr_atI rfl (by omega) se0) ?_
  refine Er_run 1 (pc' := bif decide (0 ≤ (Int32.ofNat fb)) then 24 else 20) (ls' := [some (.ref a), some (.int (Int32.ofNat j)), none, none, none, none, none, none]) (st' := [.int (Int32.ofNat n1)]) rfl ?_
  refine Er_pc (t := 24) (show (bif decide (0 ≤ (Int32.ofNat fb)) then 24 else 20) = 24 from by rw [show (decide (0 ≤ (Int32.ofNat fb))) = true from by rw [show (0 : Int32) = Int32.ofNat 0 from rfl, jx_le (by omega) (by omega)]; exact decide_eq_true (by omega)]; rfl) ?_
  refine Er_run 1 (pc' := 25) (ls' := [some (.ref a), some (.int (Int32.ofNat j)), none, none, none, none, none, none]) (st' := [.ref a, .int (Int32.ofNat n1)]) rfl ?_
  refine Er_getR (x := a + 3) rfl m0.1 (m0.2 (2, 3, 0, 16) (by decide)).1 ?_
  refine Er_run 1 (pc' := 29) (ls' := [some (.ref a), some (.int (Int32.ofNat j)), none, none, none, none, none, none]) (st' := [.ref a, .ref (a + 3), .int (Int32.ofNat n1)]) rfl ?_
  refine Er_getR (x := a + 10) rfl m0.1 (m0.2 (9, 10, 0, 8) (by decide)).1 ?_
  refine Er_run 1 (pc' := 33) (ls' := [some (.ref a), some (.int (Int32.ofNat j)), none, none, none, none, none, none]) (st' := [.int (Int32.ofNat j), .ref (a + 10), .ref (a + 3), .int (Int32.ofNat n1)]) rfl ?_
  refine Er_iald (v := Int32.ofNat fb) rfl (m0.2 (9, 10, 0, 8) (by decide)).2.1 (mr_in (i := j) (k := 8) rfl (by omega) (by decide) (m0.2 (9, 10, 0, 8) (by decide)).2.2) (mr_atI rfl (by omega) se0) ?_
  refine Er_iald (v := Int32.ofNat n2) rfl (m0.2 (2, 3, 0, 16) (by decide)).2.1 (mr_in (i := fb) (k := 16) rfl (by omega) (by decide) (m0.2 (2, 3, 0, 16) (by decide)).2.2) (mr_atI rfl (by omega) sb0) ?_
  refine Er_run 6 (pc' := 41) (ls' := [some (.ref a), some (.int (Int32.ofNat j)), some (.int ((Int32.ofNat n1) + (Int32.ofNat n2))), some (.int ((0 : Int32))), none, none, none, none]) (st' := [.int ((0 : Int32)), .ref a]) rfl ?_
  refine Er_putI rfl m0.1 ?_
  refine Er_run 2 (pc' := 47) (ls' := [some (.ref a), some (.int (Int32.ofNat j)), some (.int ((Int32.ofNat n1) + (Int32.ofNat n2))), some (.int ((0 : Int32))), some (.int ((0 : Int32))), none, none, none]) (st' := []) rfl ?_
  rw [← Int32.ofNat_add]
  exact kk
theorem me_sum_fl : me_sum ls = ls.flatten.length := (List.length_flatten).symm
/-- worked, behind the first step -/
theorem wk_47 (m00 : mrO h a) (hj : j < 8) (hir : IR h a j fa n1 inp) (hp0 : PI2 h a (3 * j) (pr 0)) (hp1 : PI2 h a (3 * j + 1) (pr 1)) (hp2 : PI2 h a (3 * j + 2) (pr 2)) (hn : n = inp.length) (hti : n ≤ 600) (pa00 : gI h (a + 12) j = Int32.ofNat np) (h1 : 1 ≤ np) (h6 : np ≤ 6) (ou00 : gI h (a + 11) j = Int32.ofNat fo) (hfo : fo < 16) (hq : ∀ g, WK h g a fo (me_out pr np inp) → Q (.inl (some (.int (if (me_out pr np inp).isSome = true then 1 else 0)))) g) : Ev 164 47 [some (.ref a), some (.int (Int32.ofNat j)), some (.int (Int32.ofNat n)), some (.int ((0 : Int32))), some (.int (Int32.ofNat (16 * 0))), none, none, none] [] (setI h a 30 0) Q := by
  have z0 : WX h (setI h a 30 0) a := WX.put
  have w0 : PW (setI h a 30 0) a ([] : List Jl).flatten := ⟨gI_eq, fun u p e => by simp at e⟩
  generalize setI h a 30 0 = h0 at z0 w0 ⊢
  have m0 := z0.1.mrO m00
  have hFail : me_out pr np inp = none → ∀ g, WX h g a → Q (.inl (some (.int 0))) g := fun e g z => by
    have := hq g (by rw [e]; exact z.none)
    rw [e] at this; exact this
  refine l_wA (h0 := h0) m0 hj (IR_fr z0.1 (by simp) (by simp) (by simp) (by simp) (by simp) hir) (PI2_fr z0.1 (by simp) (by simp) (by simp) hp0) (PI2_fr z0.1 (by simp) (by simp) (by simp) hp1) hn hti (fun e g z => hFail (by rw [me_out, e]; rfl) g (z0.mf z)) (fun ls g e z w hl => ?_) (me_ns inp) 0 [] h0 (by omega) rfl (MF.refl h0) w0 (Nat.zero_le _)
  have z1 := z0.mf z
  have m1 := z1.1.mrO m00
  have hout : me_out pr np inp = (me_par pr np ls).bind (fun os => if me_sum os ≤ 300 then some os.flatten else none) := by rw [me_out, e]; rfl
  by_cases hc : ls.flatten.length ≤ 1000
  · obtain ⟨g1, r1, fr1, pk1⟩ := s_Ref_sort (h := g) (kq := a + 18) (vq := a + 19) (l := ls.flatten) (n := ls.flatten.length) (len := 4000) (by omega) (m1.2 (22, 18, 1, 4000) (by decide)).2.1 (m1.2 (23, 19, 1, 4000) (by decide)).2.1 (m1.2 (22, 18, 1, 4000) (by decide)).2.2 (m1.2 (23, 19, 1, 4000) (by decide)).2.2 rfl (by omega) (by omega) hc (fun u p hu => w.2 u p hu (by have := (List.getElem?_eq_some_iff.1 hu).1; omega))
    have z2 := z1.fl fr1
    have m2 := z2.1.mrO m00
    have hpar : me_par pr np ls = me_seq (me_red pr np ls) np := by rw [me_par, if_pos (by rw [me_sum_fl]; exact hc)]
    rw [hpar] at hout
    refine lb_80 m1 w.1 hc r1 ?_
    refine l_wB (h0 := g1) (pr := pr) (ls := ls) hj m2 (PI2_fr z2.1 (by simp) (by simp) (by simp) hp2) hc (by rw [fr1.gi (by simp)]; exact w.1) pk1 (by rw [z2.1.gi (by simp)]; exact pa00) h1 h6 (fun e0 g2 z3 => hFail (by rw [hout, e0]; rfl) g2 (z2.wc z3)) (fun os g2 v5 v6 v7 e0 z3 k3 l3 => ?_) np 0 [] g1 none none none (by omega) rfl (WC.refl g1) (fun u d hu => by simp at hu) (Nat.zero_le _)
    have z4 := z2.wc z3
    have m4 := z4.1.mrO m00
    rw [e0] at hout
    by_cases h3 : os.flatten.length ≤ 300
    · have ho : me_out pr np inp = some os.flatten := by rw [hout]; show (if me_sum os ≤ 300 then some os.flatten else none) = _; rw [if_pos (by rw [me_sum_fl]; exact h3)]
      refine lb_286y m4 (by rw [z4.1.gi (by simp)]; exact ou00) hj hfo h3 ?_
      have := hq _ (by rw [ho]; exact WK_cp (fo := fo) z4 k3 h3)
      rw [ho] at this
      exact this
    · have ho : me_out pr np inp = none := by rw [hout]; show (if me_sum os ≤ 300 then some os.flatten else none) = _; rw [if_neg (by rw [me_sum_fl]; exact h3)]
      exact lb_286x (by omega) l3 (hFail ho g2 z4)
  · have hpar : me_par pr np ls = none := by rw [me_par, if_neg (by rw [me_sum_fl]; exact hc)]
    exact lb_80x m1 w.1 (by omega) (by omega) (hFail (by rw [hout, hpar]; rfl) g z1)
/-- what is held but FILES, whether THE RUN goes on, and RUNS is as it was -/
theorem RM_fl {I L : List Nat} {G : Nat → Nat → Int32} {PR : Nat → Nat → List (Int32 × Int64)} {F F' : Nat → Jl} {D : List (Int32 × Int64)} {b b' : Bool} {n n' : Nat} (z : FrL I L h g) (hI : ∀ c, c ∈ [4, 5, 6, 9, 10, 11, 12, 14] → a + c ∉ I) (hL : ∀ c, c ∈ [7, 8] → a + c ∉ L) (s15 : gI g a 15 = gI h a 15) (s19 : gI g a 19 = (if b' then 1 else 0)) (s16 : gI g a 16 = Int32.ofNat n') (hF : ∀ f, f < 16 → gI g (a + 3) f = Int32.ofNat (F' f).length ∧ (F' f).length ≤ 300 ∧ ∀ i p, (F' f)[i]? = some p → gL g (a + 1) (300 * f + i) = p.1 ∧ gL g (a + 2) (300 * f + i) = p.2) (hp : RM h a G PR F D b n) : RM g a G PR F' D b' n' := by
  obtain ⟨a1, a2, a3, a4, a5, a6, a7⟩ := hp
  have e : ∀ c, c ∈ [4, 5, 6, 9, 10, 11, 12, 14] → gI g (a + c) = gI h (a + c) := fun c hc => z.gi (hI c hc)
  have e2 : ∀ c, c ∈ [7, 8] → gL g (a + c) = gL h (a + c) := fun c hc => z.gl (hL c hc)
  refine ⟨z.mrO a1, hF, fun j i hj hi => ?_, ⟨by rw [s15]; exact a4.1, a4.2.1, fun k p hk => ?_⟩, fun j hj => ?_, s19, s16⟩
  · rw [e 5 (by decide), e 4 (by decide), e2 7 (by decide)]; exact a3 j i hj hi
  · rw [e 6 (by decide), e2 8 (by decide)]; exact a4.2.2 k p hk
  · rw [e 14 (by decide), e 9 (by decide), e 10 (by decide), e 11 (by decide), e 12 (by decide)]; exact a5 j hj
theorem RM_PI {G : Nat → Nat → Int32} {PR : Nat → Nat → List (Int32 × Int64)} {F : Nat → Jl} {D : List (Int32 × Int64)} {b : Bool} {n : Nat} (hj : j < 8) (hi : i < 3) (hq : jq_ok (PR j i)) (hp : RM h a G PR F D b n) : PI2 h a (3 * j + i) (PR j i) := ⟨hq, (hp.2.2.1 j i hj hi).2.1, by omega, (hp.2.2.1 j i hj hi).1, (hp.2.2.1 j i hj hi).2.2⟩
/-- worked -/
theorem s_Ref_worked {G : Nat → Nat → Int32} {PR : Nat → Nat → List (Int32 × Int64)} {F : Nat → Jl} {D : List (Int32 × Int64)} {b : Bool} {n : Nat} (hj : j < 8) (hmd : G j 1 = 1) (hg : JG G PR) (hp : RM h a G PR F D b n) : ∃ h', Run 164 [.ref a, .int (Int32.ofNat j)] h (.inl (some (.int (if (me_out (PR j) (ji (G j 5)) (jb_in G F j)).isSome = true then 1 else 0)))) h' ∧ RM h' a G PR (match me_out (PR j) (ji (G j 5)) (jb_in G F j) with | none => F | some o => jx_up F (ji (G j 4)) o) D b n ∧ FrL [a, a + 3] [a + 1, a + 2, a + 16, a + 17, a + 18, a + 19, a + 20, a + 21, a + 22, a + 23, a + 24, a + 25] h h' ∧ ∀ s, s ≠ 30 → s ≠ 31 → gI h' a s = gI h a s := by
  obtain ⟨⟨⟨fa, hfa, ea⟩, hb⟩, ⟨fo, hfo, efo⟩, hn5, hn1, hn6, hok⟩ := hg j hj hmd
  obtain ⟨q1, q2, q3, q4⟩ := (hp.2.2.2.2.1 j hj).2.2 hmd
  have hfi : gI h (a + 9) j = Int32.ofNat fa := by rw [q1, ea]
  have hpa : gI h (a + 12) j = Int32.ofNat (ji (G j 5)) := by rw [q4]; exact hn5
  have hou : gI h (a + 11) j = Int32.ofNat fo := by rw [q3, efo]
  have hfo' : ji (G j 4) = fo := by rw [efo, ji_of (by omega)]
  have hFa := hp.2.1 fa hfa
  have ein : jb_in G F j = F fa ++ (if G j 3 = -1 then [] else F (G j 3).toNatClampNeg) := by rw [jb_in, ea, jx_cn (by omega)]
  have hlen : (F fa ++ (if G j 3 = -1 then [] else F (G j 3).toNatClampNeg)).length = (jb_in G F j).length := by rw [ein]
  have hfirst : ∀ i p, i < (F fa).length → (jb_in G F j)[i]? = some p → (F fa)[i]? = some p := fun i p hi e => by rw [ein, List.getElem?_append_left hi] at e; exact e
  have hend : ∀ g, WK h g a fo (me_out (PR j) (ji (G j 5)) (jb_in G F j)) → RM g a G PR (match me_out (PR j) (ji (G j 5)) (jb_in G F j) with | none => F | some o => jx_up F (ji (G j 4)) o) D b n := by
    intro g w
    cases ho : me_out (PR j) (ji (G j 5)) (jb_in G F j) with
    | none =>
      rw [ho] at w
      obtain ⟨z1, z2, z3, z4⟩ := w
      obtain ⟨y1, y2, y3⟩ := z3 rfl
      refine RM_fl z1 (fun c hc => by simp at hc ⊢; omega) (fun c hc => by simp at hc ⊢; omega) (z2 15 (by omega) (by omega)) ((z2 19 (by omega) (by omega)).trans hp.2.2.2.2.2.1) ((z2 16 (by omega) (by omega)).trans hp.2.2.2.2.2.2) (fun f hf => ?_) hp
      show gI g (a + 3) f = Int32.ofNat (F f).length ∧ _
      rw [y1, y2, y3]; exact hp.2.1 f hf
    | some l =>
      have hl3 := me_out_len ho
      rw [ho] at w
      obtain ⟨z1, z2, z3, z4⟩ := w
      obtain ⟨y1, y2, y3, y4⟩ := z4 l rfl
      refine RM_fl z1 (fun c hc => by simp at hc ⊢; omega) (fun c hc => by simp at hc ⊢; omega) (z2 15 (by omega) (by omega)) ((z2 19 (by omega) (by omega)).trans hp.2.2.2.2.2.1) ((z2 16 (by omega) (by omega)).trans hp.2.2.2.2.2.2) (fun f hf => ?_) hp
      show gI g (a + 3) f = Int32.ofNat (jx_up F (ji (G j 4)) l f).length ∧ (jx_up F (ji (G j 4)) l f).length ≤ 300 ∧ ∀ i p, (jx_up F (ji (G j 4)) l f)[i]? = some p → _
      rw [hfo']
      by_cases e : f = fo
      · subst e
        rw [up_eq]; exact ⟨y1, hl3, y3⟩
      · rw [up_ne _ _ e, y2 f e]
        obtain ⟨b1, b2, b3⟩ := hp.2.1 f hf
        refine ⟨b1, b2, fun i p hi => ?_⟩
        have hil : i < (F f).length := (List.getElem?_eq_some_iff.1 hi).1
        have hu : 300 * f + i < 300 * fo ∨ 300 * fo + 300 ≤ 300 * f + i := by omega
        rw [(y4 _ hu).1, (y4 _ hu).2]; exact b3 i p hi
  have hx : Ev 164 0 (sm_pad (sm_ent [.ref a, .int (Int32.ofNat j)]) (sm_prog.2.1 164)) [] h (fun r h1 => r = .inl (some (.int (if (me_out (PR j) (ji (G j 5)) (jb_in G F j)).isSome = true then 1 else 0))) ∧ WK h h1 a fo (me_out (PR j) (ji (G j 5)) (jb_in G F j))) := by
    show Ev 164 0 [some (.ref a), some (.int (Int32.ofNat j)), none, none, none, none, none, none] [] h _
    rcases hb with eb | ⟨fb, hfb, eb⟩
    · rw [if_pos eb, List.append_nil] at ein hlen
      have hir : IR h a j fa (F fa).length (jb_in G F j) := ⟨hfi, hfa, hFa.1, hFa.2.1, fun i p hi e => hFa.2.2 i p (hfirst i p hi e), fun hlt => by rw [ein] at hlt; exact absurd hlt (Nat.lt_irrefl _)⟩
      refine wk_1 hp.1 hj hfi hfa hFa.1 (by rw [q2, eb]) ?_
      exact wk_47 hp.1 hj hir (RM_PI (i := 0) hj (by omega) (hok 0 (by omega)) hp) (RM_PI hj (by omega) (hok 1 (by omega)) hp) (RM_PI hj (by omega) (hok 2 (by omega)) hp) hlen (by omega) hpa hn1 hn6 hou hfo (fun g w => ⟨rfl, w⟩)
    · have hFb := hp.2.1 fb hfb
      have e31 : ¬ G j 3 = -1 := by rw [eb]; exact jx_m1 (by omega)
      rw [if_neg e31, eb, jx_cn (by omega)] at ein hlen
      have hir : IR h a j fa (F fa).length (jb_in G F j) := by
        refine ⟨hfi, hfa, hFa.1, hFa.2.1, fun i p hi e => hFa.2.2 i p (hfirst i p hi e), fun hlt => ⟨fb, hfb, by rw [q2, eb], by rw [← hlen, List.length_append]; omega, fun i p hi e => ?_⟩⟩
        rw [ein, List.getElem?_append_right hi] at e
        exact hFb.2.2 _ p e
      rw [List.length_append] at hlen
      refine wk_2 hp.1 hj hfi hfa hFa.1 (by rw [q2, eb]) hfb hFb.1 ?_
      exact wk_47 hp.1 hj hir (RM_PI (i := 0) hj (by omega) (hok 0 (by omega)) hp) (RM_PI hj (by omega) (hok 1 (by omega)) hp) (RM_PI hj (by omega) (hok 2 (by omega)) hp) hlen (by omega) hpa hn1 hn6 hou hfo (fun g w => ⟨rfl, w⟩)
  obtain ⟨r, h', hr, e, hq⟩ := Run_of (Nat.le_of_ble_eq_true rfl) hx
  subst e
  exact ⟨h', hr, hend h' hq, hq.1, hq.2.1⟩
end REFY
