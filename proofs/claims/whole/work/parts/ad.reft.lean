/-- COMBINE KEY by KEY has gone on from h to g -/
def GC (h g : sm_H) (a : Nat) : Prop := FrL [a] [a + 18, a + 19, a + 22, a + 23, a + 24, a + 25] h g ∧ ∀ s, s ≠ 30 → s ≠ 31 → gI g a s = gI h a s
/-- mapped has gone on from h to g -/
def MF (h g : sm_H) (a : Nat) : Prop := FrL [a] [a + 16, a + 17, a + 18, a + 19, a + 22, a + 23, a + 24, a + 25] h g ∧ ∀ s, s ≠ 30 → s ≠ 31 → gI g a s = gI h a s
section REFT
variable {h h0 g g1 : sm_H} {a : Nat} {Q : sm_R → sm_H → Prop} {n c i j tt ff fa n1 : Nat} {k v : Int64} {e em l T S' inp : Jl} {p : Int64 × Int64} {u6 u7 : Option Value} {pg : List (Int32 × Int64)}
theorem GC.refl (h : sm_H) : GC h h a := ⟨FrL.refl h, fun _ _ _ => rfl⟩
theorem GC.cp (z : GC h g a) (c : CP g g1 a) : GC h g1 a := ⟨z.1.trans (c.1.mono (fun x hx => hx) (fun x hx => by simp at hx ⊢; omega)), fun s h1 h2 => (c.2 s h2).trans (z.2 s h1 h2)⟩
theorem GC.pc (z : GC h g a) (c : PC g g1 a) : GC h g1 a := ⟨z.1.trans (c.1.mono (fun x hx => hx) (fun x hx => by simp at hx ⊢; omega)), fun s h1 h2 => (c.2 s h1).trans (z.2 s h1 h2)⟩
theorem MF.mc (z : MF h g a) (c : MC g g1 a) : MF h g1 a := ⟨z.1.trans (c.1.mono (fun x hx => hx) (fun x hx => by simp at hx ⊢; omega)), fun s h1 h2 => (c.2 s h2).trans (z.2 s h1 h2)⟩
theorem MF.gc (z : MF h g a) (c : GC g g1 a) : MF h g1 a := ⟨z.1.trans (c.1.mono (fun x hx => hx) (fun x hx => by simp at hx ⊢; omega)), fun s h1 h2 => (c.2 s h1 h2).trans (z.2 s h1 h2)⟩
theorem MF.pc (z : MF h g a) (c : PC g g1 a) : MF h g1 a := ⟨z.1.trans (c.1.mono (fun x hx => hx) (fun x hx => by simp at hx ⊢; omega)), fun s h1 h2 => (c.2 s h1).trans (z.2 s h1 h2)⟩
theorem MF.fl (z : MF h g a) (c : FrL [] [a + 16, a + 17] g g1) : MF h g1 a := ⟨z.1.trans (c.mono (fun x hx => by cases hx) (fun x hx => by simp at hx ⊢; omega)), fun s h1 h2 => (by rw [c.gi (by simp)]; exact z.2 s h1 h2)⟩
theorem MF.refl (h : sm_H) : MF h h a := ⟨FrL.refl h, fun _ _ _ => rfl⟩
theorem PW_fr {I L : List Nat} (z : FrL I L h g) (h30 : gI g a 30 = gI h a 30) (h18 : a + 18 ∉ L) (h19 : a + 19 ∉ L) (w : PW h a T) : PW g a T := by
  rw [PW, h30, z.gl h18, z.gl h19]; exact w

set_option maxRecDepth 10000 in
theorem lq_223e (hi : n ≤ i) (hi2 : i ≤ 200) (hq : Q (.inl (some (.int 1))) g) : Ev 162 223 [some (.ref a), some (.int (Int32.ofNat j)), some (.int (Int32.ofNat ff)), some (.int (Int32.ofNat tt)), some (.int (Int32.ofNat n)), some (.int (Int32.ofNat i)), u6, u7] [] g Q := by
  refine Er_run 3 (pc' := bif decide ((Int32.ofNat n) ≤ (Int32.ofNat i)) then 339 else 230) (ls' := [some (.ref a), some (.int (Int32.ofNat j)), some (.int (Int32.ofNat ff)), some (.int (Int32.ofNat tt)), some (.int (Int32.ofNat n)), some (.int (Int32.ofNat i)), u6, u7]) (st' := []) rfl ?_
  refine Er_pc (t := 339) (show (bif decide ((Int32.ofNat n) ≤ (Int32.ofNat i)) then 339 else 230) = 339 from by rw [show (decide ((Int32.ofNat n) ≤ (Int32.ofNat i))) = true from by rw [jx_le (by omega) (by omega)]; exact decide_eq_true (by omega)]; rfl) ?_
  refine Er_run 1 (pc' := 340) (ls' := [some (.ref a), some (.int (Int32.ofNat j)), some (.int (Int32.ofNat ff)), some (.int (Int32.ofNat tt)), some (.int (Int32.ofNat n)), some (.int (Int32.ofNat i)), u6, u7]) (st' := [.int ((1 : Int32))]) rfl ?_
  exact Er_fin rfl rfl hq
set_option maxRecDepth 10000 in
theorem lq_223 (hi : i < n) (hi2 : n ≤ 200) (kk : Ev 162 234 [some (.ref a), some (.int (Int32.ofNat j)), some (.int (Int32.ofNat ff)), some (.int (Int32.ofNat tt)), some (.int (Int32.ofNat n)), some (.int (Int32.ofNat i)), some (.int (Int32.ofNat i)), u7] [] g Q) : Ev 162 223 [some (.ref a), some (.int (Int32.ofNat j)), some (.int (Int32.ofNat ff)), some (.int (Int32.ofNat tt)), some (.int (Int32.ofNat n)), some (.int (Int32.ofNat i)), u6, u7] [] g Q := by
  refine Er_run 3 (pc' := bif decide ((Int32.ofNat n) ≤ (Int32.ofNat i)) then 339 else 230) (ls' := [some (.ref a), some (.int (Int32.ofNat j)), some (.int (Int32.ofNat ff)), some (.int (Int32.ofNat tt)), some (.int (Int32.ofNat n)), some (.int (Int32.ofNat i)), u6, u7]) (st' := []) rfl ?_
  refine Er_pc (t := 230) (show (bif decide ((Int32.ofNat n) ≤ (Int32.ofNat i)) then 339 else 230) = 230 from by rw [show (decide ((Int32.ofNat n) ≤ (Int32.ofNat i))) = false from by rw [jx_le (by omega) (by omega)]; exact decide_eq_false (by omega)]; rfl) ?_
  refine Er_run 2 (pc' := 234) (ls' := [some (.ref a), some (.int (Int32.ofNat j)), some (.int (Int32.ofNat ff)), some (.int (Int32.ofNat tt)), some (.int (Int32.ofNat n)), some (.int (Int32.ofNat i)), some (.int (Int32.ofNat i)), u7]) (st' := []) rfl ?_
  exact kk
set_option maxRecDepth 10000 in
theorem lq_c0 (m0 : mrO g a) (sk0 : gL g (a + 16) i = k) (hi : i < 200) (hc : Run 160 [.ref a, .int ((3 : Int32) * Int32.ofNat j + 1), .int 0, .int 1, .long k, .ref (a + 17), .int (Int32.ofNat i), .int (Int32.ofNat c)] g (.inl (some (.int 0))) g1) (hq : Q (.inl (some (.int 0))) g1) : Ev 162 265 [some (.ref a), some (.int (Int32.ofNat j)), some (.int (Int32.ofNat ff)), some (.int (Int32.ofNat tt)), some (.int (Int32.ofNat n)), some (.int (Int32.ofNat i)), some (.int (Int32.ofNat c)), u7] [] g Q := by
  refine Er_run 9 (pc' := 274) (ls' := [some (.ref a), some (.int (Int32.ofNat j)), some (.int (Int32.ofNat ff)), some (.int (Int32.ofNat tt)), some (.int (Int32.ofNat n)), some (.int (Int32.ofNat i)), some (.int (Int32.ofNat c)), u7]) (st' := [.ref a, .int ((1 : Int32)), .int ((0 : Int32)), .int ((((3 : Int32)) * (Int32.ofNat j)) + ((1 : Int32))), .ref a]) rfl ?_
  refine Er_getR (x := a + 16) rfl m0.1 (m0.2 (20, 16, 1, 200) (by decide)).1 ?_
  refine Er_run 1 (pc' := 279) (ls' := [some (.ref a), some (.int (Int32.ofNat j)), some (.int (Int32.ofNat ff)), some (.int (Int32.ofNat tt)), some (.int (Int32.ofNat n)), some (.int (Int32.ofNat i)), some (.int (Int32.ofNat c)), u7]) (st' := [.int (Int32.ofNat i), .ref (a + 16), .int ((1 : Int32)), .int ((0 : Int32)), .int ((((3 : Int32)) * (Int32.ofNat j)) + ((1 : Int32))), .ref a]) rfl ?_
  refine Er_lald (v := k) rfl (m0.2 (20, 16, 1, 200) (by decide)).2.1 (mr_in (i := i) (k := 200) rfl (by omega) (by decide) (m0.2 (20, 16, 1, 200) (by decide)).2.2) (mr_atL rfl (by omega) sk0) ?_
  refine Er_run 1 (pc' := 281) (ls' := [some (.ref a), some (.int (Int32.ofNat j)), some (.int (Int32.ofNat ff)), some (.int (Int32.ofNat tt)), some (.int (Int32.ofNat n)), some (.int (Int32.ofNat i)), some (.int (Int32.ofNat c)), u7]) (st' := [.ref a, .long k, .int ((1 : Int32)), .int ((0 : Int32)), .int ((((3 : Int32)) * (Int32.ofNat j)) + ((1 : Int32))), .ref a]) rfl ?_
  refine Er_getR (x := a + 17) rfl m0.1 (m0.2 (21, 17, 1, 200) (by decide)).1 ?_
  refine Er_run 2 (pc' := 288) (ls' := [some (.ref a), some (.int (Int32.ofNat j)), some (.int (Int32.ofNat ff)), some (.int (Int32.ofNat tt)), some (.int (Int32.ofNat n)), some (.int (Int32.ofNat i)), some (.int (Int32.ofNat c)), u7]) (st' := [.int (Int32.ofNat c), .int (Int32.ofNat i), .ref (a + 17), .long k, .int ((1 : Int32)), .int ((0 : Int32)), .int ((((3 : Int32)) * (Int32.ofNat j)) + ((1 : Int32))), .ref a]) rfl ?_
  refine Er_inv1 (q' := a) (ci := 12) (av := [.int ((((3 : Int32)) * (Int32.ofNat j)) + ((1 : Int32))), .int ((0 : Int32)), .int ((1 : Int32)), .long k, .ref (a + 17), .int (Int32.ofNat i), .int (Int32.ofNat c)]) (rest := []) rfl rfl ⟨Nat.le_of_ble_eq_true rfl, Nat.le_of_ble_eq_true rfl⟩ rfl rfl m0.1 hc ?_
  refine Er_run 1 (pc' := bif !decide (((0 : Int32)) = 0) then 296 else 294) (ls' := [some (.ref a), some (.int (Int32.ofNat j)), some (.int (Int32.ofNat ff)), some (.int (Int32.ofNat tt)), some (.int (Int32.ofNat n)), some (.int (Int32.ofNat i)), some (.int (Int32.ofNat c)), u7]) (st' := []) rfl ?_
  refine Er_pc (t := 294) (show (bif !decide (((0 : Int32)) = 0) then 296 else 294) = 294 from by rw [show (!decide (((0 : Int32)) = 0)) = false from by decide]; rfl) ?_
  refine Er_run 1 (pc' := 295) (ls' := [some (.ref a), some (.int (Int32.ofNat j)), some (.int (Int32.ofNat ff)), some (.int (Int32.ofNat tt)), some (.int (Int32.ofNat n)), some (.int (Int32.ofNat i)), some (.int (Int32.ofNat c)), u7]) (st' := [.int ((0 : Int32))]) rfl ?_
  exact Er_fin rfl rfl hq
set_option maxRecDepth 10000 in
theorem lq_c1 (m0 : mrO g a) (sk0 : gL g (a + 16) i = k) (hi : i < 200) (hc : Run 160 [.ref a, .int ((3 : Int32) * Int32.ofNat j + 1), .int 0, .int 1, .long k, .ref (a + 17), .int (Int32.ofNat i), .int (Int32.ofNat c)] g (.inl (some (.int 1))) g1) (kk : Ev 162 299 [some (.ref a), some (.int (Int32.ofNat j)), some (.int (Int32.ofNat ff)), some (.int (Int32.ofNat tt)), some (.int (Int32.ofNat n)), some (.int (Int32.ofNat i)), some (.int (Int32.ofNat c)), some (.int (Int32.ofNat 0))] [] g1 Q) : Ev 162 265 [some (.ref a), some (.int (Int32.ofNat j)), some (.int (Int32.ofNat ff)), some (.int (Int32.ofNat tt)), some (.int (Int32.ofNat n)), some (.int (Int32.ofNat i)), some (.int (Int32.ofNat c)), u7] [] g Q := by
  refine Er_run 9 (pc' := 274) (ls' := [some (.ref a), some (.int (Int32.ofNat j)), some (.int (Int32.ofNat ff)), some (.int (Int32.ofNat tt)), some (.int (Int32.ofNat n)), some (.int (Int32.ofNat i)), some (.int (Int32.ofNat c)), u7]) (st' := [.ref a, .int ((1 : Int32)), .int ((0 : Int32)), .int ((((3 : Int32)) * (Int32.ofNat j)) + ((1 : Int32))), .ref a]) rfl ?_
  refine Er_getR (x := a + 16) rfl m0.1 (m0.2 (20, 16, 1, 200) (by decide)).1 ?_
  refine Er_run 1 (pc' := 279) (ls' := [some (.ref a), some (.int (Int32.ofNat j)), some (.int (Int32.ofNat ff)), some (.int (Int32.ofNat tt)), some (.int (Int32.ofNat n)), some (.int (Int32.ofNat i)), some (.int (Int32.ofNat c)), u7]) (st' := [.int (Int32.ofNat i), .ref (a + 16), .int ((1 : Int32)), .int ((0 : Int32)), .int ((((3 : Int32)) * (Int32.ofNat j)) + ((1 : Int32))), .ref a]) rfl ?_
  refine Er_lald (v := k) rfl (m0.2 (20, 16, 1, 200) (by decide)).2.1 (mr_in (i := i) (k := 200) rfl (by omega) (by decide) (m0.2 (20, 16, 1, 200) (by decide)).2.2) (mr_atL rfl (by omega) sk0) ?_
  refine Er_run 1 (pc' := 281) (ls' := [some (.ref a), some (.int (Int32.ofNat j)), some (.int (Int32.ofNat ff)), some (.int (Int32.ofNat tt)), some (.int (Int32.ofNat n)), some (.int (Int32.ofNat i)), some (.int (Int32.ofNat c)), u7]) (st' := [.ref a, .long k, .int ((1 : Int32)), .int ((0 : Int32)), .int ((((3 : Int32)) * (Int32.ofNat j)) + ((1 : Int32))), .ref a]) rfl ?_
  refine Er_getR (x := a + 17) rfl m0.1 (m0.2 (21, 17, 1, 200) (by decide)).1 ?_
  refine Er_run 2 (pc' := 288) (ls' := [some (.ref a), some (.int (Int32.ofNat j)), some (.int (Int32.ofNat ff)), some (.int (Int32.ofNat tt)), some (.int (Int32.ofNat n)), some (.int (Int32.ofNat i)), some (.int (Int32.ofNat c)), u7]) (st' := [.int (Int32.ofNat c), .int (Int32.ofNat i), .ref (a + 17), .long k, .int ((1 : Int32)), .int ((0 : Int32)), .int ((((3 : Int32)) * (Int32.ofNat j)) + ((1 : Int32))), .ref a]) rfl ?_
  refine Er_inv1 (q' := a) (ci := 12) (av := [.int ((((3 : Int32)) * (Int32.ofNat j)) + ((1 : Int32))), .int ((0 : Int32)), .int ((1 : Int32)), .long k, .ref (a + 17), .int (Int32.ofNat i), .int (Int32.ofNat c)]) (rest := []) rfl rfl ⟨Nat.le_of_ble_eq_true rfl, Nat.le_of_ble_eq_true rfl⟩ rfl rfl m0.1 hc ?_
  refine Er_run 1 (pc' := bif !decide (((1 : Int32)) = 0) then 296 else 294) (ls' := [some (.ref a), some (.int (Int32.ofNat j)), some (.int (Int32.ofNat ff)), some (.int (Int32.ofNat tt)), some (.int (Int32.ofNat n)), some (.int (Int32.ofNat i)), some (.int (Int32.ofNat c)), u7]) (st' := []) rfl ?_
  refine Er_pc (t := 296) (show (bif !decide (((1 : Int32)) = 0) then 296 else 294) = 296 from by rw [show (!decide (((1 : Int32)) = 0)) = true from by decide]; rfl) ?_
  refine Er_run 2 (pc' := 299) (ls' := [some (.ref a), some (.int (Int32.ofNat j)), some (.int (Int32.ofNat ff)), some (.int (Int32.ofNat tt)), some (.int (Int32.ofNat n)), some (.int (Int32.ofNat i)), some (.int (Int32.ofNat c)), some (.int ((0 : Int32)))]) (st' := []) rfl ?_
  exact kk
set_option maxRecDepth 10000 in
theorem l_mgr (hj : j < 8) (m00 : mrO h0 a) (hpg : PI2 h0 a (3 * j + 1) pg) (hS : S'.length = n) (hn : n ≤ 200) (hT : T.length ≤ 80000) (kr : PK h0 (a + 16) (a + 17) S') (kF : me_fo pg 1 S' = none → ∀ g, GC h0 g a → Q (.inl (some (.int 0))) g) (kS : ∀ x g, me_fo pg 1 S' = some x → GC h0 g a → PW g a (T ++ x) → Q (.inl (some (.int 1))) g) : ∀ (f i : Nat) (X : Jl) (g : sm_H) (u6 u7 : Option Value), n ≤ i + f → i ≤ n → X.length ≤ 4 * i → me_fo pg 1 S' = (me_fo pg 1 (S'.drop i)).map (fun y => X ++ y) → GC h0 g a → PW g a (T ++ X) → Ev 162 223 [some (.ref a), some (.int (Int32.ofNat j)), some (.int (Int32.ofNat ff)), some (.int (Int32.ofNat tt)), some (.int (Int32.ofNat n)), some (.int (Int32.ofNat i)), u6, u7] [] g Q := by
  intro f
  induction f with
  | zero =>
    intro i X g u6 u7 hf hin hX hfo z hw
    refine lq_223e (by omega) (by omega) (kS X g ?_ z hw)
    rw [hfo, List.drop_of_length_le (by omega), me_fo_nil, Option.map_some, List.append_nil]
  | succ f ih =>
    intro i X g u6 u7 hf hin hX hfo z hw
    by_cases hni : n ≤ i
    · refine lq_223e hni (by omega) (kS X g ?_ z hw)
      rw [hfo, List.drop_of_length_le (by omega), me_fo_nil, Option.map_some, List.append_nil]
    have m0 := z.1.mrO m00
    obtain ⟨q1, q2, q3, q4, q5⟩ := PI2_fr z.1 (by simp) (by simp) (by simp) hpg
    have kr1 : ∀ u d, S'[u]? = some d → gL g (a + 16) u = d.1 := fun u d hu => by rw [z.1.gl (by simp)]; exact (kr u d hu).1
    have kr2 : ∀ u d, S'[u]? = some d → gL g (a + 17) u = d.2 := fun u d hu => by rw [z.1.gl (by simp)]; exact (kr u d hu).2
    obtain ⟨x, hx⟩ : ∃ x, S'[i]? = some x := ⟨S'[i]'(by omega), List.getElem?_eq_getElem (by omega)⟩
    have hdr : S'.drop i = x :: S'.drop (i + 1) := by
      rw [List.drop_eq_getElem_cons (by omega)]
      rw [List.getElem?_eq_getElem (by omega)] at hx
      rw [Option.some.inj hx]
    have hkp : 1 ≤ me_k (S'.drop i) := by rw [hdr]; exact me_k_pos _ _
    have hkl : me_k (S'.drop i) ≤ n - i := by have := me_k_le (S'.drop i); rw [List.length_drop] at this; omega
    have hgl : ((S'.drop i).take (me_k (S'.drop i))).length = me_k (S'.drop i) := by rw [List.length_take, List.length_drop]; omega
    refine lq_223 (by omega) hn ?_
    refine l_mend m0 kr1 hS hn hx ?_ (n - i) i (by omega) (Nat.le_refl i) (fun u d h1 h2 _ => by omega)
    have hv : ∀ u, u < ((S'.drop i).take (me_k (S'.drop i))).length → gL g (a + 17) (i + u) = jx_v ((S'.drop i).take (me_k (S'.drop i))) u := by
      intro u hu
      rw [hgl] at hu
      have e1 : ((S'.drop i).take (me_k (S'.drop i)))[u]? = S'[i + u]? := by rw [List.getElem?_take_of_lt hu, List.getElem?_drop]
      rw [jx_v, e1]
      cases hd : S'[i + u]? with
      | none =>
        have := List.getElem?_eq_none_iff.1 hd
        omega
      | some d => exact kr2 _ d hd
    have hky : x.1 = jx_k ((S'.drop i).take (me_k (S'.drop i))) 0 := by
      rw [jx_k, List.getElem?_take_of_lt (by omega), List.getElem?_drop, Nat.add_zero, hx]; rfl
    obtain ⟨g1, hc, c1, c2⟩ := s_Ref_call (h := g) (kd := 1) (ky := x.1) (P := 3 * j + 1) (vq := a + 17) (fr := i) (en := i + me_k (S'.drop i)) (g := (S'.drop i).take (me_k (S'.drop i))) (pg := pg) m0 q1 q2 q3 q4 q5 (by rw [hgl]) (by omega) (m0.2 (21, 17, 1, 200) (by decide)).2.1 (fun u hu => mr_in (i := i + u) (k := 200) rfl (by rw [hgl] at hu; omega) (by decide) (m0.2 (21, 17, 1, 200) (by decide)).2.2) hv (by simp) (by rw [hgl]; omega) hky
    rw [← mr_3jk (k := 1)] at hc
    have hfs := me_fo_step (pg := pg) (kd := 1) (l := S'.drop i) (by rw [hdr]; exact fun z => by cases z)
    rw [List.drop_drop] at hfs
    by_cases hok : (jq_grp pg 1 ((S'.drop i).take (me_k (S'.drop i)))).1 = true
    · rw [if_pos hok] at hc hfs
      obtain ⟨d1, d2⟩ := c2 hok
      have h4 := jq_grp_len (pg := pg) (kd := 1) ((S'.drop i).take (me_k (S'.drop i)))
      refine lq_c1 m0 (kr1 i x hx) (by omega) hc ?_
      have hw1 : PW g1 a (T ++ X) := PW_fr c1.1 (c1.2 30 (by omega)) (by simp) (by simp) hw
      refine l_mem (h0 := g1) (T := T ++ X) h4 (by rw [List.length_append]; omega) (fun g2 z2 w2 => ?_) _ 0 g1 (Nat.zero_add _) (c1.1.mrO m0) (PC.refl g1) d1 (fun u d hu => (d2 u d hu).1) (fun u d hu => (d2 u d hu).2) (by rw [List.take_zero, List.append_nil]; exact hw1)
      refine ih (i + me_k (S'.drop i)) (X ++ (jq_grp pg 1 ((S'.drop i).take (me_k (S'.drop i)))).2) g2 _ _ (by omega) (by omega) (by rw [List.length_append]; omega) ?_ ((z.cp c1).pc z2) (by rw [← List.append_assoc]; exact w2)
      rw [hfo, hfs, Option.map_map]
      congr 1
      funext y
      show X ++ (_ ++ y) = (X ++ _) ++ y
      rw [List.append_assoc]
    · rw [if_neg hok] at hc hfs
      refine lq_c0 m0 (kr1 i x hx) (by omega) hc (kF ?_ g1 (z.cp c1))
      rw [hfo, hfs]; rfl

set_option maxRecDepth 10000 in
theorem lq_0 (m0 : mrO g a) (m1 : mrO g1 a) (hj : j < 8) (mn1 : gI g1 (a + 5) (3 * j + 1) = Int32.ofNat c) (hc40 : c ≤ 40) (h0 : c = 0) (hc : Run 161 [.ref (a + 16), .ref (a + 17), .int 0, .int (Int32.ofNat n)] g (.inl none) g1) (kk : Ev 162 187 [some (.ref a), some (.int (Int32.ofNat j)), some (.int (Int32.ofNat ff)), some (.int (Int32.ofNat tt)), some (.int (Int32.ofNat n)), some (.int (Int32.ofNat 0)), u6, u7] [] g1 Q) : Ev 162 157 [some (.ref a), some (.int (Int32.ofNat j)), some (.int (Int32.ofNat ff)), some (.int (Int32.ofNat tt)), some (.int (Int32.ofNat n)), some (.int (Int32.ofNat tt)), u6, u7] [] g Q := by
  refine Er_run 1 (pc' := 158) (ls' := [some (.ref a), some (.int (Int32.ofNat j)), some (.int (Int32.ofNat ff)), some (.int (Int32.ofNat tt)), some (.int (Int32.ofNat n)), some (.int (Int32.ofNat tt)), u6, u7]) (st' := [.ref a]) rfl ?_
  refine Er_getR (x := a + 16) rfl m0.1 (m0.2 (20, 16, 1, 200) (by decide)).1 ?_
  refine Er_run 1 (pc' := 162) (ls' := [some (.ref a), some (.int (Int32.ofNat j)), some (.int (Int32.ofNat ff)), some (.int (Int32.ofNat tt)), some (.int (Int32.ofNat n)), some (.int (Int32.ofNat tt)), u6, u7]) (st' := [.ref a, .ref (a + 16)]) rfl ?_
  refine Er_getR (x := a + 17) rfl m0.1 (m0.2 (21, 17, 1, 200) (by decide)).1 ?_
  refine Er_run 2 (pc' := 168) (ls' := [some (.ref a), some (.int (Int32.ofNat j)), some (.int (Int32.ofNat ff)), some (.int (Int32.ofNat tt)), some (.int (Int32.ofNat n)), some (.int (Int32.ofNat tt)), u6, u7]) (st' := [.int (Int32.ofNat n), .int ((0 : Int32)), .ref (a + 17), .ref (a + 16)]) rfl ?_
  refine Er_sta0 (av := [.ref (a + 16), .ref (a + 17), .int ((0 : Int32)), .int (Int32.ofNat n)]) (rest := []) rfl rfl ⟨Nat.le_of_ble_eq_true rfl, Nat.le_of_ble_eq_true rfl⟩ rfl rfl hc ?_
  refine Er_run 1 (pc' := 172) (ls' := [some (.ref a), some (.int (Int32.ofNat j)), some (.int (Int32.ofNat ff)), some (.int (Int32.ofNat tt)), some (.int (Int32.ofNat n)), some (.int (Int32.ofNat tt)), u6, u7]) (st' := [.ref a]) rfl ?_
  refine Er_getR (x := a + 5) rfl m1.1 (m1.2 (4, 5, 0, 24) (by decide)).1 ?_
  refine Er_run 5 (pc' := 180) (ls' := [some (.ref a), some (.int (Int32.ofNat j)), some (.int (Int32.ofNat ff)), some (.int (Int32.ofNat tt)), some (.int (Int32.ofNat n)), some (.int (Int32.ofNat tt)), u6, u7]) (st' := [.int ((((3 : Int32)) * (Int32.ofNat j)) + ((1 : Int32))), .ref (a + 5)]) rfl ?_
  refine Er_iald (v := Int32.ofNat c) rfl (m1.2 (4, 5, 0, 24) (by decide)).2.1 (mr_in (i := (3 * j + 1)) (k := 24) (mr_3jk (k := 1)) (by omega) (by decide) (m1.2 (4, 5, 0, 24) (by decide)).2.2) (mr_atI (mr_3jk (k := 1)) (by omega) mn1) ?_
  refine Er_run 1 (pc' := bif !decide ((Int32.ofNat c) = 0) then 220 else 184) (ls' := [some (.ref a), some (.int (Int32.ofNat j)), some (.int (Int32.ofNat ff)), some (.int (Int32.ofNat tt)), some (.int (Int32.ofNat n)), some (.int (Int32.ofNat tt)), u6, u7]) (st' := []) rfl ?_
  refine Er_pc (t := 184) (show (bif !decide ((Int32.ofNat c) = 0) then 220 else 184) = 184 from by rw [show (!decide ((Int32.ofNat c) = 0)) = false from by rw [show (0 : Int32) = Int32.ofNat 0 from rfl, jx_eq (by omega) (by omega), decide_eq_true (by omega)]; rfl]; rfl) ?_
  refine Er_run 2 (pc' := 187) (ls' := [some (.ref a), some (.int (Int32.ofNat j)), some (.int (Int32.ofNat ff)), some (.int (Int32.ofNat tt)), some (.int (Int32.ofNat n)), some (.int ((0 : Int32))), u6, u7]) (st' := []) rfl ?_
  exact kk
set_option maxRecDepth 10000 in
theorem lq_1 (m0 : mrO g a) (m1 : mrO g1 a) (hj : j < 8) (mn1 : gI g1 (a + 5) (3 * j + 1) = Int32.ofNat c) (hc40 : c ≤ 40) (h0 : c ≠ 0) (hc : Run 161 [.ref (a + 16), .ref (a + 17), .int 0, .int (Int32.ofNat n)] g (.inl none) g1) (kk : Ev 162 223 [some (.ref a), some (.int (Int32.ofNat j)), some (.int (Int32.ofNat ff)), some (.int (Int32.ofNat tt)), some (.int (Int32.ofNat n)), some (.int (Int32.ofNat 0)), u6, u7] [] g1 Q) : Ev 162 157 [some (.ref a), some (.int (Int32.ofNat j)), some (.int (Int32.ofNat ff)), some (.int (Int32.ofNat tt)), some (.int (Int32.ofNat n)), some (.int (Int32.ofNat tt)), u6, u7] [] g Q := by
  refine Er_run 1 (pc' := 158) (ls' := [some (.ref a), some (.int (Int32.ofNat j)), some (.int (Int32.ofNat ff)), some (.int (Int32.ofNat tt)), some (.int (Int32.ofNat n)), some (.int (Int32.ofNat tt)), u6, u7]) (st' := [.ref a]) rfl ?_
  refine Er_getR (x := a + 16) rfl m0.1 (m0.2 (20, 16, 1, 200) (by decide)).1 ?_
  refine Er_run 1 (pc' := 162) (ls' := [some (.ref a), some (.int (Int32.ofNat j)), some (.int (Int32.ofNat ff)), some (.int (Int32.ofNat tt)), some (.int (Int32.ofNat n)), some (.int (Int32.ofNat tt)), u6, u7]) (st' := [.ref a, .ref (a + 16)]) rfl ?_
  refine Er_getR (x := a + 17) rfl m0.1 (m0.2 (21, 17, 1, 200) (by decide)).1 ?_
  refine Er_run 2 (pc' := 168) (ls' := [some (.ref a), some (.int (Int32.ofNat j)), some (.int (Int32.ofNat ff)), some (.int (Int32.ofNat tt)), some (.int (Int32.ofNat n)), some (.int (Int32.ofNat tt)), u6, u7]) (st' := [.int (Int32.ofNat n), .int ((0 : Int32)), .ref (a + 17), .ref (a + 16)]) rfl ?_
  refine Er_sta0 (av := [.ref (a + 16), .ref (a + 17), .int ((0 : Int32)), .int (Int32.ofNat n)]) (rest := []) rfl rfl ⟨Nat.le_of_ble_eq_true rfl, Nat.le_of_ble_eq_true rfl⟩ rfl rfl hc ?_
  refine Er_run 1 (pc' := 172) (ls' := [some (.ref a), some (.int (Int32.ofNat j)), some (.int (Int32.ofNat ff)), some (.int (Int32.ofNat tt)), some (.int (Int32.ofNat n)), some (.int (Int32.ofNat tt)), u6, u7]) (st' := [.ref a]) rfl ?_
  refine Er_getR (x := a + 5) rfl m1.1 (m1.2 (4, 5, 0, 24) (by decide)).1 ?_
  refine Er_run 5 (pc' := 180) (ls' := [some (.ref a), some (.int (Int32.ofNat j)), some (.int (Int32.ofNat ff)), some (.int (Int32.ofNat tt)), some (.int (Int32.ofNat n)), some (.int (Int32.ofNat tt)), u6, u7]) (st' := [.int ((((3 : Int32)) * (Int32.ofNat j)) + ((1 : Int32))), .ref (a + 5)]) rfl ?_
  refine Er_iald (v := Int32.ofNat c) rfl (m1.2 (4, 5, 0, 24) (by decide)).2.1 (mr_in (i := (3 * j + 1)) (k := 24) (mr_3jk (k := 1)) (by omega) (by decide) (m1.2 (4, 5, 0, 24) (by decide)).2.2) (mr_atI (mr_3jk (k := 1)) (by omega) mn1) ?_
  refine Er_run 1 (pc' := bif !decide ((Int32.ofNat c) = 0) then 220 else 184) (ls' := [some (.ref a), some (.int (Int32.ofNat j)), some (.int (Int32.ofNat ff)), some (.int (Int32.ofNat tt)), some (.int (Int32.ofNat n)), some (.int (Int32.ofNat tt)), u6, u7]) (st' := []) rfl ?_
  refine Er_pc (t := 220) (show (bif !decide ((Int32.ofNat c) = 0) then 220 else 184) = 220 from by rw [show (!decide ((Int32.ofNat c) = 0)) = true from by rw [show (0 : Int32) = Int32.ofNat 0 from rfl, jx_eq (by omega) (by omega), decide_eq_false (by omega)]; rfl]; rfl) ?_
  refine Er_run 2 (pc' := 223) (ls' := [some (.ref a), some (.int (Int32.ofNat j)), some (.int (Int32.ofNat ff)), some (.int (Int32.ofNat tt)), some (.int (Int32.ofNat n)), some (.int ((0 : Int32))), u6, u7]) (st' := []) rfl ?_
  exact kk
/-- mapped -/
theorem s_Ref_mapped {pr : Nat → List (Int32 × Int64)} (m0 : mrO h a) (hj : j < 8) (hir : IR h a j fa n1 inp) (hp0 : PI2 h a (3 * j) (pr 0)) (hp1 : PI2 h a (3 * j + 1) (pr 1)) (hft : ff ≤ tt) (htt : tt ≤ inp.length) (hti : inp.length ≤ 600) (h16 : tt ≤ ff + 16) (hT : T.length ≤ 80000) (hw : PW h a T) : ∃ h', Run 162 [.ref a, .int (Int32.ofNat j), .int (Int32.ofNat ff), .int (Int32.ofNat tt)] h (.inl (some (.int (if ((me_map (pr 0) ((inp.drop ff).take (tt - ff))).bind (fun e => if (pr 1).length = 0 then some (srt e) else me_fo (pr 1) 1 (srt e))).isSome = true then 1 else 0)))) h' ∧ MF h h' a ∧ ∀ x, ((me_map (pr 0) ((inp.drop ff).take (tt - ff))).bind (fun e => if (pr 1).length = 0 then some (srt e) else me_fo (pr 1) 1 (srt e))) = some x → PW h' a (T ++ x) := by
  have hx : Ev 162 0 (sm_pad (sm_ent [.ref a, .int (Int32.ofNat j), .int (Int32.ofNat ff), .int (Int32.ofNat tt)]) (sm_prog.2.1 162)) [] h (fun r h1 => r = .inl (some (.int (if ((me_map (pr 0) ((inp.drop ff).take (tt - ff))).bind (fun e => if (pr 1).length = 0 then some (srt e) else me_fo (pr 1) 1 (srt e))).isSome = true then 1 else 0))) ∧ MF h h1 a ∧ ∀ x, ((me_map (pr 0) ((inp.drop ff).take (tt - ff))).bind (fun e => if (pr 1).length = 0 then some (srt e) else me_fo (pr 1) 1 (srt e))) = some x → PW h1 a (T ++ x)) := by
    have kk := l_map1 (Q := fun r h1 => r = .inl (some (.int (if ((me_map (pr 0) ((inp.drop ff).take (tt - ff))).bind (fun e => if (pr 1).length = 0 then some (srt e) else me_fo (pr 1) 1 (srt e))).isSome = true then 1 else 0))) ∧ MF h h1 a ∧ ∀ x, ((me_map (pr 0) ((inp.drop ff).take (tt - ff))).bind (fun e => if (pr 1).length = 0 then some (srt e) else me_fo (pr 1) 1 (srt e))) = some x → PW h1 a (T ++ x)) m0 hj hir hp0 htt hti h16 (fun e0 g z => by
      rw [e0]
      exact ⟨rfl, (MF.refl h).mc z, fun x hx => by cases hx⟩) (fun e g u6 u7 e0 z hr => by
      rw [e0]
      show Ev 162 157 _ [] g (fun r h1 => r = .inl (some (.int (if (if (pr 1).length = 0 then some (srt e) else me_fo (pr 1) 1 (srt e)).isSome = true then 1 else 0))) ∧ MF h h1 a ∧ ∀ x, (if (pr 1).length = 0 then some (srt e) else me_fo (pr 1) 1 (srt e)) = some x → PW h1 a (T ++ x))
      have mg := z.1.mrO m0
      have hel : e.length ≤ 64 := by
        have := me_map_len _ _ e0
        rw [List.length_take] at this
        omega
      obtain ⟨g1, hc, z1, hr1⟩ := s_Ref_sort (h := g) (kq := a + 16) (vq := a + 17) (n := e.length) (l := e) (len := 200) (by omega) (mg.2 (20, 16, 1, 200) (by decide)).2.1 (mg.2 (21, 17, 1, 200) (by decide)).2.1 (mg.2 (20, 16, 1, 200) (by decide)).2.2 (mg.2 (21, 17, 1, 200) (by decide)).2.2 rfl (by omega) (by decide) (by omega) hr
      have m1 := z1.mrO mg
      have hp1' := PI2_fr z1 (by simp) (by simp) (by simp) (PI2_fr z.1 (by simp) (by simp) (by simp) hp1)
      have hw1 : PW g1 a T := PW_fr z1 (by rw [z1.gi (by simp)]) (by simp) (by simp) (PW_fr z.1 (z.2 30 (by omega)) (by simp) (by simp) hw)
      have hmf : MF h g1 a := ((MF.refl h).mc z).fl z1
      have hsl : (srt e).length = e.length := srt_len e
      by_cases hz : (pr 1).length = 0
      · rw [if_pos hz]
        refine lq_0 (c := (pr 1).length) mg m1 hj hp1'.2.2.2.1 hp1'.2.1 hz hc ?_
        refine l_mpr (h0 := g1) (S' := srt e) (T := T) hsl (by omega) (by omega) (fun g2 z2 w2 => ⟨rfl, hmf.pc z2, fun x hx => by cases hx; exact w2⟩) e.length 0 g1 (by omega) m1 (PC.refl g1) (fun u d hu => (hr1 u d hu).1) (fun u d hu => (hr1 u d hu).2) (by rw [List.take_zero, List.append_nil]; exact hw1)
      · rw [if_neg hz]
        refine lq_1 (c := (pr 1).length) mg m1 hj hp1'.2.2.2.1 hp1'.2.1 hz hc ?_
        refine l_mgr (h0 := g1) (S' := srt e) (T := T) (pg := pr 1) hj m1 hp1' hsl (by omega) hT hr1 (fun e2 g2 z2 => ?_) (fun x g2 e2 z2 w2 => ?_) e.length 0 [] g1 _ _ (by omega) (Nat.zero_le _) (Nat.zero_le _) ?_ (GC.refl g1) (by rw [List.append_nil]; exact hw1)
        · rw [e2]; exact ⟨rfl, hmf.gc z2, fun x hx => by cases hx⟩
        · rw [e2]; exact ⟨rfl, hmf.gc z2, fun y hy => by cases hy; exact w2⟩
        · rw [List.drop_zero]
          cases me_fo (pr 1) 1 (srt e) with
          | none => rfl
          | some y => rfl) (tt - ff) ff [] h none none (by omega) (Nat.le_refl _) (by rw [Nat.sub_self, List.take_zero]; rfl) (MC.refl h) (fun u d hu => by simp at hu)
    show Ev 162 0 [some (.ref a), some (.int (Int32.ofNat j)), some (.int (Int32.ofNat ff)), some (.int (Int32.ofNat tt)), none, none, none, none] [] h _
    refine Er_run 4 (pc' := 6) (ls' := [some (.ref a), some (.int (Int32.ofNat j)), some (.int (Int32.ofNat ff)), some (.int (Int32.ofNat tt)), some (.int ((0 : Int32))), some (.int (Int32.ofNat ff)), none, none]) (st' := []) rfl ?_
    exact kk
  obtain ⟨r, h', hr, e, hq⟩ := Run_of (Nat.le_of_ble_eq_true rfl) hx
  subst e
  exact ⟨h', hr, hq⟩
end REFT
