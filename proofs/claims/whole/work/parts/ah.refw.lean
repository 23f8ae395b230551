/-- a PART's work has gone on from h to g -/
def WC (h g : sm_H) (a : Nat) : Prop := FrL [a] [a + 20, a + 21, a + 22, a + 23, a + 24, a + 25] h g ∧ ∀ s, s ≠ 31 → gI g a s = gI h a s
section REFW
variable {h h0 g g1 : sm_H} {a : Nat} {Q : sm_R → sm_H → Prop} {n c i j t r np made : Nat} {k v : Int64} {e em l T S' R0 : Jl} {p : Int64 × Int64} {u5 u6 u7 : Option Value} {pg : List (Int32 × Int64)} {pr : Nat → List (Int32 × Int64)} {ls : List Jl}
theorem WC.refl (h : sm_H) : WC h h a := ⟨FrL.refl h, fun _ _ => rfl⟩
theorem WC.cp (z : WC h g a) (c : CP g g1 a) : WC h g1 a := ⟨z.1.trans (c.1.mono (fun x hx => hx) (fun x hx => by simp at hx ⊢; omega)), fun s hs => (c.2 s hs).trans (z.2 s hs)⟩
theorem WC.fl (z : WC h g a) (c : FrL [] [a + 20, a + 21] g g1) : WC h g1 a := ⟨z.1.trans (c.mono (fun x hx => by cases hx) (fun x hx => by simp at hx ⊢; omega)), fun s hs => (by rw [c.gi (by simp)]; exact z.2 s hs)⟩
theorem WC.trans (x : WC h g a) (y : WC g g1 a) : WC h g1 a := ⟨x.1.trans y.1, fun s hs => (y.2 s hs).trans (x.2 s hs)⟩

set_option maxRecDepth 10000 in
theorem lc_125e (m0 : mrO g a) (pn0 : gI g a 30 = Int32.ofNat c) (hc : c ≤ 1000) (hi : c ≤ i) (hi2 : i ≤ 1000) (kk : Ev 164 280 [some (.ref a), some (.int (Int32.ofNat j)), some (.int (Int32.ofNat n)), some (.int (Int32.ofNat made)), some (.int (Int32.ofNat r)), some (.int (Int32.ofNat i)), u6, u7] [] g Q) : Ev 164 125 [some (.ref a), some (.int (Int32.ofNat j)), some (.int (Int32.ofNat n)), some (.int (Int32.ofNat made)), some (.int (Int32.ofNat r)), some (.int (Int32.ofNat i)), u6, u7] [] g Q := by
  refine Er_run 2 (pc' := 128) (ls' := [some (.ref a), some (.int (Int32.ofNat j)), some (.int (Int32.ofNat n)), some (.int (Int32.ofNat made)), some (.int (Int32.ofNat r)), some (.int (Int32.ofNat i)), u6, u7]) (st' := [.ref a, .int (Int32.ofNat i)]) rfl ?_
  refine Er_getI (v := Int32.ofNat c) rfl m0.1 pn0 ?_
  refine Er_run 1 (pc' := bif decide ((Int32.ofNat c) ≤ (Int32.ofNat i)) then 280 else 134) (ls' := [some (.ref a), some (.int (Int32.ofNat j)), some (.int (Int32.ofNat n)), some (.int (Int32.ofNat made)), some (.int (Int32.ofNat r)), some (.int (Int32.ofNat i)), u6, u7]) (st' := []) rfl ?_
  refine Er_pc (t := 280) (show (bif decide ((Int32.ofNat c) ≤ (Int32.ofNat i)) then 280 else 134) = 280 from by rw [show (decide ((Int32.ofNat c) ≤ (Int32.ofNat i))) = true from by rw [jx_le (by omega) (by omega)]; exact decide_eq_true (by omega)]; rfl) ?_
  exact kk
set_option maxRecDepth 10000 in
theorem lc_125 (m0 : mrO g a) (pn0 : gI g a 30 = Int32.ofNat c) (hc : c ≤ 1000) (hi : i < c) (kk : Ev 164 138 [some (.ref a), some (.int (Int32.ofNat j)), some (.int (Int32.ofNat n)), some (.int (Int32.ofNat made)), some (.int (Int32.ofNat r)), some (.int (Int32.ofNat i)), some (.int (Int32.ofNat i)), u7] [] g Q) : Ev 164 125 [some (.ref a), some (.int (Int32.ofNat j)), some (.int (Int32.ofNat n)), some (.int (Int32.ofNat made)), some (.int (Int32.ofNat r)), some (.int (Int32.ofNat i)), u6, u7] [] g Q := by
  refine Er_run 2 (pc' := 128) (ls' := [some (.ref a), some (.int (Int32.ofNat j)), some (.int (Int32.ofNat n)), some (.int (Int32.ofNat made)), some (.int (Int32.ofNat r)), some (.int (Int32.ofNat i)), u6, u7]) (st' := [.ref a, .int (Int32.ofNat i)]) rfl ?_
  refine Er_getI (v := Int32.ofNat c) rfl m0.1 pn0 ?_
  refine Er_run 1 (pc' := bif decide ((Int32.ofNat c) ≤ (Int32.ofNat i)) then 280 else 134) (ls' := [some (.ref a), some (.int (Int32.ofNat j)), some (.int (Int32.ofNat n)), some (.int (Int32.ofNat made)), some (.int (Int32.ofNat r)), some (.int (Int32.ofNat i)), u6, u7]) (st' := []) rfl ?_
  refine Er_pc (t := 134) (show (bif decide ((Int32.ofNat c) ≤ (Int32.ofNat i)) then 280 else 134) = 134 from by rw [show (decide ((Int32.ofNat c) ≤ (Int32.ofNat i))) = false from by rw [jx_le (by omega) (by omega)]; exact decide_eq_false (by omega)]; rfl) ?_
  refine Er_run 2 (pc' := 138) (ls' := [some (.ref a), some (.int (Int32.ofNat j)), some (.int (Int32.ofNat n)), some (.int (Int32.ofNat made)), some (.int (Int32.ofNat r)), some (.int (Int32.ofNat i)), some (.int (Int32.ofNat i)), u7]) (st' := []) rfl ?_
  exact kk
set_option maxRecDepth 10000 in
theorem lc_171n (m0 : mrO g a) (kp0 : gL g (a + 18) i = k) (pa0 : gI g (a + 12) j = Int32.ofNat np) (hj : j < 8) (hi : i < 1000) (h1 : 1 ≤ np) (h6 : np ≤ 6) (hr : r < 6) (hq : pq np r (k, 0) = false) (kk : Ev 164 273 [some (.ref a), some (.int (Int32.ofNat j)), some (.int (Int32.ofNat n)), some (.int (Int32.ofNat made)), some (.int (Int32.ofNat r)), some (.int (Int32.ofNat i)), some (.int (Int32.ofNat c)), u7] [] g Q) : Ev 164 171 [some (.ref a), some (.int (Int32.ofNat j)), some (.int (Int32.ofNat n)), some (.int (Int32.ofNat made)), some (.int (Int32.ofNat r)), some (.int (Int32.ofNat i)), some (.int (Int32.ofNat c)), u7] [] g Q := by
  refine Er_run 1 (pc' := 172) (ls' := [some (.ref a), some (.int (Int32.ofNat j)), some (.int (Int32.ofNat n)), some (.int (Int32.ofNat made)), some (.int (Int32.ofNat r)), some (.int (Int32.ofNat i)), some (.int (Int32.ofNat c)), u7]) (st' := [.ref a]) rfl ?_
  refine Er_getR (x := a + 18) rfl m0.1 (m0.2 (22, 18, 1, 4000) (by decide)).1 ?_
  refine Er_run 1 (pc' := 177) (ls' := [some (.ref a), some (.int (Int32.ofNat j)), some (.int (Int32.ofNat n)), some (.int (Int32.ofNat made)), some (.int (Int32.ofNat r)), some (.int (Int32.ofNat i)), some (.int (Int32.ofNat c)), u7]) (st' := [.int (Int32.ofNat i), .ref (a + 18)]) rfl ?_
  refine Er_lald (v := k) rfl (m0.2 (22, 18, 1, 4000) (by decide)).2.1 (mr_in (i := i) (k := 4000) rfl (by omega) (by decide) (m0.2 (22, 18, 1, 4000) (by decide)).2.2) (mr_atL rfl (by omega) kp0) ?_
  refine Er_run 1 (pc' := 179) (ls' := [some (.ref a), some (.int (Int32.ofNat j)), some (.int (Int32.ofNat n)), some (.int (Int32.ofNat made)), some (.int (Int32.ofNat r)), some (.int (Int32.ofNat i)), some (.int (Int32.ofNat c)), u7]) (st' := [.ref a, .long k]) rfl ?_
  refine Er_getR (x := a + 12) rfl m0.1 (m0.2 (11, 12, 0, 8) (by decide)).1 ?_
  refine Er_run 1 (pc' := 183) (ls' := [some (.ref a), some (.int (Int32.ofNat j)), some (.int (Int32.ofNat n)), some (.int (Int32.ofNat made)), some (.int (Int32.ofNat r)), some (.int (Int32.ofNat i)), some (.int (Int32.ofNat c)), u7]) (st' := [.int (Int32.ofNat j), .ref (a + 12), .long k]) rfl ?_
  refine Er_iald (v := Int32.ofNat np) rfl (m0.2 (11, 12, 0, 8) (by decide)).2.1 (mr_in (i := j) (k := 8) rfl (by omega) (by decide) (m0.2 (11, 12, 0, 8) (by decide)).2.2) (mr_atI rfl (by omega) pa0) ?_
  refine Er_run 1 (pc' := 185) (ls' := [some (.ref a), some (.int (Int32.ofNat j)), some (.int (Int32.ofNat n)), some (.int (Int32.ofNat made)), some (.int (Int32.ofNat r)), some (.int (Int32.ofNat i)), some (.int (Int32.ofNat c)), u7]) (st' := [.long (Int32.toInt64 (Int32.ofNat np)), .long k]) rfl ?_
  refine Er_sta1 (av := [.long k, .long (Int32.toInt64 (Int32.ofNat np))]) (rest := []) rfl rfl ⟨Nat.le_of_ble_eq_true rfl, Nat.le_of_ble_eq_true rfl⟩ rfl rfl (s_floorMod (np_ok h1 h6).2) ?_
  refine Er_run 4 (pc' := bif !decide ((lg_cmp (jx_fm k (Int32.toInt64 (Int32.ofNat np))) (Int32.toInt64 (Int32.ofNat r))) = 0) then 273 else 195) (ls' := [some (.ref a), some (.int (Int32.ofNat j)), some (.int (Int32.ofNat n)), some (.int (Int32.ofNat made)), some (.int (Int32.ofNat r)), some (.int (Int32.ofNat i)), some (.int (Int32.ofNat c)), u7]) (st' := []) rfl ?_
  refine Er_pc (t := 273) (show (bif !decide ((lg_cmp (jx_fm k (Int32.toInt64 (Int32.ofNat np))) (Int32.toInt64 (Int32.ofNat r))) = 0) then 273 else 195) = 273 from by rw [show (!decide ((lg_cmp (jx_fm k (Int32.toInt64 (Int32.ofNat np))) (Int32.toInt64 (Int32.ofNat r))) = 0)) = true from by rw [show (decide (lg_cmp (jx_fm k (Int32.toInt64 (Int32.ofNat np))) (Int32.toInt64 (Int32.ofNat r)) = 0)) = false from (pq_fm (v := 0) h1 h6 (by omega)).trans hq]; rfl]; rfl) ?_
  exact kk
set_option maxRecDepth 10000 in
theorem lc_171c0 (m0 : mrO g a) (kp0 : gL g (a + 18) i = k) (pa0 : gI g (a + 12) j = Int32.ofNat np) (hj : j < 8) (hi : i < 1000) (h1 : 1 ≤ np) (h6 : np ≤ 6) (hr : r < 6) (hq : pq np r (k, 0) = true) (hc : Run 160 [.ref a, .int ((3 : Int32) * Int32.ofNat j + 2), .int 0, .int 0, .long k, .ref (a + 19), .int (Int32.ofNat i), .int (Int32.ofNat c)] g (.inl (some (.int 0))) g1) (hx : Q (.inl (some (.int 0))) g1) : Ev 164 171 [some (.ref a), some (.int (Int32.ofNat j)), some (.int (Int32.ofNat n)), some (.int (Int32.ofNat made)), some (.int (Int32.ofNat r)), some (.int (Int32.ofNat i)), some (.int (Int32.ofNat c)), u7] [] g Q := by
  refine Er_run 1 (pc' := 172) (ls' := [some (.ref a), some (.int (Int32.ofNat j)), some (.int (Int32.ofNat n)), some (.int (Int32.ofNat made)), some (.int (Int32.ofNat r)), some (.int (Int32.ofNat i)), some (.int (Int32.ofNat c)), u7]) (st' := [.ref a]) rfl ?_
  refine Er_getR (x := a + 18) rfl m0.1 (m0.2 (22, 18, 1, 4000) (by decide)).1 ?_
  refine Er_run 1 (pc' := 177) (ls' := [some (.ref a), some (.int (Int32.ofNat j)), some (.int (Int32.ofNat n)), some (.int (Int32.ofNat made)), some (.int (Int32.ofNat r)), some (.int (Int32.ofNat i)), some (.int (Int32.ofNat c)), u7]) (st' := [.int (Int32.ofNat i), .ref (a + 18)]) rfl ?_
  refine Er_lald (v := k) rfl (m0.2 (22, 18, 1, 4000) (by decide)).2.1 (mr_in (i := i) (k := 4000) rfl (by omega) (by decide) (m0.2 (22, 18, 1, 4000) (by decide)).2.2) (mr_atL rfl (by omega) kp0) ?_
  refine Er_run 1 (pc' := 179) (ls' := [some (.ref a), some (.int (Int32.ofNat j)), some (.int (Int32.ofNat n)), some (.int (Int32.ofNat made)), some (.int (Int32.ofNat r)), some (.int (Int32.ofNat i)), some (.int (Int32.ofNat c)), u7]) (st' := [.ref a, .long k]) rfl ?_
  refine Er_getR (x := a + 12) rfl m0.1 (m0.2 (11, 12, 0, 8) (by decide)).1 ?_
  refine Er_run 1 (pc' := 183) (ls' := [some (.ref a), some (.int (Int32.ofNat j)), some (.int (Int32.ofNat n)), some (.int (Int32.ofNat made)), some (.int (Int32.ofNat r)), some (.int (Int32.ofNat i)), some (.int (Int32.ofNat c)), u7]) (st' := [.int (Int32.ofNat j), .ref (a + 12), .long k]) rfl ?_
  refine Er_iald (v := Int32.ofNat np) rfl (m0.2 (11, 12, 0, 8) (by decide)).2.1 (mr_in (i := j) (k := 8) rfl (by omega) (by decide) (m0.2 (11, 12, 0, 8) (by decide)).2.2) (mr_atI rfl (by omega) pa0) ?_
  refine Er_run 1 (pc' := 185) (ls' := [some (.ref a), some (.int (Int32.ofNat j)), some (.int (Int32.ofNat n)), some (.int (Int32.ofNat made)), some (.int (Int32.ofNat r)), some (.int (Int32.ofNat i)), some (.int (Int32.ofNat c)), u7]) (st' := [.long (Int32.toInt64 (Int32.ofNat np)), .long k]) rfl ?_
  refine Er_sta1 (av := [.long k, .long (Int32.toInt64 (Int32.ofNat np))]) (rest := []) rfl rfl ⟨Nat.le_of_ble_eq_true rfl, Nat.le_of_ble_eq_true rfl⟩ rfl rfl (s_floorMod (np_ok h1 h6).2) ?_
  refine Er_run 4 (pc' := bif !decide ((lg_cmp (jx_fm k (Int32.toInt64 (Int32.ofNat np))) (Int32.toInt64 (Int32.ofNat r))) = 0) then 273 else 195) (ls' := [some (.ref a), some (.int (Int32.ofNat j)), some (.int (Int32.ofNat n)), some (.int (Int32.ofNat made)), some (.int (Int32.ofNat r)), some (.int (Int32.ofNat i)), some (.int (Int32.ofNat c)), u7]) (st' := []) rfl ?_
  refine Er_pc (t := 195) (show (bif !decide ((lg_cmp (jx_fm k (Int32.toInt64 (Int32.ofNat np))) (Int32.toInt64 (Int32.ofNat r))) = 0) then 273 else 195) = 195 from by rw [show (!decide ((lg_cmp (jx_fm k (Int32.toInt64 (Int32.ofNat np))) (Int32.toInt64 (Int32.ofNat r))) = 0)) = false from by rw [show (decide (lg_cmp (jx_fm k (Int32.toInt64 (Int32.ofNat np))) (Int32.toInt64 (Int32.ofNat r)) = 0)) = true from (pq_fm (v := 0) h1 h6 (by omega)).trans hq]; rfl]; rfl) ?_
  refine Er_run 9 (pc' := 204) (ls' := [some (.ref a), some (.int (Int32.ofNat j)), some (.int (Int32.ofNat n)), some (.int (Int32.ofNat made)), some (.int (Int32.ofNat r)), some (.int (Int32.ofNat i)), some (.int (Int32.ofNat c)), u7]) (st' := [.ref a, .int ((0 : Int32)), .int ((0 : Int32)), .int ((((3 : Int32)) * (Int32.ofNat j)) + ((2 : Int32))), .ref a]) rfl ?_
  refine Er_getR (x := a + 18) rfl m0.1 (m0.2 (22, 18, 1, 4000) (by decide)).1 ?_
  refine Er_run 1 (pc' := 209) (ls' := [some (.ref a), some (.int (Int32.ofNat j)), some (.int (Int32.ofNat n)), some (.int (Int32.ofNat made)), some (.int (Int32.ofNat r)), some (.int (Int32.ofNat i)), some (.int (Int32.ofNat c)), u7]) (st' := [.int (Int32.ofNat i), .ref (a + 18), .int ((0 : Int32)), .int ((0 : Int32)), .int ((((3 : Int32)) * (Int32.ofNat j)) + ((2 : Int32))), .ref a]) rfl ?_
  refine Er_lald (v := k) rfl (m0.2 (22, 18, 1, 4000) (by decide)).2.1 (mr_in (i := i) (k := 4000) rfl (by omega) (by decide) (m0.2 (22, 18, 1, 4000) (by decide)).2.2) (mr_atL rfl (by omega) kp0) ?_
  refine Er_run 1 (pc' := 211) (ls' := [some (.ref a), some (.int (Int32.ofNat j)), some (.int (Int32.ofNat n)), some (.int (Int32.ofNat made)), some (.int (Int32.ofNat r)), some (.int (Int32.ofNat i)), some (.int (Int32.ofNat c)), u7]) (st' := [.ref a, .long k, .int ((0 : Int32)), .int ((0 : Int32)), .int ((((3 : Int32)) * (Int32.ofNat j)) + ((2 : Int32))), .ref a]) rfl ?_
  refine Er_getR (x := a + 19) rfl m0.1 (m0.2 (23, 19, 1, 4000) (by decide)).1 ?_
  refine Er_run 2 (pc' := 218) (ls' := [some (.ref a), some (.int (Int32.ofNat j)), some (.int (Int32.ofNat n)), some (.int (Int32.ofNat made)), some (.int (Int32.ofNat r)), some (.int (Int32.ofNat i)), some (.int (Int32.ofNat c)), u7]) (st' := [.int (Int32.ofNat c), .int (Int32.ofNat i), .ref (a + 19), .long k, .int ((0 : Int32)), .int ((0 : Int32)), .int ((((3 : Int32)) * (Int32.ofNat j)) + ((2 : Int32))), .ref a]) rfl ?_
  refine Er_inv1 (q' := a) (ci := 12) (av := [.int ((((3 : Int32)) * (Int32.ofNat j)) + ((2 : Int32))), .int ((0 : Int32)), .int ((0 : Int32)), .long k, .ref (a + 19), .int (Int32.ofNat i), .int (Int32.ofNat c)]) (rest := []) rfl rfl ⟨Nat.le_of_ble_eq_true rfl, Nat.le_of_ble_eq_true rfl⟩ rfl rfl m0.1 hc ?_
  refine Er_run 1 (pc' := bif !decide (((0 : Int32)) = 0) then 226 else 224) (ls' := [some (.ref a), some (.int (Int32.ofNat j)), some (.int (Int32.ofNat n)), some (.int (Int32.ofNat made)), some (.int (Int32.ofNat r)), some (.int (Int32.ofNat i)), some (.int (Int32.ofNat c)), u7]) (st' := []) rfl ?_
  refine Er_pc (t := 224) (show (bif !decide (((0 : Int32)) = 0) then 226 else 224) = 224 from by rw [show (!decide (((0 : Int32)) = 0)) = false from by decide]; rfl) ?_
  refine Er_run 1 (pc' := 225) (ls' := [some (.ref a), some (.int (Int32.ofNat j)), some (.int (Int32.ofNat n)), some (.int (Int32.ofNat made)), some (.int (Int32.ofNat r)), some (.int (Int32.ofNat i)), some (.int (Int32.ofNat c)), u7]) (st' := [.int ((0 : Int32))]) rfl ?_
  exact Er_fin rfl rfl hx
set_option maxRecDepth 10000 in
theorem lc_171c1 (m0 : mrO g a) (kp0 : gL g (a + 18) i = k) (pa0 : gI g (a + 12) j = Int32.ofNat np) (hj : j < 8) (hi : i < 1000) (h1 : 1 ≤ np) (h6 : np ≤ 6) (hr : r < 6) (hq : pq np r (k, 0) = true) (hc : Run 160 [.ref a, .int ((3 : Int32) * Int32.ofNat j + 2), .int 0, .int 0, .long k, .ref (a + 19), .int (Int32.ofNat i), .int (Int32.ofNat c)] g (.inl (some (.int 1))) g1) (kk : Ev 164 229 [some (.ref a), some (.int (Int32.ofNat j)), some (.int (Int32.ofNat n)), some (.int (Int32.ofNat made)), some (.int (Int32.ofNat r)), some (.int (Int32.ofNat i)), some (.int (Int32.ofNat c)), some (.int (Int32.ofNat 0))] [] g1 Q) : Ev 164 171 [some (.ref a), some (.int (Int32.ofNat j)), some (.int (Int32.ofNat n)), some (.int (Int32.ofNat made)), some (.int (Int32.ofNat r)), some (.int (Int32.ofNat i)), some (.int (Int32.ofNat c)), u7] [] g Q := by
  refine Er_run 1 (pc' := 172) (ls' := [some (.ref a), some (.int (Int32.ofNat j)), some (.int (Int32.ofNat n)), some (.int (Int32.ofNat made)), some (.int (Int32.ofNat r)), some (.int (Int32.ofNat i)), some (.int (Int32.ofNat c)), u7]) (st' := [.ref a]) rfl ?_
  refine Er_getR (x := a + 18) rfl m0.1 (m0.2 (22, 18, 1, 4000) (by decide)).1 ?_
  refine Er_run 1 (pc' := 177) (ls' := [some (.ref a), some (.int (Int32.ofNat j)), some (.int (Int32.ofNat n)), some (.int (Int32.ofNat made)), some (.int (Int32.ofNat r)), some (.int (Int32.ofNat i)), some (.int (Int32.ofNat c)), u7]) (st' := [.int (Int32.ofNat i), .ref (a + 18)]) rfl ?_
  refine Er_lald (v := k) rfl (m0.2 (22, 18, 1, 4000) (by decide)).2.1 (mr_in (i := i) (k := 4000) rfl (by omega) (by decide) (m0.2 (22, 18, 1, 4000) (by decide)).2.2) (mr_atL rfl (by omega) kp0) ?_
  refine Er_run 1 (pc' := 179) (ls' := [some (.ref a), some (.int (Int32.ofNat j)), some (.int (Int32.ofNat n)), some (.int (Int32.ofNat made)), some (.int (Int32.ofNat r)), some (.int (Int32.ofNat i)), some (.int (Int32.ofNat c)), u7]) (st' := [.ref a, .long k]) rfl ?_
  refine Er_getR (x := a + 12) rfl m0.1 (m0.2 (11, 12, 0, 8) (by decide)).1 ?_
  refine Er_run 1 (pc' := 183) (ls' := [some (.ref a), some (.int (Int32.ofNat j)), some (.int (Int32.ofNat n)), some (.int (Int32.ofNat made)), some (.int (Int32.ofNat r)), some (.int (Int32.ofNat i)), some (.int (Int32.ofNat c)), u7]) (st' := [.int (Int32.ofNat j), .ref (a + 12), .long k]) rfl ?_
  refine Er_iald (v := Int32.ofNat np) rfl (m0.2 (11, 12, 0, 8) (by decide)).2.1 (mr_in (i := j) (k := 8) rfl (by omega) (by decide) (m0.2 (11, 12, 0, 8) (by decide)).2.2) (mr_atI rfl (by omega) pa0) ?_
  refine Er_run 1 (pc' := 185) (ls' := [some (.ref a), some (.int (Int32.ofNat j)), some (.int (Int32.ofNat n)), some (.int (Int32.ofNat made)), some (.int (Int32.ofNat r)), some (.int (Int32.ofNat i)), some (.int (Int32.ofNat c)), u7]) (st' := [.long (Int32.toInt64 (Int32.ofNat np)), .long k]) rfl ?_
  refine Er_sta1 (av := [.long k, .long (Int32.toInt64 (Int32.ofNat np))]) (rest := []) rfl rfl ⟨Nat.le_of_ble_eq_true rfl, Nat.le_of_ble_eq_true rfl⟩ rfl rfl (s_floorMod (np_ok h1 h6).2) ?_
  refine Er_run 4 (pc' := bif !decide ((lg_cmp (jx_fm k (Int32.toInt64 (Int32.ofNat np))) (Int32.toInt64 (Int32.ofNat r))) = 0) then 273 else 195) (ls' := [some (.ref a), some (.int (Int32.ofNat j)), some (.int (Int32.ofNat n)), some (.int (Int32.ofNat made)), some (.int (Int32.ofNat r)), some (.int (Int32.ofNat i)), some (.int (Int32.ofNat c)), u7]) (st' := []) rfl ?_
  refine Er_pc (t := 195) (show (bif !decide ((lg_cmp (jx_fm k (Int32.toInt64 (Int32.ofNat np))) (Int32.toInt64 (Int32.ofNat r))) = 0) then 273 else 195) = 195 from by rw [show (!decide ((lg_cmp (jx_fm k (Int32.toInt64 (Int32.ofNat np))) (Int32.toInt64 (Int32.ofNat r))) = 0)) = false from by rw [show (decide (lg_cmp (jx_fm k (Int32.toInt64 (Int32.ofNat np))) (Int32.toInt64 (Int32.ofNat r)) = 0)) = true from (pq_fm (v := 0) h1 h6 (by omega)).trans hq]; rfl]; rfl) ?_
  refine Er_run 9 (pc' := 204) (ls' := [some (.ref a), some (.int (Int32.ofNat j)), some (.int (Int32.ofNat n)), some (.int (Int32.ofNat made)), some (.int (Int32.ofNat r)), some (.int (Int32.ofNat i)), some (.int (Int32.ofNat c)), u7]) (st' := [.ref a, .int ((0 : Int32)), .int ((0 : Int32)), .int ((((3 : Int32)) * (Int32.ofNat j)) + ((2 : Int32))), .ref a]) rfl ?_
  refine Er_getR (x := a + 18) rfl m0.1 (m0.2 (22, 18, 1, 4000) (by decide)).1 ?_
  refine Er_run 1 (pc' := 209) (ls' := [some (.ref a), some (.int (Int32.ofNat j)), some (.int (Int32.ofNat n)), some (.int (Int32.ofNat made)), some (.int (Int32.ofNat r)), some (.int (Int32.ofNat i)), some (.int (Int32.ofNat c)), u7]) (st' := [.int (Int32.ofNat i), .ref (a + 18), .int ((0 : Int32)), .int ((0 : Int32)), .int ((((3 : Int32)) * (Int32.ofNat j)) + ((2 : Int32))), .ref a]) rfl ?_
  refine Er_lald (v := k) rfl (m0.2 (22, 18, 1, 4000) (by decide)).2.1 (mr_in (i := i) (k := 4000) rfl (by omega) (by decide) (m0.2 (22, 18, 1, 4000) (by decide)).2.2) (mr_atL rfl (by omega) kp0) ?_
  refine Er_run 1 (pc' := 211) (ls' := [some (.ref a), some (.int (Int32.ofNat j)), some (.int (Int32.ofNat n)), some (.int (Int32.ofNat made)), some (.int (Int32.ofNat r)), some (.int (Int32.ofNat i)), some (.int (Int32.ofNat c)), u7]) (st' := [.ref a, .long k, .int ((0 : Int32)), .int ((0 : Int32)), .int ((((3 : Int32)) * (Int32.ofNat j)) + ((2 : Int32))), .ref a]) rfl ?_
  refine Er_getR (x := a + 19) rfl m0.1 (m0.2 (23, 19, 1, 4000) (by decide)).1 ?_
  refine Er_run 2 (pc' := 218) (ls' := [some (.ref a), some (.int (Int32.ofNat j)), some (.int (Int32.ofNat n)), some (.int (Int32.ofNat made)), some (.int (Int32.ofNat r)), some (.int (Int32.ofNat i)), some (.int (Int32.ofNat c)), u7]) (st' := [.int (Int32.ofNat c), .int (Int32.ofNat i), .ref (a + 19), .long k, .int ((0 : Int32)), .int ((0 : Int32)), .int ((((3 : Int32)) * (Int32.ofNat j)) + ((2 : Int32))), .ref a]) rfl ?_
  refine Er_inv1 (q' := a) (ci := 12) (av := [.int ((((3 : Int32)) * (Int32.ofNat j)) + ((2 : Int32))), .int ((0 : Int32)), .int ((0 : Int32)), .long k, .ref (a + 19), .int (Int32.ofNat i), .int (Int32.ofNat c)]) (rest := []) rfl rfl ⟨Nat.le_of_ble_eq_true rfl, Nat.le_of_ble_eq_true rfl⟩ rfl rfl m0.1 hc ?_
  refine Er_run 1 (pc' := bif !decide (((1 : Int32)) = 0) then 226 else 224) (ls' := [some (.ref a), some (.int (Int32.ofNat j)), some (.int (Int32.ofNat n)), some (.int (Int32.ofNat made)), some (.int (Int32.ofNat r)), some (.int (Int32.ofNat i)), some (.int (Int32.ofNat c)), u7]) (st' := []) rfl ?_
  refine Er_pc (t := 226) (show (bif !decide (((1 : Int32)) = 0) then 226 else 224) = 226 from by rw [show (!decide (((1 : Int32)) = 0)) = true from by decide]; rfl) ?_
  refine Er_run 2 (pc' := 229) (ls' := [some (.ref a), some (.int (Int32.ofNat j)), some (.int (Int32.ofNat n)), some (.int (Int32.ofNat made)), some (.int (Int32.ofNat r)), some (.int (Int32.ofNat i)), some (.int (Int32.ofNat c)), some (.int ((0 : Int32)))]) (st' := []) rfl ?_
  exact kk
set_option maxRecDepth 10000 in
theorem lc_273 (kk : Ev 164 125 [some (.ref a), some (.int (Int32.ofNat j)), some (.int (Int32.ofNat n)), some (.int (Int32.ofNat made)), some (.int (Int32.ofNat r)), some (.int (Int32.ofNat c)), some (.int (Int32.ofNat c)), u7] [] g Q) : Ev 164 273 [some (.ref a), some (.int (Int32.ofNat j)), some (.int (Int32.ofNat n)), some (.int (Int32.ofNat made)), some (.int (Int32.ofNat r)), some (.int (Int32.ofNat i)), some (.int (Int32.ofNat c)), u7] [] g Q := by
  refine Er_run 3 (pc' := 125) (ls' := [some (.ref a), some (.int (Int32.ofNat j)), some (.int (Int32.ofNat n)), some (.int (Int32.ofNat made)), some (.int (Int32.ofNat r)), some (.int (Int32.ofNat c)), some (.int (Int32.ofNat c)), u7]) (st' := []) rfl ?_
  exact kk
/-- the KEYS of a PART, one behind the other -/
theorem l_wC (hj : j < 8) (m00 : mrO h0 a) (hpg : PI2 h0 a (3 * j + 2) pg) (pn00 : gI h0 a 30 = Int32.ofNat S'.length) (hS : S'.length ≤ 1000) (hso : jx_so S') (kr : PK h0 (a + 18) (a + 19) S') (pa00 : gI h0 (a + 12) j = Int32.ofNat np) (h1 : 1 ≤ np) (h6 : np ≤ 6) (hr : r < 6) (hb : R0.length + 4 * (S'.filter (pq np r)).length ≤ 4000) (kF : me_fo pg 2 (S'.filter (pq np r)) = none → ∀ g, WC h0 g a → Q (.inl (some (.int 0))) g) (kS : ∀ x g u5 u6 u7, me_fo pg 2 (S'.filter (pq np r)) = some x → WC h0 g a → PK g (a + 20) (a + 21) (R0 ++ x) → Ev 164 280 [some (.ref a), some (.int (Int32.ofNat j)), some (.int (Int32.ofNat n)), some (.int (Int32.ofNat (R0 ++ x).length)), some (.int (Int32.ofNat r)), u5, u6, u7] [] g Q) : ∀ (f i : Nat) (Y : Jl) (g : sm_H) (u6 u7 : Option Value), S'.length ≤ i + f → i ≤ S'.length → Y.length ≤ 4 * ((S'.take i).filter (pq np r)).length → me_fo pg 2 (S'.filter (pq np r)) = (me_fo pg 2 ((S'.drop i).filter (pq np r))).map (fun y => Y ++ y) → WC h0 g a → PK g (a + 20) (a + 21) (R0 ++ Y) → Ev 164 125 [some (.ref a), some (.int (Int32.ofNat j)), some (.int (Int32.ofNat n)), some (.int (Int32.ofNat (R0 ++ Y).length)), some (.int (Int32.ofNat r)), some (.int (Int32.ofNat i)), u6, u7] [] g Q := by
  have hend : ∀ (i : Nat) (Y : Jl) (g : sm_H) (u6 u7 : Option Value), S'.length ≤ i → i ≤ S'.length → me_fo pg 2 (S'.filter (pq np r)) = (me_fo pg 2 ((S'.drop i).filter (pq np r))).map (fun y => Y ++ y) → WC h0 g a → PK g (a + 20) (a + 21) (R0 ++ Y) → Ev 164 125 [some (.ref a), some (.int (Int32.ofNat j)), some (.int (Int32.ofNat n)), some (.int (Int32.ofNat (R0 ++ Y).length)), some (.int (Int32.ofNat r)), some (.int (Int32.ofNat i)), u6, u7] [] g Q := by
    intro i Y g u6 u7 h2 h3 hfo z hk
    refine lc_125e (z.1.mrO m00) ((z.2 30 (by omega)).trans pn00) hS h2 (by omega) (kS Y g _ _ _ ?_ z hk)
    rw [hfo, List.drop_of_length_le h2, List.filter_nil, me_fo_nil, Option.map_some, List.append_nil]
  intro f
  induction f with
  | zero => intro i Y g u6 u7 hf hin hY hfo z hk; exact hend i Y g u6 u7 (by omega) hin hfo z hk
  | succ f ih =>
    intro i Y g u6 u7 hf hin hY hfo z hk
    by_cases hni : S'.length ≤ i
    · exact hend i Y g u6 u7 hni hin hfo z hk
    have m0 := z.1.mrO m00
    have pn0 : gI g a 30 = Int32.ofNat S'.length := (z.2 30 (by omega)).trans pn00
    have pa0 : gI g (a + 12) j = Int32.ofNat np := by rw [z.1.gi (by simp)]; exact pa00
    obtain ⟨q1, q2, q3, q4, q5⟩ := PI2_fr z.1 (by simp) (by simp) (by simp) hpg
    have kr1 : ∀ u d, S'[u]? = some d → gL g (a + 18) u = d.1 := fun u d hu => by rw [z.1.gl (by simp)]; exact (kr u d hu).1
    have kr2 : ∀ u d, S'[u]? = some d → gL g (a + 19) u = d.2 := fun u d hu => by rw [z.1.gl (by simp)]; exact (kr u d hu).2
    obtain ⟨x, hx⟩ : ∃ x, S'[i]? = some x := ⟨S'[i]'(by omega), List.getElem?_eq_getElem (by omega)⟩
    have hdr : S'.drop i = x :: S'.drop (i + 1) := by
      rw [List.drop_eq_getElem_cons (by omega)]
      rw [List.getElem?_eq_getElem (by omega)] at hx
      rw [Option.some.inj hx]
    have hsd : jx_so (S'.drop i) := jx_so_sub (List.drop_sublist _ _) hso
    have hkp : 1 ≤ me_k (S'.drop i) := by rw [hdr]; exact me_k_pos _ _
    have hkl : me_k (S'.drop i) ≤ S'.length - i := by have := me_k_le (S'.drop i); rw [List.length_drop] at this; exact this
    have hgl : ((S'.drop i).take (me_k (S'.drop i))).length = me_k (S'.drop i) := by rw [List.length_take, List.length_drop]; omega
    have htk : S'.take (i + me_k (S'.drop i)) = S'.take i ++ (S'.drop i).take (me_k (S'.drop i)) := by rw [List.take_add]
    have hpx : pq np r (x.1, 0) = pq np r x := rfl
    refine lc_125 m0 pn0 hS (by omega) ?_
    refine l_wD m0 pn0 kr1 rfl hS hx ?_ (S'.length - i) i (by omega) (Nat.le_refl i) (fun u d h1 h2 _ => by omega)
    cases hq : pq np r x with
    | false =>
      refine lc_171n m0 (kr1 i x hx) pa0 hj (by omega) h1 h6 hr (hpx.trans hq) ?_
      refine lc_273 ?_
      refine ih (i + me_k (S'.drop i)) Y g _ _ (by omega) (by omega) ?_ ?_ z hk
      · rw [htk, List.filter_append, List.length_append]; omega
      · have := flt_no (np := np) (r := r) (x := x) (t := S'.drop (i + 1)) (by rw [← hdr]; exact hsd) hq
        rw [← hdr, List.drop_drop] at this
        rw [hfo, this]
    | true =>
      obtain ⟨y1, y2, y3⟩ := flt_yes (np := np) (r := r) (x := x) (t := S'.drop (i + 1)) (by rw [← hdr]; exact hsd) hq
      rw [← hdr] at y1 y2 y3
      rw [List.drop_drop] at y3
      have hfs := me_fo_step (pg := pg) (kd := 2) y1
      rw [y2, y3] at hfs
      have hv : ∀ u, u < ((S'.drop i).take (me_k (S'.drop i))).length → gL g (a + 19) (i + u) = jx_v ((S'.drop i).take (me_k (S'.drop i))) u := by
        intro u hu
        rw [hgl] at hu
        have e1 : ((S'.drop i).take (me_k (S'.drop i)))[u]? = S'[i + u]? := by rw [List.getElem?_take_of_lt hu, List.getElem?_drop]
        rw [jx_v, e1]
        cases hd : S'[i + u]? with
        | none =>
          have := List.getElem?_eq_none_iff.1 hd
          omega
        | some d => exact kr2 _ d hd
      have hky : x.1 = jx_k ((S'.drop i).take (me_k (S'.drop i))) 0 := by
        rw [jx_k, List.getElem?_take_of_lt (by omega), List.getElem?_drop, Nat.add_zero, hx]; rfl
      obtain ⟨g1, hc, c1, c2⟩ := s_Ref_call (h := g) (kd := 2) (ky := x.1) (P := 3 * j + 2) (vq := a + 19) (fr := i) (en := i + me_k (S'.drop i)) (g := (S'.drop i).take (me_k (S'.drop i))) (pg := pg) m0 q1 q2 q3 q4 q5 (by rw [hgl]) (by omega) (m0.2 (23, 19, 1, 4000) (by decide)).2.1 (fun u hu => mr_in (i := i + u) (k := 4000) rfl (by rw [hgl] at hu; omega) (by decide) (m0.2 (23, 19, 1, 4000) (by decide)).2.2) hv (by simp) (by rw [hgl]; omega) hky
      rw [← mr_3jk (k := 2)] at hc
      by_cases hok : (jq_grp pg 2 ((S'.drop i).take (me_k (S'.drop i)))).1 = true
      · rw [if_pos hok] at hc hfs
        obtain ⟨d1, d2⟩ := c2 hok
        have h4 := jq_grp_len (pg := pg) (kd := 2) ((S'.drop i).take (me_k (S'.drop i)))
        have hgf : ((S'.drop i).take (me_k (S'.drop i))).filter (pq np r) = (S'.drop i).take (me_k (S'.drop i)) := by
          rw [← y2, List.filter_eq_self]
          intro d hd
          exact (List.mem_filter.1 (List.mem_of_mem_take hd)).2
        have hcn : ((S'.take (i + me_k (S'.drop i))).filter (pq np r)).length = ((S'.take i).filter (pq np r)).length + me_k (S'.drop i) := by
          rw [htk, List.filter_append, List.length_append, hgf, hgl]
        have hle : ((S'.take (i + me_k (S'.drop i))).filter (pq np r)).length ≤ (S'.filter (pq np r)).length := ((List.take_sublist _ _).filter _).length_le
        refine lc_171c1 m0 (kr1 i x hx) pa0 hj (by omega) h1 h6 hr (hpx.trans hq) hc ?_
        have hk1 : PK g1 (a + 20) (a + 21) (R0 ++ Y) := fun u d hu => by rw [c1.1.gl (by simp), c1.1.gl (by simp)]; exact hk u d hu
        refine l_wE (h0 := g1) (e := R0 ++ Y) (em := (jq_grp pg 2 ((S'.drop i).take (me_k (S'.drop i)))).2) (by rw [List.length_append]; omega) h4 (fun g2 m2 z2 k2 v2 => ?_) _ 0 g1 (Nat.zero_add _) (c1.1.mrO m0) d1 (fun u d hu => (d2 u d hu).1) (fun u d hu => (d2 u d hu).2) (by rw [List.take_zero, List.append_nil]; exact fun u d hu => (hk1 u d hu).1) (by rw [List.take_zero, List.append_nil]; exact fun u d hu => (hk1 u d hu).2) (FrL.refl g1)
        rw [← List.length_append]
        refine lc_273 ?_
        have := ih (i + me_k (S'.drop i)) (Y ++ (jq_grp pg 2 ((S'.drop i).take (me_k (S'.drop i)))).2) g2 (some (.int (Int32.ofNat (i + me_k (S'.drop i))))) (some (.int (Int32.ofNat (jq_grp pg 2 ((S'.drop i).take (me_k (S'.drop i)))).2.length))) (by omega) (by omega) (by rw [List.length_append]; omega) (by
          rw [hfo, hfs, Option.map_map]
          congr 1
          funext y
          show Y ++ (_ ++ y) = (Y ++ _) ++ y
          rw [List.append_assoc]) ((z.cp c1).fl z2) (fun u d hu => by rw [← List.append_assoc] at hu; exact ⟨k2 u d hu, v2 u d hu⟩)
        rw [← List.append_assoc] at this
        exact this
      · rw [if_neg hok] at hc hfs
        refine lc_171c0 m0 (kr1 i x hx) pa0 hj (by omega) h1 h6 hr (hpx.trans hq) hc (kF ?_ g1 (z.cp c1))
        rw [hfo, hfs]; rfl

end REFW
