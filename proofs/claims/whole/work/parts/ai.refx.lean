section REFX
variable {h h0 g g1 : sm_H} {a : Nat} {Q : sm_R → sm_H → Prop} {n c i j t r np made fo fa fb n1 n2 : Nat} {k v : Int64} {e em l T S' R0 inp : Jl} {p : Int64 × Int64} {u5 u6 u7 : Option Value} {pg : List (Int32 × Int64)} {pr : Nat → List (Int32 × Int64)} {ls : List Jl}

set_option maxRecDepth 10000 in
theorem lb_111e (m0 : mrO g a) (pa0 : gI g (a + 12) j = Int32.ofNat np) (hj : j < 8) (h6 : np ≤ 6) (hi : np ≤ r) (hi2 : r ≤ 6) (kk : Ev 164 286 [some (.ref a), some (.int (Int32.ofNat j)), some (.int (Int32.ofNat n)), some (.int (Int32.ofNat made)), some (.int (Int32.ofNat r)), u5, u6, u7] [] g Q) : Ev 164 111 [some (.ref a), some (.int (Int32.ofNat j)), some (.int (Int32.ofNat n)), some (.int (Int32.ofNat made)), some (.int (Int32.ofNat r)), u5, u6, u7] [] g Q := by
  refine Er_run 2 (pc' := 114) (ls' := [some (.ref a), some (.int (Int32.ofNat j)), some (.int (Int32.ofNat n)), some (.int (Int32.ofNat made)), some (.int (Int32.ofNat r)), u5, u6, u7]) (st' := [.ref a, .int (Int32.ofNat r)]) rfl ?_
  refine Er_getR (x := a + 12) rfl m0.1 (m0.2 (11, 12, 0, 8) (by decide)).1 ?_
  refine Er_run 1 (pc' := 118) (ls' := [some (.ref a), some (.int (Int32.ofNat j)), some (.int (Int32.ofNat n)), some (.int (Int32.ofNat made)), some (.int (Int32.ofNat r)), u5, u6, u7]) (st' := [.int (Int32.ofNat j), .ref (a + 12), .int (Int32.ofNat r)]) rfl ?_
  refine Er_iald (v := Int32.ofNat np) rfl (m0.2 (11, 12, 0, 8) (by decide)).2.1 (mr_in (i := j) (k := 8) rfl (by omega) (by decide) (m0.2 (11, 12, 0, 8) (by decide)).2.2) (mr_atI rfl (by omega) pa0) ?_
  refine Er_run 1 (pc' := bif decide ((Int32.ofNat np) ≤ (Int32.ofNat r)) then 286 else 122) (ls' := [some (.ref a), some (.int (Int32.ofNat j)), some (.int (Int32.ofNat n)), some (.int (Int32.ofNat made)), some (.int (Int32.ofNat r)), u5, u6, u7]) (st' := []) rfl ?_
  refine Er_pc (t := 286) (show (bif decide ((Int32.ofNat np) ≤ (Int32.ofNat r)) then 286 else 122) = 286 from by rw [show (decide ((Int32.ofNat np) ≤ (Int32.ofNat r))) = true from by rw [jx_le (by omega) (by omega)]; exact decide_eq_true (by omega)]; rfl) ?_
  exact kk
set_option maxRecDepth 10000 in
theorem lb_111 (m0 : mrO g a) (pa0 : gI g (a + 12) j = Int32.ofNat np) (hj : j < 8) (h6 : np ≤ 6) (hi : r < np) (kk : Ev 164 125 [some (.ref a), some (.int (Int32.ofNat j)), some (.int (Int32.ofNat n)), some (.int (Int32.ofNat made)), some (.int (Int32.ofNat r)), some (.int (Int32.ofNat 0)), u6, u7] [] g Q) : Ev 164 111 [some (.ref a), some (.int (Int32.ofNat j)), some (.int (Int32.ofNat n)), some (.int (Int32.ofNat made)), some (.int (Int32.ofNat r)), u5, u6, u7] [] g Q := by
  refine Er_run 2 (pc' := 114) (ls' := [some (.ref a), some (.int (Int32.ofNat j)), some (.int (Int32.ofNat n)), some (.int (Int32.ofNat made)), some (.int (Int32.ofNat r)), u5, u6, u7]) (st' := [.ref a, .int (Int32.ofNat r)]) rfl ?_
  refine Er_getR (x := a + 12) rfl m0.1 (m0.2 (11, 12, 0, 8) (by decide)).1 ?_
  refine Er_run 1 (pc' := 118) (ls' := [some (.ref a), some (.int (Int32.ofNat j)), some (.int (Int32.ofNat n)), some (.int (Int32.ofNat made)), some (.int (Int32.ofNat r)), u5, u6, u7]) (st' := [.int (Int32.ofNat j), .ref (a + 12), .int (Int32.ofNat r)]) rfl ?_
  refine Er_iald (v := Int32.ofNat np) rfl (m0.2 (11, 12, 0, 8) (by decide)).2.1 (mr_in (i := j) (k := 8) rfl (by omega) (by decide) (m0.2 (11, 12, 0, 8) (by decide)).2.2) (mr_atI rfl (by omega) pa0) ?_
  refine Er_run 1 (pc' := bif decide ((Int32.ofNat np) ≤ (Int32.ofNat r)) then 286 else 122) (ls' := [some (.ref a), some (.int (Int32.ofNat j)), some (.int (Int32.ofNat n)), some (.int (Int32.ofNat made)), some (.int (Int32.ofNat r)), u5, u6, u7]) (st' := []) rfl ?_
  refine Er_pc (t := 122) (show (bif decide ((Int32.ofNat np) ≤ (Int32.ofNat r)) then 286 else 122) = 122 from by rw [show (decide ((Int32.ofNat np) ≤ (Int32.ofNat r))) = false from by rw [jx_le (by omega) (by omega)]; exact decide_eq_false (by omega)]; rfl) ?_
  refine Er_run 2 (pc' := 125) (ls' := [some (.ref a), some (.int (Int32.ofNat j)), some (.int (Int32.ofNat n)), some (.int (Int32.ofNat made)), some (.int (Int32.ofNat r)), some (.int ((0 : Int32))), u6, u7]) (st' := []) rfl ?_
  exact kk
set_option maxRecDepth 10000 in
theorem lb_280 (kk : Ev 164 111 [some (.ref a), some (.int (Int32.ofNat j)), some (.int (Int32.ofNat n)), some (.int (Int32.ofNat made)), some (.int (Int32.ofNat (r + 1))), u5, u6, u7] [] g Q) : Ev 164 280 [some (.ref a), some (.int (Int32.ofNat j)), some (.int (Int32.ofNat n)), some (.int (Int32.ofNat made)), some (.int (Int32.ofNat r)), u5, u6, u7] [] g Q := by
  refine Er_run 2 (pc' := 111) (ls' := [some (.ref a), some (.int (Int32.ofNat j)), some (.int (Int32.ofNat n)), some (.int (Int32.ofNat made)), some (.int ((Int32.ofNat r) + (1 : Int32))), u5, u6, u7]) (st' := []) rfl ?_
  rw [jx_s1]
  exact kk
set_option maxRecDepth 10000 in
theorem PK_fr {q1 q2 : Nat} {I L : List Nat} (z : FrL I L h g) (a1 : q1 ∉ L) (a2 : q2 ∉ L) (hk : PK h q1 q2 l) : PK g q1 q2 l := fun u d hu => by rw [z.gl a1, z.gl a2]; exact hk u d hu
/-- the PARTS, one behind the other -/
theorem l_wB (hj : j < 8) (m00 : mrO h0 a) (hpg : PI2 h0 a (3 * j + 2) (pr 2)) (hls : ls.flatten.length ≤ 1000) (pn00 : gI h0 a 30 = Int32.ofNat ls.flatten.length) (kr : PK h0 (a + 18) (a + 19) (srt ls.flatten)) (pa00 : gI h0 (a + 12) j = Int32.ofNat np) (h1 : 1 ≤ np) (h6 : np ≤ 6) (kF : me_seq (me_red pr np ls) np = none → ∀ g, WC h0 g a → Q (.inl (some (.int 0))) g) (kS : ∀ os g u5 u6 u7, me_seq (me_red pr np ls) np = some os → WC h0 g a → PK g (a + 20) (a + 21) os.flatten → os.flatten.length ≤ 4000 → Ev 164 286 [some (.ref a), some (.int (Int32.ofNat j)), some (.int (Int32.ofNat n)), some (.int (Int32.ofNat os.flatten.length)), some (.int (Int32.ofNat np)), u5, u6, u7] [] g Q) : ∀ (f r : Nat) (os : List Jl) (g : sm_H) (u5 u6 u7 : Option Value), r + f = np → me_seq (me_red pr np ls) r = some os → WC h0 g a → PK g (a + 20) (a + 21) os.flatten → os.flatten.length ≤ 4 * sumOn (fun r => ((srt ls.flatten).filter (pq np r)).length) r → Ev 164 111 [some (.ref a), some (.int (Int32.ofNat j)), some (.int (Int32.ofNat n)), some (.int (Int32.ofNat os.flatten.length)), some (.int (Int32.ofNat r)), u5, u6, u7] [] g Q := by
  have hsl : (srt ls.flatten).length = ls.flatten.length := srt_len _
  intro f
  induction f with
  | zero =>
    intro r os g u5 u6 u7 hf hs z hk hl
    have e0 : r = np := by omega
    subst e0
    have hsum := flt_sum (np := r) (srt ls.flatten) r (by omega)
    exact lb_111e (z.1.mrO m00) (by rw [z.1.gi (by simp)]; exact pa00) hj h6 (Nat.le_refl _) h6 (kS os g u5 u6 u7 hs z hk (by omega))
  | succ f ih =>
    intro r os g u5 u6 u7 hf hs z hk hl
    have m0 := z.1.mrO m00
    have hsum := flt_sum (np := np) (srt ls.flatten) (r + 1) (by omega)
    have hsum' : sumOn (fun r => ((srt ls.flatten).filter (pq np r)).length) (r + 1) = sumOn (fun r => ((srt ls.flatten).filter (pq np r)).length) r + ((srt ls.flatten).filter (pq np r)).length := rfl
    have hred : me_red pr np ls r = me_fo (pr 2) 2 ((srt ls.flatten).filter (pq np r)) := by rw [me_red, red_flt hls]
    refine lb_111 m0 (by rw [z.1.gi (by simp)]; exact pa00) hj h6 (by omega) ?_
    have := l_wC (h0 := g) (S' := srt ls.flatten) (R0 := os.flatten) (pg := pr 2) (r := r) (n := n) (Q := Q) hj m0 (PI2_fr z.1 (by simp) (by simp) (by simp) hpg) ((z.2 30 (by omega)).trans (by rw [hsl]; exact pn00)) (by omega) (srt_so hls) (PK_fr z.1 (by simp) (by simp) kr) (by rw [z.1.gi (by simp)]; exact pa00) h1 h6 (by omega) (by omega) (fun e0 g2 z2 => kF (me_seq_none (i := r) (by rw [hred]; exact e0) np (by omega)) g2 (z.trans z2)) (fun x g2 v5 v6 v7 e0 z2 k2 => by
      refine lb_280 ?_
      have hs2 : me_seq (me_red pr np ls) (r + 1) = some (os ++ [x]) := by rw [me_seq, hs, hred, e0]; rfl
      have hfl : (os ++ [x]).flatten = os.flatten ++ x := by rw [List.flatten_append]; simp
      have hxl := me_fo_len e0
      have := ih (r + 1) (os ++ [x]) g2 v5 v6 v7 (by omega) hs2 (z.trans z2) (by rw [hfl]; exact k2) (by rw [hfl, List.length_append]; omega)
      rw [hfl] at this
      exact this) (srt ls.flatten).length 0 [] g u6 u7 (by omega) (Nat.zero_le _) (Nat.zero_le _) (by
      rw [List.drop_zero]
      cases me_fo (pr 2) 2 ((srt ls.flatten).filter (pq np r)) with
      | none => rfl
      | some y => rfl) (WC.refl g) (by rw [List.append_nil]; exact hk)
    rw [List.append_nil] at this
    exact this

set_option maxRecDepth 10000 in
theorem lb_80x (m0 : mrO g a) (pn0 : gI g a 30 = Int32.ofNat c) (hc : 1000 < c) (hc2 : c < 1000000) (hq : Q (.inl (some (.int 0))) g) : Ev 164 80 [some (.ref a), some (.int (Int32.ofNat j)), some (.int (Int32.ofNat n)), some (.int ((0 : Int32))), some (.int (Int32.ofNat t)), u5, u6, u7] [] g Q := by
  refine Er_run 1 (pc' := 81) (ls' := [some (.ref a), some (.int (Int32.ofNat j)), some (.int (Int32.ofNat n)), some (.int ((0 : Int32))), some (.int (Int32.ofNat t)), u5, u6, u7]) (st' := [.ref a]) rfl ?_
  refine Er_getI (v := Int32.ofNat c) rfl m0.1 pn0 ?_
  refine Er_run 2 (pc' := bif decide ((Int32.ofNat c) ≤ ((1000 : Int32))) then 92 else 90) (ls' := [some (.ref a), some (.int (Int32.ofNat j)), some (.int (Int32.ofNat n)), some (.int ((0 : Int32))), some (.int (Int32.ofNat t)), u5, u6, u7]) (st' := []) rfl ?_
  refine Er_pc (t := 90) (show (bif decide ((Int32.ofNat c) ≤ ((1000 : Int32))) then 92 else 90) = 90 from by rw [show (decide ((Int32.ofNat c) ≤ ((1000 : Int32)))) = false from by rw [show (1000 : Int32) = Int32.ofNat 1000 from rfl, jx_le (by omega) (by omega)]; exact decide_eq_false (by omega)]; rfl) ?_
  refine Er_run 1 (pc' := 91) (ls' := [some (.ref a), some (.int (Int32.ofNat j)), some (.int (Int32.ofNat n)), some (.int ((0 : Int32))), some (.int (Int32.ofNat t)), u5, u6, u7]) (st' := [.int ((0 : Int32))]) rfl ?_
  exact Er_fin rfl rfl hq
set_option maxRecDepth 10000 in
theorem lb_80 (m0 : mrO g a) (pn0 : gI g a 30 = Int32.ofNat c) (hc : c ≤ 1000) (hs : Run 161 [.ref (a + 18), .ref (a + 19), .int 0, .int (Int32.ofNat c)] g (.inl none) g1) (kk : Ev 164 111 [some (.ref a), some (.int (Int32.ofNat j)), some (.int (Int32.ofNat n)), some (.int (Int32.ofNat 0)), some (.int (Int32.ofNat 0)), u5, u6, u7] [] g1 Q) : Ev 164 80 [some (.ref a), some (.int (Int32.ofNat j)), some (.int (Int32.ofNat n)), some (.int ((0 : Int32))), some (.int (Int32.ofNat t)), u5, u6, u7] [] g Q := by
  refine Er_run 1 (pc' := 81) (ls' := [some (.ref a), some (.int (Int32.ofNat j)), some (.int (Int32.ofNat n)), some (.int ((0 : Int32))), some (.int (Int32.ofNat t)), u5, u6, u7]) (st' := [.ref a]) rfl ?_
  refine Er_getI (v := Int32.ofNat c) rfl m0.1 pn0 ?_
  refine Er_run 2 (pc' := bif decide ((Int32.ofNat c) ≤ ((1000 : Int32))) then 92 else 90) (ls' := [some (.ref a), some (.int (Int32.ofNat j)), some (.int (Int32.ofNat n)), some (.int ((0 : Int32))), some (.int (Int32.ofNat t)), u5, u6, u7]) (st' := []) rfl ?_
  refine Er_pc (t := 92) (show (bif decide ((Int32.ofNat c) ≤ ((1000 : Int32))) then 92 else 90) = 92 from by rw [show (decide ((Int32.ofNat c) ≤ ((1000 : Int32)))) = true from by rw [show (1000 : Int32) = Int32.ofNat 1000 from rfl, jx_le (by omega) (by omega)]; exact decide_eq_true (by omega)]; rfl) ?_
  refine Er_run 1 (pc' := 93) (ls' := [some (.ref a), some (.int (Int32.ofNat j)), some (.int (Int32.ofNat n)), some (.int ((0 : Int32))), some (.int (Int32.ofNat t)), u5, u6, u7]) (st' := [.ref a]) rfl ?_
  refine Er_getR (x := a + 18) rfl m0.1 (m0.2 (22, 18, 1, 4000) (by decide)).1 ?_
  refine Er_run 1 (pc' := 97) (ls' := [some (.ref a), some (.int (Int32.ofNat j)), some (.int (Int32.ofNat n)), some (.int ((0 : Int32))), some (.int (Int32.ofNat t)), u5, u6, u7]) (st' := [.ref a, .ref (a + 18)]) rfl ?_
  refine Er_getR (x := a + 19) rfl m0.1 (m0.2 (23, 19, 1, 4000) (by decide)).1 ?_
  refine Er_run 2 (pc' := 102) (ls' := [some (.ref a), some (.int (Int32.ofNat j)), some (.int (Int32.ofNat n)), some (.int ((0 : Int32))), some (.int (Int32.ofNat t)), u5, u6, u7]) (st' := [.ref a, .int ((0 : Int32)), .ref (a + 19), .ref (a + 18)]) rfl ?_
  refine Er_getI (v := Int32.ofNat c) rfl m0.1 pn0 ?_
  refine Er_sta0 (av := [.ref (a + 18), .ref (a + 19), .int ((0 : Int32)), .int (Int32.ofNat c)]) (rest := []) rfl rfl ⟨Nat.le_of_ble_eq_true rfl, Nat.le_of_ble_eq_true rfl⟩ rfl rfl hs ?_
  refine Er_run 2 (pc' := 111) (ls' := [some (.ref a), some (.int (Int32.ofNat j)), some (.int (Int32.ofNat n)), some (.int ((0 : Int32))), some (.int ((0 : Int32))), u5, u6, u7]) (st' := []) rfl ?_
  exact kk
set_option maxRecDepth 10000 in
theorem lb_286x (hc : 300 < made) (hc2 : made ≤ 4000) (hq : Q (.inl (some (.int 0))) g) : Ev 164 286 [some (.ref a), some (.int (Int32.ofNat j)), some (.int (Int32.ofNat n)), some (.int (Int32.ofNat made)), some (.int (Int32.ofNat r)), u5, u6, u7] [] g Q := by
  refine Er_run 3 (pc' := bif decide ((Int32.ofNat made) ≤ ((300 : Int32))) then 295 else 293) (ls' := [some (.ref a), some (.int (Int32.ofNat j)), some (.int (Int32.ofNat n)), some (.int (Int32.ofNat made)), some (.int (Int32.ofNat r)), u5, u6, u7]) (st' := []) rfl ?_
  refine Er_pc (t := 293) (show (bif decide ((Int32.ofNat made) ≤ ((300 : Int32))) then 295 else 293) = 293 from by rw [show (decide ((Int32.ofNat made) ≤ ((300 : Int32)))) = false from by rw [show (300 : Int32) = Int32.ofNat 300 from rfl, jx_le (by omega) (by omega)]; exact decide_eq_false (by omega)]; rfl) ?_
  refine Er_run 1 (pc' := 294) (ls' := [some (.ref a), some (.int (Int32.ofNat j)), some (.int (Int32.ofNat n)), some (.int (Int32.ofNat made)), some (.int (Int32.ofNat r)), u5, u6, u7]) (st' := [.int ((0 : Int32))]) rfl ?_
  exact Er_fin rfl rfl hq
set_option maxRecDepth 10000 in
theorem mr_300 : (300 : Int32) * Int32.ofNat fo = Int32.ofNat (300 * fo) := by rw [Int32.ofNat_mul]; rfl
set_option maxRecDepth 10000 in
theorem lb_286 (m0 : mrO g a) (ou0 : gI g (a + 11) j = Int32.ofNat fo) (hj : j < 8) (hfo : fo < 16) (hc : made ≤ 300) (hq : Q (.inl (some (.int 1))) (sm_cpL (sm_cpL (setI g (a + 3) fo (Int32.ofNat made)) (a + 20) (0 : Int32).toNatClampNeg (a + 1) ((300 : Int32) * Int32.ofNat fo).toNatClampNeg (Int32.ofNat made).toNatClampNeg) (a + 21) (0 : Int32).toNatClampNeg (a + 2) ((300 : Int32) * Int32.ofNat fo).toNatClampNeg (Int32.ofNat made).toNatClampNeg)) : Ev 164 286 [some (.ref a), some (.int (Int32.ofNat j)), some (.int (Int32.ofNat n)), some (.int (Int32.ofNat made)), some (.int (Int32.ofNat r)), u5, u6, u7] [] g Q := by
  refine Er_run 3 (pc' := bif decide ((Int32.ofNat made) ≤ ((300 : Int32))) then 295 else 293) (ls' := [some (.ref a), some (.int (Int32.ofNat j)), some (.int (Int32.ofNat n)), some (.int (Int32.ofNat made)), some (.int (Int32.ofNat r)), u5, u6, u7]) (st' := []) rfl ?_
  refine Er_pc (t := 295) (show (bif decide ((Int32.ofNat made) ≤ ((300 : Int32))) then 295 else 293) = 295 from by rw [show (decide ((Int32.ofNat made) ≤ ((300 : Int32)))) = true from by rw [show (300 : Int32) = Int32.ofNat 300 from rfl, jx_le (by omega) (by omega)]; exact decide_eq_true (by omega)]; rfl) ?_
  refine Er_run 1 (pc' := 296) (ls' := [some (.ref a), some (.int (Int32.ofNat j)), some (.int (Int32.ofNat n)), some (.int (Int32.ofNat made)), some (.int (Int32.ofNat r)), u5, u6, u7]) (st' := [.ref a]) rfl ?_
  refine Er_getR (x := a + 11) rfl m0.1 (m0.2 (10, 11, 0, 8) (by decide)).1 ?_
  refine Er_run 1 (pc' := 300) (ls' := [some (.ref a), some (.int (Int32.ofNat j)), some (.int (Int32.ofNat n)), some (.int (Int32.ofNat made)), some (.int (Int32.ofNat r)), u5, u6, u7]) (st' := [.int (Int32.ofNat j), .ref (a + 11)]) rfl ?_
  refine Er_iald (v := Int32.ofNat fo) rfl (m0.2 (10, 11, 0, 8) (by decide)).2.1 (mr_in (i := j) (k := 8) rfl (by omega) (by decide) (m0.2 (10, 11, 0, 8) (by decide)).2.2) (mr_atI rfl (by omega) ou0) ?_
  refine Er_run 2 (pc' := 304) (ls' := [some (.ref a), some (.int (Int32.ofNat j)), some (.int (Int32.ofNat n)), some (.int (Int32.ofNat made)), some (.int (Int32.ofNat fo)), u5, u6, u7]) (st' := [.ref a]) rfl ?_
  refine Er_getR (x := a + 3) rfl m0.1 (m0.2 (2, 3, 0, 16) (by decide)).1 ?_
  refine Er_run 2 (pc' := 310) (ls' := [some (.ref a), some (.int (Int32.ofNat j)), some (.int (Int32.ofNat n)), some (.int (Int32.ofNat made)), some (.int (Int32.ofNat fo)), u5, u6, u7]) (st' := [.int (Int32.ofNat made), .int (Int32.ofNat fo), .ref (a + 3)]) rfl ?_
  refine Er_iast rfl (m0.2 (2, 3, 0, 16) (by decide)).2.1 (mr_in (i := fo) (k := 16) rfl (by omega) (by decide) (m0.2 (2, 3, 0, 16) (by decide)).2.2) ?_
  rw [mr_cn (x := Int32.ofNat fo) (i := fo) rfl (by omega)]
  refine Er_run 1 (pc' := 312) (ls' := [some (.ref a), some (.int (Int32.ofNat j)), some (.int (Int32.ofNat n)), some (.int (Int32.ofNat made)), some (.int (Int32.ofNat fo)), u5, u6, u7]) (st' := [.ref a]) rfl ?_
  refine Er_getR (x := a + 20) rfl m0.1 (m0.2 (24, 20, 1, 4000) (by decide)).1 ?_
  refine Er_run 2 (pc' := 317) (ls' := [some (.ref a), some (.int (Int32.ofNat j)), some (.int (Int32.ofNat n)), some (.int (Int32.ofNat made)), some (.int (Int32.ofNat fo)), u5, u6, u7]) (st' := [.ref a, .int ((0 : Int32)), .ref (a + 20)]) rfl ?_
  refine Er_getR (x := a + 1) rfl m0.1 (m0.2 (0, 1, 1, 4800) (by decide)).1 ?_
  refine Er_run 4 (pc' := 327) (ls' := [some (.ref a), some (.int (Int32.ofNat j)), some (.int (Int32.ofNat n)), some (.int (Int32.ofNat made)), some (.int (Int32.ofNat fo)), u5, u6, u7]) (st' := [.int (Int32.ofNat made), .int (((300 : Int32)) * (Int32.ofNat fo)), .ref (a + 1), .int ((0 : Int32)), .ref (a + 20)]) rfl ?_
  refine Er_cpL rfl (m0.2 (24, 20, 1, 4000) (by decide)).2.1 (m0.2 (0, 1, 1, 4800) (by decide)).2.1 (Nat.le_of_ble_eq_true rfl) (by decide) (by rw [mr_300, sm_ofNat_toInt (by omega)]; omega) (by rw [sm_ofNat_toInt (by omega)]; omega) (by rw [sm_ofNat_toInt (by omega)]; show (0 : Int) + _ ≤ (((gS g (a + 20)).2 : Nat) : Int); rw [(m0.2 (24, 20, 1, 4000) (by decide)).2.2]; show _ ≤ ((4000 : Nat) : Int); omega) (by rw [mr_300, sm_ofNat_toInt (by omega), sm_ofNat_toInt (by omega)]; show _ ≤ (((gS g (a + 1)).2 : Nat) : Int); rw [(m0.2 (0, 1, 1, 4800) (by decide)).2.2]; show _ ≤ ((4800 : Nat) : Int); omega) ?_
  refine Er_run 1 (pc' := 331) (ls' := [some (.ref a), some (.int (Int32.ofNat j)), some (.int (Int32.ofNat n)), some (.int (Int32.ofNat made)), some (.int (Int32.ofNat fo)), u5, u6, u7]) (st' := [.ref a]) rfl ?_
  refine Er_getR (x := a + 21) rfl m0.1 (m0.2 (25, 21, 1, 4000) (by decide)).1 ?_
  refine Er_run 2 (pc' := 336) (ls' := [some (.ref a), some (.int (Int32.ofNat j)), some (.int (Int32.ofNat n)), some (.int (Int32.ofNat made)), some (.int (Int32.ofNat fo)), u5, u6, u7]) (st' := [.ref a, .int ((0 : Int32)), .ref (a + 21)]) rfl ?_
  refine Er_getR (x := a + 2) rfl m0.1 (m0.2 (1, 2, 1, 4800) (by decide)).1 ?_
  refine Er_run 4 (pc' := 346) (ls' := [some (.ref a), some (.int (Int32.ofNat j)), some (.int (Int32.ofNat n)), some (.int (Int32.ofNat made)), some (.int (Int32.ofNat fo)), u5, u6, u7]) (st' := [.int (Int32.ofNat made), .int (((300 : Int32)) * (Int32.ofNat fo)), .ref (a + 2), .int ((0 : Int32)), .ref (a + 21)]) rfl ?_
  refine Er_cpL rfl (m0.2 (25, 21, 1, 4000) (by decide)).2.1 (m0.2 (1, 2, 1, 4800) (by decide)).2.1 (Nat.le_of_ble_eq_true rfl) (by decide) (by rw [mr_300, sm_ofNat_toInt (by omega)]; omega) (by rw [sm_ofNat_toInt (by omega)]; omega) (by rw [sm_ofNat_toInt (by omega)]; show (0 : Int) + _ ≤ (((gS g (a + 21)).2 : Nat) : Int); rw [(m0.2 (25, 21, 1, 4000) (by decide)).2.2]; show _ ≤ ((4000 : Nat) : Int); omega) (by rw [mr_300, sm_ofNat_toInt (by omega), sm_ofNat_toInt (by omega)]; show _ ≤ (((gS g (a + 2)).2 : Nat) : Int); rw [(m0.2 (1, 2, 1, 4800) (by decide)).2.2]; show _ ≤ ((4800 : Nat) : Int); omega) ?_
  refine Er_run 1 (pc' := 350) (ls' := [some (.ref a), some (.int (Int32.ofNat j)), some (.int (Int32.ofNat n)), some (.int (Int32.ofNat made)), some (.int (Int32.ofNat fo)), u5, u6, u7]) (st' := [.int ((1 : Int32))]) rfl ?_
  exact Er_fin rfl rfl hq
end REFX
