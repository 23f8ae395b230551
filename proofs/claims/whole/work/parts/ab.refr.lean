/-- frames of mapped -/
abbrev mL (a : Nat) : List Nat := [a + 16, a + 17, a + 22, a + 23, a + 24, a + 25]
/-- mapped has gone on from h to g: its own rows and emits alone have changed -/
def MC (h g : sm_H) (a : Nat) : Prop := FrL [a] (mL a) h g ∧ ∀ s, s ≠ 31 → gI g a s = gI h a s
section REFR
variable {h h0 g : sm_H} {a : Nat} {Q : sm_R → sm_H → Prop} {n c i j r fa fb n1 tt ff : Nat} {k v : Int64} {e em l inp : Jl} {p : Int64 × Int64} {u6 u7 : Option Value} {pg : List (Int32 × Int64)}
theorem mr_rec2 (hn : n1 ≤ i) : (300 : Int32) * Int32.ofNat fb + Int32.ofNat i - Int32.ofNat n1 = Int32.ofNat (300 * fb + (i - n1)) := by
  rw [mr_rec, ← Int32.ofNat_sub _ _ (by omega), show 300 * fb + i - n1 = 300 * fb + (i - n1) by omega]

set_option maxRecDepth 10000 in
theorem lm_r1 (m0 : mrO g a) (hj : j < 8) (hi : i < tt) (htt : tt < 10000) (fi0 : gI g (a + 9) j = Int32.ofNat fa) (hfa : fa < 16) (sz0 : gI g (a + 3) fa = Int32.ofNat n1) (hn1 : n1 ≤ 300) (h1 : i < n1) (kk : Ev 162 71 [some (.ref a), some (.int (Int32.ofNat j)), some (.int (Int32.ofNat ff)), some (.int (Int32.ofNat tt)), some (.int (Int32.ofNat n)), some (.int (Int32.ofNat i)), some (.int (Int32.ofNat (300 * fa + i))), u7] [] g Q) : Ev 162 6 [some (.ref a), some (.int (Int32.ofNat j)), some (.int (Int32.ofNat ff)), some (.int (Int32.ofNat tt)), some (.int (Int32.ofNat n)), some (.int (Int32.ofNat i)), u6, u7] [] g Q := by
  refine Er_run 3 (pc' := bif decide ((Int32.ofNat tt) ≤ (Int32.ofNat i)) then 157 else 12) (ls' := [some (.ref a), some (.int (Int32.ofNat j)), some (.int (Int32.ofNat ff)), some (.int (Int32.ofNat tt)), some (.int (Int32.ofNat n)), some (.int (Int32.ofNat i)), u6, u7]) (st' := []) rfl ?_
  refine Er_pc (t := 12) (show (bif decide ((Int32.ofNat tt) ≤ (Int32.ofNat i)) then 157 else 12) = 12 from by rw [show (decide ((Int32.ofNat tt) ≤ (Int32.ofNat i))) = false from by rw [jx_le (by omega) (by omega)]; exact decide_eq_false (by omega)]; rfl) ?_
  refine Er_run 2 (pc' := 15) (ls' := [some (.ref a), some (.int (Int32.ofNat j)), some (.int (Int32.ofNat ff)), some (.int (Int32.ofNat tt)), some (.int (Int32.ofNat n)), some (.int (Int32.ofNat i)), u6, u7]) (st' := [.ref a, .int (Int32.ofNat i)]) rfl ?_
  refine Er_getR (x := a + 3) rfl m0.1 (m0.2 (2, 3, 0, 16) (by decide)).1 ?_
  refine Er_run 1 (pc' := 19) (ls' := [some (.ref a), some (.int (Int32.ofNat j)), some (.int (Int32.ofNat ff)), some (.int (Int32.ofNat tt)), some (.int (Int32.ofNat n)), some (.int (Int32.ofNat i)), u6, u7]) (st' := [.ref a, .ref (a + 3), .int (Int32.ofNat i)]) rfl ?_
  refine Er_getR (x := a + 9) rfl m0.1 (m0.2 (8, 9, 0, 8) (by decide)).1 ?_
  refine Er_run 1 (pc' := 23) (ls' := [some (.ref a), some (.int (Int32.ofNat j)), some (.int (Int32.ofNat ff)), some (.int (Int32.ofNat tt)), some (.int (Int32.ofNat n)), some (.int (Int32.ofNat i)), u6, u7]) (st' := [.int (Int32.ofNat j), .ref (a + 9), .ref (a + 3), .int (Int32.ofNat i)]) rfl ?_
  refine Er_iald (v := Int32.ofNat fa) rfl (m0.2 (8, 9, 0, 8) (by decide)).2.1 (mr_in (i := j) (k := 8) rfl (by omega) (by decide) (m0.2 (8, 9, 0, 8) (by decide)).2.2) (mr_atI rfl (by omega) fi0) ?_
  refine Er_iald (v := Int32.ofNat n1) rfl (m0.2 (2, 3, 0, 16) (by decide)).2.1 (mr_in (i := fa) (k := 16) rfl (by omega) (by decide) (m0.2 (2, 3, 0, 16) (by decide)).2.2) (mr_atI rfl (by omega) sz0) ?_
  refine Er_run 1 (pc' := bif decide ((Int32.ofNat n1) ≤ (Int32.ofNat i)) then 44 else 28) (ls' := [some (.ref a), some (.int (Int32.ofNat j)), some (.int (Int32.ofNat ff)), some (.int (Int32.ofNat tt)), some (.int (Int32.ofNat n)), some (.int (Int32.ofNat i)), u6, u7]) (st' := []) rfl ?_
  refine Er_pc (t := 28) (show (bif decide ((Int32.ofNat n1) ≤ (Int32.ofNat i)) then 44 else 28) = 28 from by rw [show (decide ((Int32.ofNat n1) ≤ (Int32.ofNat i))) = false from by rw [jx_le (by omega) (by omega)]; exact decide_eq_false (by omega)]; rfl) ?_
  refine Er_run 2 (pc' := 32) (ls' := [some (.ref a), some (.int (Int32.ofNat j)), some (.int (Int32.ofNat ff)), some (.int (Int32.ofNat tt)), some (.int (Int32.ofNat n)), some (.int (Int32.ofNat i)), u6, u7]) (st' := [.ref a, .int ((300 : Int32))]) rfl ?_
  refine Er_getR (x := a + 9) rfl m0.1 (m0.2 (8, 9, 0, 8) (by decide)).1 ?_
  refine Er_run 1 (pc' := 36) (ls' := [some (.ref a), some (.int (Int32.ofNat j)), some (.int (Int32.ofNat ff)), some (.int (Int32.ofNat tt)), some (.int (Int32.ofNat n)), some (.int (Int32.ofNat i)), u6, u7]) (st' := [.int (Int32.ofNat j), .ref (a + 9), .int ((300 : Int32))]) rfl ?_
  refine Er_iald (v := Int32.ofNat fa) rfl (m0.2 (8, 9, 0, 8) (by decide)).2.1 (mr_in (i := j) (k := 8) rfl (by omega) (by decide) (m0.2 (8, 9, 0, 8) (by decide)).2.2) (mr_atI rfl (by omega) fi0) ?_
  refine Er_run 5 (pc' := 71) (ls' := [some (.ref a), some (.int (Int32.ofNat j)), some (.int (Int32.ofNat ff)), some (.int (Int32.ofNat tt)), some (.int (Int32.ofNat n)), some (.int (Int32.ofNat i)), some (.int ((((300 : Int32)) * (Int32.ofNat fa)) + (Int32.ofNat i))), u7]) (st' := []) rfl ?_
  rw [mr_rec]
  exact kk
set_option maxRecDepth 10000 in
theorem lm_r2 (m0 : mrO g a) (hj : j < 8) (hi : i < tt) (htt : tt < 10000) (fi0 : gI g (a + 9) j = Int32.ofNat fa) (hfa : fa < 16) (sz0 : gI g (a + 3) fa = Int32.ofNat n1) (hn1 : n1 ≤ 300) (h1 : n1 ≤ i) (se0 : gI g (a + 10) j = Int32.ofNat fb) (kk : Ev 162 71 [some (.ref a), some (.int (Int32.ofNat j)), some (.int (Int32.ofNat ff)), some (.int (Int32.ofNat tt)), some (.int (Int32.ofNat n)), some (.int (Int32.ofNat i)), some (.int (Int32.ofNat (300 * fb + (i - n1)))), u7] [] g Q) : Ev 162 6 [some (.ref a), some (.int (Int32.ofNat j)), some (.int (Int32.ofNat ff)), some (.int (Int32.ofNat tt)), some (.int (Int32.ofNat n)), some (.int (Int32.ofNat i)), u6, u7] [] g Q := by
  refine Er_run 3 (pc' := bif decide ((Int32.ofNat tt) ≤ (Int32.ofNat i)) then 157 else 12) (ls' := [some (.ref a), some (.int (Int32.ofNat j)), some (.int (Int32.ofNat ff)), some (.int (Int32.ofNat tt)), some (.int (Int32.ofNat n)), some (.int (Int32.ofNat i)), u6, u7]) (st' := []) rfl ?_
  refine Er_pc (t := 12) (show (bif decide ((Int32.ofNat tt) ≤ (Int32.ofNat i)) then 157 else 12) = 12 from by rw [show (decide ((Int32.ofNat tt) ≤ (Int32.ofNat i))) = false from by rw [jx_le (by omega) (by omega)]; exact decide_eq_false (by omega)]; rfl) ?_
  refine Er_run 2 (pc' := 15) (ls' := [some (.ref a), some (.int (Int32.ofNat j)), some (.int (Int32.ofNat ff)), some (.int (Int32.ofNat tt)), some (.int (Int32.ofNat n)), some (.int (Int32.ofNat i)), u6, u7]) (st' := [.ref a, .int (Int32.ofNat i)]) rfl ?_
  refine Er_getR (x := a + 3) rfl m0.1 (m0.2 (2, 3, 0, 16) (by decide)).1 ?_
  refine Er_run 1 (pc' := 19) (ls' := [some (.ref a), some (.int (Int32.ofNat j)), some (.int (Int32.ofNat ff)), some (.int (Int32.ofNat tt)), some (.int (Int32.ofNat n)), some (.int (Int32.ofNat i)), u6, u7]) (st' := [.ref a, .ref (a + 3), .int (Int32.ofNat i)]) rfl ?_
  refine Er_getR (x := a + 9) rfl m0.1 (m0.2 (8, 9, 0, 8) (by decide)).1 ?_
  refine Er_run 1 (pc' := 23) (ls' := [some (.ref a), some (.int (Int32.ofNat j)), some (.int (Int32.ofNat ff)), some (.int (Int32.ofNat tt)), some (.int (Int32.ofNat n)), some (.int (Int32.ofNat i)), u6, u7]) (st' := [.int (Int32.ofNat j), .ref (a + 9), .ref (a + 3), .int (Int32.ofNat i)]) rfl ?_
  refine Er_iald (v := Int32.ofNat fa) rfl (m0.2 (8, 9, 0, 8) (by decide)).2.1 (mr_in (i := j) (k := 8) rfl (by omega) (by decide) (m0.2 (8, 9, 0, 8) (by decide)).2.2) (mr_atI rfl (by omega) fi0) ?_
  refine Er_iald (v := Int32.ofNat n1) rfl (m0.2 (2, 3, 0, 16) (by decide)).2.1 (mr_in (i := fa) (k := 16) rfl (by omega) (by decide) (m0.2 (2, 3, 0, 16) (by decide)).2.2) (mr_atI rfl (by omega) sz0) ?_
  refine Er_run 1 (pc' := bif decide ((Int32.ofNat n1) ≤ (Int32.ofNat i)) then 44 else 28) (ls' := [some (.ref a), some (.int (Int32.ofNat j)), some (.int (Int32.ofNat ff)), some (.int (Int32.ofNat tt)), some (.int (Int32.ofNat n)), some (.int (Int32.ofNat i)), u6, u7]) (st' := []) rfl ?_
  refine Er_pc (t := 44) (show (bif decide ((Int32.ofNat n1) ≤ (Int32.ofNat i)) then 44 else 28) = 44 from by rw [show (decide ((Int32.ofNat n1) ≤ (Int32.ofNat i))) = true from by rw [jx_le (by omega) (by omega)]; exact decide_eq_true (by omega)]; rfl) ?_
  refine Er_run 2 (pc' := 48) (ls' := [some (.ref a), some (.int (Int32.ofNat j)), some (.int (Int32.ofNat ff)), some (.int (Int32.ofNat tt)), some (.int (Int32.ofNat n)), some (.int (Int32.ofNat i)), u6, u7]) (st' := [.ref a, .int ((300 : Int32))]) rfl ?_
  refine Er_getR (x := a + 10) rfl m0.1 (m0.2 (9, 10, 0, 8) (by decide)).1 ?_
  refine Er_run 1 (pc' := 52) (ls' := [some (.ref a), some (.int (Int32.ofNat j)), some (.int (Int32.ofNat ff)), some (.int (Int32.ofNat tt)), some (.int (Int32.ofNat n)), some (.int (Int32.ofNat i)), u6, u7]) (st' := [.int (Int32.ofNat j), .ref (a + 10), .int ((300 : Int32))]) rfl ?_
  refine Er_iald (v := Int32.ofNat fb) rfl (m0.2 (9, 10, 0, 8) (by decide)).2.1 (mr_in (i := j) (k := 8) rfl (by omega) (by decide) (m0.2 (9, 10, 0, 8) (by decide)).2.2) (mr_atI rfl (by omega) se0) ?_
  refine Er_run 4 (pc' := 58) (ls' := [some (.ref a), some (.int (Int32.ofNat j)), some (.int (Int32.ofNat ff)), some (.int (Int32.ofNat tt)), some (.int (Int32.ofNat n)), some (.int (Int32.ofNat i)), u6, u7]) (st' := [.ref a, .int ((((300 : Int32)) * (Int32.ofNat fb)) + (Int32.ofNat i))]) rfl ?_
  refine Er_getR (x := a + 3) rfl m0.1 (m0.2 (2, 3, 0, 16) (by decide)).1 ?_
  refine Er_run 1 (pc' := 62) (ls' := [some (.ref a), some (.int (Int32.ofNat j)), some (.int (Int32.ofNat ff)), some (.int (Int32.ofNat tt)), some (.int (Int32.ofNat n)), some (.int (Int32.ofNat i)), u6, u7]) (st' := [.ref a, .ref (a + 3), .int ((((300 : Int32)) * (Int32.ofNat fb)) + (Int32.ofNat i))]) rfl ?_
  refine Er_getR (x := a + 9) rfl m0.1 (m0.2 (8, 9, 0, 8) (by decide)).1 ?_
  refine Er_run 1 (pc' := 66) (ls' := [some (.ref a), some (.int (Int32.ofNat j)), some (.int (Int32.ofNat ff)), some (.int (Int32.ofNat tt)), some (.int (Int32.ofNat n)), some (.int (Int32.ofNat i)), u6, u7]) (st' := [.int (Int32.ofNat j), .ref (a + 9), .ref (a + 3), .int ((((300 : Int32)) * (Int32.ofNat fb)) + (Int32.ofNat i))]) rfl ?_
  refine Er_iald (v := Int32.ofNat fa) rfl (m0.2 (8, 9, 0, 8) (by decide)).2.1 (mr_in (i := j) (k := 8) rfl (by omega) (by decide) (m0.2 (8, 9, 0, 8) (by decide)).2.2) (mr_atI rfl (by omega) fi0) ?_
  refine Er_iald (v := Int32.ofNat n1) rfl (m0.2 (2, 3, 0, 16) (by decide)).2.1 (mr_in (i := fa) (k := 16) rfl (by omega) (by decide) (m0.2 (2, 3, 0, 16) (by decide)).2.2) (mr_atI rfl (by omega) sz0) ?_
  refine Er_run 2 (pc' := 71) (ls' := [some (.ref a), some (.int (Int32.ofNat j)), some (.int (Int32.ofNat ff)), some (.int (Int32.ofNat tt)), some (.int (Int32.ofNat n)), some (.int (Int32.ofNat i)), some (.int (((((300 : Int32)) * (Int32.ofNat fb)) + (Int32.ofNat i)) - (Int32.ofNat n1))), u7]) (st' := []) rfl ?_
  rw [mr_rec2 h1]
  exact kk
set_option maxRecDepth 10000 in
theorem lm_c0 {g1 : sm_H} (m0 : mrO g a) (kr0 : gL g (a + 1) r = k) (hr : r < 4800) (hc : Run 160 [.ref a, .int ((3 : Int32) * Int32.ofNat j), .int 1, .int 0, .long k, .ref (a + 2), .int (Int32.ofNat r), .int (Int32.ofNat r + 1)] g (.inl (some (.int 0))) g1) (hq : Q (.inl (some (.int 0))) g1) : Ev 162 71 [some (.ref a), some (.int (Int32.ofNat j)), some (.int (Int32.ofNat ff)), some (.int (Int32.ofNat tt)), some (.int (Int32.ofNat n)), some (.int (Int32.ofNat i)), some (.int (Int32.ofNat r)), u7] [] g Q := by
  refine Er_run 7 (pc' := 78) (ls' := [some (.ref a), some (.int (Int32.ofNat j)), some (.int (Int32.ofNat ff)), some (.int (Int32.ofNat tt)), some (.int (Int32.ofNat n)), some (.int (Int32.ofNat i)), some (.int (Int32.ofNat r)), u7]) (st' := [.ref a, .int ((0 : Int32)), .int ((1 : Int32)), .int (((3 : Int32)) * (Int32.ofNat j)), .ref a]) rfl ?_
  refine Er_getR (x := a + 1) rfl m0.1 (m0.2 (0, 1, 1, 4800) (by decide)).1 ?_
  refine Er_run 1 (pc' := 83) (ls' := [some (.ref a), some (.int (Int32.ofNat j)), some (.int (Int32.ofNat ff)), some (.int (Int32.ofNat tt)), some (.int (Int32.ofNat n)), some (.int (Int32.ofNat i)), some (.int (Int32.ofNat r)), u7]) (st' := [.int (Int32.ofNat r), .ref (a + 1), .int ((0 : Int32)), .int ((1 : Int32)), .int (((3 : Int32)) * (Int32.ofNat j)), .ref a]) rfl ?_
  refine Er_lald (v := k) rfl (m0.2 (0, 1, 1, 4800) (by decide)).2.1 (mr_in (i := r) (k := 4800) rfl (by omega) (by decide) (m0.2 (0, 1, 1, 4800) (by decide)).2.2) (mr_atL rfl (by omega) kr0) ?_
  refine Er_run 1 (pc' := 85) (ls' := [some (.ref a), some (.int (Int32.ofNat j)), some (.int (Int32.ofNat ff)), some (.int (Int32.ofNat tt)), some (.int (Int32.ofNat n)), some (.int (Int32.ofNat i)), some (.int (Int32.ofNat r)), u7]) (st' := [.ref a, .long k, .int ((0 : Int32)), .int ((1 : Int32)), .int (((3 : Int32)) * (Int32.ofNat j)), .ref a]) rfl ?_
  refine Er_getR (x := a + 2) rfl m0.1 (m0.2 (1, 2, 1, 4800) (by decide)).1 ?_
  refine Er_run 4 (pc' := 94) (ls' := [some (.ref a), some (.int (Int32.ofNat j)), some (.int (Int32.ofNat ff)), some (.int (Int32.ofNat tt)), some (.int (Int32.ofNat n)), some (.int (Int32.ofNat i)), some (.int (Int32.ofNat r)), u7]) (st' := [.int ((Int32.ofNat r) + ((1 : Int32))), .int (Int32.ofNat r), .ref (a + 2), .long k, .int ((0 : Int32)), .int ((1 : Int32)), .int (((3 : Int32)) * (Int32.ofNat j)), .ref a]) rfl ?_
  refine Er_inv1 (q' := a) (ci := 12) (av := [.int (((3 : Int32)) * (Int32.ofNat j)), .int ((1 : Int32)), .int ((0 : Int32)), .long k, .ref (a + 2), .int (Int32.ofNat r), .int ((Int32.ofNat r) + ((1 : Int32)))]) (rest := []) rfl rfl ⟨Nat.le_of_ble_eq_true rfl, Nat.le_of_ble_eq_true rfl⟩ rfl rfl m0.1 hc ?_
  refine Er_run 1 (pc' := bif !decide (((0 : Int32)) = 0) then 102 else 100) (ls' := [some (.ref a), some (.int (Int32.ofNat j)), some (.int (Int32.ofNat ff)), some (.int (Int32.ofNat tt)), some (.int (Int32.ofNat n)), some (.int (Int32.ofNat i)), some (.int (Int32.ofNat r)), u7]) (st' := []) rfl ?_
  refine Er_pc (t := 100) (show (bif !decide (((0 : Int32)) = 0) then 102 else 100) = 100 from by rw [show (!decide (((0 : Int32)) = 0)) = false from by decide]; rfl) ?_
  refine Er_run 1 (pc' := 101) (ls' := [some (.ref a), some (.int (Int32.ofNat j)), some (.int (Int32.ofNat ff)), some (.int (Int32.ofNat tt)), some (.int (Int32.ofNat n)), some (.int (Int32.ofNat i)), some (.int (Int32.ofNat r)), u7]) (st' := [.int ((0 : Int32))]) rfl ?_
  exact Er_fin rfl rfl hq
set_option maxRecDepth 10000 in
theorem lm_c1 {g1 : sm_H} (m0 : mrO g a) (kr0 : gL g (a + 1) r = k) (hr : r < 4800) (hc : Run 160 [.ref a, .int ((3 : Int32) * Int32.ofNat j), .int 1, .int 0, .long k, .ref (a + 2), .int (Int32.ofNat r), .int (Int32.ofNat r + 1)] g (.inl (some (.int 1))) g1) (kk : Ev 162 105 [some (.ref a), some (.int (Int32.ofNat j)), some (.int (Int32.ofNat ff)), some (.int (Int32.ofNat tt)), some (.int (Int32.ofNat n)), some (.int (Int32.ofNat i)), some (.int (Int32.ofNat r)), some (.int (Int32.ofNat 0))] [] g1 Q) : Ev 162 71 [some (.ref a), some (.int (Int32.ofNat j)), some (.int (Int32.ofNat ff)), some (.int (Int32.ofNat tt)), some (.int (Int32.ofNat n)), some (.int (Int32.ofNat i)), some (.int (Int32.ofNat r)), u7] [] g Q := by
  refine Er_run 7 (pc' := 78) (ls' := [some (.ref a), some (.int (Int32.ofNat j)), some (.int (Int32.ofNat ff)), some (.int (Int32.ofNat tt)), some (.int (Int32.ofNat n)), some (.int (Int32.ofNat i)), some (.int (Int32.ofNat r)), u7]) (st' := [.ref a, .int ((0 : Int32)), .int ((1 : Int32)), .int (((3 : Int32)) * (Int32.ofNat j)), .ref a]) rfl ?_
  refine Er_getR (x := a + 1) rfl m0.1 (m0.2 (0, 1, 1, 4800) (by decide)).1 ?_
  refine Er_run 1 (pc' := 83) (ls' := [some (.ref a), some (.int (Int32.ofNat j)), some (.int (Int32.ofNat ff)), some (.int (Int32.ofNat tt)), some (.int (Int32.ofNat n)), some (.int (Int32.ofNat i)), some (.int (Int32.ofNat r)), u7]) (st' := [.int (Int32.ofNat r), .ref (a + 1), .int ((0 : Int32)), .int ((1 : Int32)), .int (((3 : Int32)) * (Int32.ofNat j)), .ref a]) rfl ?_
  refine Er_lald (v := k) rfl (m0.2 (0, 1, 1, 4800) (by decide)).2.1 (mr_in (i := r) (k := 4800) rfl (by omega) (by decide) (m0.2 (0, 1, 1, 4800) (by decide)).2.2) (mr_atL rfl (by omega) kr0) ?_
  refine Er_run 1 (pc' := 85) (ls' := [some (.ref a), some (.int (Int32.ofNat j)), some (.int (Int32.ofNat ff)), some (.int (Int32.ofNat tt)), some (.int (Int32.ofNat n)), some (.int (Int32.ofNat i)), some (.int (Int32.ofNat r)), u7]) (st' := [.ref a, .long k, .int ((0 : Int32)), .int ((1 : Int32)), .int (((3 : Int32)) * (Int32.ofNat j)), .ref a]) rfl ?_
  refine Er_getR (x := a + 2) rfl m0.1 (m0.2 (1, 2, 1, 4800) (by decide)).1 ?_
  refine Er_run 4 (pc' := 94) (ls' := [some (.ref a), some (.int (Int32.ofNat j)), some (.int (Int32.ofNat ff)), some (.int (Int32.ofNat tt)), some (.int (Int32.ofNat n)), some (.int (Int32.ofNat i)), some (.int (Int32.ofNat r)), u7]) (st' := [.int ((Int32.ofNat r) + ((1 : Int32))), .int (Int32.ofNat r), .ref (a + 2), .long k, .int ((0 : Int32)), .int ((1 : Int32)), .int (((3 : Int32)) * (Int32.ofNat j)), .ref a]) rfl ?_
  refine Er_inv1 (q' := a) (ci := 12) (av := [.int (((3 : Int32)) * (Int32.ofNat j)), .int ((1 : Int32)), .int ((0 : Int32)), .long k, .ref (a + 2), .int (Int32.ofNat r), .int ((Int32.ofNat r) + ((1 : Int32)))]) (rest := []) rfl rfl ⟨Nat.le_of_ble_eq_true rfl, Nat.le_of_ble_eq_true rfl⟩ rfl rfl m0.1 hc ?_
  refine Er_run 1 (pc' := bif !decide (((1 : Int32)) = 0) then 102 else 100) (ls' := [some (.ref a), some (.int (Int32.ofNat j)), some (.int (Int32.ofNat ff)), some (.int (Int32.ofNat tt)), some (.int (Int32.ofNat n)), some (.int (Int32.ofNat i)), some (.int (Int32.ofNat r)), u7]) (st' := []) rfl ?_
  refine Er_pc (t := 102) (show (bif !decide (((1 : Int32)) = 0) then 102 else 100) = 102 from by rw [show (!decide (((1 : Int32)) = 0)) = true from by decide]; rfl) ?_
  refine Er_run 2 (pc' := 105) (ls' := [some (.ref a), some (.int (Int32.ofNat j)), some (.int (Int32.ofNat ff)), some (.int (Int32.ofNat tt)), some (.int (Int32.ofNat n)), some (.int (Int32.ofNat i)), some (.int (Int32.ofNat r)), some (.int ((0 : Int32)))]) (st' := []) rfl ?_
  exact kk
set_option maxRecDepth 10000 in
theorem lm_151 (kk : Ev 162 6 [some (.ref a), some (.int (Int32.ofNat j)), some (.int (Int32.ofNat ff)), some (.int (Int32.ofNat tt)), some (.int (Int32.ofNat n)), some (.int (Int32.ofNat (i + 1))), u6, u7] [] g Q) : Ev 162 151 [some (.ref a), some (.int (Int32.ofNat j)), some (.int (Int32.ofNat ff)), some (.int (Int32.ofNat tt)), some (.int (Int32.ofNat n)), some (.int (Int32.ofNat i)), u6, u7] [] g Q := by
  refine Er_run 2 (pc' := 6) (ls' := [some (.ref a), some (.int (Int32.ofNat j)), some (.int (Int32.ofNat ff)), some (.int (Int32.ofNat tt)), some (.int (Int32.ofNat n)), some (.int ((Int32.ofNat i) + (1 : Int32))), u6, u7]) (st' := []) rfl ?_
  rw [jx_s1]
  exact kk
set_option maxRecDepth 10000 in
theorem lm_end (htt : tt < 10000) (kk : Ev 162 157 [some (.ref a), some (.int (Int32.ofNat j)), some (.int (Int32.ofNat ff)), some (.int (Int32.ofNat tt)), some (.int (Int32.ofNat n)), some (.int (Int32.ofNat tt)), u6, u7] [] g Q) : Ev 162 6 [some (.ref a), some (.int (Int32.ofNat j)), some (.int (Int32.ofNat ff)), some (.int (Int32.ofNat tt)), some (.int (Int32.ofNat n)), some (.int (Int32.ofNat tt)), u6, u7] [] g Q := by
  refine Er_run 3 (pc' := bif decide ((Int32.ofNat tt) ≤ (Int32.ofNat tt)) then 157 else 12) (ls' := [some (.ref a), some (.int (Int32.ofNat j)), some (.int (Int32.ofNat ff)), some (.int (Int32.ofNat tt)), some (.int (Int32.ofNat n)), some (.int (Int32.ofNat tt)), u6, u7]) (st' := []) rfl ?_
  refine Er_pc (t := 157) (show (bif decide ((Int32.ofNat tt) ≤ (Int32.ofNat tt)) then 157 else 12) = 157 from by rw [show (decide ((Int32.ofNat tt) ≤ (Int32.ofNat tt))) = true from by rw [jx_le (by omega) (by omega)]; exact decide_eq_true (Nat.le_refl _)]; rfl) ?_
  exact kk
/-- where the RECORDS of the INPUTS lie -/
def IR (h : sm_H) (a j fa n1 : Nat) (inp : Jl) : Prop := gI h (a + 9) j = Int32.ofNat fa ∧ fa < 16 ∧ gI h (a + 3) fa = Int32.ofNat n1 ∧ n1 ≤ 300 ∧ (∀ i p, i < n1 → inp[i]? = some p → gL h (a + 1) (300 * fa + i) = p.1 ∧ gL h (a + 2) (300 * fa + i) = p.2) ∧ (n1 < inp.length → ∃ fb, fb < 16 ∧ gI h (a + 10) j = Int32.ofNat fb ∧ inp.length ≤ n1 + 300 ∧ ∀ i p, n1 ≤ i → inp[i]? = some p → gL h (a + 1) (300 * fb + (i - n1)) = p.1 ∧ gL h (a + 2) (300 * fb + (i - n1)) = p.2)
/-- a PROGRAM lies there -/
def PI2 (h : sm_H) (a P : Nat) (pg : List (Int32 × Int64)) : Prop := jq_ok pg ∧ pg.length ≤ 40 ∧ P < 24 ∧ gI h (a + 5) P = Int32.ofNat pg.length ∧ ∀ k p, pg[k]? = some p → gI h (a + 4) (40 * P + k) = p.1 ∧ gL h (a + 7) (40 * P + k) = p.2
theorem IR_fr {I L : List Nat} (z : FrL I L h g) (h3 : a + 3 ∉ I) (h9 : a + 9 ∉ I) (h10 : a + 10 ∉ I) (h1 : a + 1 ∉ L) (h2 : a + 2 ∉ L) (r : IR h a j fa n1 inp) : IR g a j fa n1 inp := by
  obtain ⟨r1, r2, r3, r4, r5, r6⟩ := r
  rw [IR, z.gi h9, z.gi h3, z.gi h10, z.gl h1, z.gl h2]
  exact ⟨r1, r2, r3, r4, r5, r6⟩
theorem PI2_fr {I L : List Nat} {P : Nat} (z : FrL I L h g) (h5 : a + 5 ∉ I) (h4 : a + 4 ∉ I) (h7 : a + 7 ∉ L) (r : PI2 h a P pg) : PI2 g a P pg := by
  rw [PI2, z.gi h5, z.gi h4, z.gl h7]
  exact r
theorem MC.refl (h : sm_H) : MC h h a := ⟨FrL.refl h, fun _ _ => rfl⟩
theorem MC.cp {g1 : sm_H} (z : MC h g a) (c : CP g g1 a) : MC h g1 a := ⟨z.1.trans (c.1.mono (fun x hx => hx) (fun x hx => by simp at hx ⊢; omega)), fun s hs => (c.2 s hs).trans (z.2 s hs)⟩
theorem MC.fl {g1 : sm_H} (z : MC h g a) (c : FrL [] [a + 16, a + 17] g g1) : MC h g1 a := ⟨z.1.trans (c.mono (fun x hx => by cases hx) (fun x hx => by simp at hx ⊢; omega)), fun s hs => (by rw [c.gi (by simp)]; exact z.2 s hs)⟩

set_option maxRecDepth 10000 in
theorem l_map1 (m00 : mrO h0 a) (hj : j < 8) (hir : IR h0 a j fa n1 inp) (hpg : PI2 h0 a (3 * j) pg) (htt : tt ≤ inp.length) (hti : inp.length ≤ 600) (h16 : tt ≤ ff + 16) (kF : me_map pg ((inp.drop ff).take (tt - ff)) = none → ∀ g, MC h0 g a → Q (.inl (some (.int 0))) g) (kS : ∀ e g u6 u7, me_map pg ((inp.drop ff).take (tt - ff)) = some e → MC h0 g a → PK g (a + 16) (a + 17) e → Ev 162 157 [some (.ref a), some (.int (Int32.ofNat j)), some (.int (Int32.ofNat ff)), some (.int (Int32.ofNat tt)), some (.int (Int32.ofNat e.length)), some (.int (Int32.ofNat tt)), u6, u7] [] g Q) : ∀ (f i : Nat) (e : Jl) (g : sm_H) (u6 u7 : Option Value), i + f = tt → ff ≤ i → me_map pg ((inp.drop ff).take (i - ff)) = some e → MC h0 g a → PK g (a + 16) (a + 17) e → Ev 162 6 [some (.ref a), some (.int (Int32.ofNat j)), some (.int (Int32.ofNat ff)), some (.int (Int32.ofNat tt)), some (.int (Int32.ofNat e.length)), some (.int (Int32.ofNat i)), u6, u7] [] g Q := by
  intro f
  induction f with
  | zero =>
    intro i e g u6 u7 hi hfi hm z hr
    have e0 : i = tt := by omega
    subst e0
    exact lm_end (by omega) (kS e g u6 u7 hm z hr)
  | succ f ih =>
    intro i e g u6 u7 hi hfi hm z hr
    obtain ⟨p, hp⟩ : ∃ p, inp[i]? = some p := ⟨inp[i]'(by omega), List.getElem?_eq_getElem (by omega)⟩
    have m0 := z.1.mrO m00
    have ir := IR_fr z.1 (by simp) (by simp) (by simp) (by simp) (by simp) hir
    obtain ⟨q1, q2, q3, q4, q5⟩ := PI2_fr z.1 (by simp) (by simp) (by simp) hpg
    have hel : e.length ≤ 4 * (i - ff) := by
      have := me_map_len _ _ hm
      rw [List.length_take] at this
      omega
    have hsn : (inp.drop ff).take (i + 1 - ff) = (inp.drop ff).take (i - ff) ++ [p] := by
      rw [show i + 1 - ff = (i - ff) + 1 by omega, List.take_succ, List.getElem?_drop, show ff + (i - ff) = i by omega, hp]; rfl
    have hm2 := me_map_snoc (mp := pg) p ((inp.drop ff).take (i - ff))
    rw [← hsn, hm] at hm2
    -- from r on
    have key : ∀ r, r < 4800 → gL g (a + 1) r = p.1 → gL g (a + 2) r = p.2 → Ev 162 71 [some (.ref a), some (.int (Int32.ofNat j)), some (.int (Int32.ofNat ff)), some (.int (Int32.ofNat tt)), some (.int (Int32.ofNat e.length)), some (.int (Int32.ofNat i)), some (.int (Int32.ofNat r)), u7] [] g Q := by
      intro r hr4 hk hv
      obtain ⟨g1, hc, c1, c2⟩ := s_Ref_call (h := g) (kd := 0) (ky := p.1) (P := 3 * j) (vq := a + 2) (fr := r) (en := r + 1) (g := [p]) (pg := pg) m0 q1 q2 q3 q4 q5 rfl (by omega) (m0.2 (1, 2, 1, 4800) (by decide)).2.1 (fun u hu => mr_in (i := r + u) (k := 4800) rfl (by rw [List.length_singleton] at hu; omega) (by decide) (m0.2 (1, 2, 1, 4800) (by decide)).2.2) (fun u hu => by
        rw [List.length_singleton] at hu
        rw [show u = 0 by omega]; exact hv) (by simp) (Nat.zero_lt_one) rfl
      rw [← mr_3j, ← jx_s1] at hc
      by_cases hok : (jq_grp pg 0 [p]).1 = true
      · rw [if_pos hok] at hc
        rw [show (some e : Option Jl).bind (fun e => if (jq_grp pg 0 [p]).1 = true then some (e ++ (jq_grp pg 0 [p]).2) else none) = some (e ++ (jq_grp pg 0 [p]).2) from if_pos hok] at hm2
        obtain ⟨d1, d2⟩ := c2 hok
        have h4 := jq_grp_len (pg := pg) (kd := 0) [p]
        refine lm_c1 m0 hk hr4 hc ?_
        have hr1 : PK g1 (a + 16) (a + 17) e := fun u d hu => by rw [c1.1.gl (by simp), c1.1.gl (by simp)]; exact hr u d hu
        refine l_mcpy (h0 := g1) (e := e) (em := (jq_grp pg 0 [p]).2) (by omega) h4 (fun g2 m2 z2 k2 v2 => ?_) (jq_grp pg 0 [p]).2.length 0 g1 (by omega) (c1.1.mrO m0) d1 (fun u d hu => (d2 u d hu).1) (fun u d hu => (d2 u d hu).2) (by rw [List.take_zero, List.append_nil]; exact fun u d hu => (hr1 u d hu).1) (by rw [List.take_zero, List.append_nil]; exact fun u d hu => (hr1 u d hu).2) (FrL.refl g1)
        refine lm_151 ?_
        have := ih (i + 1) (e ++ (jq_grp pg 0 [p]).2) g2 (some (.int (Int32.ofNat r))) (some (.int (Int32.ofNat (jq_grp pg 0 [p]).2.length))) (by omega) (by omega) hm2 ((z.cp c1).fl z2) (fun u d hu => ⟨k2 u d hu, v2 u d hu⟩)
        rw [List.length_append] at this
        exact this
      · rw [if_neg hok] at hc
        rw [show (some e : Option Jl).bind (fun e => if (jq_grp pg 0 [p]).1 = true then some (e ++ (jq_grp pg 0 [p]).2) else none) = none from if_neg hok] at hm2
        refine lm_c0 m0 hk hr4 hc (kF ?_ g1 (z.cp c1))
        have e3 : (inp.drop ff).take (tt - ff) = (inp.drop ff).take (i + 1 - ff) ++ ((inp.drop ff).take (tt - ff)).drop (i + 1 - ff) := by
          have := List.take_append_drop (i + 1 - ff) ((inp.drop ff).take (tt - ff))
          rw [List.take_take, Nat.min_eq_left (by omega)] at this
          exact this.symm
        rw [e3]
        exact me_map_app _ _ hm2
    obtain ⟨i1, i2, i3, i4, i5, i6⟩ := ir
    by_cases h1 : i < n1
    · exact lm_r1 m0 hj (by omega) (by omega) i1 i2 i3 i4 h1 (key _ (by omega) (i5 i p h1 hp).1 (i5 i p h1 hp).2)
    · obtain ⟨fb, b1, b2, b3, b4⟩ := i6 (by omega)
      exact lm_r2 m0 hj (by omega) (by omega) i1 i2 i3 i4 (by omega) b2 (key _ (by omega) (b4 i p (by omega) hp).1 (b4 i p (by omega) hp).2)
end REFR
