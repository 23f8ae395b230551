section REFI
variable {h h' : sm_H} {a : Nat} {x y z t : Int32} {n f i j k : Nat} {c : Int64}
theorem mr_in {q : Nat} (e : x = Int32.ofNat i) (hi : i < k) (hk : k < 2147483648) (hl : (gS h q).2 = k) : sm_in x (gS h q).2 = true := by subst e; exact mr_idx hi hk hl
theorem mr_cn (e : x = Int32.ofNat i) (hi : i < 2147483648) : x.toNatClampNeg = i := by subst e; exact jx_cn hi
theorem mr_atI {q : Nat} {v : Int32} (e : x = Int32.ofNat i) (hi : i < 2147483648) (hv : gI h q i = v) : gI h q x.toNatClampNeg = v := by rw [mr_cn e hi]; exact hv
theorem mr_atL {q : Nat} {v : Int64} (e : x = Int32.ofNat i) (hi : i < 2147483648) (hv : gL h q i = v) : gL h q x.toNatClampNeg = v := by rw [mr_cn e hi]; exact hv
theorem mr_ncI {q d : Nat} {v : Int32} (hd : d ≠ q) : gI (setI h q i v) d = gI h d := by funext u; exact gI_ne (fun e => hd e.1)
theorem mr_ncL {q d : Nat} {v : Int64} (hd : d ≠ q) : gL (setL h q i v) d = gL h d := by funext u; exact gL_ne (fun e => hd e.1)
theorem mr_3j : (3 : Int32) * Int32.ofNat j = Int32.ofNat (3 * j) := by rw [Int32.ofNat_mul]; rfl
theorem mr_3jk : (3 : Int32) * Int32.ofNat j + Int32.ofNat k = Int32.ofNat (3 * j + k) := by rw [Int32.ofNat_add, Int32.ofNat_mul]; rfl

theorem s_Ref_told3 (m0 : mrO h a) (th0 : gI h a 18 = gI h a 18) (on0 : gI h a 19 = 0) (sz0 : gI h (a + 3) f = Int32.ofNat n) (hf : f < 16) (hn : n ≤ 300) (hi : jm_in y 0 (Int32.ofNat n - 1) = false) : Run 179 [.ref a, .int (Int32.ofNat f), .int y, .int z] h (.inl (some (.long ((0 : Int64))))) (setI h a 18 1) := by
  refine ⟨Nat.le_of_ble_eq_true rfl, ?_⟩
  show Ev 179 0 [some (.ref a), some (.int (Int32.ofNat f)), some (.int y), some (.int z)] [] h _
  refine Er_run 4 (pc' := 5) (ls' := [some (.ref a), some (.int (Int32.ofNat f)), some (.int y), some (.int z)]) (st' := [.int ((15 : Int32)), .int ((0 : Int32)), .int (Int32.ofNat f), .ref a]) rfl ?_
  refine Er_sta1 (av := [.int (Int32.ofNat f), .int ((0 : Int32)), .int ((15 : Int32))]) (rest := [.ref a]) rfl rfl ⟨Nat.le_of_ble_eq_true rfl, Nat.le_of_ble_eq_true rfl⟩ rfl rfl (s_Ref_in1 (jm_in_n (k := 15) (by omega) (by omega))) ?_
  refine Er_run 1 (pc' := bif !decide (((1 : Int32)) = 0) then 15 else 11) (ls' := [some (.ref a), some (.int (Int32.ofNat f)), some (.int y), some (.int z)]) (st' := [.ref a]) rfl ?_
  refine Er_pc (t := 15) (show (bif !decide (((1 : Int32)) = 0) then 15 else 11) = 15 from by rw [show (!decide (((1 : Int32)) = 0)) = true from by decide]; rfl) ?_
  refine Er_run 1 (pc' := 16) (ls' := [some (.ref a), some (.int (Int32.ofNat f)), some (.int y), some (.int z)]) (st' := [.ref a, .ref a]) rfl ?_
  refine Er_getI (v := (0 : Int32)) rfl m0.1 on0 ?_
  refine Er_run 1 (pc' := bif decide (((0 : Int32)) = 0) then 26 else 22) (ls' := [some (.ref a), some (.int (Int32.ofNat f)), some (.int y), some (.int z)]) (st' := [.ref a]) rfl ?_
  refine Er_pc (t := 26) (show (bif decide (((0 : Int32)) = 0) then 26 else 22) = 26 from by rw [show (decide (((0 : Int32)) = 0)) = true from by decide]; rfl) ?_
  refine Er_run 3 (pc' := 29) (ls' := [some (.ref a), some (.int (Int32.ofNat f)), some (.int y), some (.int z)]) (st' := [.ref a, .int ((0 : Int32)), .int y, .ref a]) rfl ?_
  refine Er_getR (x := a + 3) rfl m0.1 (m0.2 (2, 3, 0, 16) (by decide)).1 ?_
  refine Er_run 1 (pc' := 33) (ls' := [some (.ref a), some (.int (Int32.ofNat f)), some (.int y), some (.int z)]) (st' := [.int (Int32.ofNat f), .ref (a + 3), .int ((0 : Int32)), .int y, .ref a]) rfl ?_
  refine Er_iald (v := Int32.ofNat n) rfl (m0.2 (2, 3, 0, 16) (by decide)).2.1 (mr_in (i := f) (k := 16) rfl (by omega) (by decide) (m0.2 (2, 3, 0, 16) (by decide)).2.2) (mr_atI rfl (by omega) sz0) ?_
  refine Er_run 2 (pc' := 36) (ls' := [some (.ref a), some (.int (Int32.ofNat f)), some (.int y), some (.int z)]) (st' := [.int ((Int32.ofNat n) - ((1 : Int32))), .int ((0 : Int32)), .int y, .ref a]) rfl ?_
  refine Er_sta1 (av := [.int y, .int ((0 : Int32)), .int ((Int32.ofNat n) - ((1 : Int32)))]) (rest := [.ref a]) rfl rfl ⟨Nat.le_of_ble_eq_true rfl, Nat.le_of_ble_eq_true rfl⟩ rfl rfl (s_Ref_in0 hi) ?_
  refine Er_run 1 (pc' := bif !decide (((0 : Int32)) = 0) then 46 else 42) (ls' := [some (.ref a), some (.int (Int32.ofNat f)), some (.int y), some (.int z)]) (st' := [.ref a]) rfl ?_
  refine Er_pc (t := 42) (show (bif !decide (((0 : Int32)) = 0) then 46 else 42) = 42 from by rw [show (!decide (((0 : Int32)) = 0)) = false from by decide]; rfl) ?_
  refine Er_run 2 (pc' := 47) (ls' := [some (.ref a), some (.int (Int32.ofNat f)), some (.int y), some (.int z)]) (st' := [.int ((1 : Int32)), .ref a]) rfl ?_
  refine Er_putI rfl m0.1 ?_
  have m1 : mrO (setI h a 18 ((1 : Int32))) a := mrO_setI m0
  have th1 : gI (setI h a 18 ((1 : Int32))) a 18 = (1 : Int32) := gI_eq
  have on1 : gI (setI h a 18 ((1 : Int32))) a 19 = (0 : Int32) := by rw [gI_ne (by omega)]; exact on0
  have sz1 : gI (setI h a 18 ((1 : Int32))) (a + 3) f = Int32.ofNat n := by rw [show gI (setI h a 18 ((1 : Int32))) (a + 3) = gI h (a + 3) from mr_ncI (by omega)]; exact sz0
  generalize (setI h a 18 ((1 : Int32))) = h1 at m1 th1 on1 sz1 ⊢
  refine Er_run 1 (pc' := 51) (ls' := [some (.ref a), some (.int (Int32.ofNat f)), some (.int y), some (.int z)]) (st' := [.ref a]) rfl ?_
  refine Er_getI (v := (1 : Int32)) rfl m1.1 th1 ?_
  refine Er_run 1 (pc' := bif decide (((1 : Int32)) ≤ 0) then 59 else 57) (ls' := [some (.ref a), some (.int (Int32.ofNat f)), some (.int y), some (.int z)]) (st' := []) rfl ?_
  refine Er_pc (t := 57) (show (bif decide (((1 : Int32)) ≤ 0) then 59 else 57) = 57 from by rw [show (decide (((1 : Int32)) ≤ 0)) = false from by decide]; rfl) ?_
  refine Er_run 1 (pc' := 58) (ls' := [some (.ref a), some (.int (Int32.ofNat f)), some (.int y), some (.int z)]) (st' := [.long ((0 : Int64))]) rfl ?_
  exact Er_fin rfl rfl ⟨rfl, rfl⟩
theorem s_Ref_toldV (m0 : mrO h a) (th0 : gI h a 18 = gI h a 18) (on0 : gI h a 19 = 0) (sz0 : gI h (a + 3) f = Int32.ofNat n) (hf : f < 16) (hn : n ≤ 300) (hin : jm_in (Int32.ofNat i) 0 (Int32.ofNat n - 1) = true) (hi : i < n) (hz : ¬ z = 0) (v0 : gL h (a + 2) (300 * f + i) = c) : Run 179 [.ref a, .int (Int32.ofNat f), .int (Int32.ofNat i), .int z] h (.inl (some (.long c))) (setI h a 18 0) := by
  refine ⟨Nat.le_of_ble_eq_true rfl, ?_⟩
  show Ev 179 0 [some (.ref a), some (.int (Int32.ofNat f)), some (.int (Int32.ofNat i)), some (.int z)] [] h _
  refine Er_run 4 (pc' := 5) (ls' := [some (.ref a), some (.int (Int32.ofNat f)), some (.int (Int32.ofNat i)), some (.int z)]) (st' := [.int ((15 : Int32)), .int ((0 : Int32)), .int (Int32.ofNat f), .ref a]) rfl ?_
  refine Er_sta1 (av := [.int (Int32.ofNat f), .int ((0 : Int32)), .int ((15 : Int32))]) (rest := [.ref a]) rfl rfl ⟨Nat.le_of_ble_eq_true rfl, Nat.le_of_ble_eq_true rfl⟩ rfl rfl (s_Ref_in1 (jm_in_n (k := 15) (by omega) (by omega))) ?_
  refine Er_run 1 (pc' := bif !decide (((1 : Int32)) = 0) then 15 else 11) (ls' := [some (.ref a), some (.int (Int32.ofNat f)), some (.int (Int32.ofNat i)), some (.int z)]) (st' := [.ref a]) rfl ?_
  refine Er_pc (t := 15) (show (bif !decide (((1 : Int32)) = 0) then 15 else 11) = 15 from by rw [show (!decide (((1 : Int32)) = 0)) = true from by decide]; rfl) ?_
  refine Er_run 1 (pc' := 16) (ls' := [some (.ref a), some (.int (Int32.ofNat f)), some (.int (Int32.ofNat i)), some (.int z)]) (st' := [.ref a, .ref a]) rfl ?_
  refine Er_getI (v := (0 : Int32)) rfl m0.1 on0 ?_
  refine Er_run 1 (pc' := bif decide (((0 : Int32)) = 0) then 26 else 22) (ls' := [some (.ref a), some (.int (Int32.ofNat f)), some (.int (Int32.ofNat i)), some (.int z)]) (st' := [.ref a]) rfl ?_
  refine Er_pc (t := 26) (show (bif decide (((0 : Int32)) = 0) then 26 else 22) = 26 from by rw [show (decide (((0 : Int32)) = 0)) = true from by decide]; rfl) ?_
  refine Er_run 3 (pc' := 29) (ls' := [some (.ref a), some (.int (Int32.ofNat f)), some (.int (Int32.ofNat i)), some (.int z)]) (st' := [.ref a, .int ((0 : Int32)), .int (Int32.ofNat i), .ref a]) rfl ?_
  refine Er_getR (x := a + 3) rfl m0.1 (m0.2 (2, 3, 0, 16) (by decide)).1 ?_
  refine Er_run 1 (pc' := 33) (ls' := [some (.ref a), some (.int (Int32.ofNat f)), some (.int (Int32.ofNat i)), some (.int z)]) (st' := [.int (Int32.ofNat f), .ref (a + 3), .int ((0 : Int32)), .int (Int32.ofNat i), .ref a]) rfl ?_
  refine Er_iald (v := Int32.ofNat n) rfl (m0.2 (2, 3, 0, 16) (by decide)).2.1 (mr_in (i := f) (k := 16) rfl (by omega) (by decide) (m0.2 (2, 3, 0, 16) (by decide)).2.2) (mr_atI rfl (by omega) sz0) ?_
  refine Er_run 2 (pc' := 36) (ls' := [some (.ref a), some (.int (Int32.ofNat f)), some (.int (Int32.ofNat i)), some (.int z)]) (st' := [.int ((Int32.ofNat n) - ((1 : Int32))), .int ((0 : Int32)), .int (Int32.ofNat i), .ref a]) rfl ?_
  refine Er_sta1 (av := [.int (Int32.ofNat i), .int ((0 : Int32)), .int ((Int32.ofNat n) - ((1 : Int32)))]) (rest := [.ref a]) rfl rfl ⟨Nat.le_of_ble_eq_true rfl, Nat.le_of_ble_eq_true rfl⟩ rfl rfl (s_Ref_in1 hin) ?_
  refine Er_run 1 (pc' := bif !decide (((1 : Int32)) = 0) then 46 else 42) (ls' := [some (.ref a), some (.int (Int32.ofNat f)), some (.int (Int32.ofNat i)), some (.int z)]) (st' := [.ref a]) rfl ?_
  refine Er_pc (t := 46) (show (bif !decide (((1 : Int32)) = 0) then 46 else 42) = 46 from by rw [show (!decide (((1 : Int32)) = 0)) = true from by decide]; rfl) ?_
  refine Er_run 1 (pc' := 47) (ls' := [some (.ref a), some (.int (Int32.ofNat f)), some (.int (Int32.ofNat i)), some (.int z)]) (st' := [.int ((0 : Int32)), .ref a]) rfl ?_
  refine Er_putI rfl m0.1 ?_
  have m1 : mrO (setI h a 18 ((0 : Int32))) a := mrO_setI m0
  have th1 : gI (setI h a 18 ((0 : Int32))) a 18 = (0 : Int32) := gI_eq
  have on1 : gI (setI h a 18 ((0 : Int32))) a 19 = (0 : Int32) := by rw [gI_ne (by omega)]; exact on0
  have sz1 : gI (setI h a 18 ((0 : Int32))) (a + 3) f = Int32.ofNat n := by rw [show gI (setI h a 18 ((0 : Int32))) (a + 3) = gI h (a + 3) from mr_ncI (by omega)]; exact sz0
  have v1 : gL (setI h a 18 ((0 : Int32))) (a + 2) ((300 * f + i)) = c := v0
  generalize (setI h a 18 ((0 : Int32))) = h1 at m1 th1 on1 sz1 v1 ⊢
  refine Er_run 1 (pc' := 51) (ls' := [some (.ref a), some (.int (Int32.ofNat f)), some (.int (Int32.ofNat i)), some (.int z)]) (st' := [.ref a]) rfl ?_
  refine Er_getI (v := (0 : Int32)) rfl m1.1 th1 ?_
  refine Er_run 1 (pc' := bif decide (((0 : Int32)) ≤ 0) then 59 else 57) (ls' := [some (.ref a), some (.int (Int32.ofNat f)), some (.int (Int32.ofNat i)), some (.int z)]) (st' := []) rfl ?_
  refine Er_pc (t := 59) (show (bif decide (((0 : Int32)) ≤ 0) then 59 else 57) = 59 from by rw [show (decide (((0 : Int32)) ≤ 0)) = true from by decide]; rfl) ?_
  refine Er_run 2 (pc' := bif decide (z = 0) then 78 else 63) (ls' := [some (.ref a), some (.int (Int32.ofNat f)), some (.int (Int32.ofNat i)), some (.int z)]) (st' := []) rfl ?_
  refine Er_pc (t := 63) (show (bif decide (z = 0) then 78 else 63) = 63 from by rw [show (decide (z = 0)) = false from decide_eq_false hz]; rfl) ?_
  refine Er_run 1 (pc' := 64) (ls' := [some (.ref a), some (.int (Int32.ofNat f)), some (.int (Int32.ofNat i)), some (.int z)]) (st' := [.ref a]) rfl ?_
  refine Er_getR (x := a + 2) rfl m1.1 (m1.2 (1, 2, 1, 4800) (by decide)).1 ?_
  refine Er_run 5 (pc' := 74) (ls' := [some (.ref a), some (.int (Int32.ofNat f)), some (.int (Int32.ofNat i)), some (.int z)]) (st' := [.int ((((300 : Int32)) * (Int32.ofNat f)) + (Int32.ofNat i)), .ref (a + 2)]) rfl ?_
  refine Er_lald (v := c) rfl (m1.2 (1, 2, 1, 4800) (by decide)).2.1 (mr_in (i := (300 * f + i)) (k := 4800) mr_rec (by omega) (by decide) (m1.2 (1, 2, 1, 4800) (by decide)).2.2) (mr_atL mr_rec (by omega) v1) ?_
  refine Er_run 1 (pc' := 90) (ls' := [some (.ref a), some (.int (Int32.ofNat f)), some (.int (Int32.ofNat i)), some (.int z)]) (st' := [.long c]) rfl ?_
  exact Er_fin rfl rfl ⟨rfl, rfl⟩
theorem s_Ref_toldK (m0 : mrO h a) (th0 : gI h a 18 = gI h a 18) (on0 : gI h a 19 = 0) (sz0 : gI h (a + 3) f = Int32.ofNat n) (hf : f < 16) (hn : n ≤ 300) (hin : jm_in (Int32.ofNat i) 0 (Int32.ofNat n - 1) = true) (hi : i < n) (hz : z = 0) (v0 : gL h (a + 1) (300 * f + i) = c) : Run 179 [.ref a, .int (Int32.ofNat f), .int (Int32.ofNat i), .int z] h (.inl (some (.long c))) (setI h a 18 0) := by
  refine ⟨Nat.le_of_ble_eq_true rfl, ?_⟩
  show Ev 179 0 [some (.ref a), some (.int (Int32.ofNat f)), some (.int (Int32.ofNat i)), some (.int z)] [] h _
  refine Er_run 4 (pc' := 5) (ls' := [some (.ref a), some (.int (Int32.ofNat f)), some (.int (Int32.ofNat i)), some (.int z)]) (st' := [.int ((15 : Int32)), .int ((0 : Int32)), .int (Int32.ofNat f), .ref a]) rfl ?_
  refine Er_sta1 (av := [.int (Int32.ofNat f), .int ((0 : Int32)), .int ((15 : Int32))]) (rest := [.ref a]) rfl rfl ⟨Nat.le_of_ble_eq_true rfl, Nat.le_of_ble_eq_true rfl⟩ rfl rfl (s_Ref_in1 (jm_in_n (k := 15) (by omega) (by omega))) ?_
  refine Er_run 1 (pc' := bif !decide (((1 : Int32)) = 0) then 15 else 11) (ls' := [some (.ref a), some (.int (Int32.ofNat f)), some (.int (Int32.ofNat i)), some (.int z)]) (st' := [.ref a]) rfl ?_
  refine Er_pc (t := 15) (show (bif !decide (((1 : Int32)) = 0) then 15 else 11) = 15 from by rw [show (!decide (((1 : Int32)) = 0)) = true from by decide]; rfl) ?_
  refine Er_run 1 (pc' := 16) (ls' := [some (.ref a), some (.int (Int32.ofNat f)), some (.int (Int32.ofNat i)), some (.int z)]) (st' := [.ref a, .ref a]) rfl ?_
  refine Er_getI (v := (0 : Int32)) rfl m0.1 on0 ?_
  refine Er_run 1 (pc' := bif decide (((0 : Int32)) = 0) then 26 else 22) (ls' := [some (.ref a), some (.int (Int32.ofNat f)), some (.int (Int32.ofNat i)), some (.int z)]) (st' := [.ref a]) rfl ?_
  refine Er_pc (t := 26) (show (bif decide (((0 : Int32)) = 0) then 26 else 22) = 26 from by rw [show (decide (((0 : Int32)) = 0)) = true from by decide]; rfl) ?_
  refine Er_run 3 (pc' := 29) (ls' := [some (.ref a), some (.int (Int32.ofNat f)), some (.int (Int32.ofNat i)), some (.int z)]) (st' := [.ref a, .int ((0 : Int32)), .int (Int32.ofNat i), .ref a]) rfl ?_
  refine Er_getR (x := a + 3) rfl m0.1 (m0.2 (2, 3, 0, 16) (by decide)).1 ?_
  refine Er_run 1 (pc' := 33) (ls' := [some (.ref a), some (.int (Int32.ofNat f)), some (.int (Int32.ofNat i)), some (.int z)]) (st' := [.int (Int32.ofNat f), .ref (a + 3), .int ((0 : Int32)), .int (Int32.ofNat i), .ref a]) rfl ?_
  refine Er_iald (v := Int32.ofNat n) rfl (m0.2 (2, 3, 0, 16) (by decide)).2.1 (mr_in (i := f) (k := 16) rfl (by omega) (by decide) (m0.2 (2, 3, 0, 16) (by decide)).2.2) (mr_atI rfl (by omega) sz0) ?_
  refine Er_run 2 (pc' := 36) (ls' := [some (.ref a), some (.int (Int32.ofNat f)), some (.int (Int32.ofNat i)), some (.int z)]) (st' := [.int ((Int32.ofNat n) - ((1 : Int32))), .int ((0 : Int32)), .int (Int32.ofNat i), .ref a]) rfl ?_
  refine Er_sta1 (av := [.int (Int32.ofNat i), .int ((0 : Int32)), .int ((Int32.ofNat n) - ((1 : Int32)))]) (rest := [.ref a]) rfl rfl ⟨Nat.le_of_ble_eq_true rfl, Nat.le_of_ble_eq_true rfl⟩ rfl rfl (s_Ref_in1 hin) ?_
  refine Er_run 1 (pc' := bif !decide (((1 : Int32)) = 0) then 46 else 42) (ls' := [some (.ref a), some (.int (Int32.ofNat f)), some (.int (Int32.ofNat i)), some (.int z)]) (st' := [.ref a]) rfl ?_
  refine Er_pc (t := 46) (show (bif !decide (((1 : Int32)) = 0) then 46 else 42) = 46 from by rw [show (!decide (((1 : Int32)) = 0)) = true from by decide]; rfl) ?_
  refine Er_run 1 (pc' := 47) (ls' := [some (.ref a), some (.int (Int32.ofNat f)), some (.int (Int32.ofNat i)), some (.int z)]) (st' := [.int ((0 : Int32)), .ref a]) rfl ?_
  refine Er_putI rfl m0.1 ?_
  have m1 : mrO (setI h a 18 ((0 : Int32))) a := mrO_setI m0
  have th1 : gI (setI h a 18 ((0 : Int32))) a 18 = (0 : Int32) := gI_eq
  have on1 : gI (setI h a 18 ((0 : Int32))) a 19 = (0 : Int32) := by rw [gI_ne (by omega)]; exact on0
  have sz1 : gI (setI h a 18 ((0 : Int32))) (a + 3) f = Int32.ofNat n := by rw [show gI (setI h a 18 ((0 : Int32))) (a + 3) = gI h (a + 3) from mr_ncI (by omega)]; exact sz0
  have v1 : gL (setI h a 18 ((0 : Int32))) (a + 1) ((300 * f + i)) = c := v0
  generalize (setI h a 18 ((0 : Int32))) = h1 at m1 th1 on1 sz1 v1 ⊢
  refine Er_run 1 (pc' := 51) (ls' := [some (.ref a), some (.int (Int32.ofNat f)), some (.int (Int32.ofNat i)), some (.int z)]) (st' := [.ref a]) rfl ?_
  refine Er_getI (v := (0 : Int32)) rfl m1.1 th1 ?_
  refine Er_run 1 (pc' := bif decide (((0 : Int32)) ≤ 0) then 59 else 57) (ls' := [some (.ref a), some (.int (Int32.ofNat f)), some (.int (Int32.ofNat i)), some (.int z)]) (st' := []) rfl ?_
  refine Er_pc (t := 59) (show (bif decide (((0 : Int32)) ≤ 0) then 59 else 57) = 59 from by rw [show (decide (((0 : Int32)) ≤ 0)) = true from by decide]; rfl) ?_
  refine Er_run 2 (pc' := bif decide (z = 0) then 78 else 63) (ls' := [some (.ref a), some (.int (Int32.ofNat f)), some (.int (Int32.ofNat i)), some (.int z)]) (st' := []) rfl ?_
  refine Er_pc (t := 78) (show (bif decide (z = 0) then 78 else 63) = 78 from by rw [show (decide (z = 0)) = true from decide_eq_true hz]; rfl) ?_
  refine Er_run 1 (pc' := 79) (ls' := [some (.ref a), some (.int (Int32.ofNat f)), some (.int (Int32.ofNat i)), some (.int z)]) (st' := [.ref a]) rfl ?_
  refine Er_getR (x := a + 1) rfl m1.1 (m1.2 (0, 1, 1, 4800) (by decide)).1 ?_
  refine Er_run 5 (pc' := 89) (ls' := [some (.ref a), some (.int (Int32.ofNat f)), some (.int (Int32.ofNat i)), some (.int z)]) (st' := [.int ((((300 : Int32)) * (Int32.ofNat f)) + (Int32.ofNat i)), .ref (a + 1)]) rfl ?_
  refine Er_lald (v := c) rfl (m1.2 (0, 1, 1, 4800) (by decide)).2.1 (mr_in (i := (300 * f + i)) (k := 4800) mr_rec (by omega) (by decide) (m1.2 (0, 1, 1, 4800) (by decide)).2.2) (mr_atL mr_rec (by omega) v1) ?_
  exact Er_fin rfl rfl ⟨rfl, rfl⟩
theorem rc_g {Q : sm_R → sm_H → Prop} (hk : k < 19) (h4 : k ≠ 4) (h5 : k ≠ 5) (h15 : k ≠ 15) (h16 : k ≠ 16) (kk : Ev 170 65 [some (.ref a), some (.int (Int32.ofNat k)), some (.long c), none, none] [.int ((1 : Int32))] h Q) : Ev 170 0 [some (.ref a), some (.int (Int32.ofNat k)), some (.long c), none, none] [] h Q := by
  show Ev 170 0 [some (.ref a), some (.int (Int32.ofNat k)), some (.long c), none, none] [] h _
  refine Er_run 3 (pc' := 4) (ls' := [some (.ref a), some (.int (Int32.ofNat k)), some (.long c), none, none]) (st' := [.int ((18 : Int32)), .int ((0 : Int32)), .int (Int32.ofNat k)]) rfl ?_
  refine Er_sta1 (av := [.int (Int32.ofNat k), .int ((0 : Int32)), .int ((18 : Int32))]) (rest := []) rfl rfl ⟨Nat.le_of_ble_eq_true rfl, Nat.le_of_ble_eq_true rfl⟩ rfl rfl (s_Ref_in1 (jm_in_n (k := 18) (by omega) (by omega))) ?_
  refine Er_run 1 (pc' := bif decide (((1 : Int32)) = 0) then 64 else 10) (ls' := [some (.ref a), some (.int (Int32.ofNat k)), some (.long c), none, none]) (st' := []) rfl ?_
  refine Er_pc (t := 10) (show (bif decide (((1 : Int32)) = 0) then 64 else 10) = 10 from by rw [show (decide (((1 : Int32)) = 0)) = false from by decide]; rfl) ?_
  refine Er_run 3 (pc' := bif decide ((Int32.ofNat k) = ((4 : Int32))) then 20 else 15) (ls' := [some (.ref a), some (.int (Int32.ofNat k)), some (.long c), none, none]) (st' := []) rfl ?_
  refine Er_pc (t := 15) (show (bif decide ((Int32.ofNat k) = ((4 : Int32))) then 20 else 15) = 15 from by rw [show (decide ((Int32.ofNat k) = ((4 : Int32)))) = false from by rw [show (4 : Int32) = Int32.ofNat 4 from rfl, jx_eq (by omega) (by omega)]; exact decide_eq_false (by omega)]; rfl) ?_
  refine Er_run 3 (pc' := bif !decide ((Int32.ofNat k) = ((5 : Int32))) then 34 else 20) (ls' := [some (.ref a), some (.int (Int32.ofNat k)), some (.long c), none, none]) (st' := []) rfl ?_
  refine Er_pc (t := 34) (show (bif !decide ((Int32.ofNat k) = ((5 : Int32))) then 34 else 20) = 34 from by rw [show (!decide ((Int32.ofNat k) = ((5 : Int32)))) = true from by rw [show (5 : Int32) = Int32.ofNat 5 from rfl, jx_eq (by omega) (by omega), decide_eq_false (show ¬ k = 5 by omega)]; rfl]; rfl) ?_
  refine Er_run 3 (pc' := bif decide ((Int32.ofNat k) = ((15 : Int32))) then 46 else 40) (ls' := [some (.ref a), some (.int (Int32.ofNat k)), some (.long c), none, none]) (st' := []) rfl ?_
  refine Er_pc (t := 40) (show (bif decide ((Int32.ofNat k) = ((15 : Int32))) then 46 else 40) = 40 from by rw [show (decide ((Int32.ofNat k) = ((15 : Int32)))) = false from by rw [show (15 : Int32) = Int32.ofNat 15 from rfl, jx_eq (by omega) (by omega)]; exact decide_eq_false (by omega)]; rfl) ?_
  refine Er_run 3 (pc' := bif !decide ((Int32.ofNat k) = ((16 : Int32))) then 60 else 46) (ls' := [some (.ref a), some (.int (Int32.ofNat k)), some (.long c), none, none]) (st' := []) rfl ?_
  refine Er_pc (t := 60) (show (bif !decide ((Int32.ofNat k) = ((16 : Int32))) then 60 else 46) = 60 from by rw [show (!decide ((Int32.ofNat k) = ((16 : Int32)))) = true from by rw [show (16 : Int32) = Int32.ofNat 16 from rfl, jx_eq (by omega) (by omega), decide_eq_false (show ¬ k = 16 by omega)]; rfl]; rfl) ?_
  refine Er_run 2 (pc' := 65) (ls' := [some (.ref a), some (.int (Int32.ofNat k)), some (.long c), none, none]) (st' := [.int ((1 : Int32))]) rfl ?_
  exact kk
theorem rc_x {Q : sm_R → sm_H → Prop} (hi : jm_in x 0 18 = false) (kk : Ev 170 65 [some (.ref a), some (.int x), some (.long c), none, none] [.int ((0 : Int32))] h Q) : Ev 170 0 [some (.ref a), some (.int x), some (.long c), none, none] [] h Q := by
  show Ev 170 0 [some (.ref a), some (.int x), some (.long c), none, none] [] h _
  refine Er_run 3 (pc' := 4) (ls' := [some (.ref a), some (.int x), some (.long c), none, none]) (st' := [.int ((18 : Int32)), .int ((0 : Int32)), .int x]) rfl ?_
  refine Er_sta1 (av := [.int x, .int ((0 : Int32)), .int ((18 : Int32))]) (rest := []) rfl rfl ⟨Nat.le_of_ble_eq_true rfl, Nat.le_of_ble_eq_true rfl⟩ rfl rfl (s_Ref_in0 hi) ?_
  refine Er_run 1 (pc' := bif decide (((0 : Int32)) = 0) then 64 else 10) (ls' := [some (.ref a), some (.int x), some (.long c), none, none]) (st' := []) rfl ?_
  refine Er_pc (t := 64) (show (bif decide (((0 : Int32)) = 0) then 64 else 10) = 64 from by rw [show (decide (((0 : Int32)) = 0)) = true from by decide]; rfl) ?_
  refine Er_run 1 (pc' := 65) (ls' := [some (.ref a), some (.int x), some (.long c), none, none]) (st' := [.int ((0 : Int32))]) rfl ?_
  exact kk
theorem rc_4 {Q : sm_R → sm_H → Prop} (hlo : ¬ c < 0) (hhi : c ≤ 3) (kk : Ev 170 65 [some (.ref a), some (.int ((4 : Int32))), some (.long c), none, none] [.int ((1 : Int32))] h Q) : Ev 170 0 [some (.ref a), some (.int ((4 : Int32))), some (.long c), none, none] [] h Q := by
  show Ev 170 0 [some (.ref a), some (.int ((4 : Int32))), some (.long c), none, none] [] h _
  refine Er_run 3 (pc' := 4) (ls' := [some (.ref a), some (.int ((4 : Int32))), some (.long c), none, none]) (st' := [.int ((18 : Int32)), .int ((0 : Int32)), .int ((4 : Int32))]) rfl ?_
  refine Er_sta1 (av := [.int ((4 : Int32)), .int ((0 : Int32)), .int ((18 : Int32))]) (rest := []) rfl rfl ⟨Nat.le_of_ble_eq_true rfl, Nat.le_of_ble_eq_true rfl⟩ rfl rfl (s_Ref_in1 (by decide)) ?_
  refine Er_run 1 (pc' := bif decide (((1 : Int32)) = 0) then 64 else 10) (ls' := [some (.ref a), some (.int ((4 : Int32))), some (.long c), none, none]) (st' := []) rfl ?_
  refine Er_pc (t := 10) (show (bif decide (((1 : Int32)) = 0) then 64 else 10) = 10 from by rw [show (decide (((1 : Int32)) = 0)) = false from by decide]; rfl) ?_
  refine Er_run 3 (pc' := bif decide (((4 : Int32)) = ((4 : Int32))) then 20 else 15) (ls' := [some (.ref a), some (.int ((4 : Int32))), some (.long c), none, none]) (st' := []) rfl ?_
  refine Er_pc (t := 20) (show (bif decide (((4 : Int32)) = ((4 : Int32))) then 20 else 15) = 20 from by rw [show (decide (((4 : Int32)) = ((4 : Int32)))) = true from by decide]; rfl) ?_
  refine Er_run 4 (pc' := bif decide ((lg_cmp c ((0 : Int64))) < 0) then 64 else 26) (ls' := [some (.ref a), some (.int ((4 : Int32))), some (.long c), none, none]) (st' := []) rfl ?_
  refine Er_pc (t := 26) (show (bif decide ((lg_cmp c ((0 : Int64))) < 0) then 64 else 26) = 26 from by rw [show (decide ((lg_cmp c ((0 : Int64))) < 0)) = false from by rw [jx_cmplt]; exact decide_eq_false hlo]; rfl) ?_
  refine Er_run 4 (pc' := bif decide (0 < (lg_cmp c ((3 : Int64)))) then 64 else 34) (ls' := [some (.ref a), some (.int ((4 : Int32))), some (.long c), none, none]) (st' := []) rfl ?_
  refine Er_pc (t := 34) (show (bif decide (0 < (lg_cmp c ((3 : Int64)))) then 64 else 34) = 34 from by rw [show (decide (0 < (lg_cmp c ((3 : Int64))))) = false from by rw [jx_cmpP]; rw [decide_eq_true hhi]; rfl]; rfl) ?_
  refine Er_run 3 (pc' := bif decide (((4 : Int32)) = ((15 : Int32))) then 46 else 40) (ls' := [some (.ref a), some (.int ((4 : Int32))), some (.long c), none, none]) (st' := []) rfl ?_
  refine Er_pc (t := 40) (show (bif decide (((4 : Int32)) = ((15 : Int32))) then 46 else 40) = 40 from by rw [show (decide (((4 : Int32)) = ((15 : Int32)))) = false from by decide]; rfl) ?_
  refine Er_run 3 (pc' := bif !decide (((4 : Int32)) = ((16 : Int32))) then 60 else 46) (ls' := [some (.ref a), some (.int ((4 : Int32))), some (.long c), none, none]) (st' := []) rfl ?_
  refine Er_pc (t := 60) (show (bif !decide (((4 : Int32)) = ((16 : Int32))) then 60 else 46) = 60 from by rw [show (!decide (((4 : Int32)) = ((16 : Int32)))) = true from by decide]; rfl) ?_
  refine Er_run 2 (pc' := 65) (ls' := [some (.ref a), some (.int ((4 : Int32))), some (.long c), none, none]) (st' := [.int ((1 : Int32))]) rfl ?_
  exact kk
theorem rc_4l {Q : sm_R → sm_H → Prop} (hlo : c < 0) (kk : Ev 170 65 [some (.ref a), some (.int ((4 : Int32))), some (.long c), none, none] [.int ((0 : Int32))] h Q) : Ev 170 0 [some (.ref a), some (.int ((4 : Int32))), some (.long c), none, none] [] h Q := by
  show Ev 170 0 [some (.ref a), some (.int ((4 : Int32))), some (.long c), none, none] [] h _
  refine Er_run 3 (pc' := 4) (ls' := [some (.ref a), some (.int ((4 : Int32))), some (.long c), none, none]) (st' := [.int ((18 : Int32)), .int ((0 : Int32)), .int ((4 : Int32))]) rfl ?_
  refine Er_sta1 (av := [.int ((4 : Int32)), .int ((0 : Int32)), .int ((18 : Int32))]) (rest := []) rfl rfl ⟨Nat.le_of_ble_eq_true rfl, Nat.le_of_ble_eq_true rfl⟩ rfl rfl (s_Ref_in1 (by decide)) ?_
  refine Er_run 1 (pc' := bif decide (((1 : Int32)) = 0) then 64 else 10) (ls' := [some (.ref a), some (.int ((4 : Int32))), some (.long c), none, none]) (st' := []) rfl ?_
  refine Er_pc (t := 10) (show (bif decide (((1 : Int32)) = 0) then 64 else 10) = 10 from by rw [show (decide (((1 : Int32)) = 0)) = false from by decide]; rfl) ?_
  refine Er_run 3 (pc' := bif decide (((4 : Int32)) = ((4 : Int32))) then 20 else 15) (ls' := [some (.ref a), some (.int ((4 : Int32))), some (.long c), none, none]) (st' := []) rfl ?_
  refine Er_pc (t := 20) (show (bif decide (((4 : Int32)) = ((4 : Int32))) then 20 else 15) = 20 from by rw [show (decide (((4 : Int32)) = ((4 : Int32)))) = true from by decide]; rfl) ?_
  refine Er_run 4 (pc' := bif decide ((lg_cmp c ((0 : Int64))) < 0) then 64 else 26) (ls' := [some (.ref a), some (.int ((4 : Int32))), some (.long c), none, none]) (st' := []) rfl ?_
  refine Er_pc (t := 64) (show (bif decide ((lg_cmp c ((0 : Int64))) < 0) then 64 else 26) = 64 from by rw [show (decide ((lg_cmp c ((0 : Int64))) < 0)) = true from by rw [jx_cmplt]; exact decide_eq_true hlo]; rfl) ?_
  refine Er_run 1 (pc' := 65) (ls' := [some (.ref a), some (.int ((4 : Int32))), some (.long c), none, none]) (st' := [.int ((0 : Int32))]) rfl ?_
  exact kk
theorem rc_4h {Q : sm_R → sm_H → Prop} (hlo : ¬ c < 0) (hhi : ¬ c ≤ 3) (kk : Ev 170 65 [some (.ref a), some (.int ((4 : Int32))), some (.long c), none, none] [.int ((0 : Int32))] h Q) : Ev 170 0 [some (.ref a), some (.int ((4 : Int32))), some (.long c), none, none] [] h Q := by
  show Ev 170 0 [some (.ref a), some (.int ((4 : Int32))), some (.long c), none, none] [] h _
  refine Er_run 3 (pc' := 4) (ls' := [some (.ref a), some (.int ((4 : Int32))), some (.long c), none, none]) (st' := [.int ((18 : Int32)), .int ((0 : Int32)), .int ((4 : Int32))]) rfl ?_
  refine Er_sta1 (av := [.int ((4 : Int32)), .int ((0 : Int32)), .int ((18 : Int32))]) (rest := []) rfl rfl ⟨Nat.le_of_ble_eq_true rfl, Nat.le_of_ble_eq_true rfl⟩ rfl rfl (s_Ref_in1 (by decide)) ?_
  refine Er_run 1 (pc' := bif decide (((1 : Int32)) = 0) then 64 else 10) (ls' := [some (.ref a), some (.int ((4 : Int32))), some (.long c), none, none]) (st' := []) rfl ?_
  refine Er_pc (t := 10) (show (bif decide (((1 : Int32)) = 0) then 64 else 10) = 10 from by rw [show (decide (((1 : Int32)) = 0)) = false from by decide]; rfl) ?_
  refine Er_run 3 (pc' := bif decide (((4 : Int32)) = ((4 : Int32))) then 20 else 15) (ls' := [some (.ref a), some (.int ((4 : Int32))), some (.long c), none, none]) (st' := []) rfl ?_
  refine Er_pc (t := 20) (show (bif decide (((4 : Int32)) = ((4 : Int32))) then 20 else 15) = 20 from by rw [show (decide (((4 : Int32)) = ((4 : Int32)))) = true from by decide]; rfl) ?_
  refine Er_run 4 (pc' := bif decide ((lg_cmp c ((0 : Int64))) < 0) then 64 else 26) (ls' := [some (.ref a), some (.int ((4 : Int32))), some (.long c), none, none]) (st' := []) rfl ?_
  refine Er_pc (t := 26) (show (bif decide ((lg_cmp c ((0 : Int64))) < 0) then 64 else 26) = 26 from by rw [show (decide ((lg_cmp c ((0 : Int64))) < 0)) = false from by rw [jx_cmplt]; exact decide_eq_false hlo]; rfl) ?_
  refine Er_run 4 (pc' := bif decide (0 < (lg_cmp c ((3 : Int64)))) then 64 else 34) (ls' := [some (.ref a), some (.int ((4 : Int32))), some (.long c), none, none]) (st' := []) rfl ?_
  refine Er_pc (t := 64) (show (bif decide (0 < (lg_cmp c ((3 : Int64)))) then 64 else 34) = 64 from by rw [show (decide (0 < (lg_cmp c ((3 : Int64))))) = true from by rw [jx_cmpP]; rw [decide_eq_false hhi]; rfl]; rfl) ?_
  refine Er_run 1 (pc' := 65) (ls' := [some (.ref a), some (.int ((4 : Int32))), some (.long c), none, none]) (st' := [.int ((0 : Int32))]) rfl ?_
  exact kk
theorem rc_5 {Q : sm_R → sm_H → Prop} (hlo : ¬ c < 0) (hhi : c ≤ 3) (kk : Ev 170 65 [some (.ref a), some (.int ((5 : Int32))), some (.long c), none, none] [.int ((1 : Int32))] h Q) : Ev 170 0 [some (.ref a), some (.int ((5 : Int32))), some (.long c), none, none] [] h Q := by
  show Ev 170 0 [some (.ref a), some (.int ((5 : Int32))), some (.long c), none, none] [] h _
  refine Er_run 3 (pc' := 4) (ls' := [some (.ref a), some (.int ((5 : Int32))), some (.long c), none, none]) (st' := [.int ((18 : Int32)), .int ((0 : Int32)), .int ((5 : Int32))]) rfl ?_
  refine Er_sta1 (av := [.int ((5 : Int32)), .int ((0 : Int32)), .int ((18 : Int32))]) (rest := []) rfl rfl ⟨Nat.le_of_ble_eq_true rfl, Nat.le_of_ble_eq_true rfl⟩ rfl rfl (s_Ref_in1 (by decide)) ?_
  refine Er_run 1 (pc' := bif decide (((1 : Int32)) = 0) then 64 else 10) (ls' := [some (.ref a), some (.int ((5 : Int32))), some (.long c), none, none]) (st' := []) rfl ?_
  refine Er_pc (t := 10) (show (bif decide (((1 : Int32)) = 0) then 64 else 10) = 10 from by rw [show (decide (((1 : Int32)) = 0)) = false from by decide]; rfl) ?_
  refine Er_run 3 (pc' := bif decide (((5 : Int32)) = ((4 : Int32))) then 20 else 15) (ls' := [some (.ref a), some (.int ((5 : Int32))), some (.long c), none, none]) (st' := []) rfl ?_
  refine Er_pc (t := 15) (show (bif decide (((5 : Int32)) = ((4 : Int32))) then 20 else 15) = 15 from by rw [show (decide (((5 : Int32)) = ((4 : Int32)))) = false from by decide]; rfl) ?_
  refine Er_run 3 (pc' := bif !decide (((5 : Int32)) = ((5 : Int32))) then 34 else 20) (ls' := [some (.ref a), some (.int ((5 : Int32))), some (.long c), none, none]) (st' := []) rfl ?_
  refine Er_pc (t := 20) (show (bif !decide (((5 : Int32)) = ((5 : Int32))) then 34 else 20) = 20 from by rw [show (!decide (((5 : Int32)) = ((5 : Int32)))) = false from by decide]; rfl) ?_
  refine Er_run 4 (pc' := bif decide ((lg_cmp c ((0 : Int64))) < 0) then 64 else 26) (ls' := [some (.ref a), some (.int ((5 : Int32))), some (.long c), none, none]) (st' := []) rfl ?_
  refine Er_pc (t := 26) (show (bif decide ((lg_cmp c ((0 : Int64))) < 0) then 64 else 26) = 26 from by rw [show (decide ((lg_cmp c ((0 : Int64))) < 0)) = false from by rw [jx_cmplt]; exact decide_eq_false hlo]; rfl) ?_
  refine Er_run 4 (pc' := bif decide (0 < (lg_cmp c ((3 : Int64)))) then 64 else 34) (ls' := [some (.ref a), some (.int ((5 : Int32))), some (.long c), none, none]) (st' := []) rfl ?_
  refine Er_pc (t := 34) (show (bif decide (0 < (lg_cmp c ((3 : Int64)))) then 64 else 34) = 34 from by rw [show (decide (0 < (lg_cmp c ((3 : Int64))))) = false from by rw [jx_cmpP]; rw [decide_eq_true hhi]; rfl]; rfl) ?_
  refine Er_run 3 (pc' := bif decide (((5 : Int32)) = ((15 : Int32))) then 46 else 40) (ls' := [some (.ref a), some (.int ((5 : Int32))), some (.long c), none, none]) (st' := []) rfl ?_
  refine Er_pc (t := 40) (show (bif decide (((5 : Int32)) = ((15 : Int32))) then 46 else 40) = 40 from by rw [show (decide (((5 : Int32)) = ((15 : Int32)))) = false from by decide]; rfl) ?_
  refine Er_run 3 (pc' := bif !decide (((5 : Int32)) = ((16 : Int32))) then 60 else 46) (ls' := [some (.ref a), some (.int ((5 : Int32))), some (.long c), none, none]) (st' := []) rfl ?_
  refine Er_pc (t := 60) (show (bif !decide (((5 : Int32)) = ((16 : Int32))) then 60 else 46) = 60 from by rw [show (!decide (((5 : Int32)) = ((16 : Int32)))) = true from by decide]; rfl) ?_
  refine Er_run 2 (pc' := 65) (ls' := [some (.ref a), some (.int ((5 : Int32))), some (.long c), none, none]) (st' := [.int ((1 : Int32))]) rfl ?_
  exact kk
theorem rc_5l {Q : sm_R → sm_H → Prop} (hlo : c < 0) (kk : Ev 170 65 [some (.ref a), some (.int ((5 : Int32))), some (.long c), none, none] [.int ((0 : Int32))] h Q) : Ev 170 0 [some (.ref a), some (.int ((5 : Int32))), some (.long c), none, none] [] h Q := by
  show Ev 170 0 [some (.ref a), some (.int ((5 : Int32))), some (.long c), none, none] [] h _
  refine Er_run 3 (pc' := 4) (ls' := [some (.ref a), some (.int ((5 : Int32))), some (.long c), none, none]) (st' := [.int ((18 : Int32)), .int ((0 : Int32)), .int ((5 : Int32))]) rfl ?_
  refine Er_sta1 (av := [.int ((5 : Int32)), .int ((0 : Int32)), .int ((18 : Int32))]) (rest := []) rfl rfl ⟨Nat.le_of_ble_eq_true rfl, Nat.le_of_ble_eq_true rfl⟩ rfl rfl (s_Ref_in1 (by decide)) ?_
  refine Er_run 1 (pc' := bif decide (((1 : Int32)) = 0) then 64 else 10) (ls' := [some (.ref a), some (.int ((5 : Int32))), some (.long c), none, none]) (st' := []) rfl ?_
  refine Er_pc (t := 10) (show (bif decide (((1 : Int32)) = 0) then 64 else 10) = 10 from by rw [show (decide (((1 : Int32)) = 0)) = false from by decide]; rfl) ?_
  refine Er_run 3 (pc' := bif decide (((5 : Int32)) = ((4 : Int32))) then 20 else 15) (ls' := [some (.ref a), some (.int ((5 : Int32))), some (.long c), none, none]) (st' := []) rfl ?_
  refine Er_pc (t := 15) (show (bif decide (((5 : Int32)) = ((4 : Int32))) then 20 else 15) = 15 from by rw [show (decide (((5 : Int32)) = ((4 : Int32)))) = false from by decide]; rfl) ?_
  refine Er_run 3 (pc' := bif !decide (((5 : Int32)) = ((5 : Int32))) then 34 else 20) (ls' := [some (.ref a), some (.int ((5 : Int32))), some (.long c), none, none]) (st' := []) rfl ?_
  refine Er_pc (t := 20) (show (bif !decide (((5 : Int32)) = ((5 : Int32))) then 34 else 20) = 20 from by rw [show (!decide (((5 : Int32)) = ((5 : Int32)))) = false from by decide]; rfl) ?_
  refine Er_run 4 (pc' := bif decide ((lg_cmp c ((0 : Int64))) < 0) then 64 else 26) (ls' := [some (.ref a), some (.int ((5 : Int32))), some (.long c), none, none]) (st' := []) rfl ?_
  refine Er_pc (t := 64) (show (bif decide ((lg_cmp c ((0 : Int64))) < 0) then 64 else 26) = 64 from by rw [show (decide ((lg_cmp c ((0 : Int64))) < 0)) = true from by rw [jx_cmplt]; exact decide_eq_true hlo]; rfl) ?_
  refine Er_run 1 (pc' := 65) (ls' := [some (.ref a), some (.int ((5 : Int32))), some (.long c), none, none]) (st' := [.int ((0 : Int32))]) rfl ?_
  exact kk
theorem rc_5h {Q : sm_R → sm_H → Prop} (hlo : ¬ c < 0) (hhi : ¬ c ≤ 3) (kk : Ev 170 65 [some (.ref a), some (.int ((5 : Int32))), some (.long c), none, none] [.int ((0 : Int32))] h Q) : Ev 170 0 [some (.ref a), some (.int ((5 : Int32))), some (.long c), none, none] [] h Q := by
  show Ev 170 0 [some (.ref a), some (.int ((5 : Int32))), some (.long c), none, none] [] h _
  refine Er_run 3 (pc' := 4) (ls' := [some (.ref a), some (.int ((5 : Int32))), some (.long c), none, none]) (st' := [.int ((18 : Int32)), .int ((0 : Int32)), .int ((5 : Int32))]) rfl ?_
  refine Er_sta1 (av := [.int ((5 : Int32)), .int ((0 : Int32)), .int ((18 : Int32))]) (rest := []) rfl rfl ⟨Nat.le_of_ble_eq_true rfl, Nat.le_of_ble_eq_true rfl⟩ rfl rfl (s_Ref_in1 (by decide)) ?_
  refine Er_run 1 (pc' := bif decide (((1 : Int32)) = 0) then 64 else 10) (ls' := [some (.ref a), some (.int ((5 : Int32))), some (.long c), none, none]) (st' := []) rfl ?_
  refine Er_pc (t := 10) (show (bif decide (((1 : Int32)) = 0) then 64 else 10) = 10 from by rw [show (decide (((1 : Int32)) = 0)) = false from by decide]; rfl) ?_
  refine Er_run 3 (pc' := bif decide (((5 : Int32)) = ((4 : Int32))) then 20 else 15) (ls' := [some (.ref a), some (.int ((5 : Int32))), some (.long c), none, none]) (st' := []) rfl ?_
  refine Er_pc (t := 15) (show (bif decide (((5 : Int32)) = ((4 : Int32))) then 20 else 15) = 15 from by rw [show (decide (((5 : Int32)) = ((4 : Int32)))) = false from by decide]; rfl) ?_
  refine Er_run 3 (pc' := bif !decide (((5 : Int32)) = ((5 : Int32))) then 34 else 20) (ls' := [some (.ref a), some (.int ((5 : Int32))), some (.long c), none, none]) (st' := []) rfl ?_
  refine Er_pc (t := 20) (show (bif !decide (((5 : Int32)) = ((5 : Int32))) then 34 else 20) = 20 from by rw [show (!decide (((5 : Int32)) = ((5 : Int32)))) = false from by decide]; rfl) ?_
  refine Er_run 4 (pc' := bif decide ((lg_cmp c ((0 : Int64))) < 0) then 64 else 26) (ls' := [some (.ref a), some (.int ((5 : Int32))), some (.long c), none, none]) (st' := []) rfl ?_
  refine Er_pc (t := 26) (show (bif decide ((lg_cmp c ((0 : Int64))) < 0) then 64 else 26) = 26 from by rw [show (decide ((lg_cmp c ((0 : Int64))) < 0)) = false from by rw [jx_cmplt]; exact decide_eq_false hlo]; rfl) ?_
  refine Er_run 4 (pc' := bif decide (0 < (lg_cmp c ((3 : Int64)))) then 64 else 34) (ls' := [some (.ref a), some (.int ((5 : Int32))), some (.long c), none, none]) (st' := []) rfl ?_
  refine Er_pc (t := 64) (show (bif decide (0 < (lg_cmp c ((3 : Int64)))) then 64 else 34) = 64 from by rw [show (decide (0 < (lg_cmp c ((3 : Int64))))) = true from by rw [jx_cmpP]; rw [decide_eq_false hhi]; rfl]; rfl) ?_
  refine Er_run 1 (pc' := 65) (ls' := [some (.ref a), some (.int ((5 : Int32))), some (.long c), none, none]) (st' := [.int ((0 : Int32))]) rfl ?_
  exact kk
theorem rc_15 {Q : sm_R → sm_H → Prop} (hlo : ¬ c < 0) (hhi : c ≤ 40) (kk : Ev 170 65 [some (.ref a), some (.int ((15 : Int32))), some (.long c), none, none] [.int ((1 : Int32))] h Q) : Ev 170 0 [some (.ref a), some (.int ((15 : Int32))), some (.long c), none, none] [] h Q := by
  show Ev 170 0 [some (.ref a), some (.int ((15 : Int32))), some (.long c), none, none] [] h _
  refine Er_run 3 (pc' := 4) (ls' := [some (.ref a), some (.int ((15 : Int32))), some (.long c), none, none]) (st' := [.int ((18 : Int32)), .int ((0 : Int32)), .int ((15 : Int32))]) rfl ?_
  refine Er_sta1 (av := [.int ((15 : Int32)), .int ((0 : Int32)), .int ((18 : Int32))]) (rest := []) rfl rfl ⟨Nat.le_of_ble_eq_true rfl, Nat.le_of_ble_eq_true rfl⟩ rfl rfl (s_Ref_in1 (by decide)) ?_
  refine Er_run 1 (pc' := bif decide (((1 : Int32)) = 0) then 64 else 10) (ls' := [some (.ref a), some (.int ((15 : Int32))), some (.long c), none, none]) (st' := []) rfl ?_
  refine Er_pc (t := 10) (show (bif decide (((1 : Int32)) = 0) then 64 else 10) = 10 from by rw [show (decide (((1 : Int32)) = 0)) = false from by decide]; rfl) ?_
  refine Er_run 3 (pc' := bif decide (((15 : Int32)) = ((4 : Int32))) then 20 else 15) (ls' := [some (.ref a), some (.int ((15 : Int32))), some (.long c), none, none]) (st' := []) rfl ?_
  refine Er_pc (t := 15) (show (bif decide (((15 : Int32)) = ((4 : Int32))) then 20 else 15) = 15 from by rw [show (decide (((15 : Int32)) = ((4 : Int32)))) = false from by decide]; rfl) ?_
  refine Er_run 3 (pc' := bif !decide (((15 : Int32)) = ((5 : Int32))) then 34 else 20) (ls' := [some (.ref a), some (.int ((15 : Int32))), some (.long c), none, none]) (st' := []) rfl ?_
  refine Er_pc (t := 34) (show (bif !decide (((15 : Int32)) = ((5 : Int32))) then 34 else 20) = 34 from by rw [show (!decide (((15 : Int32)) = ((5 : Int32)))) = true from by decide]; rfl) ?_
  refine Er_run 3 (pc' := bif decide (((15 : Int32)) = ((15 : Int32))) then 46 else 40) (ls' := [some (.ref a), some (.int ((15 : Int32))), some (.long c), none, none]) (st' := []) rfl ?_
  refine Er_pc (t := 46) (show (bif decide (((15 : Int32)) = ((15 : Int32))) then 46 else 40) = 46 from by rw [show (decide (((15 : Int32)) = ((15 : Int32)))) = true from by decide]; rfl) ?_
  refine Er_run 4 (pc' := bif decide ((lg_cmp c ((0 : Int64))) < 0) then 64 else 52) (ls' := [some (.ref a), some (.int ((15 : Int32))), some (.long c), none, none]) (st' := []) rfl ?_
  refine Er_pc (t := 52) (show (bif decide ((lg_cmp c ((0 : Int64))) < 0) then 64 else 52) = 52 from by rw [show (decide ((lg_cmp c ((0 : Int64))) < 0)) = false from by rw [jx_cmplt]; exact decide_eq_false hlo]; rfl) ?_
  refine Er_run 4 (pc' := bif decide (0 < (lg_cmp c ((40 : Int64)))) then 64 else 60) (ls' := [some (.ref a), some (.int ((15 : Int32))), some (.long c), none, none]) (st' := []) rfl ?_
  refine Er_pc (t := 60) (show (bif decide (0 < (lg_cmp c ((40 : Int64)))) then 64 else 60) = 60 from by rw [show (decide (0 < (lg_cmp c ((40 : Int64))))) = false from by rw [jx_cmpP]; rw [decide_eq_true hhi]; rfl]; rfl) ?_
  refine Er_run 2 (pc' := 65) (ls' := [some (.ref a), some (.int ((15 : Int32))), some (.long c), none, none]) (st' := [.int ((1 : Int32))]) rfl ?_
  exact kk
theorem rc_15l {Q : sm_R → sm_H → Prop} (hlo : c < 0) (kk : Ev 170 65 [some (.ref a), some (.int ((15 : Int32))), some (.long c), none, none] [.int ((0 : Int32))] h Q) : Ev 170 0 [some (.ref a), some (.int ((15 : Int32))), some (.long c), none, none] [] h Q := by
  show Ev 170 0 [some (.ref a), some (.int ((15 : Int32))), some (.long c), none, none] [] h _
  refine Er_run 3 (pc' := 4) (ls' := [some (.ref a), some (.int ((15 : Int32))), some (.long c), none, none]) (st' := [.int ((18 : Int32)), .int ((0 : Int32)), .int ((15 : Int32))]) rfl ?_
  refine Er_sta1 (av := [.int ((15 : Int32)), .int ((0 : Int32)), .int ((18 : Int32))]) (rest := []) rfl rfl ⟨Nat.le_of_ble_eq_true rfl, Nat.le_of_ble_eq_true rfl⟩ rfl rfl (s_Ref_in1 (by decide)) ?_
  refine Er_run 1 (pc' := bif decide (((1 : Int32)) = 0) then 64 else 10) (ls' := [some (.ref a), some (.int ((15 : Int32))), some (.long c), none, none]) (st' := []) rfl ?_
  refine Er_pc (t := 10) (show (bif decide (((1 : Int32)) = 0) then 64 else 10) = 10 from by rw [show (decide (((1 : Int32)) = 0)) = false from by decide]; rfl) ?_
  refine Er_run 3 (pc' := bif decide (((15 : Int32)) = ((4 : Int32))) then 20 else 15) (ls' := [some (.ref a), some (.int ((15 : Int32))), some (.long c), none, none]) (st' := []) rfl ?_
  refine Er_pc (t := 15) (show (bif decide (((15 : Int32)) = ((4 : Int32))) then 20 else 15) = 15 from by rw [show (decide (((15 : Int32)) = ((4 : Int32)))) = false from by decide]; rfl) ?_
  refine Er_run 3 (pc' := bif !decide (((15 : Int32)) = ((5 : Int32))) then 34 else 20) (ls' := [some (.ref a), some (.int ((15 : Int32))), some (.long c), none, none]) (st' := []) rfl ?_
  refine Er_pc (t := 34) (show (bif !decide (((15 : Int32)) = ((5 : Int32))) then 34 else 20) = 34 from by rw [show (!decide (((15 : Int32)) = ((5 : Int32)))) = true from by decide]; rfl) ?_
  refine Er_run 3 (pc' := bif decide (((15 : Int32)) = ((15 : Int32))) then 46 else 40) (ls' := [some (.ref a), some (.int ((15 : Int32))), some (.long c), none, none]) (st' := []) rfl ?_
  refine Er_pc (t := 46) (show (bif decide (((15 : Int32)) = ((15 : Int32))) then 46 else 40) = 46 from by rw [show (decide (((15 : Int32)) = ((15 : Int32)))) = true from by decide]; rfl) ?_
  refine Er_run 4 (pc' := bif decide ((lg_cmp c ((0 : Int64))) < 0) then 64 else 52) (ls' := [some (.ref a), some (.int ((15 : Int32))), some (.long c), none, none]) (st' := []) rfl ?_
  refine Er_pc (t := 64) (show (bif decide ((lg_cmp c ((0 : Int64))) < 0) then 64 else 52) = 64 from by rw [show (decide ((lg_cmp c ((0 : Int64))) < 0)) = true from by rw [jx_cmplt]; exact decide_eq_true hlo]; rfl) ?_
  refine Er_run 1 (pc' := 65) (ls' := [some (.ref a), some (.int ((15 : Int32))), some (.long c), none, none]) (st' := [.int ((0 : Int32))]) rfl ?_
  exact kk
theorem rc_15h {Q : sm_R → sm_H → Prop} (hlo : ¬ c < 0) (hhi : ¬ c ≤ 40) (kk : Ev 170 65 [some (.ref a), some (.int ((15 : Int32))), some (.long c), none, none] [.int ((0 : Int32))] h Q) : Ev 170 0 [some (.ref a), some (.int ((15 : Int32))), some (.long c), none, none] [] h Q := by
  show Ev 170 0 [some (.ref a), some (.int ((15 : Int32))), some (.long c), none, none] [] h _
  refine Er_run 3 (pc' := 4) (ls' := [some (.ref a), some (.int ((15 : Int32))), some (.long c), none, none]) (st' := [.int ((18 : Int32)), .int ((0 : Int32)), .int ((15 : Int32))]) rfl ?_
  refine Er_sta1 (av := [.int ((15 : Int32)), .int ((0 : Int32)), .int ((18 : Int32))]) (rest := []) rfl rfl ⟨Nat.le_of_ble_eq_true rfl, Nat.le_of_ble_eq_true rfl⟩ rfl rfl (s_Ref_in1 (by decide)) ?_
  refine Er_run 1 (pc' := bif decide (((1 : Int32)) = 0) then 64 else 10) (ls' := [some (.ref a), some (.int ((15 : Int32))), some (.long c), none, none]) (st' := []) rfl ?_
  refine Er_pc (t := 10) (show (bif decide (((1 : Int32)) = 0) then 64 else 10) = 10 from by rw [show (decide (((1 : Int32)) = 0)) = false from by decide]; rfl) ?_
  refine Er_run 3 (pc' := bif decide (((15 : Int32)) = ((4 : Int32))) then 20 else 15) (ls' := [some (.ref a), some (.int ((15 : Int32))), some (.long c), none, none]) (st' := []) rfl ?_
  refine Er_pc (t := 15) (show (bif decide (((15 : Int32)) = ((4 : Int32))) then 20 else 15) = 15 from by rw [show (decide (((15 : Int32)) = ((4 : Int32)))) = false from by decide]; rfl) ?_
  refine Er_run 3 (pc' := bif !decide (((15 : Int32)) = ((5 : Int32))) then 34 else 20) (ls' := [some (.ref a), some (.int ((15 : Int32))), some (.long c), none, none]) (st' := []) rfl ?_
  refine Er_pc (t := 34) (show (bif !decide (((15 : Int32)) = ((5 : Int32))) then 34 else 20) = 34 from by rw [show (!decide (((15 : Int32)) = ((5 : Int32)))) = true from by decide]; rfl) ?_
  refine Er_run 3 (pc' := bif decide (((15 : Int32)) = ((15 : Int32))) then 46 else 40) (ls' := [some (.ref a), some (.int ((15 : Int32))), some (.long c), none, none]) (st' := []) rfl ?_
  refine Er_pc (t := 46) (show (bif decide (((15 : Int32)) = ((15 : Int32))) then 46 else 40) = 46 from by rw [show (decide (((15 : Int32)) = ((15 : Int32)))) = true from by decide]; rfl) ?_
  refine Er_run 4 (pc' := bif decide ((lg_cmp c ((0 : Int64))) < 0) then 64 else 52) (ls' := [some (.ref a), some (.int ((15 : Int32))), some (.long c), none, none]) (st' := []) rfl ?_
  refine Er_pc (t := 52) (show (bif decide ((lg_cmp c ((0 : Int64))) < 0) then 64 else 52) = 52 from by rw [show (decide ((lg_cmp c ((0 : Int64))) < 0)) = false from by rw [jx_cmplt]; exact decide_eq_false hlo]; rfl) ?_
  refine Er_run 4 (pc' := bif decide (0 < (lg_cmp c ((40 : Int64)))) then 64 else 60) (ls' := [some (.ref a), some (.int ((15 : Int32))), some (.long c), none, none]) (st' := []) rfl ?_
  refine Er_pc (t := 64) (show (bif decide (0 < (lg_cmp c ((40 : Int64)))) then 64 else 60) = 64 from by rw [show (decide (0 < (lg_cmp c ((40 : Int64))))) = true from by rw [jx_cmpP]; rw [decide_eq_false hhi]; rfl]; rfl) ?_
  refine Er_run 1 (pc' := 65) (ls' := [some (.ref a), some (.int ((15 : Int32))), some (.long c), none, none]) (st' := [.int ((0 : Int32))]) rfl ?_
  exact kk
theorem rc_16 {Q : sm_R → sm_H → Prop} (hlo : ¬ c < 0) (hhi : c ≤ 40) (kk : Ev 170 65 [some (.ref a), some (.int ((16 : Int32))), some (.long c), none, none] [.int ((1 : Int32))] h Q) : Ev 170 0 [some (.ref a), some (.int ((16 : Int32))), some (.long c), none, none] [] h Q := by
  show Ev 170 0 [some (.ref a), some (.int ((16 : Int32))), some (.long c), none, none] [] h _
  refine Er_run 3 (pc' := 4) (ls' := [some (.ref a), some (.int ((16 : Int32))), some (.long c), none, none]) (st' := [.int ((18 : Int32)), .int ((0 : Int32)), .int ((16 : Int32))]) rfl ?_
  refine Er_sta1 (av := [.int ((16 : Int32)), .int ((0 : Int32)), .int ((18 : Int32))]) (rest := []) rfl rfl ⟨Nat.le_of_ble_eq_true rfl, Nat.le_of_ble_eq_true rfl⟩ rfl rfl (s_Ref_in1 (by decide)) ?_
  refine Er_run 1 (pc' := bif decide (((1 : Int32)) = 0) then 64 else 10) (ls' := [some (.ref a), some (.int ((16 : Int32))), some (.long c), none, none]) (st' := []) rfl ?_
  refine Er_pc (t := 10) (show (bif decide (((1 : Int32)) = 0) then 64 else 10) = 10 from by rw [show (decide (((1 : Int32)) = 0)) = false from by decide]; rfl) ?_
  refine Er_run 3 (pc' := bif decide (((16 : Int32)) = ((4 : Int32))) then 20 else 15) (ls' := [some (.ref a), some (.int ((16 : Int32))), some (.long c), none, none]) (st' := []) rfl ?_
  refine Er_pc (t := 15) (show (bif decide (((16 : Int32)) = ((4 : Int32))) then 20 else 15) = 15 from by rw [show (decide (((16 : Int32)) = ((4 : Int32)))) = false from by decide]; rfl) ?_
  refine Er_run 3 (pc' := bif !decide (((16 : Int32)) = ((5 : Int32))) then 34 else 20) (ls' := [some (.ref a), some (.int ((16 : Int32))), some (.long c), none, none]) (st' := []) rfl ?_
  refine Er_pc (t := 34) (show (bif !decide (((16 : Int32)) = ((5 : Int32))) then 34 else 20) = 34 from by rw [show (!decide (((16 : Int32)) = ((5 : Int32)))) = true from by decide]; rfl) ?_
  refine Er_run 3 (pc' := bif decide (((16 : Int32)) = ((15 : Int32))) then 46 else 40) (ls' := [some (.ref a), some (.int ((16 : Int32))), some (.long c), none, none]) (st' := []) rfl ?_
  refine Er_pc (t := 40) (show (bif decide (((16 : Int32)) = ((15 : Int32))) then 46 else 40) = 40 from by rw [show (decide (((16 : Int32)) = ((15 : Int32)))) = false from by decide]; rfl) ?_
  refine Er_run 3 (pc' := bif !decide (((16 : Int32)) = ((16 : Int32))) then 60 else 46) (ls' := [some (.ref a), some (.int ((16 : Int32))), some (.long c), none, none]) (st' := []) rfl ?_
  refine Er_pc (t := 46) (show (bif !decide (((16 : Int32)) = ((16 : Int32))) then 60 else 46) = 46 from by rw [show (!decide (((16 : Int32)) = ((16 : Int32)))) = false from by decide]; rfl) ?_
  refine Er_run 4 (pc' := bif decide ((lg_cmp c ((0 : Int64))) < 0) then 64 else 52) (ls' := [some (.ref a), some (.int ((16 : Int32))), some (.long c), none, none]) (st' := []) rfl ?_
  refine Er_pc (t := 52) (show (bif decide ((lg_cmp c ((0 : Int64))) < 0) then 64 else 52) = 52 from by rw [show (decide ((lg_cmp c ((0 : Int64))) < 0)) = false from by rw [jx_cmplt]; exact decide_eq_false hlo]; rfl) ?_
  refine Er_run 4 (pc' := bif decide (0 < (lg_cmp c ((40 : Int64)))) then 64 else 60) (ls' := [some (.ref a), some (.int ((16 : Int32))), some (.long c), none, none]) (st' := []) rfl ?_
  refine Er_pc (t := 60) (show (bif decide (0 < (lg_cmp c ((40 : Int64)))) then 64 else 60) = 60 from by rw [show (decide (0 < (lg_cmp c ((40 : Int64))))) = false from by rw [jx_cmpP]; rw [decide_eq_true hhi]; rfl]; rfl) ?_
  refine Er_run 2 (pc' := 65) (ls' := [some (.ref a), some (.int ((16 : Int32))), some (.long c), none, none]) (st' := [.int ((1 : Int32))]) rfl ?_
  exact kk
theorem rc_16l {Q : sm_R → sm_H → Prop} (hlo : c < 0) (kk : Ev 170 65 [some (.ref a), some (.int ((16 : Int32))), some (.long c), none, none] [.int ((0 : Int32))] h Q) : Ev 170 0 [some (.ref a), some (.int ((16 : Int32))), some (.long c), none, none] [] h Q := by
  show Ev 170 0 [some (.ref a), some (.int ((16 : Int32))), some (.long c), none, none] [] h _
  refine Er_run 3 (pc' := 4) (ls' := [some (.ref a), some (.int ((16 : Int32))), some (.long c), none, none]) (st' := [.int ((18 : Int32)), .int ((0 : Int32)), .int ((16 : Int32))]) rfl ?_
  refine Er_sta1 (av := [.int ((16 : Int32)), .int ((0 : Int32)), .int ((18 : Int32))]) (rest := []) rfl rfl ⟨Nat.le_of_ble_eq_true rfl, Nat.le_of_ble_eq_true rfl⟩ rfl rfl (s_Ref_in1 (by decide)) ?_
  refine Er_run 1 (pc' := bif decide (((1 : Int32)) = 0) then 64 else 10) (ls' := [some (.ref a), some (.int ((16 : Int32))), some (.long c), none, none]) (st' := []) rfl ?_
  refine Er_pc (t := 10) (show (bif decide (((1 : Int32)) = 0) then 64 else 10) = 10 from by rw [show (decide (((1 : Int32)) = 0)) = false from by decide]; rfl) ?_
  refine Er_run 3 (pc' := bif decide (((16 : Int32)) = ((4 : Int32))) then 20 else 15) (ls' := [some (.ref a), some (.int ((16 : Int32))), some (.long c), none, none]) (st' := []) rfl ?_
  refine Er_pc (t := 15) (show (bif decide (((16 : Int32)) = ((4 : Int32))) then 20 else 15) = 15 from by rw [show (decide (((16 : Int32)) = ((4 : Int32)))) = false from by decide]; rfl) ?_
  refine Er_run 3 (pc' := bif !decide (((16 : Int32)) = ((5 : Int32))) then 34 else 20) (ls' := [some (.ref a), some (.int ((16 : Int32))), some (.long c), none, none]) (st' := []) rfl ?_
  refine Er_pc (t := 34) (show (bif !decide (((16 : Int32)) = ((5 : Int32))) then 34 else 20) = 34 from by rw [show (!decide (((16 : Int32)) = ((5 : Int32)))) = true from by decide]; rfl) ?_
  refine Er_run 3 (pc' := bif decide (((16 : Int32)) = ((15 : Int32))) then 46 else 40) (ls' := [some (.ref a), some (.int ((16 : Int32))), some (.long c), none, none]) (st' := []) rfl ?_
  refine Er_pc (t := 40) (show (bif decide (((16 : Int32)) = ((15 : Int32))) then 46 else 40) = 40 from by rw [show (decide (((16 : Int32)) = ((15 : Int32)))) = false from by decide]; rfl) ?_
  refine Er_run 3 (pc' := bif !decide (((16 : Int32)) = ((16 : Int32))) then 60 else 46) (ls' := [some (.ref a), some (.int ((16 : Int32))), some (.long c), none, none]) (st' := []) rfl ?_
  refine Er_pc (t := 46) (show (bif !decide (((16 : Int32)) = ((16 : Int32))) then 60 else 46) = 46 from by rw [show (!decide (((16 : Int32)) = ((16 : Int32)))) = false from by decide]; rfl) ?_
  refine Er_run 4 (pc' := bif decide ((lg_cmp c ((0 : Int64))) < 0) then 64 else 52) (ls' := [some (.ref a), some (.int ((16 : Int32))), some (.long c), none, none]) (st' := []) rfl ?_
  refine Er_pc (t := 64) (show (bif decide ((lg_cmp c ((0 : Int64))) < 0) then 64 else 52) = 64 from by rw [show (decide ((lg_cmp c ((0 : Int64))) < 0)) = true from by rw [jx_cmplt]; exact decide_eq_true hlo]; rfl) ?_
  refine Er_run 1 (pc' := 65) (ls' := [some (.ref a), some (.int ((16 : Int32))), some (.long c), none, none]) (st' := [.int ((0 : Int32))]) rfl ?_
  exact kk
theorem rc_16h {Q : sm_R → sm_H → Prop} (hlo : ¬ c < 0) (hhi : ¬ c ≤ 40) (kk : Ev 170 65 [some (.ref a), some (.int ((16 : Int32))), some (.long c), none, none] [.int ((0 : Int32))] h Q) : Ev 170 0 [some (.ref a), some (.int ((16 : Int32))), some (.long c), none, none] [] h Q := by
  show Ev 170 0 [some (.ref a), some (.int ((16 : Int32))), some (.long c), none, none] [] h _
  refine Er_run 3 (pc' := 4) (ls' := [some (.ref a), some (.int ((16 : Int32))), some (.long c), none, none]) (st' := [.int ((18 : Int32)), .int ((0 : Int32)), .int ((16 : Int32))]) rfl ?_
  refine Er_sta1 (av := [.int ((16 : Int32)), .int ((0 : Int32)), .int ((18 : Int32))]) (rest := []) rfl rfl ⟨Nat.le_of_ble_eq_true rfl, Nat.le_of_ble_eq_true rfl⟩ rfl rfl (s_Ref_in1 (by decide)) ?_
  refine Er_run 1 (pc' := bif decide (((1 : Int32)) = 0) then 64 else 10) (ls' := [some (.ref a), some (.int ((16 : Int32))), some (.long c), none, none]) (st' := []) rfl ?_
  refine Er_pc (t := 10) (show (bif decide (((1 : Int32)) = 0) then 64 else 10) = 10 from by rw [show (decide (((1 : Int32)) = 0)) = false from by decide]; rfl) ?_
  refine Er_run 3 (pc' := bif decide (((16 : Int32)) = ((4 : Int32))) then 20 else 15) (ls' := [some (.ref a), some (.int ((16 : Int32))), some (.long c), none, none]) (st' := []) rfl ?_
  refine Er_pc (t := 15) (show (bif decide (((16 : Int32)) = ((4 : Int32))) then 20 else 15) = 15 from by rw [show (decide (((16 : Int32)) = ((4 : Int32)))) = false from by decide]; rfl) ?_
  refine Er_run 3 (pc' := bif !decide (((16 : Int32)) = ((5 : Int32))) then 34 else 20) (ls' := [some (.ref a), some (.int ((16 : Int32))), some (.long c), none, none]) (st' := []) rfl ?_
  refine Er_pc (t := 34) (show (bif !decide (((16 : Int32)) = ((5 : Int32))) then 34 else 20) = 34 from by rw [show (!decide (((16 : Int32)) = ((5 : Int32)))) = true from by decide]; rfl) ?_
  refine Er_run 3 (pc' := bif decide (((16 : Int32)) = ((15 : Int32))) then 46 else 40) (ls' := [some (.ref a), some (.int ((16 : Int32))), some (.long c), none, none]) (st' := []) rfl ?_
  refine Er_pc (t := 40) (show (bif decide (((16 : Int32)) = ((15 : Int32))) then 46 else 40) = 40 from by rw [show (decide (((16 : Int32)) = ((15 : Int32)))) = false from by decide]; rfl) ?_
  refine Er_run 3 (pc' := bif !decide (((16 : Int32)) = ((16 : Int32))) then 60 else 46) (ls' := [some (.ref a), some (.int ((16 : Int32))), some (.long c), none, none]) (st' := []) rfl ?_
  refine Er_pc (t := 46) (show (bif !decide (((16 : Int32)) = ((16 : Int32))) then 60 else 46) = 46 from by rw [show (!decide (((16 : Int32)) = ((16 : Int32)))) = false from by decide]; rfl) ?_
  refine Er_run 4 (pc' := bif decide ((lg_cmp c ((0 : Int64))) < 0) then 64 else 52) (ls' := [some (.ref a), some (.int ((16 : Int32))), some (.long c), none, none]) (st' := []) rfl ?_
  refine Er_pc (t := 52) (show (bif decide ((lg_cmp c ((0 : Int64))) < 0) then 64 else 52) = 52 from by rw [show (decide ((lg_cmp c ((0 : Int64))) < 0)) = false from by rw [jx_cmplt]; exact decide_eq_false hlo]; rfl) ?_
  refine Er_run 4 (pc' := bif decide (0 < (lg_cmp c ((40 : Int64)))) then 64 else 60) (ls' := [some (.ref a), some (.int ((16 : Int32))), some (.long c), none, none]) (st' := []) rfl ?_
  refine Er_pc (t := 64) (show (bif decide (0 < (lg_cmp c ((40 : Int64)))) then 64 else 60) = 64 from by rw [show (decide (0 < (lg_cmp c ((40 : Int64))))) = true from by rw [jx_cmpP]; rw [decide_eq_false hhi]; rfl]; rfl) ?_
  refine Er_run 1 (pc' := 65) (ls' := [some (.ref a), some (.int ((16 : Int32))), some (.long c), none, none]) (st' := [.int ((0 : Int32))]) rfl ?_
  exact kk
theorem rs_1 (m0 : mrO h a) (th0 : gI h a 18 = gI h a 18) : Ev 170 65 [some (.ref a), some (.int x), some (.long c), none, none] [.int ((0 : Int32))] h (fun r1 h1 => r1 = .inl (some (.int ((0 : Int32)))) ∧ h1 = (setI h a 18 1)) := by
  refine Er_run 4 (pc' := bif !decide (((0 : Int32)) = 0) then 77 else 73) (ls' := [some (.ref a), some (.int x), some (.long c), none, some (.int ((0 : Int32)))]) (st' := [.ref a]) rfl ?_
  refine Er_pc (t := 73) (show (bif !decide (((0 : Int32)) = 0) then 77 else 73) = 73 from by rw [show (!decide (((0 : Int32)) = 0)) = false from by decide]; rfl) ?_
  refine Er_run 2 (pc' := 98) (ls' := [some (.ref a), some (.int x), some (.long c), none, some (.int ((0 : Int32)))]) (st' := [.int ((1 : Int32)), .ref a]) rfl ?_
  refine Er_putI rfl m0.1 ?_
  have m1 : mrO (setI h a 18 ((1 : Int32))) a := mrO_setI m0
  have th1 : gI (setI h a 18 ((1 : Int32))) a 18 = (1 : Int32) := gI_eq
  generalize (setI h a 18 ((1 : Int32))) = h1 at m1 th1 ⊢
  refine Er_run 1 (pc' := 102) (ls' := [some (.ref a), some (.int x), some (.long c), none, some (.int ((0 : Int32)))]) (st' := [.ref a]) rfl ?_
  refine Er_getI (v := (1 : Int32)) rfl m1.1 th1 ?_
  refine Er_run 1 (pc' := bif decide (((1 : Int32)) ≤ 0) then 110 else 108) (ls' := [some (.ref a), some (.int x), some (.long c), none, some (.int ((0 : Int32)))]) (st' := []) rfl ?_
  refine Er_pc (t := 108) (show (bif decide (((1 : Int32)) ≤ 0) then 110 else 108) = 108 from by rw [show (decide (((1 : Int32)) ≤ 0)) = false from by decide]; rfl) ?_
  refine Er_run 1 (pc' := 109) (ls' := [some (.ref a), some (.int x), some (.long c), none, some (.int ((0 : Int32)))]) (st' := [.int ((0 : Int32))]) rfl ?_
  exact Er_fin rfl rfl ⟨rfl, rfl⟩
theorem rs_2f (m0 : mrO h a) (th0 : gI h a 18 = gI h a 18) (nw0 : gI h a 15 = Int32.ofNat n) (hn : n = 40) : Ev 170 65 [some (.ref a), some (.int x), some (.long c), none, none] [.int ((1 : Int32))] h (fun r1 h1 => r1 = .inl (some (.int ((0 : Int32)))) ∧ h1 = (setI h a 18 2)) := by
  refine Er_run 4 (pc' := bif !decide (((1 : Int32)) = 0) then 77 else 73) (ls' := [some (.ref a), some (.int x), some (.long c), none, some (.int ((1 : Int32)))]) (st' := [.ref a]) rfl ?_
  refine Er_pc (t := 77) (show (bif !decide (((1 : Int32)) = 0) then 77 else 73) = 77 from by rw [show (!decide (((1 : Int32)) = 0)) = true from by decide]; rfl) ?_
  refine Er_run 1 (pc' := 78) (ls' := [some (.ref a), some (.int x), some (.long c), none, some (.int ((1 : Int32)))]) (st' := [.ref a, .ref a]) rfl ?_
  refine Er_getI (v := Int32.ofNat n) rfl m0.1 nw0 ?_
  refine Er_run 2 (pc' := bif decide ((Int32.ofNat n) = ((40 : Int32))) then 93 else 86) (ls' := [some (.ref a), some (.int x), some (.long c), none, some (.int ((1 : Int32)))]) (st' := [.ref a]) rfl ?_
  refine Er_pc (t := 93) (show (bif decide ((Int32.ofNat n) = ((40 : Int32))) then 93 else 86) = 93 from by rw [show (decide ((Int32.ofNat n) = ((40 : Int32)))) = true from by rw [show (40 : Int32) = Int32.ofNat 40 from rfl, jx_eq (by omega) (by omega)]; exact decide_eq_true (by omega)]; rfl) ?_
  refine Er_run 2 (pc' := 98) (ls' := [some (.ref a), some (.int x), some (.long c), none, some (.int ((1 : Int32)))]) (st' := [.int ((2 : Int32)), .ref a]) rfl ?_
  refine Er_putI rfl m0.1 ?_
  have m1 : mrO (setI h a 18 ((2 : Int32))) a := mrO_setI m0
  have th1 : gI (setI h a 18 ((2 : Int32))) a 18 = (2 : Int32) := gI_eq
  have nw1 : gI (setI h a 18 ((2 : Int32))) a 15 = Int32.ofNat n := by rw [gI_ne (by omega)]; exact nw0
  generalize (setI h a 18 ((2 : Int32))) = h1 at m1 th1 nw1 ⊢
  refine Er_run 1 (pc' := 102) (ls' := [some (.ref a), some (.int x), some (.long c), none, some (.int ((1 : Int32)))]) (st' := [.ref a]) rfl ?_
  refine Er_getI (v := (2 : Int32)) rfl m1.1 th1 ?_
  refine Er_run 1 (pc' := bif decide (((2 : Int32)) ≤ 0) then 110 else 108) (ls' := [some (.ref a), some (.int x), some (.long c), none, some (.int ((1 : Int32)))]) (st' := []) rfl ?_
  refine Er_pc (t := 108) (show (bif decide (((2 : Int32)) ≤ 0) then 110 else 108) = 108 from by rw [show (decide (((2 : Int32)) ≤ 0)) = false from by decide]; rfl) ?_
  refine Er_run 1 (pc' := 109) (ls' := [some (.ref a), some (.int x), some (.long c), none, some (.int ((1 : Int32)))]) (st' := [.int ((0 : Int32))]) rfl ?_
  exact Er_fin rfl rfl ⟨rfl, rfl⟩
theorem rs_2o (m0 : mrO h a) (th0 : gI h a 18 = gI h a 18) (nw0 : gI h a 15 = Int32.ofNat n) (hn : n < 40) (on0 : gI h a 19 = 1) : Ev 170 65 [some (.ref a), some (.int x), some (.long c), none, none] [.int ((1 : Int32))] h (fun r1 h1 => r1 = .inl (some (.int ((0 : Int32)))) ∧ h1 = (setI h a 18 2)) := by
  refine Er_run 4 (pc' := bif !decide (((1 : Int32)) = 0) then 77 else 73) (ls' := [some (.ref a), some (.int x), some (.long c), none, some (.int ((1 : Int32)))]) (st' := [.ref a]) rfl ?_
  refine Er_pc (t := 77) (show (bif !decide (((1 : Int32)) = 0) then 77 else 73) = 77 from by rw [show (!decide (((1 : Int32)) = 0)) = true from by decide]; rfl) ?_
  refine Er_run 1 (pc' := 78) (ls' := [some (.ref a), some (.int x), some (.long c), none, some (.int ((1 : Int32)))]) (st' := [.ref a, .ref a]) rfl ?_
  refine Er_getI (v := Int32.ofNat n) rfl m0.1 nw0 ?_
  refine Er_run 2 (pc' := bif decide ((Int32.ofNat n) = ((40 : Int32))) then 93 else 86) (ls' := [some (.ref a), some (.int x), some (.long c), none, some (.int ((1 : Int32)))]) (st' := [.ref a]) rfl ?_
  refine Er_pc (t := 86) (show (bif decide ((Int32.ofNat n) = ((40 : Int32))) then 93 else 86) = 86 from by rw [show (decide ((Int32.ofNat n) = ((40 : Int32)))) = false from by rw [show (40 : Int32) = Int32.ofNat 40 from rfl, jx_eq (by omega) (by omega)]; exact decide_eq_false (by omega)]; rfl) ?_
  refine Er_run 1 (pc' := 87) (ls' := [some (.ref a), some (.int x), some (.long c), none, some (.int ((1 : Int32)))]) (st' := [.ref a, .ref a]) rfl ?_
  refine Er_getI (v := (1 : Int32)) rfl m0.1 on0 ?_
  refine Er_run 1 (pc' := bif decide (((1 : Int32)) = 0) then 97 else 93) (ls' := [some (.ref a), some (.int x), some (.long c), none, some (.int ((1 : Int32)))]) (st' := [.ref a]) rfl ?_
  refine Er_pc (t := 93) (show (bif decide (((1 : Int32)) = 0) then 97 else 93) = 93 from by rw [show (decide (((1 : Int32)) = 0)) = false from by decide]; rfl) ?_
  refine Er_run 2 (pc' := 98) (ls' := [some (.ref a), some (.int x), some (.long c), none, some (.int ((1 : Int32)))]) (st' := [.int ((2 : Int32)), .ref a]) rfl ?_
  refine Er_putI rfl m0.1 ?_
  have m1 : mrO (setI h a 18 ((2 : Int32))) a := mrO_setI m0
  have th1 : gI (setI h a 18 ((2 : Int32))) a 18 = (2 : Int32) := gI_eq
  have nw1 : gI (setI h a 18 ((2 : Int32))) a 15 = Int32.ofNat n := by rw [gI_ne (by omega)]; exact nw0
  have on1 : gI (setI h a 18 ((2 : Int32))) a 19 = (1 : Int32) := by rw [gI_ne (by omega)]; exact on0
  generalize (setI h a 18 ((2 : Int32))) = h1 at m1 th1 nw1 on1 ⊢
  refine Er_run 1 (pc' := 102) (ls' := [some (.ref a), some (.int x), some (.long c), none, some (.int ((1 : Int32)))]) (st' := [.ref a]) rfl ?_
  refine Er_getI (v := (2 : Int32)) rfl m1.1 th1 ?_
  refine Er_run 1 (pc' := bif decide (((2 : Int32)) ≤ 0) then 110 else 108) (ls' := [some (.ref a), some (.int x), some (.long c), none, some (.int ((1 : Int32)))]) (st' := []) rfl ?_
  refine Er_pc (t := 108) (show (bif decide (((2 : Int32)) ≤ 0) then 110 else 108) = 108 from by rw [show (decide (((2 : Int32)) ≤ 0)) = false from by decide]; rfl) ?_
  refine Er_run 1 (pc' := 109) (ls' := [some (.ref a), some (.int x), some (.long c), none, some (.int ((1 : Int32)))]) (st' := [.int ((0 : Int32))]) rfl ?_
  exact Er_fin rfl rfl ⟨rfl, rfl⟩
theorem rs_0 (m0 : mrO h a) (th0 : gI h a 18 = gI h a 18) (nw0 : gI h a 15 = Int32.ofNat n) (hn : n < 40) (on0 : gI h a 19 = 0) : Ev 170 65 [some (.ref a), some (.int x), some (.long c), none, none] [.int ((1 : Int32))] h (fun r1 h1 => r1 = .inl (some (.int (Int32.ofNat n + (1 : Int32)))) ∧ h1 = (setI (setL (setI (setI h a 18 0) (a + 6) n x) (a + 8) n c) a 15 (Int32.ofNat n + 1))) := by
  refine Er_run 4 (pc' := bif !decide (((1 : Int32)) = 0) then 77 else 73) (ls' := [some (.ref a), some (.int x), some (.long c), none, some (.int ((1 : Int32)))]) (st' := [.ref a]) rfl ?_
  refine Er_pc (t := 77) (show (bif !decide (((1 : Int32)) = 0) then 77 else 73) = 77 from by rw [show (!decide (((1 : Int32)) = 0)) = true from by decide]; rfl) ?_
  refine Er_run 1 (pc' := 78) (ls' := [some (.ref a), some (.int x), some (.long c), none, some (.int ((1 : Int32)))]) (st' := [.ref a, .ref a]) rfl ?_
  refine Er_getI (v := Int32.ofNat n) rfl m0.1 nw0 ?_
  refine Er_run 2 (pc' := bif decide ((Int32.ofNat n) = ((40 : Int32))) then 93 else 86) (ls' := [some (.ref a), some (.int x), some (.long c), none, some (.int ((1 : Int32)))]) (st' := [.ref a]) rfl ?_
  refine Er_pc (t := 86) (show (bif decide ((Int32.ofNat n) = ((40 : Int32))) then 93 else 86) = 86 from by rw [show (decide ((Int32.ofNat n) = ((40 : Int32)))) = false from by rw [show (40 : Int32) = Int32.ofNat 40 from rfl, jx_eq (by omega) (by omega)]; exact decide_eq_false (by omega)]; rfl) ?_
  refine Er_run 1 (pc' := 87) (ls' := [some (.ref a), some (.int x), some (.long c), none, some (.int ((1 : Int32)))]) (st' := [.ref a, .ref a]) rfl ?_
  refine Er_getI (v := (0 : Int32)) rfl m0.1 on0 ?_
  refine Er_run 1 (pc' := bif decide (((0 : Int32)) = 0) then 97 else 93) (ls' := [some (.ref a), some (.int x), some (.long c), none, some (.int ((1 : Int32)))]) (st' := [.ref a]) rfl ?_
  refine Er_pc (t := 97) (show (bif decide (((0 : Int32)) = 0) then 97 else 93) = 97 from by rw [show (decide (((0 : Int32)) = 0)) = true from by decide]; rfl) ?_
  refine Er_run 1 (pc' := 98) (ls' := [some (.ref a), some (.int x), some (.long c), none, some (.int ((1 : Int32)))]) (st' := [.int ((0 : Int32)), .ref a]) rfl ?_
  refine Er_putI rfl m0.1 ?_
  have m1 : mrO (setI h a 18 ((0 : Int32))) a := mrO_setI m0
  have th1 : gI (setI h a 18 ((0 : Int32))) a 18 = (0 : Int32) := gI_eq
  have nw1 : gI (setI h a 18 ((0 : Int32))) a 15 = Int32.ofNat n := by rw [gI_ne (by omega)]; exact nw0
  have on1 : gI (setI h a 18 ((0 : Int32))) a 19 = (0 : Int32) := by rw [gI_ne (by omega)]; exact on0
  generalize (setI h a 18 ((0 : Int32))) = h1 at m1 th1 nw1 on1 ⊢
  refine Er_run 1 (pc' := 102) (ls' := [some (.ref a), some (.int x), some (.long c), none, some (.int ((1 : Int32)))]) (st' := [.ref a]) rfl ?_
  refine Er_getI (v := (0 : Int32)) rfl m1.1 th1 ?_
  refine Er_run 1 (pc' := bif decide (((0 : Int32)) ≤ 0) then 110 else 108) (ls' := [some (.ref a), some (.int x), some (.long c), none, some (.int ((1 : Int32)))]) (st' := []) rfl ?_
  refine Er_pc (t := 110) (show (bif decide (((0 : Int32)) ≤ 0) then 110 else 108) = 110 from by rw [show (decide (((0 : Int32)) ≤ 0)) = true from by decide]; rfl) ?_
  refine Er_run 1 (pc' := 111) (ls' := [some (.ref a), some (.int x), some (.long c), none, some (.int ((1 : Int32)))]) (st' := [.ref a]) rfl ?_
  refine Er_getR (x := a + 6) rfl m1.1 (m1.2 (5, 6, 0, 40) (by decide)).1 ?_
  refine Er_run 1 (pc' := 115) (ls' := [some (.ref a), some (.int x), some (.long c), none, some (.int ((1 : Int32)))]) (st' := [.ref a, .ref (a + 6)]) rfl ?_
  refine Er_getI (v := Int32.ofNat n) rfl m1.1 nw1 ?_
  refine Er_run 1 (pc' := 119) (ls' := [some (.ref a), some (.int x), some (.long c), none, some (.int ((1 : Int32)))]) (st' := [.int x, .int (Int32.ofNat n), .ref (a + 6)]) rfl ?_
  refine Er_iast rfl (m1.2 (5, 6, 0, 40) (by decide)).2.1 (mr_in (i := n) (k := 40) rfl (by omega) (by decide) (m1.2 (5, 6, 0, 40) (by decide)).2.2) ?_
  rw [mr_cn (x := Int32.ofNat n) (i := n) rfl (by omega)]
  have m2 : mrO (setI h1 (a + 6) n x) a := mrO_setI m1
  have th2 : gI (setI h1 (a + 6) n x) a 18 = (0 : Int32) := by rw [show gI (setI h1 (a + 6) n x) a = gI h1 a from mr_ncI (by omega)]; exact th1
  have nw2 : gI (setI h1 (a + 6) n x) a 15 = Int32.ofNat n := by rw [show gI (setI h1 (a + 6) n x) a = gI h1 a from mr_ncI (by omega)]; exact nw1
  have on2 : gI (setI h1 (a + 6) n x) a 19 = (0 : Int32) := by rw [show gI (setI h1 (a + 6) n x) a = gI h1 a from mr_ncI (by omega)]; exact on1
  generalize (setI h1 (a + 6) n x) = h2 at m2 th2 nw2 on2 ⊢
  refine Er_run 1 (pc' := 121) (ls' := [some (.ref a), some (.int x), some (.long c), none, some (.int ((1 : Int32)))]) (st' := [.ref a]) rfl ?_
  refine Er_getR (x := a + 8) rfl m2.1 (m2.2 (7, 8, 1, 40) (by decide)).1 ?_
  refine Er_run 1 (pc' := 125) (ls' := [some (.ref a), some (.int x), some (.long c), none, some (.int ((1 : Int32)))]) (st' := [.ref a, .ref (a + 8)]) rfl ?_
  refine Er_getI (v := Int32.ofNat n) rfl m2.1 nw2 ?_
  refine Er_run 1 (pc' := 129) (ls' := [some (.ref a), some (.int x), some (.long c), none, some (.int ((1 : Int32)))]) (st' := [.long c, .int (Int32.ofNat n), .ref (a + 8)]) rfl ?_
  refine Er_last rfl (m2.2 (7, 8, 1, 40) (by decide)).2.1 (mr_in (i := n) (k := 40) rfl (by omega) (by decide) (m2.2 (7, 8, 1, 40) (by decide)).2.2) ?_
  rw [mr_cn (x := Int32.ofNat n) (i := n) rfl (by omega)]
  have m3 : mrO (setL h2 (a + 8) n c) a := mrO_setL m2
  have th3 : gI (setL h2 (a + 8) n c) a 18 = (0 : Int32) := th2
  have nw3 : gI (setL h2 (a + 8) n c) a 15 = Int32.ofNat n := nw2
  have on3 : gI (setL h2 (a + 8) n c) a 19 = (0 : Int32) := on2
  generalize (setL h2 (a + 8) n c) = h3 at m3 th3 nw3 on3 ⊢
  refine Er_run 2 (pc' := 132) (ls' := [some (.ref a), some (.int x), some (.long c), none, some (.int ((1 : Int32)))]) (st' := [.ref a, .ref a]) rfl ?_
  refine Er_getI (v := Int32.ofNat n) rfl m3.1 nw3 ?_
  refine Er_run 2 (pc' := 137) (ls' := [some (.ref a), some (.int x), some (.long c), none, some (.int ((1 : Int32)))]) (st' := [.int ((Int32.ofNat n) + ((1 : Int32))), .ref a]) rfl ?_
  refine Er_putI rfl m3.1 ?_
  have m4 : mrO (setI h3 a 15 ((Int32.ofNat n) + ((1 : Int32)))) a := mrO_setI m3
  have th4 : gI (setI h3 a 15 ((Int32.ofNat n) + ((1 : Int32)))) a 18 = (0 : Int32) := by rw [gI_ne (by omega)]; exact th3
  have nw4 : gI (setI h3 a 15 ((Int32.ofNat n) + ((1 : Int32)))) a 15 = (Int32.ofNat n) + ((1 : Int32)) := gI_eq
  have on4 : gI (setI h3 a 15 ((Int32.ofNat n) + ((1 : Int32)))) a 19 = (0 : Int32) := by rw [gI_ne (by omega)]; exact on3
  generalize (setI h3 a 15 ((Int32.ofNat n) + ((1 : Int32)))) = h4 at m4 th4 nw4 on4 ⊢
  refine Er_run 1 (pc' := 141) (ls' := [some (.ref a), some (.int x), some (.long c), none, some (.int ((1 : Int32)))]) (st' := [.ref a]) rfl ?_
  refine Er_getI (v := (Int32.ofNat n) + ((1 : Int32))) rfl m4.1 nw4 ?_
  exact Er_fin rfl rfl ⟨rfl, rfl⟩
theorem s_Ref_job1 {p q r s : Int32} (m0 : mrO h a) (th0 : gI h a 18 = gI h a 18) (h1 : jm_in x 0 7 = false) : Run 172 [.ref a, .int x, .int p, .int q, .int r, .int s] h (.inl none) (setI h a 18 1) := by
  refine ⟨Nat.le_of_ble_eq_true rfl, ?_⟩
  show Ev 172 0 [some (.ref a), some (.int x), some (.int p), some (.int q), some (.int r), some (.int s)] [] h _
  refine Er_run 4 (pc' := 5) (ls' := [some (.ref a), some (.int x), some (.int p), some (.int q), some (.int r), some (.int s)]) (st' := [.int ((7 : Int32)), .int ((0 : Int32)), .int x, .ref a]) rfl ?_
  refine Er_sta1 (av := [.int x, .int ((0 : Int32)), .int ((7 : Int32))]) (rest := [.ref a]) rfl rfl ⟨Nat.le_of_ble_eq_true rfl, Nat.le_of_ble_eq_true rfl⟩ rfl rfl (s_Ref_in0 h1) ?_
  refine Er_run 1 (pc' := bif !decide (((0 : Int32)) = 0) then 15 else 11) (ls' := [some (.ref a), some (.int x), some (.int p), some (.int q), some (.int r), some (.int s)]) (st' := [.ref a]) rfl ?_
  refine Er_pc (t := 11) (show (bif !decide (((0 : Int32)) = 0) then 15 else 11) = 11 from by rw [show (!decide (((0 : Int32)) = 0)) = false from by decide]; rfl) ?_
  refine Er_run 2 (pc' := 97) (ls' := [some (.ref a), some (.int x), some (.int p), some (.int q), some (.int r), some (.int s)]) (st' := [.int ((1 : Int32)), .ref a]) rfl ?_
  refine Er_putI rfl m0.1 ?_
  have m1 : mrO (setI h a 18 ((1 : Int32))) a := mrO_setI m0
  have th1 : gI (setI h a 18 ((1 : Int32))) a 18 = (1 : Int32) := gI_eq
  generalize (setI h a 18 ((1 : Int32))) = h1 at m1 th1 ⊢
  refine Er_run 1 (pc' := 101) (ls' := [some (.ref a), some (.int x), some (.int p), some (.int q), some (.int r), some (.int s)]) (st' := [.ref a]) rfl ?_
  refine Er_getI (v := (1 : Int32)) rfl m1.1 th1 ?_
  refine Er_run 1 (pc' := bif decide (((1 : Int32)) ≤ 0) then 108 else 107) (ls' := [some (.ref a), some (.int x), some (.int p), some (.int q), some (.int r), some (.int s)]) (st' := []) rfl ?_
  refine Er_pc (t := 107) (show (bif decide (((1 : Int32)) ≤ 0) then 108 else 107) = 107 from by rw [show (decide (((1 : Int32)) ≤ 0)) = false from by decide]; rfl) ?_
  exact Er_fin rfl rfl ⟨rfl, rfl⟩
theorem s_Ref_job2a {p q r s : Int32} (m0 : mrO h a) (th0 : gI h a 18 = gI h a 18) (h1 : jm_in x 0 7 = true) (h2 : jm_in p 0 15 = false) : Run 172 [.ref a, .int x, .int p, .int q, .int r, .int s] h (.inl none) (setI h a 18 2) := by
  refine ⟨Nat.le_of_ble_eq_true rfl, ?_⟩
  show Ev 172 0 [some (.ref a), some (.int x), some (.int p), some (.int q), some (.int r), some (.int s)] [] h _
  refine Er_run 4 (pc' := 5) (ls' := [some (.ref a), some (.int x), some (.int p), some (.int q), some (.int r), some (.int s)]) (st' := [.int ((7 : Int32)), .int ((0 : Int32)), .int x, .ref a]) rfl ?_
  refine Er_sta1 (av := [.int x, .int ((0 : Int32)), .int ((7 : Int32))]) (rest := [.ref a]) rfl rfl ⟨Nat.le_of_ble_eq_true rfl, Nat.le_of_ble_eq_true rfl⟩ rfl rfl (s_Ref_in1 h1) ?_
  refine Er_run 1 (pc' := bif !decide (((1 : Int32)) = 0) then 15 else 11) (ls' := [some (.ref a), some (.int x), some (.int p), some (.int q), some (.int r), some (.int s)]) (st' := [.ref a]) rfl ?_
  refine Er_pc (t := 15) (show (bif !decide (((1 : Int32)) = 0) then 15 else 11) = 15 from by rw [show (!decide (((1 : Int32)) = 0)) = true from by decide]; rfl) ?_
  refine Er_run 3 (pc' := 19) (ls' := [some (.ref a), some (.int x), some (.int p), some (.int q), some (.int r), some (.int s)]) (st' := [.int ((15 : Int32)), .int ((0 : Int32)), .int p, .ref a]) rfl ?_
  refine Er_sta1 (av := [.int p, .int ((0 : Int32)), .int ((15 : Int32))]) (rest := [.ref a]) rfl rfl ⟨Nat.le_of_ble_eq_true rfl, Nat.le_of_ble_eq_true rfl⟩ rfl rfl (s_Ref_in0 h2) ?_
  refine Er_run 1 (pc' := bif decide (((0 : Int32)) = 0) then 57 else 25) (ls' := [some (.ref a), some (.int x), some (.int p), some (.int q), some (.int r), some (.int s)]) (st' := [.ref a]) rfl ?_
  refine Er_pc (t := 57) (show (bif decide (((0 : Int32)) = 0) then 57 else 25) = 57 from by rw [show (decide (((0 : Int32)) = 0)) = true from by decide]; rfl) ?_
  refine Er_run 2 (pc' := 97) (ls' := [some (.ref a), some (.int x), some (.int p), some (.int q), some (.int r), some (.int s)]) (st' := [.int ((2 : Int32)), .ref a]) rfl ?_
  refine Er_putI rfl m0.1 ?_
  have m1 : mrO (setI h a 18 ((2 : Int32))) a := mrO_setI m0
  have th1 : gI (setI h a 18 ((2 : Int32))) a 18 = (2 : Int32) := gI_eq
  generalize (setI h a 18 ((2 : Int32))) = h1 at m1 th1 ⊢
  refine Er_run 1 (pc' := 101) (ls' := [some (.ref a), some (.int x), some (.int p), some (.int q), some (.int r), some (.int s)]) (st' := [.ref a]) rfl ?_
  refine Er_getI (v := (2 : Int32)) rfl m1.1 th1 ?_
  refine Er_run 1 (pc' := bif decide (((2 : Int32)) ≤ 0) then 108 else 107) (ls' := [some (.ref a), some (.int x), some (.int p), some (.int q), some (.int r), some (.int s)]) (st' := []) rfl ?_
  refine Er_pc (t := 107) (show (bif decide (((2 : Int32)) ≤ 0) then 108 else 107) = 107 from by rw [show (decide (((2 : Int32)) ≤ 0)) = false from by decide]; rfl) ?_
  exact Er_fin rfl rfl ⟨rfl, rfl⟩
theorem s_Ref_job2o {p q r s : Int32} (m0 : mrO h a) (th0 : gI h a 18 = gI h a 18) (h1 : jm_in x 0 7 = true) (h2 : jm_in p 0 15 = true) (h3 : jm_in r 0 15 = false) : Run 172 [.ref a, .int x, .int p, .int q, .int r, .int s] h (.inl none) (setI h a 18 2) := by
  refine ⟨Nat.le_of_ble_eq_true rfl, ?_⟩
  show Ev 172 0 [some (.ref a), some (.int x), some (.int p), some (.int q), some (.int r), some (.int s)] [] h _
  refine Er_run 4 (pc' := 5) (ls' := [some (.ref a), some (.int x), some (.int p), some (.int q), some (.int r), some (.int s)]) (st' := [.int ((7 : Int32)), .int ((0 : Int32)), .int x, .ref a]) rfl ?_
  refine Er_sta1 (av := [.int x, .int ((0 : Int32)), .int ((7 : Int32))]) (rest := [.ref a]) rfl rfl ⟨Nat.le_of_ble_eq_true rfl, Nat.le_of_ble_eq_true rfl⟩ rfl rfl (s_Ref_in1 h1) ?_
  refine Er_run 1 (pc' := bif !decide (((1 : Int32)) = 0) then 15 else 11) (ls' := [some (.ref a), some (.int x), some (.int p), some (.int q), some (.int r), some (.int s)]) (st' := [.ref a]) rfl ?_
  refine Er_pc (t := 15) (show (bif !decide (((1 : Int32)) = 0) then 15 else 11) = 15 from by rw [show (!decide (((1 : Int32)) = 0)) = true from by decide]; rfl) ?_
  refine Er_run 3 (pc' := 19) (ls' := [some (.ref a), some (.int x), some (.int p), some (.int q), some (.int r), some (.int s)]) (st' := [.int ((15 : Int32)), .int ((0 : Int32)), .int p, .ref a]) rfl ?_
  refine Er_sta1 (av := [.int p, .int ((0 : Int32)), .int ((15 : Int32))]) (rest := [.ref a]) rfl rfl ⟨Nat.le_of_ble_eq_true rfl, Nat.le_of_ble_eq_true rfl⟩ rfl rfl (s_Ref_in1 h2) ?_
  refine Er_run 1 (pc' := bif decide (((1 : Int32)) = 0) then 57 else 25) (ls' := [some (.ref a), some (.int x), some (.int p), some (.int q), some (.int r), some (.int s)]) (st' := [.ref a]) rfl ?_
  refine Er_pc (t := 25) (show (bif decide (((1 : Int32)) = 0) then 57 else 25) = 25 from by rw [show (decide (((1 : Int32)) = 0)) = false from by decide]; rfl) ?_
  refine Er_run 3 (pc' := 30) (ls' := [some (.ref a), some (.int x), some (.int p), some (.int q), some (.int r), some (.int s)]) (st' := [.int ((15 : Int32)), .int ((0 : Int32)), .int r, .ref a]) rfl ?_
  refine Er_sta1 (av := [.int r, .int ((0 : Int32)), .int ((15 : Int32))]) (rest := [.ref a]) rfl rfl ⟨Nat.le_of_ble_eq_true rfl, Nat.le_of_ble_eq_true rfl⟩ rfl rfl (s_Ref_in0 h3) ?_
  refine Er_run 1 (pc' := bif decide (((0 : Int32)) = 0) then 57 else 36) (ls' := [some (.ref a), some (.int x), some (.int p), some (.int q), some (.int r), some (.int s)]) (st' := [.ref a]) rfl ?_
  refine Er_pc (t := 57) (show (bif decide (((0 : Int32)) = 0) then 57 else 36) = 57 from by rw [show (decide (((0 : Int32)) = 0)) = true from by decide]; rfl) ?_
  refine Er_run 2 (pc' := 97) (ls' := [some (.ref a), some (.int x), some (.int p), some (.int q), some (.int r), some (.int s)]) (st' := [.int ((2 : Int32)), .ref a]) rfl ?_
  refine Er_putI rfl m0.1 ?_
  have m1 : mrO (setI h a 18 ((2 : Int32))) a := mrO_setI m0
  have th1 : gI (setI h a 18 ((2 : Int32))) a 18 = (2 : Int32) := gI_eq
  generalize (setI h a 18 ((2 : Int32))) = h1 at m1 th1 ⊢
  refine Er_run 1 (pc' := 101) (ls' := [some (.ref a), some (.int x), some (.int p), some (.int q), some (.int r), some (.int s)]) (st' := [.ref a]) rfl ?_
  refine Er_getI (v := (2 : Int32)) rfl m1.1 th1 ?_
  refine Er_run 1 (pc' := bif decide (((2 : Int32)) ≤ 0) then 108 else 107) (ls' := [some (.ref a), some (.int x), some (.int p), some (.int q), some (.int r), some (.int s)]) (st' := []) rfl ?_
  refine Er_pc (t := 107) (show (bif decide (((2 : Int32)) ≤ 0) then 108 else 107) = 107 from by rw [show (decide (((2 : Int32)) ≤ 0)) = false from by decide]; rfl) ?_
  exact Er_fin rfl rfl ⟨rfl, rfl⟩
theorem s_Ref_job2b {p q r s : Int32} (m0 : mrO h a) (th0 : gI h a 18 = gI h a 18) (h1 : jm_in x 0 7 = true) (h2 : jm_in p 0 15 = true) (h3 : jm_in r 0 15 = true) (h4 : jm_in q (-1) 15 = false) : Run 172 [.ref a, .int x, .int p, .int q, .int r, .int s] h (.inl none) (setI h a 18 2) := by
  refine ⟨Nat.le_of_ble_eq_true rfl, ?_⟩
  show Ev 172 0 [some (.ref a), some (.int x), some (.int p), some (.int q), some (.int r), some (.int s)] [] h _
  refine Er_run 4 (pc' := 5) (ls' := [some (.ref a), some (.int x), some (.int p), some (.int q), some (.int r), some (.int s)]) (st' := [.int ((7 : Int32)), .int ((0 : Int32)), .int x, .ref a]) rfl ?_
  refine Er_sta1 (av := [.int x, .int ((0 : Int32)), .int ((7 : Int32))]) (rest := [.ref a]) rfl rfl ⟨Nat.le_of_ble_eq_true rfl, Nat.le_of_ble_eq_true rfl⟩ rfl rfl (s_Ref_in1 h1) ?_
  refine Er_run 1 (pc' := bif !decide (((1 : Int32)) = 0) then 15 else 11) (ls' := [some (.ref a), some (.int x), some (.int p), some (.int q), some (.int r), some (.int s)]) (st' := [.ref a]) rfl ?_
  refine Er_pc (t := 15) (show (bif !decide (((1 : Int32)) = 0) then 15 else 11) = 15 from by rw [show (!decide (((1 : Int32)) = 0)) = true from by decide]; rfl) ?_
  refine Er_run 3 (pc' := 19) (ls' := [some (.ref a), some (.int x), some (.int p), some (.int q), some (.int r), some (.int s)]) (st' := [.int ((15 : Int32)), .int ((0 : Int32)), .int p, .ref a]) rfl ?_
  refine Er_sta1 (av := [.int p, .int ((0 : Int32)), .int ((15 : Int32))]) (rest := [.ref a]) rfl rfl ⟨Nat.le_of_ble_eq_true rfl, Nat.le_of_ble_eq_true rfl⟩ rfl rfl (s_Ref_in1 h2) ?_
  refine Er_run 1 (pc' := bif decide (((1 : Int32)) = 0) then 57 else 25) (ls' := [some (.ref a), some (.int x), some (.int p), some (.int q), some (.int r), some (.int s)]) (st' := [.ref a]) rfl ?_
  refine Er_pc (t := 25) (show (bif decide (((1 : Int32)) = 0) then 57 else 25) = 25 from by rw [show (decide (((1 : Int32)) = 0)) = false from by decide]; rfl) ?_
  refine Er_run 3 (pc' := 30) (ls' := [some (.ref a), some (.int x), some (.int p), some (.int q), some (.int r), some (.int s)]) (st' := [.int ((15 : Int32)), .int ((0 : Int32)), .int r, .ref a]) rfl ?_
  refine Er_sta1 (av := [.int r, .int ((0 : Int32)), .int ((15 : Int32))]) (rest := [.ref a]) rfl rfl ⟨Nat.le_of_ble_eq_true rfl, Nat.le_of_ble_eq_true rfl⟩ rfl rfl (s_Ref_in1 h3) ?_
  refine Er_run 1 (pc' := bif decide (((1 : Int32)) = 0) then 57 else 36) (ls' := [some (.ref a), some (.int x), some (.int p), some (.int q), some (.int r), some (.int s)]) (st' := [.ref a]) rfl ?_
  refine Er_pc (t := 36) (show (bif decide (((1 : Int32)) = 0) then 57 else 36) = 36 from by rw [show (decide (((1 : Int32)) = 0)) = false from by decide]; rfl) ?_
  refine Er_run 3 (pc' := 40) (ls' := [some (.ref a), some (.int x), some (.int p), some (.int q), some (.int r), some (.int s)]) (st' := [.int ((15 : Int32)), .int ((-1 : Int32)), .int q, .ref a]) rfl ?_
  refine Er_sta1 (av := [.int q, .int ((-1 : Int32)), .int ((15 : Int32))]) (rest := [.ref a]) rfl rfl ⟨Nat.le_of_ble_eq_true rfl, Nat.le_of_ble_eq_true rfl⟩ rfl rfl (s_Ref_in0 h4) ?_
  refine Er_run 1 (pc' := bif decide (((0 : Int32)) = 0) then 57 else 46) (ls' := [some (.ref a), some (.int x), some (.int p), some (.int q), some (.int r), some (.int s)]) (st' := [.ref a]) rfl ?_
  refine Er_pc (t := 57) (show (bif decide (((0 : Int32)) = 0) then 57 else 46) = 57 from by rw [show (decide (((0 : Int32)) = 0)) = true from by decide]; rfl) ?_
  refine Er_run 2 (pc' := 97) (ls' := [some (.ref a), some (.int x), some (.int p), some (.int q), some (.int r), some (.int s)]) (st' := [.int ((2 : Int32)), .ref a]) rfl ?_
  refine Er_putI rfl m0.1 ?_
  have m1 : mrO (setI h a 18 ((2 : Int32))) a := mrO_setI m0
  have th1 : gI (setI h a 18 ((2 : Int32))) a 18 = (2 : Int32) := gI_eq
  generalize (setI h a 18 ((2 : Int32))) = h1 at m1 th1 ⊢
  refine Er_run 1 (pc' := 101) (ls' := [some (.ref a), some (.int x), some (.int p), some (.int q), some (.int r), some (.int s)]) (st' := [.ref a]) rfl ?_
  refine Er_getI (v := (2 : Int32)) rfl m1.1 th1 ?_
  refine Er_run 1 (pc' := bif decide (((2 : Int32)) ≤ 0) then 108 else 107) (ls' := [some (.ref a), some (.int x), some (.int p), some (.int q), some (.int r), some (.int s)]) (st' := []) rfl ?_
  refine Er_pc (t := 107) (show (bif decide (((2 : Int32)) ≤ 0) then 108 else 107) = 107 from by rw [show (decide (((2 : Int32)) ≤ 0)) = false from by decide]; rfl) ?_
  exact Er_fin rfl rfl ⟨rfl, rfl⟩
theorem s_Ref_job2p {p q r s : Int32} (m0 : mrO h a) (th0 : gI h a 18 = gI h a 18) (h1 : jm_in x 0 7 = true) (h2 : jm_in p 0 15 = true) (h3 : jm_in r 0 15 = true) (h4 : jm_in q (-1) 15 = true) (h5 : jm_in s 1 6 = false) : Run 172 [.ref a, .int x, .int p, .int q, .int r, .int s] h (.inl none) (setI h a 18 2) := by
  refine ⟨Nat.le_of_ble_eq_true rfl, ?_⟩
  show Ev 172 0 [some (.ref a), some (.int x), some (.int p), some (.int q), some (.int r), some (.int s)] [] h _
  refine Er_run 4 (pc' := 5) (ls' := [some (.ref a), some (.int x), some (.int p), some (.int q), some (.int r), some (.int s)]) (st' := [.int ((7 : Int32)), .int ((0 : Int32)), .int x, .ref a]) rfl ?_
  refine Er_sta1 (av := [.int x, .int ((0 : Int32)), .int ((7 : Int32))]) (rest := [.ref a]) rfl rfl ⟨Nat.le_of_ble_eq_true rfl, Nat.le_of_ble_eq_true rfl⟩ rfl rfl (s_Ref_in1 h1) ?_
  refine Er_run 1 (pc' := bif !decide (((1 : Int32)) = 0) then 15 else 11) (ls' := [some (.ref a), some (.int x), some (.int p), some (.int q), some (.int r), some (.int s)]) (st' := [.ref a]) rfl ?_
  refine Er_pc (t := 15) (show (bif !decide (((1 : Int32)) = 0) then 15 else 11) = 15 from by rw [show (!decide (((1 : Int32)) = 0)) = true from by decide]; rfl) ?_
  refine Er_run 3 (pc' := 19) (ls' := [some (.ref a), some (.int x), some (.int p), some (.int q), some (.int r), some (.int s)]) (st' := [.int ((15 : Int32)), .int ((0 : Int32)), .int p, .ref a]) rfl ?_
  refine Er_sta1 (av := [.int p, .int ((0 : Int32)), .int ((15 : Int32))]) (rest := [.ref a]) rfl rfl ⟨Nat.le_of_ble_eq_true rfl, Nat.le_of_ble_eq_true rfl⟩ rfl rfl (s_Ref_in1 h2) ?_
  refine Er_run 1 (pc' := bif decide (((1 : Int32)) = 0) then 57 else 25) (ls' := [some (.ref a), some (.int x), some (.int p), some (.int q), some (.int r), some (.int s)]) (st' := [.ref a]) rfl ?_
  refine Er_pc (t := 25) (show (bif decide (((1 : Int32)) = 0) then 57 else 25) = 25 from by rw [show (decide (((1 : Int32)) = 0)) = false from by decide]; rfl) ?_
  refine Er_run 3 (pc' := 30) (ls' := [some (.ref a), some (.int x), some (.int p), some (.int q), some (.int r), some (.int s)]) (st' := [.int ((15 : Int32)), .int ((0 : Int32)), .int r, .ref a]) rfl ?_
  refine Er_sta1 (av := [.int r, .int ((0 : Int32)), .int ((15 : Int32))]) (rest := [.ref a]) rfl rfl ⟨Nat.le_of_ble_eq_true rfl, Nat.le_of_ble_eq_true rfl⟩ rfl rfl (s_Ref_in1 h3) ?_
  refine Er_run 1 (pc' := bif decide (((1 : Int32)) = 0) then 57 else 36) (ls' := [some (.ref a), some (.int x), some (.int p), some (.int q), some (.int r), some (.int s)]) (st' := [.ref a]) rfl ?_
  refine Er_pc (t := 36) (show (bif decide (((1 : Int32)) = 0) then 57 else 36) = 36 from by rw [show (decide (((1 : Int32)) = 0)) = false from by decide]; rfl) ?_
  refine Er_run 3 (pc' := 40) (ls' := [some (.ref a), some (.int x), some (.int p), some (.int q), some (.int r), some (.int s)]) (st' := [.int ((15 : Int32)), .int ((-1 : Int32)), .int q, .ref a]) rfl ?_
  refine Er_sta1 (av := [.int q, .int ((-1 : Int32)), .int ((15 : Int32))]) (rest := [.ref a]) rfl rfl ⟨Nat.le_of_ble_eq_true rfl, Nat.le_of_ble_eq_true rfl⟩ rfl rfl (s_Ref_in1 h4) ?_
  refine Er_run 1 (pc' := bif decide (((1 : Int32)) = 0) then 57 else 46) (ls' := [some (.ref a), some (.int x), some (.int p), some (.int q), some (.int r), some (.int s)]) (st' := [.ref a]) rfl ?_
  refine Er_pc (t := 46) (show (bif decide (((1 : Int32)) = 0) then 57 else 46) = 46 from by rw [show (decide (((1 : Int32)) = 0)) = false from by decide]; rfl) ?_
  refine Er_run 3 (pc' := 51) (ls' := [some (.ref a), some (.int x), some (.int p), some (.int q), some (.int r), some (.int s)]) (st' := [.int ((6 : Int32)), .int ((1 : Int32)), .int s, .ref a]) rfl ?_
  refine Er_sta1 (av := [.int s, .int ((1 : Int32)), .int ((6 : Int32))]) (rest := [.ref a]) rfl rfl ⟨Nat.le_of_ble_eq_true rfl, Nat.le_of_ble_eq_true rfl⟩ rfl rfl (s_Ref_in0 h5) ?_
  refine Er_run 1 (pc' := bif !decide (((0 : Int32)) = 0) then 61 else 57) (ls' := [some (.ref a), some (.int x), some (.int p), some (.int q), some (.int r), some (.int s)]) (st' := [.ref a]) rfl ?_
  refine Er_pc (t := 57) (show (bif !decide (((0 : Int32)) = 0) then 61 else 57) = 57 from by rw [show (!decide (((0 : Int32)) = 0)) = false from by decide]; rfl) ?_
  refine Er_run 2 (pc' := 97) (ls' := [some (.ref a), some (.int x), some (.int p), some (.int q), some (.int r), some (.int s)]) (st' := [.int ((2 : Int32)), .ref a]) rfl ?_
  refine Er_putI rfl m0.1 ?_
  have m1 : mrO (setI h a 18 ((2 : Int32))) a := mrO_setI m0
  have th1 : gI (setI h a 18 ((2 : Int32))) a 18 = (2 : Int32) := gI_eq
  generalize (setI h a 18 ((2 : Int32))) = h1 at m1 th1 ⊢
  refine Er_run 1 (pc' := 101) (ls' := [some (.ref a), some (.int x), some (.int p), some (.int q), some (.int r), some (.int s)]) (st' := [.ref a]) rfl ?_
  refine Er_getI (v := (2 : Int32)) rfl m1.1 th1 ?_
  refine Er_run 1 (pc' := bif decide (((2 : Int32)) ≤ 0) then 108 else 107) (ls' := [some (.ref a), some (.int x), some (.int p), some (.int q), some (.int r), some (.int s)]) (st' := []) rfl ?_
  refine Er_pc (t := 107) (show (bif decide (((2 : Int32)) ≤ 0) then 108 else 107) = 107 from by rw [show (decide (((2 : Int32)) ≤ 0)) = false from by decide]; rfl) ?_
  exact Er_fin rfl rfl ⟨rfl, rfl⟩
theorem s_Ref_job3m {p q r s : Int32} (m0 : mrO h a) (th0 : gI h a 18 = gI h a 18) (mm0 : gI h (a + 5) (3 * j) = Int32.ofNat n) (mr0 : gI h (a + 5) (3 * j + 2) = Int32.ofNat i) (hn : n ≤ 40) (hi : i ≤ 40) (hj : j < 8) (h2 : jm_in p 0 15 = true) (h3 : jm_in r 0 15 = true) (h4 : jm_in q (-1) 15 = true) (h5 : jm_in s 1 6 = true) (hz : n = 0) : Run 172 [.ref a, .int (Int32.ofNat j), .int p, .int q, .int r, .int s] h (.inl none) (setI h a 18 3) := by
  refine ⟨Nat.le_of_ble_eq_true rfl, ?_⟩
  show Ev 172 0 [some (.ref a), some (.int (Int32.ofNat j)), some (.int p), some (.int q), some (.int r), some (.int s)] [] h _
  refine Er_run 4 (pc' := 5) (ls' := [some (.ref a), some (.int (Int32.ofNat j)), some (.int p), some (.int q), some (.int r), some (.int s)]) (st' := [.int ((7 : Int32)), .int ((0 : Int32)), .int (Int32.ofNat j), .ref a]) rfl ?_
  refine Er_sta1 (av := [.int (Int32.ofNat j), .int ((0 : Int32)), .int ((7 : Int32))]) (rest := [.ref a]) rfl rfl ⟨Nat.le_of_ble_eq_true rfl, Nat.le_of_ble_eq_true rfl⟩ rfl rfl (s_Ref_in1 (jm_in_n (k := 7) (by omega) (by omega))) ?_
  refine Er_run 1 (pc' := bif !decide (((1 : Int32)) = 0) then 15 else 11) (ls' := [some (.ref a), some (.int (Int32.ofNat j)), some (.int p), some (.int q), some (.int r), some (.int s)]) (st' := [.ref a]) rfl ?_
  refine Er_pc (t := 15) (show (bif !decide (((1 : Int32)) = 0) then 15 else 11) = 15 from by rw [show (!decide (((1 : Int32)) = 0)) = true from by decide]; rfl) ?_
  refine Er_run 3 (pc' := 19) (ls' := [some (.ref a), some (.int (Int32.ofNat j)), some (.int p), some (.int q), some (.int r), some (.int s)]) (st' := [.int ((15 : Int32)), .int ((0 : Int32)), .int p, .ref a]) rfl ?_
  refine Er_sta1 (av := [.int p, .int ((0 : Int32)), .int ((15 : Int32))]) (rest := [.ref a]) rfl rfl ⟨Nat.le_of_ble_eq_true rfl, Nat.le_of_ble_eq_true rfl⟩ rfl rfl (s_Ref_in1 h2) ?_
  refine Er_run 1 (pc' := bif decide (((1 : Int32)) = 0) then 57 else 25) (ls' := [some (.ref a), some (.int (Int32.ofNat j)), some (.int p), some (.int q), some (.int r), some (.int s)]) (st' := [.ref a]) rfl ?_
  refine Er_pc (t := 25) (show (bif decide (((1 : Int32)) = 0) then 57 else 25) = 25 from by rw [show (decide (((1 : Int32)) = 0)) = false from by decide]; rfl) ?_
  refine Er_run 3 (pc' := 30) (ls' := [some (.ref a), some (.int (Int32.ofNat j)), some (.int p), some (.int q), some (.int r), some (.int s)]) (st' := [.int ((15 : Int32)), .int ((0 : Int32)), .int r, .ref a]) rfl ?_
  refine Er_sta1 (av := [.int r, .int ((0 : Int32)), .int ((15 : Int32))]) (rest := [.ref a]) rfl rfl ⟨Nat.le_of_ble_eq_true rfl, Nat.le_of_ble_eq_true rfl⟩ rfl rfl (s_Ref_in1 h3) ?_
  refine Er_run 1 (pc' := bif decide (((1 : Int32)) = 0) then 57 else 36) (ls' := [some (.ref a), some (.int (Int32.ofNat j)), some (.int p), some (.int q), some (.int r), some (.int s)]) (st' := [.ref a]) rfl ?_
  refine Er_pc (t := 36) (show (bif decide (((1 : Int32)) = 0) then 57 else 36) = 36 from by rw [show (decide (((1 : Int32)) = 0)) = false from by decide]; rfl) ?_
  refine Er_run 3 (pc' := 40) (ls' := [some (.ref a), some (.int (Int32.ofNat j)), some (.int p), some (.int q), some (.int r), some (.int s)]) (st' := [.int ((15 : Int32)), .int ((-1 : Int32)), .int q, .ref a]) rfl ?_
  refine Er_sta1 (av := [.int q, .int ((-1 : Int32)), .int ((15 : Int32))]) (rest := [.ref a]) rfl rfl ⟨Nat.le_of_ble_eq_true rfl, Nat.le_of_ble_eq_true rfl⟩ rfl rfl (s_Ref_in1 h4) ?_
  refine Er_run 1 (pc' := bif decide (((1 : Int32)) = 0) then 57 else 46) (ls' := [some (.ref a), some (.int (Int32.ofNat j)), some (.int p), some (.int q), some (.int r), some (.int s)]) (st' := [.ref a]) rfl ?_
  refine Er_pc (t := 46) (show (bif decide (((1 : Int32)) = 0) then 57 else 46) = 46 from by rw [show (decide (((1 : Int32)) = 0)) = false from by decide]; rfl) ?_
  refine Er_run 3 (pc' := 51) (ls' := [some (.ref a), some (.int (Int32.ofNat j)), some (.int p), some (.int q), some (.int r), some (.int s)]) (st' := [.int ((6 : Int32)), .int ((1 : Int32)), .int s, .ref a]) rfl ?_
  refine Er_sta1 (av := [.int s, .int ((1 : Int32)), .int ((6 : Int32))]) (rest := [.ref a]) rfl rfl ⟨Nat.le_of_ble_eq_true rfl, Nat.le_of_ble_eq_true rfl⟩ rfl rfl (s_Ref_in1 h5) ?_
  refine Er_run 1 (pc' := bif !decide (((1 : Int32)) = 0) then 61 else 57) (ls' := [some (.ref a), some (.int (Int32.ofNat j)), some (.int p), some (.int q), some (.int r), some (.int s)]) (st' := [.ref a]) rfl ?_
  refine Er_pc (t := 61) (show (bif !decide (((1 : Int32)) = 0) then 61 else 57) = 61 from by rw [show (!decide (((1 : Int32)) = 0)) = true from by decide]; rfl) ?_
  refine Er_run 1 (pc' := 62) (ls' := [some (.ref a), some (.int (Int32.ofNat j)), some (.int p), some (.int q), some (.int r), some (.int s)]) (st' := [.ref a, .ref a]) rfl ?_
  refine Er_getR (x := a + 5) rfl m0.1 (m0.2 (4, 5, 0, 24) (by decide)).1 ?_
  refine Er_run 3 (pc' := 68) (ls' := [some (.ref a), some (.int (Int32.ofNat j)), some (.int p), some (.int q), some (.int r), some (.int s)]) (st' := [.int (((3 : Int32)) * (Int32.ofNat j)), .ref (a + 5), .ref a]) rfl ?_
  refine Er_iald (v := Int32.ofNat n) rfl (m0.2 (4, 5, 0, 24) (by decide)).2.1 (mr_in (i := (3 * j)) (k := 24) mr_3j (by omega) (by decide) (m0.2 (4, 5, 0, 24) (by decide)).2.2) (mr_atI mr_3j (by omega) mm0) ?_
  refine Er_run 1 (pc' := bif decide ((Int32.ofNat n) = 0) then 92 else 72) (ls' := [some (.ref a), some (.int (Int32.ofNat j)), some (.int p), some (.int q), some (.int r), some (.int s)]) (st' := [.ref a]) rfl ?_
  refine Er_pc (t := 92) (show (bif decide ((Int32.ofNat n) = 0) then 92 else 72) = 92 from by rw [show (decide ((Int32.ofNat n) = 0)) = true from by rw [show (0 : Int32) = Int32.ofNat 0 from rfl, jx_eq (by omega) (by omega)]; exact decide_eq_true (by omega)]; rfl) ?_
  refine Er_run 2 (pc' := 97) (ls' := [some (.ref a), some (.int (Int32.ofNat j)), some (.int p), some (.int q), some (.int r), some (.int s)]) (st' := [.int ((3 : Int32)), .ref a]) rfl ?_
  refine Er_putI rfl m0.1 ?_
  have m1 : mrO (setI h a 18 ((3 : Int32))) a := mrO_setI m0
  have th1 : gI (setI h a 18 ((3 : Int32))) a 18 = (3 : Int32) := gI_eq
  have mm1 : gI (setI h a 18 ((3 : Int32))) (a + 5) ((3 * j)) = Int32.ofNat n := by rw [show gI (setI h a 18 ((3 : Int32))) (a + 5) = gI h (a + 5) from mr_ncI (by omega)]; exact mm0
  have mr1 : gI (setI h a 18 ((3 : Int32))) (a + 5) ((3 * j + 2)) = Int32.ofNat i := by rw [show gI (setI h a 18 ((3 : Int32))) (a + 5) = gI h (a + 5) from mr_ncI (by omega)]; exact mr0
  generalize (setI h a 18 ((3 : Int32))) = h1 at m1 th1 mm1 mr1 ⊢
  refine Er_run 1 (pc' := 101) (ls' := [some (.ref a), some (.int (Int32.ofNat j)), some (.int p), some (.int q), some (.int r), some (.int s)]) (st' := [.ref a]) rfl ?_
  refine Er_getI (v := (3 : Int32)) rfl m1.1 th1 ?_
  refine Er_run 1 (pc' := bif decide (((3 : Int32)) ≤ 0) then 108 else 107) (ls' := [some (.ref a), some (.int (Int32.ofNat j)), some (.int p), some (.int q), some (.int r), some (.int s)]) (st' := []) rfl ?_
  refine Er_pc (t := 107) (show (bif decide (((3 : Int32)) ≤ 0) then 108 else 107) = 107 from by rw [show (decide (((3 : Int32)) ≤ 0)) = false from by decide]; rfl) ?_
  exact Er_fin rfl rfl ⟨rfl, rfl⟩
theorem s_Ref_job3r {p q r s : Int32} (m0 : mrO h a) (th0 : gI h a 18 = gI h a 18) (mm0 : gI h (a + 5) (3 * j) = Int32.ofNat n) (mr0 : gI h (a + 5) (3 * j + 2) = Int32.ofNat i) (hn : n ≤ 40) (hi : i ≤ 40) (hj : j < 8) (h2 : jm_in p 0 15 = true) (h3 : jm_in r 0 15 = true) (h4 : jm_in q (-1) 15 = true) (h5 : jm_in s 1 6 = true) (hy : n ≠ 0) (hz : i = 0) : Run 172 [.ref a, .int (Int32.ofNat j), .int p, .int q, .int r, .int s] h (.inl none) (setI h a 18 3) := by
  refine ⟨Nat.le_of_ble_eq_true rfl, ?_⟩
  show Ev 172 0 [some (.ref a), some (.int (Int32.ofNat j)), some (.int p), some (.int q), some (.int r), some (.int s)] [] h _
  refine Er_run 4 (pc' := 5) (ls' := [some (.ref a), some (.int (Int32.ofNat j)), some (.int p), some (.int q), some (.int r), some (.int s)]) (st' := [.int ((7 : Int32)), .int ((0 : Int32)), .int (Int32.ofNat j), .ref a]) rfl ?_
  refine Er_sta1 (av := [.int (Int32.ofNat j), .int ((0 : Int32)), .int ((7 : Int32))]) (rest := [.ref a]) rfl rfl ⟨Nat.le_of_ble_eq_true rfl, Nat.le_of_ble_eq_true rfl⟩ rfl rfl (s_Ref_in1 (jm_in_n (k := 7) (by omega) (by omega))) ?_
  refine Er_run 1 (pc' := bif !decide (((1 : Int32)) = 0) then 15 else 11) (ls' := [some (.ref a), some (.int (Int32.ofNat j)), some (.int p), some (.int q), some (.int r), some (.int s)]) (st' := [.ref a]) rfl ?_
  refine Er_pc (t := 15) (show (bif !decide (((1 : Int32)) = 0) then 15 else 11) = 15 from by rw [show (!decide (((1 : Int32)) = 0)) = true from by decide]; rfl) ?_
  refine Er_run 3 (pc' := 19) (ls' := [some (.ref a), some (.int (Int32.ofNat j)), some (.int p), some (.int q), some (.int r), some (.int s)]) (st' := [.int ((15 : Int32)), .int ((0 : Int32)), .int p, .ref a]) rfl ?_
  refine Er_sta1 (av := [.int p, .int ((0 : Int32)), .int ((15 : Int32))]) (rest := [.ref a]) rfl rfl ⟨Nat.le_of_ble_eq_true rfl, Nat.le_of_ble_eq_true rfl⟩ rfl rfl (s_Ref_in1 h2) ?_
  refine Er_run 1 (pc' := bif decide (((1 : Int32)) = 0) then 57 else 25) (ls' := [some (.ref a), some (.int (Int32.ofNat j)), some (.int p), some (.int q), some (.int r), some (.int s)]) (st' := [.ref a]) rfl ?_
  refine Er_pc (t := 25) (show (bif decide (((1 : Int32)) = 0) then 57 else 25) = 25 from by rw [show (decide (((1 : Int32)) = 0)) = false from by decide]; rfl) ?_
  refine Er_run 3 (pc' := 30) (ls' := [some (.ref a), some (.int (Int32.ofNat j)), some (.int p), some (.int q), some (.int r), some (.int s)]) (st' := [.int ((15 : Int32)), .int ((0 : Int32)), .int r, .ref a]) rfl ?_
  refine Er_sta1 (av := [.int r, .int ((0 : Int32)), .int ((15 : Int32))]) (rest := [.ref a]) rfl rfl ⟨Nat.le_of_ble_eq_true rfl, Nat.le_of_ble_eq_true rfl⟩ rfl rfl (s_Ref_in1 h3) ?_
  refine Er_run 1 (pc' := bif decide (((1 : Int32)) = 0) then 57 else 36) (ls' := [some (.ref a), some (.int (Int32.ofNat j)), some (.int p), some (.int q), some (.int r), some (.int s)]) (st' := [.ref a]) rfl ?_
  refine Er_pc (t := 36) (show (bif decide (((1 : Int32)) = 0) then 57 else 36) = 36 from by rw [show (decide (((1 : Int32)) = 0)) = false from by decide]; rfl) ?_
  refine Er_run 3 (pc' := 40) (ls' := [some (.ref a), some (.int (Int32.ofNat j)), some (.int p), some (.int q), some (.int r), some (.int s)]) (st' := [.int ((15 : Int32)), .int ((-1 : Int32)), .int q, .ref a]) rfl ?_
  refine Er_sta1 (av := [.int q, .int ((-1 : Int32)), .int ((15 : Int32))]) (rest := [.ref a]) rfl rfl ⟨Nat.le_of_ble_eq_true rfl, Nat.le_of_ble_eq_true rfl⟩ rfl rfl (s_Ref_in1 h4) ?_
  refine Er_run 1 (pc' := bif decide (((1 : Int32)) = 0) then 57 else 46) (ls' := [some (.ref a), some (.int (Int32.ofNat j)), some (.int p), some (.int q), some (.int r), some (.int s)]) (st' := [.ref a]) rfl ?_
  refine Er_pc (t := 46) (show (bif decide (((1 : Int32)) = 0) then 57 else 46) = 46 from by rw [show (decide (((1 : Int32)) = 0)) = false from by decide]; rfl) ?_
  refine Er_run 3 (pc' := 51) (ls' := [some (.ref a), some (.int (Int32.ofNat j)), some (.int p), some (.int q), some (.int r), some (.int s)]) (st' := [.int ((6 : Int32)), .int ((1 : Int32)), .int s, .ref a]) rfl ?_
  refine Er_sta1 (av := [.int s, .int ((1 : Int32)), .int ((6 : Int32))]) (rest := [.ref a]) rfl rfl ⟨Nat.le_of_ble_eq_true rfl, Nat.le_of_ble_eq_true rfl⟩ rfl rfl (s_Ref_in1 h5) ?_
  refine Er_run 1 (pc' := bif !decide (((1 : Int32)) = 0) then 61 else 57) (ls' := [some (.ref a), some (.int (Int32.ofNat j)), some (.int p), some (.int q), some (.int r), some (.int s)]) (st' := [.ref a]) rfl ?_
  refine Er_pc (t := 61) (show (bif !decide (((1 : Int32)) = 0) then 61 else 57) = 61 from by rw [show (!decide (((1 : Int32)) = 0)) = true from by decide]; rfl) ?_
  refine Er_run 1 (pc' := 62) (ls' := [some (.ref a), some (.int (Int32.ofNat j)), some (.int p), some (.int q), some (.int r), some (.int s)]) (st' := [.ref a, .ref a]) rfl ?_
  refine Er_getR (x := a + 5) rfl m0.1 (m0.2 (4, 5, 0, 24) (by decide)).1 ?_
  refine Er_run 3 (pc' := 68) (ls' := [some (.ref a), some (.int (Int32.ofNat j)), some (.int p), some (.int q), some (.int r), some (.int s)]) (st' := [.int (((3 : Int32)) * (Int32.ofNat j)), .ref (a + 5), .ref a]) rfl ?_
  refine Er_iald (v := Int32.ofNat n) rfl (m0.2 (4, 5, 0, 24) (by decide)).2.1 (mr_in (i := (3 * j)) (k := 24) mr_3j (by omega) (by decide) (m0.2 (4, 5, 0, 24) (by decide)).2.2) (mr_atI mr_3j (by omega) mm0) ?_
  refine Er_run 1 (pc' := bif decide ((Int32.ofNat n) = 0) then 92 else 72) (ls' := [some (.ref a), some (.int (Int32.ofNat j)), some (.int p), some (.int q), some (.int r), some (.int s)]) (st' := [.ref a]) rfl ?_
  refine Er_pc (t := 72) (show (bif decide ((Int32.ofNat n) = 0) then 92 else 72) = 72 from by rw [show (decide ((Int32.ofNat n) = 0)) = false from by rw [show (0 : Int32) = Int32.ofNat 0 from rfl, jx_eq (by omega) (by omega)]; exact decide_eq_false (by omega)]; rfl) ?_
  refine Er_run 1 (pc' := 73) (ls' := [some (.ref a), some (.int (Int32.ofNat j)), some (.int p), some (.int q), some (.int r), some (.int s)]) (st' := [.ref a, .ref a]) rfl ?_
  refine Er_getR (x := a + 5) rfl m0.1 (m0.2 (4, 5, 0, 24) (by decide)).1 ?_
  refine Er_run 5 (pc' := 81) (ls' := [some (.ref a), some (.int (Int32.ofNat j)), some (.int p), some (.int q), some (.int r), some (.int s)]) (st' := [.int ((((3 : Int32)) * (Int32.ofNat j)) + ((2 : Int32))), .ref (a + 5), .ref a]) rfl ?_
  refine Er_iald (v := Int32.ofNat i) rfl (m0.2 (4, 5, 0, 24) (by decide)).2.1 (mr_in (i := (3 * j + 2)) (k := 24) (mr_3jk (k := 2)) (by omega) (by decide) (m0.2 (4, 5, 0, 24) (by decide)).2.2) (mr_atI (mr_3jk (k := 2)) (by omega) mr0) ?_
  refine Er_run 1 (pc' := bif decide ((Int32.ofNat i) = 0) then 92 else 85) (ls' := [some (.ref a), some (.int (Int32.ofNat j)), some (.int p), some (.int q), some (.int r), some (.int s)]) (st' := [.ref a]) rfl ?_
  refine Er_pc (t := 92) (show (bif decide ((Int32.ofNat i) = 0) then 92 else 85) = 92 from by rw [show (decide ((Int32.ofNat i) = 0)) = true from by rw [show (0 : Int32) = Int32.ofNat 0 from rfl, jx_eq (by omega) (by omega)]; exact decide_eq_true (by omega)]; rfl) ?_
  refine Er_run 2 (pc' := 97) (ls' := [some (.ref a), some (.int (Int32.ofNat j)), some (.int p), some (.int q), some (.int r), some (.int s)]) (st' := [.int ((3 : Int32)), .ref a]) rfl ?_
  refine Er_putI rfl m0.1 ?_
  have m1 : mrO (setI h a 18 ((3 : Int32))) a := mrO_setI m0
  have th1 : gI (setI h a 18 ((3 : Int32))) a 18 = (3 : Int32) := gI_eq
  have mm1 : gI (setI h a 18 ((3 : Int32))) (a + 5) ((3 * j)) = Int32.ofNat n := by rw [show gI (setI h a 18 ((3 : Int32))) (a + 5) = gI h (a + 5) from mr_ncI (by omega)]; exact mm0
  have mr1 : gI (setI h a 18 ((3 : Int32))) (a + 5) ((3 * j + 2)) = Int32.ofNat i := by rw [show gI (setI h a 18 ((3 : Int32))) (a + 5) = gI h (a + 5) from mr_ncI (by omega)]; exact mr0
  generalize (setI h a 18 ((3 : Int32))) = h1 at m1 th1 mm1 mr1 ⊢
  refine Er_run 1 (pc' := 101) (ls' := [some (.ref a), some (.int (Int32.ofNat j)), some (.int p), some (.int q), some (.int r), some (.int s)]) (st' := [.ref a]) rfl ?_
  refine Er_getI (v := (3 : Int32)) rfl m1.1 th1 ?_
  refine Er_run 1 (pc' := bif decide (((3 : Int32)) ≤ 0) then 108 else 107) (ls' := [some (.ref a), some (.int (Int32.ofNat j)), some (.int p), some (.int q), some (.int r), some (.int s)]) (st' := []) rfl ?_
  refine Er_pc (t := 107) (show (bif decide (((3 : Int32)) ≤ 0) then 108 else 107) = 107 from by rw [show (decide (((3 : Int32)) ≤ 0)) = false from by decide]; rfl) ?_
  exact Er_fin rfl rfl ⟨rfl, rfl⟩
theorem s_Ref_job3o {p q r s : Int32} (m0 : mrO h a) (th0 : gI h a 18 = gI h a 18) (mm0 : gI h (a + 5) (3 * j) = Int32.ofNat n) (mr0 : gI h (a + 5) (3 * j + 2) = Int32.ofNat i) (hn : n ≤ 40) (hi : i ≤ 40) (hj : j < 8) (h2 : jm_in p 0 15 = true) (h3 : jm_in r 0 15 = true) (h4 : jm_in q (-1) 15 = true) (h5 : jm_in s 1 6 = true) (hy : n ≠ 0) (hz : i ≠ 0) (on0 : gI h a 19 = 1) : Run 172 [.ref a, .int (Int32.ofNat j), .int p, .int q, .int r, .int s] h (.inl none) (setI h a 18 3) := by
  refine ⟨Nat.le_of_ble_eq_true rfl, ?_⟩
  show Ev 172 0 [some (.ref a), some (.int (Int32.ofNat j)), some (.int p), some (.int q), some (.int r), some (.int s)] [] h _
  refine Er_run 4 (pc' := 5) (ls' := [some (.ref a), some (.int (Int32.ofNat j)), some (.int p), some (.int q), some (.int r), some (.int s)]) (st' := [.int ((7 : Int32)), .int ((0 : Int32)), .int (Int32.ofNat j), .ref a]) rfl ?_
  refine Er_sta1 (av := [.int (Int32.ofNat j), .int ((0 : Int32)), .int ((7 : Int32))]) (rest := [.ref a]) rfl rfl ⟨Nat.le_of_ble_eq_true rfl, Nat.le_of_ble_eq_true rfl⟩ rfl rfl (s_Ref_in1 (jm_in_n (k := 7) (by omega) (by omega))) ?_
  refine Er_run 1 (pc' := bif !decide (((1 : Int32)) = 0) then 15 else 11) (ls' := [some (.ref a), some (.int (Int32.ofNat j)), some (.int p), some (.int q), some (.int r), some (.int s)]) (st' := [.ref a]) rfl ?_
  refine Er_pc (t := 15) (show (bif !decide (((1 : Int32)) = 0) then 15 else 11) = 15 from by rw [show (!decide (((1 : Int32)) = 0)) = true from by decide]; rfl) ?_
  refine Er_run 3 (pc' := 19) (ls' := [some (.ref a), some (.int (Int32.ofNat j)), some (.int p), some (.int q), some (.int r), some (.int s)]) (st' := [.int ((15 : Int32)), .int ((0 : Int32)), .int p, .ref a]) rfl ?_
  refine Er_sta1 (av := [.int p, .int ((0 : Int32)), .int ((15 : Int32))]) (rest := [.ref a]) rfl rfl ⟨Nat.le_of_ble_eq_true rfl, Nat.le_of_ble_eq_true rfl⟩ rfl rfl (s_Ref_in1 h2) ?_
  refine Er_run 1 (pc' := bif decide (((1 : Int32)) = 0) then 57 else 25) (ls' := [some (.ref a), some (.int (Int32.ofNat j)), some (.int p), some (.int q), some (.int r), some (.int s)]) (st' := [.ref a]) rfl ?_
  refine Er_pc (t := 25) (show (bif decide (((1 : Int32)) = 0) then 57 else 25) = 25 from by rw [show (decide (((1 : Int32)) = 0)) = false from by decide]; rfl) ?_
  refine Er_run 3 (pc' := 30) (ls' := [some (.ref a), some (.int (Int32.ofNat j)), some (.int p), some (.int q), some (.int r), some (.int s)]) (st' := [.int ((15 : Int32)), .int ((0 : Int32)), .int r, .ref a]) rfl ?_
  refine Er_sta1 (av := [.int r, .int ((0 : Int32)), .int ((15 : Int32))]) (rest := [.ref a]) rfl rfl ⟨Nat.le_of_ble_eq_true rfl, Nat.le_of_ble_eq_true rfl⟩ rfl rfl (s_Ref_in1 h3) ?_
  refine Er_run 1 (pc' := bif decide (((1 : Int32)) = 0) then 57 else 36) (ls' := [some (.ref a), some (.int (Int32.ofNat j)), some (.int p), some (.int q), some (.int r), some (.int s)]) (st' := [.ref a]) rfl ?_
  refine Er_pc (t := 36) (show (bif decide (((1 : Int32)) = 0) then 57 else 36) = 36 from by rw [show (decide (((1 : Int32)) = 0)) = false from by decide]; rfl) ?_
  refine Er_run 3 (pc' := 40) (ls' := [some (.ref a), some (.int (Int32.ofNat j)), some (.int p), some (.int q), some (.int r), some (.int s)]) (st' := [.int ((15 : Int32)), .int ((-1 : Int32)), .int q, .ref a]) rfl ?_
  refine Er_sta1 (av := [.int q, .int ((-1 : Int32)), .int ((15 : Int32))]) (rest := [.ref a]) rfl rfl ⟨Nat.le_of_ble_eq_true rfl, Nat.le_of_ble_eq_true rfl⟩ rfl rfl (s_Ref_in1 h4) ?_
  refine Er_run 1 (pc' := bif decide (((1 : Int32)) = 0) then 57 else 46) (ls' := [some (.ref a), some (.int (Int32.ofNat j)), some (.int p), some (.int q), some (.int r), some (.int s)]) (st' := [.ref a]) rfl ?_
  refine Er_pc (t := 46) (show (bif decide (((1 : Int32)) = 0) then 57 else 46) = 46 from by rw [show (decide (((1 : Int32)) = 0)) = false from by decide]; rfl) ?_
  refine Er_run 3 (pc' := 51) (ls' := [some (.ref a), some (.int (Int32.ofNat j)), some (.int p), some (.int q), some (.int r), some (.int s)]) (st' := [.int ((6 : Int32)), .int ((1 : Int32)), .int s, .ref a]) rfl ?_
  refine Er_sta1 (av := [.int s, .int ((1 : Int32)), .int ((6 : Int32))]) (rest := [.ref a]) rfl rfl ⟨Nat.le_of_ble_eq_true rfl, Nat.le_of_ble_eq_true rfl⟩ rfl rfl (s_Ref_in1 h5) ?_
  refine Er_run 1 (pc' := bif !decide (((1 : Int32)) = 0) then 61 else 57) (ls' := [some (.ref a), some (.int (Int32.ofNat j)), some (.int p), some (.int q), some (.int r), some (.int s)]) (st' := [.ref a]) rfl ?_
  refine Er_pc (t := 61) (show (bif !decide (((1 : Int32)) = 0) then 61 else 57) = 61 from by rw [show (!decide (((1 : Int32)) = 0)) = true from by decide]; rfl) ?_
  refine Er_run 1 (pc' := 62) (ls' := [some (.ref a), some (.int (Int32.ofNat j)), some (.int p), some (.int q), some (.int r), some (.int s)]) (st' := [.ref a, .ref a]) rfl ?_
  refine Er_getR (x := a + 5) rfl m0.1 (m0.2 (4, 5, 0, 24) (by decide)).1 ?_
  refine Er_run 3 (pc' := 68) (ls' := [some (.ref a), some (.int (Int32.ofNat j)), some (.int p), some (.int q), some (.int r), some (.int s)]) (st' := [.int (((3 : Int32)) * (Int32.ofNat j)), .ref (a + 5), .ref a]) rfl ?_
  refine Er_iald (v := Int32.ofNat n) rfl (m0.2 (4, 5, 0, 24) (by decide)).2.1 (mr_in (i := (3 * j)) (k := 24) mr_3j (by omega) (by decide) (m0.2 (4, 5, 0, 24) (by decide)).2.2) (mr_atI mr_3j (by omega) mm0) ?_
  refine Er_run 1 (pc' := bif decide ((Int32.ofNat n) = 0) then 92 else 72) (ls' := [some (.ref a), some (.int (Int32.ofNat j)), some (.int p), some (.int q), some (.int r), some (.int s)]) (st' := [.ref a]) rfl ?_
  refine Er_pc (t := 72) (show (bif decide ((Int32.ofNat n) = 0) then 92 else 72) = 72 from by rw [show (decide ((Int32.ofNat n) = 0)) = false from by rw [show (0 : Int32) = Int32.ofNat 0 from rfl, jx_eq (by omega) (by omega)]; exact decide_eq_false (by omega)]; rfl) ?_
  refine Er_run 1 (pc' := 73) (ls' := [some (.ref a), some (.int (Int32.ofNat j)), some (.int p), some (.int q), some (.int r), some (.int s)]) (st' := [.ref a, .ref a]) rfl ?_
  refine Er_getR (x := a + 5) rfl m0.1 (m0.2 (4, 5, 0, 24) (by decide)).1 ?_
  refine Er_run 5 (pc' := 81) (ls' := [some (.ref a), some (.int (Int32.ofNat j)), some (.int p), some (.int q), some (.int r), some (.int s)]) (st' := [.int ((((3 : Int32)) * (Int32.ofNat j)) + ((2 : Int32))), .ref (a + 5), .ref a]) rfl ?_
  refine Er_iald (v := Int32.ofNat i) rfl (m0.2 (4, 5, 0, 24) (by decide)).2.1 (mr_in (i := (3 * j + 2)) (k := 24) (mr_3jk (k := 2)) (by omega) (by decide) (m0.2 (4, 5, 0, 24) (by decide)).2.2) (mr_atI (mr_3jk (k := 2)) (by omega) mr0) ?_
  refine Er_run 1 (pc' := bif decide ((Int32.ofNat i) = 0) then 92 else 85) (ls' := [some (.ref a), some (.int (Int32.ofNat j)), some (.int p), some (.int q), some (.int r), some (.int s)]) (st' := [.ref a]) rfl ?_
  refine Er_pc (t := 85) (show (bif decide ((Int32.ofNat i) = 0) then 92 else 85) = 85 from by rw [show (decide ((Int32.ofNat i) = 0)) = false from by rw [show (0 : Int32) = Int32.ofNat 0 from rfl, jx_eq (by omega) (by omega)]; exact decide_eq_false (by omega)]; rfl) ?_
  refine Er_run 1 (pc' := 86) (ls' := [some (.ref a), some (.int (Int32.ofNat j)), some (.int p), some (.int q), some (.int r), some (.int s)]) (st' := [.ref a, .ref a]) rfl ?_
  refine Er_getI (v := (1 : Int32)) rfl m0.1 on0 ?_
  refine Er_run 1 (pc' := bif decide (((1 : Int32)) = 0) then 96 else 92) (ls' := [some (.ref a), some (.int (Int32.ofNat j)), some (.int p), some (.int q), some (.int r), some (.int s)]) (st' := [.ref a]) rfl ?_
  refine Er_pc (t := 92) (show (bif decide (((1 : Int32)) = 0) then 96 else 92) = 92 from by rw [show (decide (((1 : Int32)) = 0)) = false from by decide]; rfl) ?_
  refine Er_run 2 (pc' := 97) (ls' := [some (.ref a), some (.int (Int32.ofNat j)), some (.int p), some (.int q), some (.int r), some (.int s)]) (st' := [.int ((3 : Int32)), .ref a]) rfl ?_
  refine Er_putI rfl m0.1 ?_
  have m1 : mrO (setI h a 18 ((3 : Int32))) a := mrO_setI m0
  have th1 : gI (setI h a 18 ((3 : Int32))) a 18 = (3 : Int32) := gI_eq
  have mm1 : gI (setI h a 18 ((3 : Int32))) (a + 5) ((3 * j)) = Int32.ofNat n := by rw [show gI (setI h a 18 ((3 : Int32))) (a + 5) = gI h (a + 5) from mr_ncI (by omega)]; exact mm0
  have mr1 : gI (setI h a 18 ((3 : Int32))) (a + 5) ((3 * j + 2)) = Int32.ofNat i := by rw [show gI (setI h a 18 ((3 : Int32))) (a + 5) = gI h (a + 5) from mr_ncI (by omega)]; exact mr0
  have on1 : gI (setI h a 18 ((3 : Int32))) a 19 = (1 : Int32) := by rw [gI_ne (by omega)]; exact on0
  generalize (setI h a 18 ((3 : Int32))) = h1 at m1 th1 mm1 mr1 on1 ⊢
  refine Er_run 1 (pc' := 101) (ls' := [some (.ref a), some (.int (Int32.ofNat j)), some (.int p), some (.int q), some (.int r), some (.int s)]) (st' := [.ref a]) rfl ?_
  refine Er_getI (v := (3 : Int32)) rfl m1.1 th1 ?_
  refine Er_run 1 (pc' := bif decide (((3 : Int32)) ≤ 0) then 108 else 107) (ls' := [some (.ref a), some (.int (Int32.ofNat j)), some (.int p), some (.int q), some (.int r), some (.int s)]) (st' := []) rfl ?_
  refine Er_pc (t := 107) (show (bif decide (((3 : Int32)) ≤ 0) then 108 else 107) = 107 from by rw [show (decide (((3 : Int32)) ≤ 0)) = false from by decide]; rfl) ?_
  exact Er_fin rfl rfl ⟨rfl, rfl⟩
theorem s_Ref_job0 {p q r s : Int32} (m0 : mrO h a) (th0 : gI h a 18 = gI h a 18) (mm0 : gI h (a + 5) (3 * j) = Int32.ofNat n) (mr0 : gI h (a + 5) (3 * j + 2) = Int32.ofNat i) (hn : n ≤ 40) (hi : i ≤ 40) (hj : j < 8) (h2 : jm_in p 0 15 = true) (h3 : jm_in r 0 15 = true) (h4 : jm_in q (-1) 15 = true) (h5 : jm_in s 1 6 = true) (hy : n ≠ 0) (hz : i ≠ 0) (on0 : gI h a 19 = 0) : Run 172 [.ref a, .int (Int32.ofNat j), .int p, .int q, .int r, .int s] h (.inl none) (setI (setI (setI (setI (setI (setI h a 18 0) (a + 14) j 1) (a + 9) j p) (a + 10) j q) (a + 11) j r) (a + 12) j s) := by
  refine ⟨Nat.le_of_ble_eq_true rfl, ?_⟩
  show Ev 172 0 [some (.ref a), some (.int (Int32.ofNat j)), some (.int p), some (.int q), some (.int r), some (.int s)] [] h _
  refine Er_run 4 (pc' := 5) (ls' := [some (.ref a), some (.int (Int32.ofNat j)), some (.int p), some (.int q), some (.int r), some (.int s)]) (st' := [.int ((7 : Int32)), .int ((0 : Int32)), .int (Int32.ofNat j), .ref a]) rfl ?_
  refine Er_sta1 (av := [.int (Int32.ofNat j), .int ((0 : Int32)), .int ((7 : Int32))]) (rest := [.ref a]) rfl rfl ⟨Nat.le_of_ble_eq_true rfl, Nat.le_of_ble_eq_true rfl⟩ rfl rfl (s_Ref_in1 (jm_in_n (k := 7) (by omega) (by omega))) ?_
  refine Er_run 1 (pc' := bif !decide (((1 : Int32)) = 0) then 15 else 11) (ls' := [some (.ref a), some (.int (Int32.ofNat j)), some (.int p), some (.int q), some (.int r), some (.int s)]) (st' := [.ref a]) rfl ?_
  refine Er_pc (t := 15) (show (bif !decide (((1 : Int32)) = 0) then 15 else 11) = 15 from by rw [show (!decide (((1 : Int32)) = 0)) = true from by decide]; rfl) ?_
  refine Er_run 3 (pc' := 19) (ls' := [some (.ref a), some (.int (Int32.ofNat j)), some (.int p), some (.int q), some (.int r), some (.int s)]) (st' := [.int ((15 : Int32)), .int ((0 : Int32)), .int p, .ref a]) rfl ?_
  refine Er_sta1 (av := [.int p, .int ((0 : Int32)), .int ((15 : Int32))]) (rest := [.ref a]) rfl rfl ⟨Nat.le_of_ble_eq_true rfl, Nat.le_of_ble_eq_true rfl⟩ rfl rfl (s_Ref_in1 h2) ?_
  refine Er_run 1 (pc' := bif decide (((1 : Int32)) = 0) then 57 else 25) (ls' := [some (.ref a), some (.int (Int32.ofNat j)), some (.int p), some (.int q), some (.int r), some (.int s)]) (st' := [.ref a]) rfl ?_
  refine Er_pc (t := 25) (show (bif decide (((1 : Int32)) = 0) then 57 else 25) = 25 from by rw [show (decide (((1 : Int32)) = 0)) = false from by decide]; rfl) ?_
  refine Er_run 3 (pc' := 30) (ls' := [some (.ref a), some (.int (Int32.ofNat j)), some (.int p), some (.int q), some (.int r), some (.int s)]) (st' := [.int ((15 : Int32)), .int ((0 : Int32)), .int r, .ref a]) rfl ?_
  refine Er_sta1 (av := [.int r, .int ((0 : Int32)), .int ((15 : Int32))]) (rest := [.ref a]) rfl rfl ⟨Nat.le_of_ble_eq_true rfl, Nat.le_of_ble_eq_true rfl⟩ rfl rfl (s_Ref_in1 h3) ?_
  refine Er_run 1 (pc' := bif decide (((1 : Int32)) = 0) then 57 else 36) (ls' := [some (.ref a), some (.int (Int32.ofNat j)), some (.int p), some (.int q), some (.int r), some (.int s)]) (st' := [.ref a]) rfl ?_
  refine Er_pc (t := 36) (show (bif decide (((1 : Int32)) = 0) then 57 else 36) = 36 from by rw [show (decide (((1 : Int32)) = 0)) = false from by decide]; rfl) ?_
  refine Er_run 3 (pc' := 40) (ls' := [some (.ref a), some (.int (Int32.ofNat j)), some (.int p), some (.int q), some (.int r), some (.int s)]) (st' := [.int ((15 : Int32)), .int ((-1 : Int32)), .int q, .ref a]) rfl ?_
  refine Er_sta1 (av := [.int q, .int ((-1 : Int32)), .int ((15 : Int32))]) (rest := [.ref a]) rfl rfl ⟨Nat.le_of_ble_eq_true rfl, Nat.le_of_ble_eq_true rfl⟩ rfl rfl (s_Ref_in1 h4) ?_
  refine Er_run 1 (pc' := bif decide (((1 : Int32)) = 0) then 57 else 46) (ls' := [some (.ref a), some (.int (Int32.ofNat j)), some (.int p), some (.int q), some (.int r), some (.int s)]) (st' := [.ref a]) rfl ?_
  refine Er_pc (t := 46) (show (bif decide (((1 : Int32)) = 0) then 57 else 46) = 46 from by rw [show (decide (((1 : Int32)) = 0)) = false from by decide]; rfl) ?_
  refine Er_run 3 (pc' := 51) (ls' := [some (.ref a), some (.int (Int32.ofNat j)), some (.int p), some (.int q), some (.int r), some (.int s)]) (st' := [.int ((6 : Int32)), .int ((1 : Int32)), .int s, .ref a]) rfl ?_
  refine Er_sta1 (av := [.int s, .int ((1 : Int32)), .int ((6 : Int32))]) (rest := [.ref a]) rfl rfl ⟨Nat.le_of_ble_eq_true rfl, Nat.le_of_ble_eq_true rfl⟩ rfl rfl (s_Ref_in1 h5) ?_
  refine Er_run 1 (pc' := bif !decide (((1 : Int32)) = 0) then 61 else 57) (ls' := [some (.ref a), some (.int (Int32.ofNat j)), some (.int p), some (.int q), some (.int r), some (.int s)]) (st' := [.ref a]) rfl ?_
  refine Er_pc (t := 61) (show (bif !decide (((1 : Int32)) = 0) then 61 else 57) = 61 from by rw [show (!decide (((1 : Int32)) = 0)) = true from by decide]; rfl) ?_
  refine Er_run 1 (pc' := 62) (ls' := [some (.ref a), some (.int (Int32.ofNat j)), some (.int p), some (.int q), some (.int r), some (.int s)]) (st' := [.ref a, .ref a]) rfl ?_
  refine Er_getR (x := a + 5) rfl m0.1 (m0.2 (4, 5, 0, 24) (by decide)).1 ?_
  refine Er_run 3 (pc' := 68) (ls' := [some (.ref a), some (.int (Int32.ofNat j)), some (.int p), some (.int q), some (.int r), some (.int s)]) (st' := [.int (((3 : Int32)) * (Int32.ofNat j)), .ref (a + 5), .ref a]) rfl ?_
  refine Er_iald (v := Int32.ofNat n) rfl (m0.2 (4, 5, 0, 24) (by decide)).2.1 (mr_in (i := (3 * j)) (k := 24) mr_3j (by omega) (by decide) (m0.2 (4, 5, 0, 24) (by decide)).2.2) (mr_atI mr_3j (by omega) mm0) ?_
  refine Er_run 1 (pc' := bif decide ((Int32.ofNat n) = 0) then 92 else 72) (ls' := [some (.ref a), some (.int (Int32.ofNat j)), some (.int p), some (.int q), some (.int r), some (.int s)]) (st' := [.ref a]) rfl ?_
  refine Er_pc (t := 72) (show (bif decide ((Int32.ofNat n) = 0) then 92 else 72) = 72 from by rw [show (decide ((Int32.ofNat n) = 0)) = false from by rw [show (0 : Int32) = Int32.ofNat 0 from rfl, jx_eq (by omega) (by omega)]; exact decide_eq_false (by omega)]; rfl) ?_
  refine Er_run 1 (pc' := 73) (ls' := [some (.ref a), some (.int (Int32.ofNat j)), some (.int p), some (.int q), some (.int r), some (.int s)]) (st' := [.ref a, .ref a]) rfl ?_
  refine Er_getR (x := a + 5) rfl m0.1 (m0.2 (4, 5, 0, 24) (by decide)).1 ?_
  refine Er_run 5 (pc' := 81) (ls' := [some (.ref a), some (.int (Int32.ofNat j)), some (.int p), some (.int q), some (.int r), some (.int s)]) (st' := [.int ((((3 : Int32)) * (Int32.ofNat j)) + ((2 : Int32))), .ref (a + 5), .ref a]) rfl ?_
  refine Er_iald (v := Int32.ofNat i) rfl (m0.2 (4, 5, 0, 24) (by decide)).2.1 (mr_in (i := (3 * j + 2)) (k := 24) (mr_3jk (k := 2)) (by omega) (by decide) (m0.2 (4, 5, 0, 24) (by decide)).2.2) (mr_atI (mr_3jk (k := 2)) (by omega) mr0) ?_
  refine Er_run 1 (pc' := bif decide ((Int32.ofNat i) = 0) then 92 else 85) (ls' := [some (.ref a), some (.int (Int32.ofNat j)), some (.int p), some (.int q), some (.int r), some (.int s)]) (st' := [.ref a]) rfl ?_
  refine Er_pc (t := 85) (show (bif decide ((Int32.ofNat i) = 0) then 92 else 85) = 85 from by rw [show (decide ((Int32.ofNat i) = 0)) = false from by rw [show (0 : Int32) = Int32.ofNat 0 from rfl, jx_eq (by omega) (by omega)]; exact decide_eq_false (by omega)]; rfl) ?_
  refine Er_run 1 (pc' := 86) (ls' := [some (.ref a), some (.int (Int32.ofNat j)), some (.int p), some (.int q), some (.int r), some (.int s)]) (st' := [.ref a, .ref a]) rfl ?_
  refine Er_getI (v := (0 : Int32)) rfl m0.1 on0 ?_
  refine Er_run 1 (pc' := bif decide (((0 : Int32)) = 0) then 96 else 92) (ls' := [some (.ref a), some (.int (Int32.ofNat j)), some (.int p), some (.int q), some (.int r), some (.int s)]) (st' := [.ref a]) rfl ?_
  refine Er_pc (t := 96) (show (bif decide (((0 : Int32)) = 0) then 96 else 92) = 96 from by rw [show (decide (((0 : Int32)) = 0)) = true from by decide]; rfl) ?_
  refine Er_run 1 (pc' := 97) (ls' := [some (.ref a), some (.int (Int32.ofNat j)), some (.int p), some (.int q), some (.int r), some (.int s)]) (st' := [.int ((0 : Int32)), .ref a]) rfl ?_
  refine Er_putI rfl m0.1 ?_
  have m1 : mrO (setI h a 18 ((0 : Int32))) a := mrO_setI m0
  have th1 : gI (setI h a 18 ((0 : Int32))) a 18 = (0 : Int32) := gI_eq
  have mm1 : gI (setI h a 18 ((0 : Int32))) (a + 5) ((3 * j)) = Int32.ofNat n := by rw [show gI (setI h a 18 ((0 : Int32))) (a + 5) = gI h (a + 5) from mr_ncI (by omega)]; exact mm0
  have mr1 : gI (setI h a 18 ((0 : Int32))) (a + 5) ((3 * j + 2)) = Int32.ofNat i := by rw [show gI (setI h a 18 ((0 : Int32))) (a + 5) = gI h (a + 5) from mr_ncI (by omega)]; exact mr0
  have on1 : gI (setI h a 18 ((0 : Int32))) a 19 = (0 : Int32) := by rw [gI_ne (by omega)]; exact on0
  generalize (setI h a 18 ((0 : Int32))) = h1 at m1 th1 mm1 mr1 on1 ⊢
  refine Er_run 1 (pc' := 101) (ls' := [some (.ref a), some (.int (Int32.ofNat j)), some (.int p), some (.int q), some (.int r), some (.int s)]) (st' := [.ref a]) rfl ?_
  refine Er_getI (v := (0 : Int32)) rfl m1.1 th1 ?_
  refine Er_run 1 (pc' := bif decide (((0 : Int32)) ≤ 0) then 108 else 107) (ls' := [some (.ref a), some (.int (Int32.ofNat j)), some (.int p), some (.int q), some (.int r), some (.int s)]) (st' := []) rfl ?_
  refine Er_pc (t := 108) (show (bif decide (((0 : Int32)) ≤ 0) then 108 else 107) = 108 from by rw [show (decide (((0 : Int32)) ≤ 0)) = true from by decide]; rfl) ?_
  refine Er_run 1 (pc' := 109) (ls' := [some (.ref a), some (.int (Int32.ofNat j)), some (.int p), some (.int q), some (.int r), some (.int s)]) (st' := [.ref a]) rfl ?_
  refine Er_getR (x := a + 14) rfl m1.1 (m1.2 (13, 14, 2, 8) (by decide)).1 ?_
  refine Er_run 2 (pc' := 114) (ls' := [some (.ref a), some (.int (Int32.ofNat j)), some (.int p), some (.int q), some (.int r), some (.int s)]) (st' := [.int ((1 : Int32)), .int (Int32.ofNat j), .ref (a + 14)]) rfl ?_
  refine Er_zast rfl (m1.2 (13, 14, 2, 8) (by decide)).2.1 (mr_in (i := j) (k := 8) rfl (by omega) (by decide) (m1.2 (13, 14, 2, 8) (by decide)).2.2) (by decide) ?_
  rw [mr_cn (x := Int32.ofNat j) (i := j) rfl (by omega)]
  have m2 : mrO (setI h1 (a + 14) j ((1 : Int32))) a := mrO_setI m1
  have th2 : gI (setI h1 (a + 14) j ((1 : Int32))) a 18 = (0 : Int32) := by rw [show gI (setI h1 (a + 14) j ((1 : Int32))) a = gI h1 a from mr_ncI (by omega)]; exact th1
  have mm2 : gI (setI h1 (a + 14) j ((1 : Int32))) (a + 5) ((3 * j)) = Int32.ofNat n := by rw [show gI (setI h1 (a + 14) j ((1 : Int32))) (a + 5) = gI h1 (a + 5) from mr_ncI (by omega)]; exact mm1
  have mr2 : gI (setI h1 (a + 14) j ((1 : Int32))) (a + 5) ((3 * j + 2)) = Int32.ofNat i := by rw [show gI (setI h1 (a + 14) j ((1 : Int32))) (a + 5) = gI h1 (a + 5) from mr_ncI (by omega)]; exact mr1
  have on2 : gI (setI h1 (a + 14) j ((1 : Int32))) a 19 = (0 : Int32) := by rw [show gI (setI h1 (a + 14) j ((1 : Int32))) a = gI h1 a from mr_ncI (by omega)]; exact on1
  generalize (setI h1 (a + 14) j ((1 : Int32))) = h2 at m2 th2 mm2 mr2 on2 ⊢
  refine Er_run 1 (pc' := 116) (ls' := [some (.ref a), some (.int (Int32.ofNat j)), some (.int p), some (.int q), some (.int r), some (.int s)]) (st' := [.ref a]) rfl ?_
  refine Er_getR (x := a + 9) rfl m2.1 (m2.2 (8, 9, 0, 8) (by decide)).1 ?_
  refine Er_run 2 (pc' := 121) (ls' := [some (.ref a), some (.int (Int32.ofNat j)), some (.int p), some (.int q), some (.int r), some (.int s)]) (st' := [.int p, .int (Int32.ofNat j), .ref (a + 9)]) rfl ?_
  refine Er_iast rfl (m2.2 (8, 9, 0, 8) (by decide)).2.1 (mr_in (i := j) (k := 8) rfl (by omega) (by decide) (m2.2 (8, 9, 0, 8) (by decide)).2.2) ?_
  rw [mr_cn (x := Int32.ofNat j) (i := j) rfl (by omega)]
  have m3 : mrO (setI h2 (a + 9) j p) a := mrO_setI m2
  have th3 : gI (setI h2 (a + 9) j p) a 18 = (0 : Int32) := by rw [show gI (setI h2 (a + 9) j p) a = gI h2 a from mr_ncI (by omega)]; exact th2
  have mm3 : gI (setI h2 (a + 9) j p) (a + 5) ((3 * j)) = Int32.ofNat n := by rw [show gI (setI h2 (a + 9) j p) (a + 5) = gI h2 (a + 5) from mr_ncI (by omega)]; exact mm2
  have mr3 : gI (setI h2 (a + 9) j p) (a + 5) ((3 * j + 2)) = Int32.ofNat i := by rw [show gI (setI h2 (a + 9) j p) (a + 5) = gI h2 (a + 5) from mr_ncI (by omega)]; exact mr2
  have on3 : gI (setI h2 (a + 9) j p) a 19 = (0 : Int32) := by rw [show gI (setI h2 (a + 9) j p) a = gI h2 a from mr_ncI (by omega)]; exact on2
  generalize (setI h2 (a + 9) j p) = h3 at m3 th3 mm3 mr3 on3 ⊢
  refine Er_run 1 (pc' := 123) (ls' := [some (.ref a), some (.int (Int32.ofNat j)), some (.int p), some (.int q), some (.int r), some (.int s)]) (st' := [.ref a]) rfl ?_
  refine Er_getR (x := a + 10) rfl m3.1 (m3.2 (9, 10, 0, 8) (by decide)).1 ?_
  refine Er_run 2 (pc' := 128) (ls' := [some (.ref a), some (.int (Int32.ofNat j)), some (.int p), some (.int q), some (.int r), some (.int s)]) (st' := [.int q, .int (Int32.ofNat j), .ref (a + 10)]) rfl ?_
  refine Er_iast rfl (m3.2 (9, 10, 0, 8) (by decide)).2.1 (mr_in (i := j) (k := 8) rfl (by omega) (by decide) (m3.2 (9, 10, 0, 8) (by decide)).2.2) ?_
  rw [mr_cn (x := Int32.ofNat j) (i := j) rfl (by omega)]
  have m4 : mrO (setI h3 (a + 10) j q) a := mrO_setI m3
  have th4 : gI (setI h3 (a + 10) j q) a 18 = (0 : Int32) := by rw [show gI (setI h3 (a + 10) j q) a = gI h3 a from mr_ncI (by omega)]; exact th3
  have mm4 : gI (setI h3 (a + 10) j q) (a + 5) ((3 * j)) = Int32.ofNat n := by rw [show gI (setI h3 (a + 10) j q) (a + 5) = gI h3 (a + 5) from mr_ncI (by omega)]; exact mm3
  have mr4 : gI (setI h3 (a + 10) j q) (a + 5) ((3 * j + 2)) = Int32.ofNat i := by rw [show gI (setI h3 (a + 10) j q) (a + 5) = gI h3 (a + 5) from mr_ncI (by omega)]; exact mr3
  have on4 : gI (setI h3 (a + 10) j q) a 19 = (0 : Int32) := by rw [show gI (setI h3 (a + 10) j q) a = gI h3 a from mr_ncI (by omega)]; exact on3
  generalize (setI h3 (a + 10) j q) = h4 at m4 th4 mm4 mr4 on4 ⊢
  refine Er_run 1 (pc' := 130) (ls' := [some (.ref a), some (.int (Int32.ofNat j)), some (.int p), some (.int q), some (.int r), some (.int s)]) (st' := [.ref a]) rfl ?_
  refine Er_getR (x := a + 11) rfl m4.1 (m4.2 (10, 11, 0, 8) (by decide)).1 ?_
  refine Er_run 2 (pc' := 136) (ls' := [some (.ref a), some (.int (Int32.ofNat j)), some (.int p), some (.int q), some (.int r), some (.int s)]) (st' := [.int r, .int (Int32.ofNat j), .ref (a + 11)]) rfl ?_
  refine Er_iast rfl (m4.2 (10, 11, 0, 8) (by decide)).2.1 (mr_in (i := j) (k := 8) rfl (by omega) (by decide) (m4.2 (10, 11, 0, 8) (by decide)).2.2) ?_
  rw [mr_cn (x := Int32.ofNat j) (i := j) rfl (by omega)]
  have m5 : mrO (setI h4 (a + 11) j r) a := mrO_setI m4
  have th5 : gI (setI h4 (a + 11) j r) a 18 = (0 : Int32) := by rw [show gI (setI h4 (a + 11) j r) a = gI h4 a from mr_ncI (by omega)]; exact th4
  have mm5 : gI (setI h4 (a + 11) j r) (a + 5) ((3 * j)) = Int32.ofNat n := by rw [show gI (setI h4 (a + 11) j r) (a + 5) = gI h4 (a + 5) from mr_ncI (by omega)]; exact mm4
  have mr5 : gI (setI h4 (a + 11) j r) (a + 5) ((3 * j + 2)) = Int32.ofNat i := by rw [show gI (setI h4 (a + 11) j r) (a + 5) = gI h4 (a + 5) from mr_ncI (by omega)]; exact mr4
  have on5 : gI (setI h4 (a + 11) j r) a 19 = (0 : Int32) := by rw [show gI (setI h4 (a + 11) j r) a = gI h4 a from mr_ncI (by omega)]; exact on4
  generalize (setI h4 (a + 11) j r) = h5 at m5 th5 mm5 mr5 on5 ⊢
  refine Er_run 1 (pc' := 138) (ls' := [some (.ref a), some (.int (Int32.ofNat j)), some (.int p), some (.int q), some (.int r), some (.int s)]) (st' := [.ref a]) rfl ?_
  refine Er_getR (x := a + 12) rfl m5.1 (m5.2 (11, 12, 0, 8) (by decide)).1 ?_
  refine Er_run 2 (pc' := 144) (ls' := [some (.ref a), some (.int (Int32.ofNat j)), some (.int p), some (.int q), some (.int r), some (.int s)]) (st' := [.int s, .int (Int32.ofNat j), .ref (a + 12)]) rfl ?_
  refine Er_iast rfl (m5.2 (11, 12, 0, 8) (by decide)).2.1 (mr_in (i := j) (k := 8) rfl (by omega) (by decide) (m5.2 (11, 12, 0, 8) (by decide)).2.2) ?_
  rw [mr_cn (x := Int32.ofNat j) (i := j) rfl (by omega)]
  have m6 : mrO (setI h5 (a + 12) j s) a := mrO_setI m5
  have th6 : gI (setI h5 (a + 12) j s) a 18 = (0 : Int32) := by rw [show gI (setI h5 (a + 12) j s) a = gI h5 a from mr_ncI (by omega)]; exact th5
  have mm6 : gI (setI h5 (a + 12) j s) (a + 5) ((3 * j)) = Int32.ofNat n := by rw [show gI (setI h5 (a + 12) j s) (a + 5) = gI h5 (a + 5) from mr_ncI (by omega)]; exact mm5
  have mr6 : gI (setI h5 (a + 12) j s) (a + 5) ((3 * j + 2)) = Int32.ofNat i := by rw [show gI (setI h5 (a + 12) j s) (a + 5) = gI h5 (a + 5) from mr_ncI (by omega)]; exact mr5
  have on6 : gI (setI h5 (a + 12) j s) a 19 = (0 : Int32) := by rw [show gI (setI h5 (a + 12) j s) a = gI h5 a from mr_ncI (by omega)]; exact on5
  generalize (setI h5 (a + 12) j s) = h6 at m6 th6 mm6 mr6 on6 ⊢
  exact Er_fin rfl rfl ⟨rfl, rfl⟩
end REFI
