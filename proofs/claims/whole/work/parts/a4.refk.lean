section REFK
variable {h h' : sm_H} {a : Nat} {x y z t : Int32} {n f i j k : Nat} {c : Int64} {D : List (Int32 × Int64)}

theorem rp_x {Q : sm_R → sm_H → Prop} (m0 : mrO h a) (nw0 : gI h a 15 = Int32.ofNat D.length) (dd0 : ∀ k d, D[k]? = some d → gI h (a + 6) k = d.1) (da0 : ∀ k d, D[k]? = some d → gL h (a + 8) k = d.2) (hD : D.length ≤ 40) (hi : jm_in y 0 2 = false) (kk : Ev 171 87 [some (.ref a), some (.int x), some (.int y), some (.int (if D.any (jx_lb D.length) = true then 0 else (0 : Int32))), some (.int (Int32.ofNat D.length)), none, none] [] h Q) : Ev 171 0 [some (.ref a), some (.int x), some (.int y), none, none, none, none] [] h Q := by
  show Ev 171 0 [some (.ref a), some (.int x), some (.int y), none, none, none, none] [] h _
  refine Er_run 3 (pc' := 3) (ls' := [some (.ref a), some (.int x), some (.int y), none, none, none, none]) (st' := [.int ((2 : Int32)), .int ((0 : Int32)), .int y]) rfl ?_
  refine Er_sta1 (av := [.int y, .int ((0 : Int32)), .int ((2 : Int32))]) (rest := []) rfl rfl ⟨Nat.le_of_ble_eq_true rfl, Nat.le_of_ble_eq_true rfl⟩ rfl rfl (s_Ref_in0 hi) ?_
  refine Er_run 1 (pc' := bif decide (((0 : Int32)) = 0) then 25 else 9) (ls' := [some (.ref a), some (.int x), some (.int y), none, none, none, none]) (st' := []) rfl ?_
  refine Er_pc (t := 25) (show (bif decide (((0 : Int32)) = 0) then 25 else 9) = 25 from by rw [show (decide (((0 : Int32)) = 0)) = true from by decide]; rfl) ?_
  refine Er_run 4 (pc' := 30) (ls' := [some (.ref a), some (.int x), some (.int y), some (.int ((0 : Int32))), some (.int ((0 : Int32))), none, none]) (st' := []) rfl ?_
  exact l_prog1 m0 nw0 dd0 da0 hD D.length 0 _ (by omega) kk
theorem rp_n {Q : sm_R → sm_H → Prop} (m0 : mrO h a) (nw0 : gI h a 15 = Int32.ofNat D.length) (dd0 : ∀ k d, D[k]? = some d → gI h (a + 6) k = d.1) (da0 : ∀ k d, D[k]? = some d → gL h (a + 8) k = d.2) (hD : D.length ≤ 40) (hi : jm_in y 0 2 = true) (hn : 0 < D.length) (kk : Ev 171 87 [some (.ref a), some (.int x), some (.int y), some (.int (if D.any (jx_lb D.length) = true then 0 else (1 : Int32))), some (.int (Int32.ofNat D.length)), none, none] [] h Q) : Ev 171 0 [some (.ref a), some (.int x), some (.int y), none, none, none, none] [] h Q := by
  show Ev 171 0 [some (.ref a), some (.int x), some (.int y), none, none, none, none] [] h _
  refine Er_run 3 (pc' := 3) (ls' := [some (.ref a), some (.int x), some (.int y), none, none, none, none]) (st' := [.int ((2 : Int32)), .int ((0 : Int32)), .int y]) rfl ?_
  refine Er_sta1 (av := [.int y, .int ((0 : Int32)), .int ((2 : Int32))]) (rest := []) rfl rfl ⟨Nat.le_of_ble_eq_true rfl, Nat.le_of_ble_eq_true rfl⟩ rfl rfl (s_Ref_in1 hi) ?_
  refine Er_run 1 (pc' := bif decide (((1 : Int32)) = 0) then 25 else 9) (ls' := [some (.ref a), some (.int x), some (.int y), none, none, none, none]) (st' := []) rfl ?_
  refine Er_pc (t := 9) (show (bif decide (((1 : Int32)) = 0) then 25 else 9) = 9 from by rw [show (decide (((1 : Int32)) = 0)) = false from by decide]; rfl) ?_
  refine Er_run 1 (pc' := 10) (ls' := [some (.ref a), some (.int x), some (.int y), none, none, none, none]) (st' := [.ref a]) rfl ?_
  refine Er_getI (v := Int32.ofNat D.length) rfl m0.1 nw0 ?_
  refine Er_run 1 (pc' := bif decide (0 < (Int32.ofNat D.length)) then 21 else 16) (ls' := [some (.ref a), some (.int x), some (.int y), none, none, none, none]) (st' := []) rfl ?_
  refine Er_pc (t := 21) (show (bif decide (0 < (Int32.ofNat D.length)) then 21 else 16) = 21 from by rw [show (decide (0 < (Int32.ofNat D.length))) = true from by rw [show (0 : Int32) = Int32.ofNat 0 from rfl, jx_lt (by omega) (by omega)]; exact decide_eq_true (by omega)]; rfl) ?_
  refine Er_run 5 (pc' := 30) (ls' := [some (.ref a), some (.int x), some (.int y), some (.int ((1 : Int32))), some (.int ((0 : Int32))), none, none]) (st' := []) rfl ?_
  exact l_prog1 m0 nw0 dd0 da0 hD D.length 0 _ (by omega) kk
theorem rp_1 {Q : sm_R → sm_H → Prop} (m0 : mrO h a) (nw0 : gI h a 15 = Int32.ofNat D.length) (dd0 : ∀ k d, D[k]? = some d → gI h (a + 6) k = d.1) (da0 : ∀ k d, D[k]? = some d → gL h (a + 8) k = d.2) (hD : D.length ≤ 40) (hn : D.length = 0) (kk : Ev 171 87 [some (.ref a), some (.int x), some (.int ((1 : Int32))), some (.int (if D.any (jx_lb D.length) = true then 0 else (1 : Int32))), some (.int (Int32.ofNat D.length)), none, none] [] h Q) : Ev 171 0 [some (.ref a), some (.int x), some (.int ((1 : Int32))), none, none, none, none] [] h Q := by
  show Ev 171 0 [some (.ref a), some (.int x), some (.int ((1 : Int32))), none, none, none, none] [] h _
  refine Er_run 3 (pc' := 3) (ls' := [some (.ref a), some (.int x), some (.int ((1 : Int32))), none, none, none, none]) (st' := [.int ((2 : Int32)), .int ((0 : Int32)), .int ((1 : Int32))]) rfl ?_
  refine Er_sta1 (av := [.int ((1 : Int32)), .int ((0 : Int32)), .int ((2 : Int32))]) (rest := []) rfl rfl ⟨Nat.le_of_ble_eq_true rfl, Nat.le_of_ble_eq_true rfl⟩ rfl rfl (s_Ref_in1 (by decide)) ?_
  refine Er_run 1 (pc' := bif decide (((1 : Int32)) = 0) then 25 else 9) (ls' := [some (.ref a), some (.int x), some (.int ((1 : Int32))), none, none, none, none]) (st' := []) rfl ?_
  refine Er_pc (t := 9) (show (bif decide (((1 : Int32)) = 0) then 25 else 9) = 9 from by rw [show (decide (((1 : Int32)) = 0)) = false from by decide]; rfl) ?_
  refine Er_run 1 (pc' := 10) (ls' := [some (.ref a), some (.int x), some (.int ((1 : Int32))), none, none, none, none]) (st' := [.ref a]) rfl ?_
  refine Er_getI (v := Int32.ofNat D.length) rfl m0.1 nw0 ?_
  refine Er_run 1 (pc' := bif decide (0 < (Int32.ofNat D.length)) then 21 else 16) (ls' := [some (.ref a), some (.int x), some (.int ((1 : Int32))), none, none, none, none]) (st' := []) rfl ?_
  refine Er_pc (t := 16) (show (bif decide (0 < (Int32.ofNat D.length)) then 21 else 16) = 16 from by rw [show (decide (0 < (Int32.ofNat D.length))) = false from by rw [show (0 : Int32) = Int32.ofNat 0 from rfl, jx_lt (by omega) (by omega)]; exact decide_eq_false (by omega)]; rfl) ?_
  refine Er_run 3 (pc' := bif !decide (((1 : Int32)) = ((1 : Int32))) then 25 else 21) (ls' := [some (.ref a), some (.int x), some (.int ((1 : Int32))), none, none, none, none]) (st' := []) rfl ?_
  refine Er_pc (t := 21) (show (bif !decide (((1 : Int32)) = ((1 : Int32))) then 25 else 21) = 21 from by rw [show (!decide (((1 : Int32)) = ((1 : Int32)))) = false from by decide]; rfl) ?_
  refine Er_run 5 (pc' := 30) (ls' := [some (.ref a), some (.int x), some (.int ((1 : Int32))), some (.int ((1 : Int32))), some (.int ((0 : Int32))), none, none]) (st' := []) rfl ?_
  exact l_prog1 m0 nw0 dd0 da0 hD D.length 0 _ (by omega) kk
theorem rp_0 {Q : sm_R → sm_H → Prop} (m0 : mrO h a) (nw0 : gI h a 15 = Int32.ofNat D.length) (dd0 : ∀ k d, D[k]? = some d → gI h (a + 6) k = d.1) (da0 : ∀ k d, D[k]? = some d → gL h (a + 8) k = d.2) (hD : D.length ≤ 40) (hi : jm_in y 0 2 = true) (hn : D.length = 0) (hy : ¬ y = 1) (kk : Ev 171 87 [some (.ref a), some (.int x), some (.int y), some (.int (if D.any (jx_lb D.length) = true then 0 else (0 : Int32))), some (.int (Int32.ofNat D.length)), none, none] [] h Q) : Ev 171 0 [some (.ref a), some (.int x), some (.int y), none, none, none, none] [] h Q := by
  show Ev 171 0 [some (.ref a), some (.int x), some (.int y), none, none, none, none] [] h _
  refine Er_run 3 (pc' := 3) (ls' := [some (.ref a), some (.int x), some (.int y), none, none, none, none]) (st' := [.int ((2 : Int32)), .int ((0 : Int32)), .int y]) rfl ?_
  refine Er_sta1 (av := [.int y, .int ((0 : Int32)), .int ((2 : Int32))]) (rest := []) rfl rfl ⟨Nat.le_of_ble_eq_true rfl, Nat.le_of_ble_eq_true rfl⟩ rfl rfl (s_Ref_in1 hi) ?_
  refine Er_run 1 (pc' := bif decide (((1 : Int32)) = 0) then 25 else 9) (ls' := [some (.ref a), some (.int x), some (.int y), none, none, none, none]) (st' := []) rfl ?_
  refine Er_pc (t := 9) (show (bif decide (((1 : Int32)) = 0) then 25 else 9) = 9 from by rw [show (decide (((1 : Int32)) = 0)) = false from by decide]; rfl) ?_
  refine Er_run 1 (pc' := 10) (ls' := [some (.ref a), some (.int x), some (.int y), none, none, none, none]) (st' := [.ref a]) rfl ?_
  refine Er_getI (v := Int32.ofNat D.length) rfl m0.1 nw0 ?_
  refine Er_run 1 (pc' := bif decide (0 < (Int32.ofNat D.length)) then 21 else 16) (ls' := [some (.ref a), some (.int x), some (.int y), none, none, none, none]) (st' := []) rfl ?_
  refine Er_pc (t := 16) (show (bif decide (0 < (Int32.ofNat D.length)) then 21 else 16) = 16 from by rw [show (decide (0 < (Int32.ofNat D.length))) = false from by rw [show (0 : Int32) = Int32.ofNat 0 from rfl, jx_lt (by omega) (by omega)]; exact decide_eq_false (by omega)]; rfl) ?_
  refine Er_run 3 (pc' := bif !decide (y = ((1 : Int32))) then 25 else 21) (ls' := [some (.ref a), some (.int x), some (.int y), none, none, none, none]) (st' := []) rfl ?_
  refine Er_pc (t := 25) (show (bif !decide (y = ((1 : Int32))) then 25 else 21) = 25 from by rw [show (!decide (y = ((1 : Int32)))) = true from by rw [decide_eq_false hy]; rfl]; rfl) ?_
  refine Er_run 4 (pc' := 30) (ls' := [some (.ref a), some (.int x), some (.int y), some (.int ((0 : Int32))), some (.int ((0 : Int32))), none, none]) (st' := []) rfl ?_
  exact l_prog1 m0 nw0 dd0 da0 hD D.length 0 _ (by omega) kk
theorem rq_1 {w : Int32} (m0 : mrO h a) (th0 : gI h a 18 = gI h a 18) (hi : jm_in x 0 7 = false) : Ev 171 87 [some (.ref a), some (.int x), some (.int y), some (.int w), some (.int (Int32.ofNat D.length)), none, none] [] h (fun r1 h1 => r1 = .inl (some (.int ((0 : Int32)))) ∧ h1 = (setI h a 18 1)) := by
  refine Er_run 4 (pc' := 92) (ls' := [some (.ref a), some (.int x), some (.int y), some (.int w), some (.int (Int32.ofNat D.length)), none, none]) (st' := [.int ((7 : Int32)), .int ((0 : Int32)), .int x, .ref a]) rfl ?_
  refine Er_sta1 (av := [.int x, .int ((0 : Int32)), .int ((7 : Int32))]) (rest := [.ref a]) rfl rfl ⟨Nat.le_of_ble_eq_true rfl, Nat.le_of_ble_eq_true rfl⟩ rfl rfl (s_Ref_in0 hi) ?_
  refine Er_run 1 (pc' := bif !decide (((0 : Int32)) = 0) then 102 else 98) (ls' := [some (.ref a), some (.int x), some (.int y), some (.int w), some (.int (Int32.ofNat D.length)), none, none]) (st' := [.ref a]) rfl ?_
  refine Er_pc (t := 98) (show (bif !decide (((0 : Int32)) = 0) then 102 else 98) = 98 from by rw [show (!decide (((0 : Int32)) = 0)) = false from by decide]; rfl) ?_
  refine Er_run 2 (pc' := 122) (ls' := [some (.ref a), some (.int x), some (.int y), some (.int w), some (.int (Int32.ofNat D.length)), none, none]) (st' := [.int ((1 : Int32)), .ref a]) rfl ?_
  refine Er_putI rfl m0.1 ?_
  have m1 : mrO (setI h a 18 ((1 : Int32))) a := mrO_setI m0
  have th1 : gI (setI h a 18 ((1 : Int32))) a 18 = (1 : Int32) := gI_eq
  generalize (setI h a 18 ((1 : Int32))) = h1 at m1 th1 ⊢
  refine Er_run 1 (pc' := 126) (ls' := [some (.ref a), some (.int x), some (.int y), some (.int w), some (.int (Int32.ofNat D.length)), none, none]) (st' := [.ref a]) rfl ?_
  refine Er_getI (v := (1 : Int32)) rfl m1.1 th1 ?_
  refine Er_run 1 (pc' := bif decide (((1 : Int32)) ≤ 0) then 134 else 132) (ls' := [some (.ref a), some (.int x), some (.int y), some (.int w), some (.int (Int32.ofNat D.length)), none, none]) (st' := []) rfl ?_
  refine Er_pc (t := 132) (show (bif decide (((1 : Int32)) ≤ 0) then 134 else 132) = 132 from by rw [show (decide (((1 : Int32)) ≤ 0)) = false from by decide]; rfl) ?_
  refine Er_run 1 (pc' := 133) (ls' := [some (.ref a), some (.int x), some (.int y), some (.int w), some (.int (Int32.ofNat D.length)), none, none]) (st' := [.int ((0 : Int32))]) rfl ?_
  exact Er_fin rfl rfl ⟨rfl, rfl⟩
theorem rq_2 (m0 : mrO h a) (th0 : gI h a 18 = gI h a 18) (hj : j < 8) : Ev 171 87 [some (.ref a), some (.int (Int32.ofNat j)), some (.int y), some (.int ((0 : Int32))), some (.int (Int32.ofNat D.length)), none, none] [] h (fun r1 h1 => r1 = .inl (some (.int ((0 : Int32)))) ∧ h1 = (setI h a 18 2)) := by
  refine Er_run 4 (pc' := 92) (ls' := [some (.ref a), some (.int (Int32.ofNat j)), some (.int y), some (.int ((0 : Int32))), some (.int (Int32.ofNat D.length)), none, none]) (st' := [.int ((7 : Int32)), .int ((0 : Int32)), .int (Int32.ofNat j), .ref a]) rfl ?_
  refine Er_sta1 (av := [.int (Int32.ofNat j), .int ((0 : Int32)), .int ((7 : Int32))]) (rest := [.ref a]) rfl rfl ⟨Nat.le_of_ble_eq_true rfl, Nat.le_of_ble_eq_true rfl⟩ rfl rfl (s_Ref_in1 (jm_in_n (k := 7) (by omega) (by omega))) ?_
  refine Er_run 1 (pc' := bif !decide (((1 : Int32)) = 0) then 102 else 98) (ls' := [some (.ref a), some (.int (Int32.ofNat j)), some (.int y), some (.int ((0 : Int32))), some (.int (Int32.ofNat D.length)), none, none]) (st' := [.ref a]) rfl ?_
  refine Er_pc (t := 102) (show (bif !decide (((1 : Int32)) = 0) then 102 else 98) = 102 from by rw [show (!decide (((1 : Int32)) = 0)) = true from by decide]; rfl) ?_
  refine Er_run 2 (pc' := bif !decide (((0 : Int32)) = 0) then 110 else 106) (ls' := [some (.ref a), some (.int (Int32.ofNat j)), some (.int y), some (.int ((0 : Int32))), some (.int (Int32.ofNat D.length)), none, none]) (st' := [.ref a]) rfl ?_
  refine Er_pc (t := 106) (show (bif !decide (((0 : Int32)) = 0) then 110 else 106) = 106 from by rw [show (!decide (((0 : Int32)) = 0)) = false from by decide]; rfl) ?_
  refine Er_run 2 (pc' := 122) (ls' := [some (.ref a), some (.int (Int32.ofNat j)), some (.int y), some (.int ((0 : Int32))), some (.int (Int32.ofNat D.length)), none, none]) (st' := [.int ((2 : Int32)), .ref a]) rfl ?_
  refine Er_putI rfl m0.1 ?_
  have m1 : mrO (setI h a 18 ((2 : Int32))) a := mrO_setI m0
  have th1 : gI (setI h a 18 ((2 : Int32))) a 18 = (2 : Int32) := gI_eq
  generalize (setI h a 18 ((2 : Int32))) = h1 at m1 th1 ⊢
  refine Er_run 1 (pc' := 126) (ls' := [some (.ref a), some (.int (Int32.ofNat j)), some (.int y), some (.int ((0 : Int32))), some (.int (Int32.ofNat D.length)), none, none]) (st' := [.ref a]) rfl ?_
  refine Er_getI (v := (2 : Int32)) rfl m1.1 th1 ?_
  refine Er_run 1 (pc' := bif decide (((2 : Int32)) ≤ 0) then 134 else 132) (ls' := [some (.ref a), some (.int (Int32.ofNat j)), some (.int y), some (.int ((0 : Int32))), some (.int (Int32.ofNat D.length)), none, none]) (st' := []) rfl ?_
  refine Er_pc (t := 132) (show (bif decide (((2 : Int32)) ≤ 0) then 134 else 132) = 132 from by rw [show (decide (((2 : Int32)) ≤ 0)) = false from by decide]; rfl) ?_
  refine Er_run 1 (pc' := 133) (ls' := [some (.ref a), some (.int (Int32.ofNat j)), some (.int y), some (.int ((0 : Int32))), some (.int (Int32.ofNat D.length)), none, none]) (st' := [.int ((0 : Int32))]) rfl ?_
  exact Er_fin rfl rfl ⟨rfl, rfl⟩
theorem rq_3 (m0 : mrO h a) (th0 : gI h a 18 = gI h a 18) (hj : j < 8) (on0 : gI h a 19 = 1) : Ev 171 87 [some (.ref a), some (.int (Int32.ofNat j)), some (.int y), some (.int ((1 : Int32))), some (.int (Int32.ofNat D.length)), none, none] [] h (fun r1 h1 => r1 = .inl (some (.int ((0 : Int32)))) ∧ h1 = (setI h a 18 3)) := by
  refine Er_run 4 (pc' := 92) (ls' := [some (.ref a), some (.int (Int32.ofNat j)), some (.int y), some (.int ((1 : Int32))), some (.int (Int32.ofNat D.length)), none, none]) (st' := [.int ((7 : Int32)), .int ((0 : Int32)), .int (Int32.ofNat j), .ref a]) rfl ?_
  refine Er_sta1 (av := [.int (Int32.ofNat j), .int ((0 : Int32)), .int ((7 : Int32))]) (rest := [.ref a]) rfl rfl ⟨Nat.le_of_ble_eq_true rfl, Nat.le_of_ble_eq_true rfl⟩ rfl rfl (s_Ref_in1 (jm_in_n (k := 7) (by omega) (by omega))) ?_
  refine Er_run 1 (pc' := bif !decide (((1 : Int32)) = 0) then 102 else 98) (ls' := [some (.ref a), some (.int (Int32.ofNat j)), some (.int y), some (.int ((1 : Int32))), some (.int (Int32.ofNat D.length)), none, none]) (st' := [.ref a]) rfl ?_
  refine Er_pc (t := 102) (show (bif !decide (((1 : Int32)) = 0) then 102 else 98) = 102 from by rw [show (!decide (((1 : Int32)) = 0)) = true from by decide]; rfl) ?_
  refine Er_run 2 (pc' := bif !decide (((1 : Int32)) = 0) then 110 else 106) (ls' := [some (.ref a), some (.int (Int32.ofNat j)), some (.int y), some (.int ((1 : Int32))), some (.int (Int32.ofNat D.length)), none, none]) (st' := [.ref a]) rfl ?_
  refine Er_pc (t := 110) (show (bif !decide (((1 : Int32)) = 0) then 110 else 106) = 110 from by rw [show (!decide (((1 : Int32)) = 0)) = true from by decide]; rfl) ?_
  refine Er_run 1 (pc' := 111) (ls' := [some (.ref a), some (.int (Int32.ofNat j)), some (.int y), some (.int ((1 : Int32))), some (.int (Int32.ofNat D.length)), none, none]) (st' := [.ref a, .ref a]) rfl ?_
  refine Er_getI (v := (1 : Int32)) rfl m0.1 on0 ?_
  refine Er_run 1 (pc' := bif decide (((1 : Int32)) = 0) then 121 else 117) (ls' := [some (.ref a), some (.int (Int32.ofNat j)), some (.int y), some (.int ((1 : Int32))), some (.int (Int32.ofNat D.length)), none, none]) (st' := [.ref a]) rfl ?_
  refine Er_pc (t := 117) (show (bif decide (((1 : Int32)) = 0) then 121 else 117) = 117 from by rw [show (decide (((1 : Int32)) = 0)) = false from by decide]; rfl) ?_
  refine Er_run 2 (pc' := 122) (ls' := [some (.ref a), some (.int (Int32.ofNat j)), some (.int y), some (.int ((1 : Int32))), some (.int (Int32.ofNat D.length)), none, none]) (st' := [.int ((3 : Int32)), .ref a]) rfl ?_
  refine Er_putI rfl m0.1 ?_
  have m1 : mrO (setI h a 18 ((3 : Int32))) a := mrO_setI m0
  have th1 : gI (setI h a 18 ((3 : Int32))) a 18 = (3 : Int32) := gI_eq
  have on1 : gI (setI h a 18 ((3 : Int32))) a 19 = (1 : Int32) := by rw [gI_ne (by omega)]; exact on0
  generalize (setI h a 18 ((3 : Int32))) = h1 at m1 th1 on1 ⊢
  refine Er_run 1 (pc' := 126) (ls' := [some (.ref a), some (.int (Int32.ofNat j)), some (.int y), some (.int ((1 : Int32))), some (.int (Int32.ofNat D.length)), none, none]) (st' := [.ref a]) rfl ?_
  refine Er_getI (v := (3 : Int32)) rfl m1.1 th1 ?_
  refine Er_run 1 (pc' := bif decide (((3 : Int32)) ≤ 0) then 134 else 132) (ls' := [some (.ref a), some (.int (Int32.ofNat j)), some (.int y), some (.int ((1 : Int32))), some (.int (Int32.ofNat D.length)), none, none]) (st' := []) rfl ?_
  refine Er_pc (t := 132) (show (bif decide (((3 : Int32)) ≤ 0) then 134 else 132) = 132 from by rw [show (decide (((3 : Int32)) ≤ 0)) = false from by decide]; rfl) ?_
  refine Er_run 1 (pc' := 133) (ls' := [some (.ref a), some (.int (Int32.ofNat j)), some (.int y), some (.int ((1 : Int32))), some (.int (Int32.ofNat D.length)), none, none]) (st' := [.int ((0 : Int32))]) rfl ?_
  exact Er_fin rfl rfl ⟨rfl, rfl⟩
theorem rq_203 {h0 g0 : sm_H} (hj : j < 8) (hi : i < 3) (hD : D.length ≤ 40) (hg : FrL [a, a + 4] [a + 7] h0 g0 ∧ mrO g0 a ∧ (∀ k d, D[k]? = some d → gI g0 (a + 4) (40 * (3 * j + i) + k) = d.1) ∧ (∀ u, (u < 40 * (3 * j + i) ∨ 40 * (3 * j + i) + D.length ≤ u) → gI g0 (a + 4) u = gI h0 (a + 4) u) ∧ (∀ k d, D[k]? = some d → gL g0 (a + 7) (40 * (3 * j + i) + k) = d.2) ∧ (∀ u, (u < 40 * (3 * j + i) ∨ 40 * (3 * j + i) + D.length ≤ u) → gL g0 (a + 7) u = gL h0 (a + 7) u) ∧ gI g0 a = gI h0 a) : Ev 171 203 [some (.ref a), some (.int (Int32.ofNat j)), some (.int (Int32.ofNat i)), some (.int ((1 : Int32))), some (.int (Int32.ofNat (3 * j + i))), some (.int (Int32.ofNat D.length)), some (.int (Int32.ofNat D.length))] [] g0 (fun r1 h1 => r1 = .inl (some (.int (Int32.ofNat D.length))) ∧ ∃ g, (FrL [a, a + 4] [a + 7] h0 g ∧ mrO g a ∧ (∀ k d, D[k]? = some d → gI g (a + 4) (40 * (3 * j + i) + k) = d.1) ∧ (∀ u, (u < 40 * (3 * j + i) ∨ 40 * (3 * j + i) + D.length ≤ u) → gI g (a + 4) u = gI h0 (a + 4) u) ∧ (∀ k d, D[k]? = some d → gL g (a + 7) (40 * (3 * j + i) + k) = d.2) ∧ (∀ u, (u < 40 * (3 * j + i) ∨ 40 * (3 * j + i) + D.length ≤ u) → gL g (a + 7) u = gL h0 (a + 7) u) ∧ gI g a = gI h0 a) ∧ h1 = setI (setI g (a + 5) (3 * j + i) (Int32.ofNat D.length)) a 15 0) := by
  have m0 := hg.2.1
  refine Er_run 1 (pc' := 204) (ls' := [some (.ref a), some (.int (Int32.ofNat j)), some (.int (Int32.ofNat i)), some (.int ((1 : Int32))), some (.int (Int32.ofNat (3 * j + i))), some (.int (Int32.ofNat D.length)), some (.int (Int32.ofNat D.length))]) (st' := [.ref a]) rfl ?_
  refine Er_getR (x := a + 5) rfl m0.1 (m0.2 (4, 5, 0, 24) (by decide)).1 ?_
  refine Er_run 2 (pc' := 211) (ls' := [some (.ref a), some (.int (Int32.ofNat j)), some (.int (Int32.ofNat i)), some (.int ((1 : Int32))), some (.int (Int32.ofNat (3 * j + i))), some (.int (Int32.ofNat D.length)), some (.int (Int32.ofNat D.length))]) (st' := [.int (Int32.ofNat D.length), .int (Int32.ofNat (3 * j + i)), .ref (a + 5)]) rfl ?_
  refine Er_iast rfl (m0.2 (4, 5, 0, 24) (by decide)).2.1 (mr_in (i := (3 * j + i)) (k := 24) rfl (by omega) (by decide) (m0.2 (4, 5, 0, 24) (by decide)).2.2) ?_
  rw [mr_cn (x := Int32.ofNat (3 * j + i)) (i := 3 * j + i) rfl (by omega)]
  refine Er_run 2 (pc' := 214) (ls' := [some (.ref a), some (.int (Int32.ofNat j)), some (.int (Int32.ofNat i)), some (.int ((1 : Int32))), some (.int (Int32.ofNat (3 * j + i))), some (.int (Int32.ofNat D.length)), some (.int (Int32.ofNat D.length))]) (st' := [.int ((0 : Int32)), .ref a]) rfl ?_
  refine Er_putI rfl m0.1 ?_
  refine Er_run 1 (pc' := 219) (ls' := [some (.ref a), some (.int (Int32.ofNat j)), some (.int (Int32.ofNat i)), some (.int ((1 : Int32))), some (.int (Int32.ofNat (3 * j + i))), some (.int (Int32.ofNat D.length)), some (.int (Int32.ofNat D.length))]) (st' := [.int (Int32.ofNat D.length)]) rfl ?_
  exact Er_fin rfl rfl ⟨rfl, g0, hg, rfl⟩
theorem rq_0 (m0 : mrO h a) (nw0 : gI h a 15 = Int32.ofNat D.length) (dd0 : ∀ k d, D[k]? = some d → gI h (a + 6) k = d.1) (da0 : ∀ k d, D[k]? = some d → gL h (a + 8) k = d.2) (hD : D.length ≤ 40) (th0 : gI h a 18 = gI h a 18) (hj : j < 8) (hi : i < 3) (on0 : gI h a 19 = 0) : Ev 171 87 [some (.ref a), some (.int (Int32.ofNat j)), some (.int (Int32.ofNat i)), some (.int ((1 : Int32))), some (.int (Int32.ofNat D.length)), none, none] [] h (fun r1 h1 => r1 = .inl (some (.int (Int32.ofNat D.length))) ∧ ∃ g, (FrL [a, a + 4] [a + 7] (setI h a 18 0) g ∧ mrO g a ∧ (∀ k d, D[k]? = some d → gI g (a + 4) (40 * (3 * j + i) + k) = d.1) ∧ (∀ u, (u < 40 * (3 * j + i) ∨ 40 * (3 * j + i) + D.length ≤ u) → gI g (a + 4) u = gI (setI h a 18 0) (a + 4) u) ∧ (∀ k d, D[k]? = some d → gL g (a + 7) (40 * (3 * j + i) + k) = d.2) ∧ (∀ u, (u < 40 * (3 * j + i) ∨ 40 * (3 * j + i) + D.length ≤ u) → gL g (a + 7) u = gL (setI h a 18 0) (a + 7) u) ∧ gI g a = gI (setI h a 18 0) a) ∧ h1 = setI (setI g (a + 5) (3 * j + i) (Int32.ofNat D.length)) a 15 0) := by
  refine Er_run 4 (pc' := 92) (ls' := [some (.ref a), some (.int (Int32.ofNat j)), some (.int (Int32.ofNat i)), some (.int ((1 : Int32))), some (.int (Int32.ofNat D.length)), none, none]) (st' := [.int ((7 : Int32)), .int ((0 : Int32)), .int (Int32.ofNat j), .ref a]) rfl ?_
  refine Er_sta1 (av := [.int (Int32.ofNat j), .int ((0 : Int32)), .int ((7 : Int32))]) (rest := [.ref a]) rfl rfl ⟨Nat.le_of_ble_eq_true rfl, Nat.le_of_ble_eq_true rfl⟩ rfl rfl (s_Ref_in1 (jm_in_n (k := 7) (by omega) (by omega))) ?_
  refine Er_run 1 (pc' := bif !decide (((1 : Int32)) = 0) then 102 else 98) (ls' := [some (.ref a), some (.int (Int32.ofNat j)), some (.int (Int32.ofNat i)), some (.int ((1 : Int32))), some (.int (Int32.ofNat D.length)), none, none]) (st' := [.ref a]) rfl ?_
  refine Er_pc (t := 102) (show (bif !decide (((1 : Int32)) = 0) then 102 else 98) = 102 from by rw [show (!decide (((1 : Int32)) = 0)) = true from by decide]; rfl) ?_
  refine Er_run 2 (pc' := bif !decide (((1 : Int32)) = 0) then 110 else 106) (ls' := [some (.ref a), some (.int (Int32.ofNat j)), some (.int (Int32.ofNat i)), some (.int ((1 : Int32))), some (.int (Int32.ofNat D.length)), none, none]) (st' := [.ref a]) rfl ?_
  refine Er_pc (t := 110) (show (bif !decide (((1 : Int32)) = 0) then 110 else 106) = 110 from by rw [show (!decide (((1 : Int32)) = 0)) = true from by decide]; rfl) ?_
  refine Er_run 1 (pc' := 111) (ls' := [some (.ref a), some (.int (Int32.ofNat j)), some (.int (Int32.ofNat i)), some (.int ((1 : Int32))), some (.int (Int32.ofNat D.length)), none, none]) (st' := [.ref a, .ref a]) rfl ?_
  refine Er_getI (v := (0 : Int32)) rfl m0.1 on0 ?_
  refine Er_run 1 (pc' := bif decide (((0 : Int32)) = 0) then 121 else 117) (ls' := [some (.ref a), some (.int (Int32.ofNat j)), some (.int (Int32.ofNat i)), some (.int ((1 : Int32))), some (.int (Int32.ofNat D.length)), none, none]) (st' := [.ref a]) rfl ?_
  refine Er_pc (t := 121) (show (bif decide (((0 : Int32)) = 0) then 121 else 117) = 121 from by rw [show (decide (((0 : Int32)) = 0)) = true from by decide]; rfl) ?_
  refine Er_run 1 (pc' := 122) (ls' := [some (.ref a), some (.int (Int32.ofNat j)), some (.int (Int32.ofNat i)), some (.int ((1 : Int32))), some (.int (Int32.ofNat D.length)), none, none]) (st' := [.int ((0 : Int32)), .ref a]) rfl ?_
  refine Er_putI rfl m0.1 ?_
  have m1 : mrO (setI h a 18 ((0 : Int32))) a := mrO_setI m0
  have th1 : gI (setI h a 18 ((0 : Int32))) a 18 = (0 : Int32) := gI_eq
  have nw1 : gI (setI h a 18 ((0 : Int32))) a 15 = Int32.ofNat D.length := by rw [gI_ne (by omega)]; exact nw0
  have dd1 : ∀ k d, D[k]? = some d → gI (setI h a 18 ((0 : Int32))) (a + 6) k = d.1 := by rw [show gI (setI h a 18 ((0 : Int32))) (a + 6) = gI h (a + 6) from mr_ncI (by omega)]; exact dd0
  have da1 : ∀ k d, D[k]? = some d → gL (setI h a 18 ((0 : Int32))) (a + 8) k = d.2 := da0
  have on1 : gI (setI h a 18 ((0 : Int32))) a 19 = (0 : Int32) := by rw [gI_ne (by omega)]; exact on0
  generalize (setI h a 18 ((0 : Int32))) = h1 at m1 th1 nw1 dd1 da1 on1 ⊢
  refine Er_run 1 (pc' := 126) (ls' := [some (.ref a), some (.int (Int32.ofNat j)), some (.int (Int32.ofNat i)), some (.int ((1 : Int32))), some (.int (Int32.ofNat D.length)), none, none]) (st' := [.ref a]) rfl ?_
  refine Er_getI (v := (0 : Int32)) rfl m1.1 th1 ?_
  refine Er_run 1 (pc' := bif decide (((0 : Int32)) ≤ 0) then 134 else 132) (ls' := [some (.ref a), some (.int (Int32.ofNat j)), some (.int (Int32.ofNat i)), some (.int ((1 : Int32))), some (.int (Int32.ofNat D.length)), none, none]) (st' := []) rfl ?_
  refine Er_pc (t := 134) (show (bif decide (((0 : Int32)) ≤ 0) then 134 else 132) = 134 from by rw [show (decide (((0 : Int32)) ≤ 0)) = true from by decide]; rfl) ?_
  refine Er_run 7 (pc' := 142) (ls' := [some (.ref a), some (.int (Int32.ofNat j)), some (.int (Int32.ofNat i)), some (.int ((1 : Int32))), some (.int ((((3 : Int32)) * (Int32.ofNat j)) + (Int32.ofNat i))), none, none]) (st' := [.ref a]) rfl ?_
  refine Er_getI (v := Int32.ofNat D.length) rfl m1.1 nw1 ?_
  refine Er_run 3 (pc' := 150) (ls' := [some (.ref a), some (.int (Int32.ofNat j)), some (.int (Int32.ofNat i)), some (.int ((1 : Int32))), some (.int ((((3 : Int32)) * (Int32.ofNat j)) + (Int32.ofNat i))), some (.int (Int32.ofNat D.length)), some (.int ((0 : Int32)))]) (st' := []) rfl ?_
  rw [mr_3jk (j := j) (k := i)]
  exact l_prog2 (P := 3 * j + i) (w := 1) (h0 := h1) (by omega) hD (fun g hg => rq_203 hj hi hD hg) D.length 0 h1 (by omega) m1 (FrL.refl _) rfl dd1 da1 ⟨fun k d hk _ => absurd hk (Nat.not_lt_zero k), fun _ _ => rfl⟩ ⟨fun k d hk _ => absurd hk (Nat.not_lt_zero k), fun _ _ => rfl⟩
theorem mr_rem : ∀ w, w < 50 → Int32.ofNat w - Int32.ofNat w / 10 * 10 = Int32.ofNat (w % 10) := by decide
theorem mr_cix : ∀ w, w < 50 → 20 ≤ w → (3 : Int32) * Int32.ofNat (w % 10) + Int32.ofNat w / 10 - 2 = Int32.ofNat (3 * (w % 10) + w / 10 - 2) := by decide

theorem s_Ref_countX (m0 : mrO h a) (th0 : gI h a 18 = gI h a 18) (h1 : jm_in x 0 3 = false) (h2 : jm_in x 10 17 = false) (h3 : jm_in x 20 27 = false) (h4 : jm_in x 30 37 = false) (h5 : jm_in x 40 47 = false) : Run 181 [.ref a, .int x] h (.inl (some (.int ((0 : Int32))))) (setI h a 18 1) := by
  refine ⟨Nat.le_of_ble_eq_true rfl, ?_⟩
  show Ev 181 0 [some (.ref a), some (.int x), none, none, none] [] h _
  refine Er_run 2 (pc' := 3) (ls' := [some (.ref a), some (.int x), none, none, none]) (st' := [.int ((10 : Int32)), .int x]) rfl ?_
  refine Er_irem rfl (by decide) ?_
  refine Er_run 5 (pc' := 9) (ls' := [some (.ref a), some (.int x), some (.int (x - x / ((10 : Int32)) * ((10 : Int32)))), none, none]) (st' := [.int ((3 : Int32)), .int ((0 : Int32)), .int x, .ref a]) rfl ?_
  refine Er_sta1 (av := [.int x, .int ((0 : Int32)), .int ((3 : Int32))]) (rest := [.ref a]) rfl rfl ⟨Nat.le_of_ble_eq_true rfl, Nat.le_of_ble_eq_true rfl⟩ rfl rfl (s_Ref_in0 h1) ?_
  refine Er_run 1 (pc' := bif !decide (((0 : Int32)) = 0) then 59 else 15) (ls' := [some (.ref a), some (.int x), some (.int (x - x / ((10 : Int32)) * ((10 : Int32)))), none, none]) (st' := [.ref a]) rfl ?_
  refine Er_pc (t := 15) (show (bif !decide (((0 : Int32)) = 0) then 59 else 15) = 15 from by rw [show (!decide (((0 : Int32)) = 0)) = false from by decide]; rfl) ?_
  refine Er_run 3 (pc' := 20) (ls' := [some (.ref a), some (.int x), some (.int (x - x / ((10 : Int32)) * ((10 : Int32)))), none, none]) (st' := [.int ((17 : Int32)), .int ((10 : Int32)), .int x, .ref a]) rfl ?_
  refine Er_sta1 (av := [.int x, .int ((10 : Int32)), .int ((17 : Int32))]) (rest := [.ref a]) rfl rfl ⟨Nat.le_of_ble_eq_true rfl, Nat.le_of_ble_eq_true rfl⟩ rfl rfl (s_Ref_in0 h2) ?_
  refine Er_run 1 (pc' := bif !decide (((0 : Int32)) = 0) then 59 else 26) (ls' := [some (.ref a), some (.int x), some (.int (x - x / ((10 : Int32)) * ((10 : Int32)))), none, none]) (st' := [.ref a]) rfl ?_
  refine Er_pc (t := 26) (show (bif !decide (((0 : Int32)) = 0) then 59 else 26) = 26 from by rw [show (!decide (((0 : Int32)) = 0)) = false from by decide]; rfl) ?_
  refine Er_run 3 (pc' := 31) (ls' := [some (.ref a), some (.int x), some (.int (x - x / ((10 : Int32)) * ((10 : Int32)))), none, none]) (st' := [.int ((27 : Int32)), .int ((20 : Int32)), .int x, .ref a]) rfl ?_
  refine Er_sta1 (av := [.int x, .int ((20 : Int32)), .int ((27 : Int32))]) (rest := [.ref a]) rfl rfl ⟨Nat.le_of_ble_eq_true rfl, Nat.le_of_ble_eq_true rfl⟩ rfl rfl (s_Ref_in0 h3) ?_
  refine Er_run 1 (pc' := bif !decide (((0 : Int32)) = 0) then 59 else 37) (ls' := [some (.ref a), some (.int x), some (.int (x - x / ((10 : Int32)) * ((10 : Int32)))), none, none]) (st' := [.ref a]) rfl ?_
  refine Er_pc (t := 37) (show (bif !decide (((0 : Int32)) = 0) then 59 else 37) = 37 from by rw [show (!decide (((0 : Int32)) = 0)) = false from by decide]; rfl) ?_
  refine Er_run 3 (pc' := 42) (ls' := [some (.ref a), some (.int x), some (.int (x - x / ((10 : Int32)) * ((10 : Int32)))), none, none]) (st' := [.int ((37 : Int32)), .int ((30 : Int32)), .int x, .ref a]) rfl ?_
  refine Er_sta1 (av := [.int x, .int ((30 : Int32)), .int ((37 : Int32))]) (rest := [.ref a]) rfl rfl ⟨Nat.le_of_ble_eq_true rfl, Nat.le_of_ble_eq_true rfl⟩ rfl rfl (s_Ref_in0 h4) ?_
  refine Er_run 1 (pc' := bif !decide (((0 : Int32)) = 0) then 59 else 48) (ls' := [some (.ref a), some (.int x), some (.int (x - x / ((10 : Int32)) * ((10 : Int32)))), none, none]) (st' := [.ref a]) rfl ?_
  refine Er_pc (t := 48) (show (bif !decide (((0 : Int32)) = 0) then 59 else 48) = 48 from by rw [show (!decide (((0 : Int32)) = 0)) = false from by decide]; rfl) ?_
  refine Er_run 3 (pc' := 53) (ls' := [some (.ref a), some (.int x), some (.int (x - x / ((10 : Int32)) * ((10 : Int32)))), none, none]) (st' := [.int ((47 : Int32)), .int ((40 : Int32)), .int x, .ref a]) rfl ?_
  refine Er_sta1 (av := [.int x, .int ((40 : Int32)), .int ((47 : Int32))]) (rest := [.ref a]) rfl rfl ⟨Nat.le_of_ble_eq_true rfl, Nat.le_of_ble_eq_true rfl⟩ rfl rfl (s_Ref_in0 h5) ?_
  refine Er_run 1 (pc' := bif decide (((0 : Int32)) = 0) then 63 else 59) (ls' := [some (.ref a), some (.int x), some (.int (x - x / ((10 : Int32)) * ((10 : Int32)))), none, none]) (st' := [.ref a]) rfl ?_
  refine Er_pc (t := 63) (show (bif decide (((0 : Int32)) = 0) then 63 else 59) = 63 from by rw [show (decide (((0 : Int32)) = 0)) = true from by decide]; rfl) ?_
  refine Er_run 1 (pc' := 64) (ls' := [some (.ref a), some (.int x), some (.int (x - x / ((10 : Int32)) * ((10 : Int32)))), none, none]) (st' := [.int ((1 : Int32)), .ref a]) rfl ?_
  refine Er_putI rfl m0.1 ?_
  have m1 : mrO (setI h a 18 ((1 : Int32))) a := mrO_setI m0
  have th1 : gI (setI h a 18 ((1 : Int32))) a 18 = (1 : Int32) := gI_eq
  generalize (setI h a 18 ((1 : Int32))) = h1 at m1 th1 ⊢
  refine Er_run 1 (pc' := 68) (ls' := [some (.ref a), some (.int x), some (.int (x - x / ((10 : Int32)) * ((10 : Int32)))), none, none]) (st' := [.ref a]) rfl ?_
  refine Er_getI (v := (1 : Int32)) rfl m1.1 th1 ?_
  refine Er_run 1 (pc' := bif decide (((1 : Int32)) ≤ 0) then 76 else 74) (ls' := [some (.ref a), some (.int x), some (.int (x - x / ((10 : Int32)) * ((10 : Int32)))), none, none]) (st' := []) rfl ?_
  refine Er_pc (t := 74) (show (bif decide (((1 : Int32)) ≤ 0) then 76 else 74) = 74 from by rw [show (decide (((1 : Int32)) ≤ 0)) = false from by decide]; rfl) ?_
  refine Er_run 1 (pc' := 75) (ls' := [some (.ref a), some (.int x), some (.int (x - x / ((10 : Int32)) * ((10 : Int32)))), none, none]) (st' := [.int ((0 : Int32))]) rfl ?_
  exact Er_fin rfl rfl ⟨rfl, rfl⟩
theorem s_Ref_countM20 (m0 : mrO h a) (th0 : gI h a 18 = gI h a 18) (mn0 : gI h (a + 5) (3 * (k % 10) + k / 10 - 2) = t) (hk0 : 20 ≤ k) (hk : k < 28) (h1 : jm_in (Int32.ofNat k) 0 3 = false) (h2 : jm_in (Int32.ofNat k) 10 17 = false) (h3 : jm_in (Int32.ofNat k) 20 27 = true) : Run 181 [.ref a, .int (Int32.ofNat k)] h (.inl (some (.int t))) (setI h a 18 0) := by
  refine ⟨Nat.le_of_ble_eq_true rfl, ?_⟩
  show Ev 181 0 [some (.ref a), some (.int (Int32.ofNat k)), none, none, none] [] h _
  refine Er_run 2 (pc' := 3) (ls' := [some (.ref a), some (.int (Int32.ofNat k)), none, none, none]) (st' := [.int ((10 : Int32)), .int (Int32.ofNat k)]) rfl ?_
  refine Er_irem rfl (by decide) ?_
  refine Er_run 5 (pc' := 9) (ls' := [some (.ref a), some (.int (Int32.ofNat k)), some (.int ((Int32.ofNat k) - (Int32.ofNat k) / ((10 : Int32)) * ((10 : Int32)))), none, none]) (st' := [.int ((3 : Int32)), .int ((0 : Int32)), .int (Int32.ofNat k), .ref a]) rfl ?_
  refine Er_sta1 (av := [.int (Int32.ofNat k), .int ((0 : Int32)), .int ((3 : Int32))]) (rest := [.ref a]) rfl rfl ⟨Nat.le_of_ble_eq_true rfl, Nat.le_of_ble_eq_true rfl⟩ rfl rfl (s_Ref_in0 h1) ?_
  refine Er_run 1 (pc' := bif !decide (((0 : Int32)) = 0) then 59 else 15) (ls' := [some (.ref a), some (.int (Int32.ofNat k)), some (.int ((Int32.ofNat k) - (Int32.ofNat k) / ((10 : Int32)) * ((10 : Int32)))), none, none]) (st' := [.ref a]) rfl ?_
  refine Er_pc (t := 15) (show (bif !decide (((0 : Int32)) = 0) then 59 else 15) = 15 from by rw [show (!decide (((0 : Int32)) = 0)) = false from by decide]; rfl) ?_
  refine Er_run 3 (pc' := 20) (ls' := [some (.ref a), some (.int (Int32.ofNat k)), some (.int ((Int32.ofNat k) - (Int32.ofNat k) / ((10 : Int32)) * ((10 : Int32)))), none, none]) (st' := [.int ((17 : Int32)), .int ((10 : Int32)), .int (Int32.ofNat k), .ref a]) rfl ?_
  refine Er_sta1 (av := [.int (Int32.ofNat k), .int ((10 : Int32)), .int ((17 : Int32))]) (rest := [.ref a]) rfl rfl ⟨Nat.le_of_ble_eq_true rfl, Nat.le_of_ble_eq_true rfl⟩ rfl rfl (s_Ref_in0 h2) ?_
  refine Er_run 1 (pc' := bif !decide (((0 : Int32)) = 0) then 59 else 26) (ls' := [some (.ref a), some (.int (Int32.ofNat k)), some (.int ((Int32.ofNat k) - (Int32.ofNat k) / ((10 : Int32)) * ((10 : Int32)))), none, none]) (st' := [.ref a]) rfl ?_
  refine Er_pc (t := 26) (show (bif !decide (((0 : Int32)) = 0) then 59 else 26) = 26 from by rw [show (!decide (((0 : Int32)) = 0)) = false from by decide]; rfl) ?_
  refine Er_run 3 (pc' := 31) (ls' := [some (.ref a), some (.int (Int32.ofNat k)), some (.int ((Int32.ofNat k) - (Int32.ofNat k) / ((10 : Int32)) * ((10 : Int32)))), none, none]) (st' := [.int ((27 : Int32)), .int ((20 : Int32)), .int (Int32.ofNat k), .ref a]) rfl ?_
  refine Er_sta1 (av := [.int (Int32.ofNat k), .int ((20 : Int32)), .int ((27 : Int32))]) (rest := [.ref a]) rfl rfl ⟨Nat.le_of_ble_eq_true rfl, Nat.le_of_ble_eq_true rfl⟩ rfl rfl (s_Ref_in1 h3) ?_
  refine Er_run 1 (pc' := bif !decide (((1 : Int32)) = 0) then 59 else 37) (ls' := [some (.ref a), some (.int (Int32.ofNat k)), some (.int ((Int32.ofNat k) - (Int32.ofNat k) / ((10 : Int32)) * ((10 : Int32)))), none, none]) (st' := [.ref a]) rfl ?_
  refine Er_pc (t := 59) (show (bif !decide (((1 : Int32)) = 0) then 59 else 37) = 59 from by rw [show (!decide (((1 : Int32)) = 0)) = true from by decide]; rfl) ?_
  refine Er_run 2 (pc' := 64) (ls' := [some (.ref a), some (.int (Int32.ofNat k)), some (.int ((Int32.ofNat k) - (Int32.ofNat k) / ((10 : Int32)) * ((10 : Int32)))), none, none]) (st' := [.int ((0 : Int32)), .ref a]) rfl ?_
  refine Er_putI rfl m0.1 ?_
  have m1 : mrO (setI h a 18 ((0 : Int32))) a := mrO_setI m0
  have th1 : gI (setI h a 18 ((0 : Int32))) a 18 = (0 : Int32) := gI_eq
  have mn1 : gI (setI h a 18 ((0 : Int32))) (a + 5) ((3 * (k % 10) + k / 10 - 2)) = t := by rw [show gI (setI h a 18 ((0 : Int32))) (a + 5) = gI h (a + 5) from mr_ncI (by omega)]; exact mn0
  generalize (setI h a 18 ((0 : Int32))) = h1 at m1 th1 mn1 ⊢
  refine Er_run 1 (pc' := 68) (ls' := [some (.ref a), some (.int (Int32.ofNat k)), some (.int ((Int32.ofNat k) - (Int32.ofNat k) / ((10 : Int32)) * ((10 : Int32)))), none, none]) (st' := [.ref a]) rfl ?_
  refine Er_getI (v := (0 : Int32)) rfl m1.1 th1 ?_
  refine Er_run 1 (pc' := bif decide (((0 : Int32)) ≤ 0) then 76 else 74) (ls' := [some (.ref a), some (.int (Int32.ofNat k)), some (.int ((Int32.ofNat k) - (Int32.ofNat k) / ((10 : Int32)) * ((10 : Int32)))), none, none]) (st' := []) rfl ?_
  refine Er_pc (t := 76) (show (bif decide (((0 : Int32)) ≤ 0) then 76 else 74) = 76 from by rw [show (decide (((0 : Int32)) ≤ 0)) = true from by decide]; rfl) ?_
  refine Er_run 3 (pc' := bif decide ((Int32.ofNat k) < ((20 : Int32))) then 98 else 82) (ls' := [some (.ref a), some (.int (Int32.ofNat k)), some (.int ((Int32.ofNat k) - (Int32.ofNat k) / ((10 : Int32)) * ((10 : Int32)))), none, none]) (st' := []) rfl ?_
  refine Er_pc (t := 82) (show (bif decide ((Int32.ofNat k) < ((20 : Int32))) then 98 else 82) = 82 from by rw [show (decide ((Int32.ofNat k) < ((20 : Int32)))) = false from by rw [show (20 : Int32) = Int32.ofNat 20 from rfl, jx_lt (by omega) (by omega)]; exact decide_eq_false (by omega)]; rfl) ?_
  refine Er_run 1 (pc' := 83) (ls' := [some (.ref a), some (.int (Int32.ofNat k)), some (.int ((Int32.ofNat k) - (Int32.ofNat k) / ((10 : Int32)) * ((10 : Int32)))), none, none]) (st' := [.ref a]) rfl ?_
  refine Er_getR (x := a + 5) rfl m1.1 (m1.2 (4, 5, 0, 24) (by decide)).1 ?_
  refine Er_run 5 (pc' := 92) (ls' := [some (.ref a), some (.int (Int32.ofNat k)), some (.int ((Int32.ofNat k) - (Int32.ofNat k) / ((10 : Int32)) * ((10 : Int32)))), none, none]) (st' := [.int ((10 : Int32)), .int (Int32.ofNat k), .int (((3 : Int32)) * ((Int32.ofNat k) - (Int32.ofNat k) / ((10 : Int32)) * ((10 : Int32)))), .ref (a + 5)]) rfl ?_
  refine Er_idiv rfl (by decide) ?_
  refine Er_run 3 (pc' := 96) (ls' := [some (.ref a), some (.int (Int32.ofNat k)), some (.int ((Int32.ofNat k) - (Int32.ofNat k) / ((10 : Int32)) * ((10 : Int32)))), none, none]) (st' := [.int (((((3 : Int32)) * ((Int32.ofNat k) - (Int32.ofNat k) / ((10 : Int32)) * ((10 : Int32)))) + ((Int32.ofNat k) / ((10 : Int32)))) - ((2 : Int32))), .ref (a + 5)]) rfl ?_
  refine Er_iald (v := t) rfl (m1.2 (4, 5, 0, 24) (by decide)).2.1 (mr_in (i := (3 * (k % 10) + k / 10 - 2)) (k := 24) (by rw [mr_rem k (by omega)]; exact mr_cix k (by omega) (by omega)) (by omega) (by decide) (m1.2 (4, 5, 0, 24) (by decide)).2.2) (mr_atI (by rw [mr_rem k (by omega)]; exact mr_cix k (by omega) (by omega)) (by omega) mn1) ?_
  exact Er_fin rfl rfl ⟨rfl, rfl⟩
theorem s_Ref_countM30 (m0 : mrO h a) (th0 : gI h a 18 = gI h a 18) (mn0 : gI h (a + 5) (3 * (k % 10) + k / 10 - 2) = t) (hk0 : 30 ≤ k) (hk : k < 38) (h1 : jm_in (Int32.ofNat k) 0 3 = false) (h2 : jm_in (Int32.ofNat k) 10 17 = false) (h3 : jm_in (Int32.ofNat k) 20 27 = false) (h4 : jm_in (Int32.ofNat k) 30 37 = true) : Run 181 [.ref a, .int (Int32.ofNat k)] h (.inl (some (.int t))) (setI h a 18 0) := by
  refine ⟨Nat.le_of_ble_eq_true rfl, ?_⟩
  show Ev 181 0 [some (.ref a), some (.int (Int32.ofNat k)), none, none, none] [] h _
  refine Er_run 2 (pc' := 3) (ls' := [some (.ref a), some (.int (Int32.ofNat k)), none, none, none]) (st' := [.int ((10 : Int32)), .int (Int32.ofNat k)]) rfl ?_
  refine Er_irem rfl (by decide) ?_
  refine Er_run 5 (pc' := 9) (ls' := [some (.ref a), some (.int (Int32.ofNat k)), some (.int ((Int32.ofNat k) - (Int32.ofNat k) / ((10 : Int32)) * ((10 : Int32)))), none, none]) (st' := [.int ((3 : Int32)), .int ((0 : Int32)), .int (Int32.ofNat k), .ref a]) rfl ?_
  refine Er_sta1 (av := [.int (Int32.ofNat k), .int ((0 : Int32)), .int ((3 : Int32))]) (rest := [.ref a]) rfl rfl ⟨Nat.le_of_ble_eq_true rfl, Nat.le_of_ble_eq_true rfl⟩ rfl rfl (s_Ref_in0 h1) ?_
  refine Er_run 1 (pc' := bif !decide (((0 : Int32)) = 0) then 59 else 15) (ls' := [some (.ref a), some (.int (Int32.ofNat k)), some (.int ((Int32.ofNat k) - (Int32.ofNat k) / ((10 : Int32)) * ((10 : Int32)))), none, none]) (st' := [.ref a]) rfl ?_
  refine Er_pc (t := 15) (show (bif !decide (((0 : Int32)) = 0) then 59 else 15) = 15 from by rw [show (!decide (((0 : Int32)) = 0)) = false from by decide]; rfl) ?_
  refine Er_run 3 (pc' := 20) (ls' := [some (.ref a), some (.int (Int32.ofNat k)), some (.int ((Int32.ofNat k) - (Int32.ofNat k) / ((10 : Int32)) * ((10 : Int32)))), none, none]) (st' := [.int ((17 : Int32)), .int ((10 : Int32)), .int (Int32.ofNat k), .ref a]) rfl ?_
  refine Er_sta1 (av := [.int (Int32.ofNat k), .int ((10 : Int32)), .int ((17 : Int32))]) (rest := [.ref a]) rfl rfl ⟨Nat.le_of_ble_eq_true rfl, Nat.le_of_ble_eq_true rfl⟩ rfl rfl (s_Ref_in0 h2) ?_
  refine Er_run 1 (pc' := bif !decide (((0 : Int32)) = 0) then 59 else 26) (ls' := [some (.ref a), some (.int (Int32.ofNat k)), some (.int ((Int32.ofNat k) - (Int32.ofNat k) / ((10 : Int32)) * ((10 : Int32)))), none, none]) (st' := [.ref a]) rfl ?_
  refine Er_pc (t := 26) (show (bif !decide (((0 : Int32)) = 0) then 59 else 26) = 26 from by rw [show (!decide (((0 : Int32)) = 0)) = false from by decide]; rfl) ?_
  refine Er_run 3 (pc' := 31) (ls' := [some (.ref a), some (.int (Int32.ofNat k)), some (.int ((Int32.ofNat k) - (Int32.ofNat k) / ((10 : Int32)) * ((10 : Int32)))), none, none]) (st' := [.int ((27 : Int32)), .int ((20 : Int32)), .int (Int32.ofNat k), .ref a]) rfl ?_
  refine Er_sta1 (av := [.int (Int32.ofNat k), .int ((20 : Int32)), .int ((27 : Int32))]) (rest := [.ref a]) rfl rfl ⟨Nat.le_of_ble_eq_true rfl, Nat.le_of_ble_eq_true rfl⟩ rfl rfl (s_Ref_in0 h3) ?_
  refine Er_run 1 (pc' := bif !decide (((0 : Int32)) = 0) then 59 else 37) (ls' := [some (.ref a), some (.int (Int32.ofNat k)), some (.int ((Int32.ofNat k) - (Int32.ofNat k) / ((10 : Int32)) * ((10 : Int32)))), none, none]) (st' := [.ref a]) rfl ?_
  refine Er_pc (t := 37) (show (bif !decide (((0 : Int32)) = 0) then 59 else 37) = 37 from by rw [show (!decide (((0 : Int32)) = 0)) = false from by decide]; rfl) ?_
  refine Er_run 3 (pc' := 42) (ls' := [some (.ref a), some (.int (Int32.ofNat k)), some (.int ((Int32.ofNat k) - (Int32.ofNat k) / ((10 : Int32)) * ((10 : Int32)))), none, none]) (st' := [.int ((37 : Int32)), .int ((30 : Int32)), .int (Int32.ofNat k), .ref a]) rfl ?_
  refine Er_sta1 (av := [.int (Int32.ofNat k), .int ((30 : Int32)), .int ((37 : Int32))]) (rest := [.ref a]) rfl rfl ⟨Nat.le_of_ble_eq_true rfl, Nat.le_of_ble_eq_true rfl⟩ rfl rfl (s_Ref_in1 h4) ?_
  refine Er_run 1 (pc' := bif !decide (((1 : Int32)) = 0) then 59 else 48) (ls' := [some (.ref a), some (.int (Int32.ofNat k)), some (.int ((Int32.ofNat k) - (Int32.ofNat k) / ((10 : Int32)) * ((10 : Int32)))), none, none]) (st' := [.ref a]) rfl ?_
  refine Er_pc (t := 59) (show (bif !decide (((1 : Int32)) = 0) then 59 else 48) = 59 from by rw [show (!decide (((1 : Int32)) = 0)) = true from by decide]; rfl) ?_
  refine Er_run 2 (pc' := 64) (ls' := [some (.ref a), some (.int (Int32.ofNat k)), some (.int ((Int32.ofNat k) - (Int32.ofNat k) / ((10 : Int32)) * ((10 : Int32)))), none, none]) (st' := [.int ((0 : Int32)), .ref a]) rfl ?_
  refine Er_putI rfl m0.1 ?_
  have m1 : mrO (setI h a 18 ((0 : Int32))) a := mrO_setI m0
  have th1 : gI (setI h a 18 ((0 : Int32))) a 18 = (0 : Int32) := gI_eq
  have mn1 : gI (setI h a 18 ((0 : Int32))) (a + 5) ((3 * (k % 10) + k / 10 - 2)) = t := by rw [show gI (setI h a 18 ((0 : Int32))) (a + 5) = gI h (a + 5) from mr_ncI (by omega)]; exact mn0
  generalize (setI h a 18 ((0 : Int32))) = h1 at m1 th1 mn1 ⊢
  refine Er_run 1 (pc' := 68) (ls' := [some (.ref a), some (.int (Int32.ofNat k)), some (.int ((Int32.ofNat k) - (Int32.ofNat k) / ((10 : Int32)) * ((10 : Int32)))), none, none]) (st' := [.ref a]) rfl ?_
  refine Er_getI (v := (0 : Int32)) rfl m1.1 th1 ?_
  refine Er_run 1 (pc' := bif decide (((0 : Int32)) ≤ 0) then 76 else 74) (ls' := [some (.ref a), some (.int (Int32.ofNat k)), some (.int ((Int32.ofNat k) - (Int32.ofNat k) / ((10 : Int32)) * ((10 : Int32)))), none, none]) (st' := []) rfl ?_
  refine Er_pc (t := 76) (show (bif decide (((0 : Int32)) ≤ 0) then 76 else 74) = 76 from by rw [show (decide (((0 : Int32)) ≤ 0)) = true from by decide]; rfl) ?_
  refine Er_run 3 (pc' := bif decide ((Int32.ofNat k) < ((20 : Int32))) then 98 else 82) (ls' := [some (.ref a), some (.int (Int32.ofNat k)), some (.int ((Int32.ofNat k) - (Int32.ofNat k) / ((10 : Int32)) * ((10 : Int32)))), none, none]) (st' := []) rfl ?_
  refine Er_pc (t := 82) (show (bif decide ((Int32.ofNat k) < ((20 : Int32))) then 98 else 82) = 82 from by rw [show (decide ((Int32.ofNat k) < ((20 : Int32)))) = false from by rw [show (20 : Int32) = Int32.ofNat 20 from rfl, jx_lt (by omega) (by omega)]; exact decide_eq_false (by omega)]; rfl) ?_
  refine Er_run 1 (pc' := 83) (ls' := [some (.ref a), some (.int (Int32.ofNat k)), some (.int ((Int32.ofNat k) - (Int32.ofNat k) / ((10 : Int32)) * ((10 : Int32)))), none, none]) (st' := [.ref a]) rfl ?_
  refine Er_getR (x := a + 5) rfl m1.1 (m1.2 (4, 5, 0, 24) (by decide)).1 ?_
  refine Er_run 5 (pc' := 92) (ls' := [some (.ref a), some (.int (Int32.ofNat k)), some (.int ((Int32.ofNat k) - (Int32.ofNat k) / ((10 : Int32)) * ((10 : Int32)))), none, none]) (st' := [.int ((10 : Int32)), .int (Int32.ofNat k), .int (((3 : Int32)) * ((Int32.ofNat k) - (Int32.ofNat k) / ((10 : Int32)) * ((10 : Int32)))), .ref (a + 5)]) rfl ?_
  refine Er_idiv rfl (by decide) ?_
  refine Er_run 3 (pc' := 96) (ls' := [some (.ref a), some (.int (Int32.ofNat k)), some (.int ((Int32.ofNat k) - (Int32.ofNat k) / ((10 : Int32)) * ((10 : Int32)))), none, none]) (st' := [.int (((((3 : Int32)) * ((Int32.ofNat k) - (Int32.ofNat k) / ((10 : Int32)) * ((10 : Int32)))) + ((Int32.ofNat k) / ((10 : Int32)))) - ((2 : Int32))), .ref (a + 5)]) rfl ?_
  refine Er_iald (v := t) rfl (m1.2 (4, 5, 0, 24) (by decide)).2.1 (mr_in (i := (3 * (k % 10) + k / 10 - 2)) (k := 24) (by rw [mr_rem k (by omega)]; exact mr_cix k (by omega) (by omega)) (by omega) (by decide) (m1.2 (4, 5, 0, 24) (by decide)).2.2) (mr_atI (by rw [mr_rem k (by omega)]; exact mr_cix k (by omega) (by omega)) (by omega) mn1) ?_
  exact Er_fin rfl rfl ⟨rfl, rfl⟩
theorem s_Ref_countM40 (m0 : mrO h a) (th0 : gI h a 18 = gI h a 18) (mn0 : gI h (a + 5) (3 * (k % 10) + k / 10 - 2) = t) (hk0 : 40 ≤ k) (hk : k < 48) (h1 : jm_in (Int32.ofNat k) 0 3 = false) (h2 : jm_in (Int32.ofNat k) 10 17 = false) (h3 : jm_in (Int32.ofNat k) 20 27 = false) (h4 : jm_in (Int32.ofNat k) 30 37 = false) (h5 : jm_in (Int32.ofNat k) 40 47 = true) : Run 181 [.ref a, .int (Int32.ofNat k)] h (.inl (some (.int t))) (setI h a 18 0) := by
  refine ⟨Nat.le_of_ble_eq_true rfl, ?_⟩
  show Ev 181 0 [some (.ref a), some (.int (Int32.ofNat k)), none, none, none] [] h _
  refine Er_run 2 (pc' := 3) (ls' := [some (.ref a), some (.int (Int32.ofNat k)), none, none, none]) (st' := [.int ((10 : Int32)), .int (Int32.ofNat k)]) rfl ?_
  refine Er_irem rfl (by decide) ?_
  refine Er_run 5 (pc' := 9) (ls' := [some (.ref a), some (.int (Int32.ofNat k)), some (.int ((Int32.ofNat k) - (Int32.ofNat k) / ((10 : Int32)) * ((10 : Int32)))), none, none]) (st' := [.int ((3 : Int32)), .int ((0 : Int32)), .int (Int32.ofNat k), .ref a]) rfl ?_
  refine Er_sta1 (av := [.int (Int32.ofNat k), .int ((0 : Int32)), .int ((3 : Int32))]) (rest := [.ref a]) rfl rfl ⟨Nat.le_of_ble_eq_true rfl, Nat.le_of_ble_eq_true rfl⟩ rfl rfl (s_Ref_in0 h1) ?_
  refine Er_run 1 (pc' := bif !decide (((0 : Int32)) = 0) then 59 else 15) (ls' := [some (.ref a), some (.int (Int32.ofNat k)), some (.int ((Int32.ofNat k) - (Int32.ofNat k) / ((10 : Int32)) * ((10 : Int32)))), none, none]) (st' := [.ref a]) rfl ?_
  refine Er_pc (t := 15) (show (bif !decide (((0 : Int32)) = 0) then 59 else 15) = 15 from by rw [show (!decide (((0 : Int32)) = 0)) = false from by decide]; rfl) ?_
  refine Er_run 3 (pc' := 20) (ls' := [some (.ref a), some (.int (Int32.ofNat k)), some (.int ((Int32.ofNat k) - (Int32.ofNat k) / ((10 : Int32)) * ((10 : Int32)))), none, none]) (st' := [.int ((17 : Int32)), .int ((10 : Int32)), .int (Int32.ofNat k), .ref a]) rfl ?_
  refine Er_sta1 (av := [.int (Int32.ofNat k), .int ((10 : Int32)), .int ((17 : Int32))]) (rest := [.ref a]) rfl rfl ⟨Nat.le_of_ble_eq_true rfl, Nat.le_of_ble_eq_true rfl⟩ rfl rfl (s_Ref_in0 h2) ?_
  refine Er_run 1 (pc' := bif !decide (((0 : Int32)) = 0) then 59 else 26) (ls' := [some (.ref a), some (.int (Int32.ofNat k)), some (.int ((Int32.ofNat k) - (Int32.ofNat k) / ((10 : Int32)) * ((10 : Int32)))), none, none]) (st' := [.ref a]) rfl ?_
  refine Er_pc (t := 26) (show (bif !decide (((0 : Int32)) = 0) then 59 else 26) = 26 from by rw [show (!decide (((0 : Int32)) = 0)) = false from by decide]; rfl) ?_
  refine Er_run 3 (pc' := 31) (ls' := [some (.ref a), some (.int (Int32.ofNat k)), some (.int ((Int32.ofNat k) - (Int32.ofNat k) / ((10 : Int32)) * ((10 : Int32)))), none, none]) (st' := [.int ((27 : Int32)), .int ((20 : Int32)), .int (Int32.ofNat k), .ref a]) rfl ?_
  refine Er_sta1 (av := [.int (Int32.ofNat k), .int ((20 : Int32)), .int ((27 : Int32))]) (rest := [.ref a]) rfl rfl ⟨Nat.le_of_ble_eq_true rfl, Nat.le_of_ble_eq_true rfl⟩ rfl rfl (s_Ref_in0 h3) ?_
  refine Er_run 1 (pc' := bif !decide (((0 : Int32)) = 0) then 59 else 37) (ls' := [some (.ref a), some (.int (Int32.ofNat k)), some (.int ((Int32.ofNat k) - (Int32.ofNat k) / ((10 : Int32)) * ((10 : Int32)))), none, none]) (st' := [.ref a]) rfl ?_
  refine Er_pc (t := 37) (show (bif !decide (((0 : Int32)) = 0) then 59 else 37) = 37 from by rw [show (!decide (((0 : Int32)) = 0)) = false from by decide]; rfl) ?_
  refine Er_run 3 (pc' := 42) (ls' := [some (.ref a), some (.int (Int32.ofNat k)), some (.int ((Int32.ofNat k) - (Int32.ofNat k) / ((10 : Int32)) * ((10 : Int32)))), none, none]) (st' := [.int ((37 : Int32)), .int ((30 : Int32)), .int (Int32.ofNat k), .ref a]) rfl ?_
  refine Er_sta1 (av := [.int (Int32.ofNat k), .int ((30 : Int32)), .int ((37 : Int32))]) (rest := [.ref a]) rfl rfl ⟨Nat.le_of_ble_eq_true rfl, Nat.le_of_ble_eq_true rfl⟩ rfl rfl (s_Ref_in0 h4) ?_
  refine Er_run 1 (pc' := bif !decide (((0 : Int32)) = 0) then 59 else 48) (ls' := [some (.ref a), some (.int (Int32.ofNat k)), some (.int ((Int32.ofNat k) - (Int32.ofNat k) / ((10 : Int32)) * ((10 : Int32)))), none, none]) (st' := [.ref a]) rfl ?_
  refine Er_pc (t := 48) (show (bif !decide (((0 : Int32)) = 0) then 59 else 48) = 48 from by rw [show (!decide (((0 : Int32)) = 0)) = false from by decide]; rfl) ?_
  refine Er_run 3 (pc' := 53) (ls' := [some (.ref a), some (.int (Int32.ofNat k)), some (.int ((Int32.ofNat k) - (Int32.ofNat k) / ((10 : Int32)) * ((10 : Int32)))), none, none]) (st' := [.int ((47 : Int32)), .int ((40 : Int32)), .int (Int32.ofNat k), .ref a]) rfl ?_
  refine Er_sta1 (av := [.int (Int32.ofNat k), .int ((40 : Int32)), .int ((47 : Int32))]) (rest := [.ref a]) rfl rfl ⟨Nat.le_of_ble_eq_true rfl, Nat.le_of_ble_eq_true rfl⟩ rfl rfl (s_Ref_in1 h5) ?_
  refine Er_run 1 (pc' := bif decide (((1 : Int32)) = 0) then 63 else 59) (ls' := [some (.ref a), some (.int (Int32.ofNat k)), some (.int ((Int32.ofNat k) - (Int32.ofNat k) / ((10 : Int32)) * ((10 : Int32)))), none, none]) (st' := [.ref a]) rfl ?_
  refine Er_pc (t := 59) (show (bif decide (((1 : Int32)) = 0) then 63 else 59) = 59 from by rw [show (decide (((1 : Int32)) = 0)) = false from by decide]; rfl) ?_
  refine Er_run 2 (pc' := 64) (ls' := [some (.ref a), some (.int (Int32.ofNat k)), some (.int ((Int32.ofNat k) - (Int32.ofNat k) / ((10 : Int32)) * ((10 : Int32)))), none, none]) (st' := [.int ((0 : Int32)), .ref a]) rfl ?_
  refine Er_putI rfl m0.1 ?_
  have m1 : mrO (setI h a 18 ((0 : Int32))) a := mrO_setI m0
  have th1 : gI (setI h a 18 ((0 : Int32))) a 18 = (0 : Int32) := gI_eq
  have mn1 : gI (setI h a 18 ((0 : Int32))) (a + 5) ((3 * (k % 10) + k / 10 - 2)) = t := by rw [show gI (setI h a 18 ((0 : Int32))) (a + 5) = gI h (a + 5) from mr_ncI (by omega)]; exact mn0
  generalize (setI h a 18 ((0 : Int32))) = h1 at m1 th1 mn1 ⊢
  refine Er_run 1 (pc' := 68) (ls' := [some (.ref a), some (.int (Int32.ofNat k)), some (.int ((Int32.ofNat k) - (Int32.ofNat k) / ((10 : Int32)) * ((10 : Int32)))), none, none]) (st' := [.ref a]) rfl ?_
  refine Er_getI (v := (0 : Int32)) rfl m1.1 th1 ?_
  refine Er_run 1 (pc' := bif decide (((0 : Int32)) ≤ 0) then 76 else 74) (ls' := [some (.ref a), some (.int (Int32.ofNat k)), some (.int ((Int32.ofNat k) - (Int32.ofNat k) / ((10 : Int32)) * ((10 : Int32)))), none, none]) (st' := []) rfl ?_
  refine Er_pc (t := 76) (show (bif decide (((0 : Int32)) ≤ 0) then 76 else 74) = 76 from by rw [show (decide (((0 : Int32)) ≤ 0)) = true from by decide]; rfl) ?_
  refine Er_run 3 (pc' := bif decide ((Int32.ofNat k) < ((20 : Int32))) then 98 else 82) (ls' := [some (.ref a), some (.int (Int32.ofNat k)), some (.int ((Int32.ofNat k) - (Int32.ofNat k) / ((10 : Int32)) * ((10 : Int32)))), none, none]) (st' := []) rfl ?_
  refine Er_pc (t := 82) (show (bif decide ((Int32.ofNat k) < ((20 : Int32))) then 98 else 82) = 82 from by rw [show (decide ((Int32.ofNat k) < ((20 : Int32)))) = false from by rw [show (20 : Int32) = Int32.ofNat 20 from rfl, jx_lt (by omega) (by omega)]; exact decide_eq_false (by omega)]; rfl) ?_
  refine Er_run 1 (pc' := 83) (ls' := [some (.ref a), some (.int (Int32.ofNat k)), some (.int ((Int32.ofNat k) - (Int32.ofNat k) / ((10 : Int32)) * ((10 : Int32)))), none, none]) (st' := [.ref a]) rfl ?_
  refine Er_getR (x := a + 5) rfl m1.1 (m1.2 (4, 5, 0, 24) (by decide)).1 ?_
  refine Er_run 5 (pc' := 92) (ls' := [some (.ref a), some (.int (Int32.ofNat k)), some (.int ((Int32.ofNat k) - (Int32.ofNat k) / ((10 : Int32)) * ((10 : Int32)))), none, none]) (st' := [.int ((10 : Int32)), .int (Int32.ofNat k), .int (((3 : Int32)) * ((Int32.ofNat k) - (Int32.ofNat k) / ((10 : Int32)) * ((10 : Int32)))), .ref (a + 5)]) rfl ?_
  refine Er_idiv rfl (by decide) ?_
  refine Er_run 3 (pc' := 96) (ls' := [some (.ref a), some (.int (Int32.ofNat k)), some (.int ((Int32.ofNat k) - (Int32.ofNat k) / ((10 : Int32)) * ((10 : Int32)))), none, none]) (st' := [.int (((((3 : Int32)) * ((Int32.ofNat k) - (Int32.ofNat k) / ((10 : Int32)) * ((10 : Int32)))) + ((Int32.ofNat k) / ((10 : Int32)))) - ((2 : Int32))), .ref (a + 5)]) rfl ?_
  refine Er_iald (v := t) rfl (m1.2 (4, 5, 0, 24) (by decide)).2.1 (mr_in (i := (3 * (k % 10) + k / 10 - 2)) (k := 24) (by rw [mr_rem k (by omega)]; exact mr_cix k (by omega) (by omega)) (by omega) (by decide) (m1.2 (4, 5, 0, 24) (by decide)).2.2) (mr_atI (by rw [mr_rem k (by omega)]; exact mr_cix k (by omega) (by omega)) (by omega) mn1) ?_
  exact Er_fin rfl rfl ⟨rfl, rfl⟩
theorem s_Ref_countJ0 (m0 : mrO h a) (th0 : gI h a 18 = gI h a 18) (mn0 : gI h (a + 14) (k % 10) = 0) (hk0 : 10 ≤ k) (hk : k < 18) (h1 : jm_in (Int32.ofNat k) 0 3 = false) (h2 : jm_in (Int32.ofNat k) 10 17 = true) : Run 181 [.ref a, .int (Int32.ofNat k)] h (.inl (some (.int ((0 : Int32))))) (setI h a 18 0) := by
  refine ⟨Nat.le_of_ble_eq_true rfl, ?_⟩
  show Ev 181 0 [some (.ref a), some (.int (Int32.ofNat k)), none, none, none] [] h _
  refine Er_run 2 (pc' := 3) (ls' := [some (.ref a), some (.int (Int32.ofNat k)), none, none, none]) (st' := [.int ((10 : Int32)), .int (Int32.ofNat k)]) rfl ?_
  refine Er_irem rfl (by decide) ?_
  refine Er_run 5 (pc' := 9) (ls' := [some (.ref a), some (.int (Int32.ofNat k)), some (.int ((Int32.ofNat k) - (Int32.ofNat k) / ((10 : Int32)) * ((10 : Int32)))), none, none]) (st' := [.int ((3 : Int32)), .int ((0 : Int32)), .int (Int32.ofNat k), .ref a]) rfl ?_
  refine Er_sta1 (av := [.int (Int32.ofNat k), .int ((0 : Int32)), .int ((3 : Int32))]) (rest := [.ref a]) rfl rfl ⟨Nat.le_of_ble_eq_true rfl, Nat.le_of_ble_eq_true rfl⟩ rfl rfl (s_Ref_in0 h1) ?_
  refine Er_run 1 (pc' := bif !decide (((0 : Int32)) = 0) then 59 else 15) (ls' := [some (.ref a), some (.int (Int32.ofNat k)), some (.int ((Int32.ofNat k) - (Int32.ofNat k) / ((10 : Int32)) * ((10 : Int32)))), none, none]) (st' := [.ref a]) rfl ?_
  refine Er_pc (t := 15) (show (bif !decide (((0 : Int32)) = 0) then 59 else 15) = 15 from by rw [show (!decide (((0 : Int32)) = 0)) = false from by decide]; rfl) ?_
  refine Er_run 3 (pc' := 20) (ls' := [some (.ref a), some (.int (Int32.ofNat k)), some (.int ((Int32.ofNat k) - (Int32.ofNat k) / ((10 : Int32)) * ((10 : Int32)))), none, none]) (st' := [.int ((17 : Int32)), .int ((10 : Int32)), .int (Int32.ofNat k), .ref a]) rfl ?_
  refine Er_sta1 (av := [.int (Int32.ofNat k), .int ((10 : Int32)), .int ((17 : Int32))]) (rest := [.ref a]) rfl rfl ⟨Nat.le_of_ble_eq_true rfl, Nat.le_of_ble_eq_true rfl⟩ rfl rfl (s_Ref_in1 h2) ?_
  refine Er_run 1 (pc' := bif !decide (((1 : Int32)) = 0) then 59 else 26) (ls' := [some (.ref a), some (.int (Int32.ofNat k)), some (.int ((Int32.ofNat k) - (Int32.ofNat k) / ((10 : Int32)) * ((10 : Int32)))), none, none]) (st' := [.ref a]) rfl ?_
  refine Er_pc (t := 59) (show (bif !decide (((1 : Int32)) = 0) then 59 else 26) = 59 from by rw [show (!decide (((1 : Int32)) = 0)) = true from by decide]; rfl) ?_
  refine Er_run 2 (pc' := 64) (ls' := [some (.ref a), some (.int (Int32.ofNat k)), some (.int ((Int32.ofNat k) - (Int32.ofNat k) / ((10 : Int32)) * ((10 : Int32)))), none, none]) (st' := [.int ((0 : Int32)), .ref a]) rfl ?_
  refine Er_putI rfl m0.1 ?_
  have m1 : mrO (setI h a 18 ((0 : Int32))) a := mrO_setI m0
  have th1 : gI (setI h a 18 ((0 : Int32))) a 18 = (0 : Int32) := gI_eq
  have mn1 : gI (setI h a 18 ((0 : Int32))) (a + 14) ((k % 10)) = (0 : Int32) := by rw [show gI (setI h a 18 ((0 : Int32))) (a + 14) = gI h (a + 14) from mr_ncI (by omega)]; exact mn0
  generalize (setI h a 18 ((0 : Int32))) = h1 at m1 th1 mn1 ⊢
  refine Er_run 1 (pc' := 68) (ls' := [some (.ref a), some (.int (Int32.ofNat k)), some (.int ((Int32.ofNat k) - (Int32.ofNat k) / ((10 : Int32)) * ((10 : Int32)))), none, none]) (st' := [.ref a]) rfl ?_
  refine Er_getI (v := (0 : Int32)) rfl m1.1 th1 ?_
  refine Er_run 1 (pc' := bif decide (((0 : Int32)) ≤ 0) then 76 else 74) (ls' := [some (.ref a), some (.int (Int32.ofNat k)), some (.int ((Int32.ofNat k) - (Int32.ofNat k) / ((10 : Int32)) * ((10 : Int32)))), none, none]) (st' := []) rfl ?_
  refine Er_pc (t := 76) (show (bif decide (((0 : Int32)) ≤ 0) then 76 else 74) = 76 from by rw [show (decide (((0 : Int32)) ≤ 0)) = true from by decide]; rfl) ?_
  refine Er_run 3 (pc' := bif decide ((Int32.ofNat k) < ((20 : Int32))) then 98 else 82) (ls' := [some (.ref a), some (.int (Int32.ofNat k)), some (.int ((Int32.ofNat k) - (Int32.ofNat k) / ((10 : Int32)) * ((10 : Int32)))), none, none]) (st' := []) rfl ?_
  refine Er_pc (t := 98) (show (bif decide ((Int32.ofNat k) < ((20 : Int32))) then 98 else 82) = 98 from by rw [show (decide ((Int32.ofNat k) < ((20 : Int32)))) = true from by rw [show (20 : Int32) = Int32.ofNat 20 from rfl, jx_lt (by omega) (by omega)]; exact decide_eq_true (by omega)]; rfl) ?_
  refine Er_run 3 (pc' := bif decide ((Int32.ofNat k) < ((10 : Int32))) then 119 else 104) (ls' := [some (.ref a), some (.int (Int32.ofNat k)), some (.int ((Int32.ofNat k) - (Int32.ofNat k) / ((10 : Int32)) * ((10 : Int32)))), none, none]) (st' := []) rfl ?_
  refine Er_pc (t := 104) (show (bif decide ((Int32.ofNat k) < ((10 : Int32))) then 119 else 104) = 104 from by rw [show (decide ((Int32.ofNat k) < ((10 : Int32)))) = false from by rw [show (10 : Int32) = Int32.ofNat 10 from rfl, jx_lt (by omega) (by omega)]; exact decide_eq_false (by omega)]; rfl) ?_
  refine Er_run 1 (pc' := 105) (ls' := [some (.ref a), some (.int (Int32.ofNat k)), some (.int ((Int32.ofNat k) - (Int32.ofNat k) / ((10 : Int32)) * ((10 : Int32)))), none, none]) (st' := [.ref a]) rfl ?_
  refine Er_getR (x := a + 14) rfl m1.1 (m1.2 (13, 14, 2, 8) (by decide)).1 ?_
  refine Er_run 1 (pc' := 109) (ls' := [some (.ref a), some (.int (Int32.ofNat k)), some (.int ((Int32.ofNat k) - (Int32.ofNat k) / ((10 : Int32)) * ((10 : Int32)))), none, none]) (st' := [.int ((Int32.ofNat k) - (Int32.ofNat k) / ((10 : Int32)) * ((10 : Int32))), .ref (a + 14)]) rfl ?_
  refine Er_zald (v := (0 : Int32)) rfl (m1.2 (13, 14, 2, 8) (by decide)).2.1 (mr_in (i := (k % 10)) (k := 8) (mr_rem k (by omega)) (by omega) (by decide) (m1.2 (13, 14, 2, 8) (by decide)).2.2) (mr_atI (mr_rem k (by omega)) (by omega) mn1) ?_
  refine Er_run 1 (pc' := bif decide (((0 : Int32)) = 0) then 117 else 113) (ls' := [some (.ref a), some (.int (Int32.ofNat k)), some (.int ((Int32.ofNat k) - (Int32.ofNat k) / ((10 : Int32)) * ((10 : Int32)))), none, none]) (st' := []) rfl ?_
  refine Er_pc (t := 117) (show (bif decide (((0 : Int32)) = 0) then 117 else 113) = 117 from by rw [show (decide (((0 : Int32)) = 0)) = true from by decide]; rfl) ?_
  refine Er_run 1 (pc' := 118) (ls' := [some (.ref a), some (.int (Int32.ofNat k)), some (.int ((Int32.ofNat k) - (Int32.ofNat k) / ((10 : Int32)) * ((10 : Int32)))), none, none]) (st' := [.int ((0 : Int32))]) rfl ?_
  exact Er_fin rfl rfl ⟨rfl, rfl⟩
theorem s_Ref_countJ1 (m0 : mrO h a) (th0 : gI h a 18 = gI h a 18) (mn0 : gI h (a + 14) (k % 10) = 1) (hk0 : 10 ≤ k) (hk : k < 18) (h1 : jm_in (Int32.ofNat k) 0 3 = false) (h2 : jm_in (Int32.ofNat k) 10 17 = true) : Run 181 [.ref a, .int (Int32.ofNat k)] h (.inl (some (.int ((1 : Int32))))) (setI h a 18 0) := by
  refine ⟨Nat.le_of_ble_eq_true rfl, ?_⟩
  show Ev 181 0 [some (.ref a), some (.int (Int32.ofNat k)), none, none, none] [] h _
  refine Er_run 2 (pc' := 3) (ls' := [some (.ref a), some (.int (Int32.ofNat k)), none, none, none]) (st' := [.int ((10 : Int32)), .int (Int32.ofNat k)]) rfl ?_
  refine Er_irem rfl (by decide) ?_
  refine Er_run 5 (pc' := 9) (ls' := [some (.ref a), some (.int (Int32.ofNat k)), some (.int ((Int32.ofNat k) - (Int32.ofNat k) / ((10 : Int32)) * ((10 : Int32)))), none, none]) (st' := [.int ((3 : Int32)), .int ((0 : Int32)), .int (Int32.ofNat k), .ref a]) rfl ?_
  refine Er_sta1 (av := [.int (Int32.ofNat k), .int ((0 : Int32)), .int ((3 : Int32))]) (rest := [.ref a]) rfl rfl ⟨Nat.le_of_ble_eq_true rfl, Nat.le_of_ble_eq_true rfl⟩ rfl rfl (s_Ref_in0 h1) ?_
  refine Er_run 1 (pc' := bif !decide (((0 : Int32)) = 0) then 59 else 15) (ls' := [some (.ref a), some (.int (Int32.ofNat k)), some (.int ((Int32.ofNat k) - (Int32.ofNat k) / ((10 : Int32)) * ((10 : Int32)))), none, none]) (st' := [.ref a]) rfl ?_
  refine Er_pc (t := 15) (show (bif !decide (((0 : Int32)) = 0) then 59 else 15) = 15 from by rw [show (!decide (((0 : Int32)) = 0)) = false from by decide]; rfl) ?_
  refine Er_run 3 (pc' := 20) (ls' := [some (.ref a), some (.int (Int32.ofNat k)), some (.int ((Int32.ofNat k) - (Int32.ofNat k) / ((10 : Int32)) * ((10 : Int32)))), none, none]) (st' := [.int ((17 : Int32)), .int ((10 : Int32)), .int (Int32.ofNat k), .ref a]) rfl ?_
  refine Er_sta1 (av := [.int (Int32.ofNat k), .int ((10 : Int32)), .int ((17 : Int32))]) (rest := [.ref a]) rfl rfl ⟨Nat.le_of_ble_eq_true rfl, Nat.le_of_ble_eq_true rfl⟩ rfl rfl (s_Ref_in1 h2) ?_
  refine Er_run 1 (pc' := bif !decide (((1 : Int32)) = 0) then 59 else 26) (ls' := [some (.ref a), some (.int (Int32.ofNat k)), some (.int ((Int32.ofNat k) - (Int32.ofNat k) / ((10 : Int32)) * ((10 : Int32)))), none, none]) (st' := [.ref a]) rfl ?_
  refine Er_pc (t := 59) (show (bif !decide (((1 : Int32)) = 0) then 59 else 26) = 59 from by rw [show (!decide (((1 : Int32)) = 0)) = true from by decide]; rfl) ?_
  refine Er_run 2 (pc' := 64) (ls' := [some (.ref a), some (.int (Int32.ofNat k)), some (.int ((Int32.ofNat k) - (Int32.ofNat k) / ((10 : Int32)) * ((10 : Int32)))), none, none]) (st' := [.int ((0 : Int32)), .ref a]) rfl ?_
  refine Er_putI rfl m0.1 ?_
  have m1 : mrO (setI h a 18 ((0 : Int32))) a := mrO_setI m0
  have th1 : gI (setI h a 18 ((0 : Int32))) a 18 = (0 : Int32) := gI_eq
  have mn1 : gI (setI h a 18 ((0 : Int32))) (a + 14) ((k % 10)) = (1 : Int32) := by rw [show gI (setI h a 18 ((0 : Int32))) (a + 14) = gI h (a + 14) from mr_ncI (by omega)]; exact mn0
  generalize (setI h a 18 ((0 : Int32))) = h1 at m1 th1 mn1 ⊢
  refine Er_run 1 (pc' := 68) (ls' := [some (.ref a), some (.int (Int32.ofNat k)), some (.int ((Int32.ofNat k) - (Int32.ofNat k) / ((10 : Int32)) * ((10 : Int32)))), none, none]) (st' := [.ref a]) rfl ?_
  refine Er_getI (v := (0 : Int32)) rfl m1.1 th1 ?_
  refine Er_run 1 (pc' := bif decide (((0 : Int32)) ≤ 0) then 76 else 74) (ls' := [some (.ref a), some (.int (Int32.ofNat k)), some (.int ((Int32.ofNat k) - (Int32.ofNat k) / ((10 : Int32)) * ((10 : Int32)))), none, none]) (st' := []) rfl ?_
  refine Er_pc (t := 76) (show (bif decide (((0 : Int32)) ≤ 0) then 76 else 74) = 76 from by rw [show (decide (((0 : Int32)) ≤ 0)) = true from by decide]; rfl) ?_
  refine Er_run 3 (pc' := bif decide ((Int32.ofNat k) < ((20 : Int32))) then 98 else 82) (ls' := [some (.ref a), some (.int (Int32.ofNat k)), some (.int ((Int32.ofNat k) - (Int32.ofNat k) / ((10 : Int32)) * ((10 : Int32)))), none, none]) (st' := []) rfl ?_
  refine Er_pc (t := 98) (show (bif decide ((Int32.ofNat k) < ((20 : Int32))) then 98 else 82) = 98 from by rw [show (decide ((Int32.ofNat k) < ((20 : Int32)))) = true from by rw [show (20 : Int32) = Int32.ofNat 20 from rfl, jx_lt (by omega) (by omega)]; exact decide_eq_true (by omega)]; rfl) ?_
  refine Er_run 3 (pc' := bif decide ((Int32.ofNat k) < ((10 : Int32))) then 119 else 104) (ls' := [some (.ref a), some (.int (Int32.ofNat k)), some (.int ((Int32.ofNat k) - (Int32.ofNat k) / ((10 : Int32)) * ((10 : Int32)))), none, none]) (st' := []) rfl ?_
  refine Er_pc (t := 104) (show (bif decide ((Int32.ofNat k) < ((10 : Int32))) then 119 else 104) = 104 from by rw [show (decide ((Int32.ofNat k) < ((10 : Int32)))) = false from by rw [show (10 : Int32) = Int32.ofNat 10 from rfl, jx_lt (by omega) (by omega)]; exact decide_eq_false (by omega)]; rfl) ?_
  refine Er_run 1 (pc' := 105) (ls' := [some (.ref a), some (.int (Int32.ofNat k)), some (.int ((Int32.ofNat k) - (Int32.ofNat k) / ((10 : Int32)) * ((10 : Int32)))), none, none]) (st' := [.ref a]) rfl ?_
  refine Er_getR (x := a + 14) rfl m1.1 (m1.2 (13, 14, 2, 8) (by decide)).1 ?_
  refine Er_run 1 (pc' := 109) (ls' := [some (.ref a), some (.int (Int32.ofNat k)), some (.int ((Int32.ofNat k) - (Int32.ofNat k) / ((10 : Int32)) * ((10 : Int32)))), none, none]) (st' := [.int ((Int32.ofNat k) - (Int32.ofNat k) / ((10 : Int32)) * ((10 : Int32))), .ref (a + 14)]) rfl ?_
  refine Er_zald (v := (1 : Int32)) rfl (m1.2 (13, 14, 2, 8) (by decide)).2.1 (mr_in (i := (k % 10)) (k := 8) (mr_rem k (by omega)) (by omega) (by decide) (m1.2 (13, 14, 2, 8) (by decide)).2.2) (mr_atI (mr_rem k (by omega)) (by omega) mn1) ?_
  refine Er_run 1 (pc' := bif decide (((1 : Int32)) = 0) then 117 else 113) (ls' := [some (.ref a), some (.int (Int32.ofNat k)), some (.int ((Int32.ofNat k) - (Int32.ofNat k) / ((10 : Int32)) * ((10 : Int32)))), none, none]) (st' := []) rfl ?_
  refine Er_pc (t := 113) (show (bif decide (((1 : Int32)) = 0) then 117 else 113) = 113 from by rw [show (decide (((1 : Int32)) = 0)) = false from by decide]; rfl) ?_
  refine Er_run 2 (pc' := 118) (ls' := [some (.ref a), some (.int (Int32.ofNat k)), some (.int ((Int32.ofNat k) - (Int32.ofNat k) / ((10 : Int32)) * ((10 : Int32)))), none, none]) (st' := [.int ((1 : Int32))]) rfl ?_
  exact Er_fin rfl rfl ⟨rfl, rfl⟩
/-- the reference's JOB j is made -/
def jm_md (h : sm_H) (a j : Nat) : Bool := decide (gI h (a + 14) j = 1)
theorem l_cnt {Q : sm_R → sm_H → Prop} (m0 : mrO h a) (md0 : ∀ j, j < 8 → gI h (a + 14) j = 0 ∨ gI h (a + 14) j = 1) : ∀ (f i n : Nat), i + f = 8 → Ev 181 150 [some (.ref a), some (.int x), some (.int y), some (.int (Int32.ofNat (n + List.countP (jm_md h a) (List.range' i f)))), some (.int (Int32.ofNat 8))] [] h Q → Ev 181 124 [some (.ref a), some (.int x), some (.int y), some (.int (Int32.ofNat n)), some (.int (Int32.ofNat i))] [] h Q := by
  intro f
  induction f with
  | zero =>
    intro i n hi kk
    have e : i = 8 := by omega
    subst e
    refine Er_run 3 (pc' := bif decide (((8 : Int32)) ≤ (Int32.ofNat 8)) then 150 else 131) (ls' := [some (.ref a), some (.int x), some (.int y), some (.int (Int32.ofNat n)), some (.int (Int32.ofNat 8))]) (st' := []) rfl ?_
    refine Er_pc (t := 150) (show (bif decide (((8 : Int32)) ≤ (Int32.ofNat 8)) then 150 else 131) = 150 from by rw [show (decide (((8 : Int32)) ≤ (Int32.ofNat 8))) = true from by decide]; rfl) ?_
    exact kk
  | succ f ih =>
    intro i n hi kk
    refine Er_run 3 (pc' := bif decide (((8 : Int32)) ≤ (Int32.ofNat i)) then 150 else 131) (ls' := [some (.ref a), some (.int x), some (.int y), some (.int (Int32.ofNat n)), some (.int (Int32.ofNat i))]) (st' := []) rfl ?_
    refine Er_pc (t := 131) (show (bif decide (((8 : Int32)) ≤ (Int32.ofNat i)) then 150 else 131) = 131 from by rw [show (decide (((8 : Int32)) ≤ (Int32.ofNat i))) = false from by rw [show (8 : Int32) = Int32.ofNat 8 from rfl, jx_le (by omega) (by omega)]; exact decide_eq_false (by omega)]; rfl) ?_
    refine Er_run 1 (pc' := 132) (ls' := [some (.ref a), some (.int x), some (.int y), some (.int (Int32.ofNat n)), some (.int (Int32.ofNat i))]) (st' := [.ref a]) rfl ?_
    refine Er_getR (x := a + 14) rfl m0.1 (m0.2 (13, 14, 2, 8) (by decide)).1 ?_
    refine Er_run 1 (pc' := 137) (ls' := [some (.ref a), some (.int x), some (.int y), some (.int (Int32.ofNat n)), some (.int (Int32.ofNat i))]) (st' := [.int (Int32.ofNat i), .ref (a + 14)]) rfl ?_
    refine Er_zald (v := gI h (a + 14) i) rfl (m0.2 (13, 14, 2, 8) (by decide)).2.1 (mr_in (i := i) (k := 8) rfl (by omega) (by decide) (m0.2 (13, 14, 2, 8) (by decide)).2.2) (mr_atI rfl (by omega) rfl) ?_
    refine Er_run 1 (pc' := bif decide ((gI h (a + 14) i) = 0) then 144 else 141) (ls' := [some (.ref a), some (.int x), some (.int y), some (.int (Int32.ofNat n)), some (.int (Int32.ofNat i))]) (st' := []) rfl ?_
    refine Er_if (fun hc1 => ?_) (fun hc1 => ?_)
    · skip
      refine Er_run 2 (pc' := 124) (ls' := [some (.ref a), some (.int x), some (.int y), some (.int (Int32.ofNat n)), some (.int ((Int32.ofNat i) + (1 : Int32)))]) (st' := []) rfl ?_
      have e : jm_md h a i = false := decide_eq_false (fun z => by have := of_decide_eq_true hc1; rw [this] at z; exact absurd z (by decide))
      rw [jx_s1]
      exact ih (i + 1) n (by omega) (by rw [List.range'_succ, List.countP_cons, if_neg (by rw [e]; decide)] at kk; exact kk)
    · skip
      refine Er_run 3 (pc' := 124) (ls' := [some (.ref a), some (.int x), some (.int y), some (.int ((Int32.ofNat n) + (1 : Int32))), some (.int ((Int32.ofNat i) + (1 : Int32)))]) (st' := []) rfl ?_
      have e : jm_md h a i = true := decide_eq_true ((md0 i (by omega)).resolve_left (of_decide_eq_false hc1))
      rw [jx_s1, jx_s1]
      exact ih (i + 1) (n + 1) (by omega) (by rw [List.range'_succ, List.countP_cons, if_pos e] at kk; rw [show n + 1 + List.countP (jm_md h a) (List.range' (i + 1) f) = n + (List.countP (jm_md h a) (List.range' (i + 1) f) + 1) by omega]; exact kk)
theorem s_Ref_count00 (m0 : mrO h a) (th0 : gI h a 18 = gI h a 18) (on0 : gI h a 19 = 0) (md0 : ∀ j, j < 8 → gI h (a + 14) j = 0 ∨ gI h (a + 14) j = 1) : Run 181 [.ref a, .int ((0 : Int32))] h (.inl (some (.int ((0 : Int32))))) (setI h a 18 0) := by
  refine ⟨Nat.le_of_ble_eq_true rfl, ?_⟩
  show Ev 181 0 [some (.ref a), some (.int ((0 : Int32))), none, none, none] [] h _
  refine Er_run 2 (pc' := 3) (ls' := [some (.ref a), some (.int ((0 : Int32))), none, none, none]) (st' := [.int ((10 : Int32)), .int ((0 : Int32))]) rfl ?_
  refine Er_irem rfl (by decide) ?_
  refine Er_run 5 (pc' := 9) (ls' := [some (.ref a), some (.int ((0 : Int32))), some (.int (((0 : Int32)) - ((0 : Int32)) / ((10 : Int32)) * ((10 : Int32)))), none, none]) (st' := [.int ((3 : Int32)), .int ((0 : Int32)), .int ((0 : Int32)), .ref a]) rfl ?_
  refine Er_sta1 (av := [.int ((0 : Int32)), .int ((0 : Int32)), .int ((3 : Int32))]) (rest := [.ref a]) rfl rfl ⟨Nat.le_of_ble_eq_true rfl, Nat.le_of_ble_eq_true rfl⟩ rfl rfl (s_Ref_in1 (by decide)) ?_
  refine Er_run 1 (pc' := bif !decide (((1 : Int32)) = 0) then 59 else 15) (ls' := [some (.ref a), some (.int ((0 : Int32))), some (.int (((0 : Int32)) - ((0 : Int32)) / ((10 : Int32)) * ((10 : Int32)))), none, none]) (st' := [.ref a]) rfl ?_
  refine Er_pc (t := 59) (show (bif !decide (((1 : Int32)) = 0) then 59 else 15) = 59 from by rw [show (!decide (((1 : Int32)) = 0)) = true from by decide]; rfl) ?_
  refine Er_run 2 (pc' := 64) (ls' := [some (.ref a), some (.int ((0 : Int32))), some (.int (((0 : Int32)) - ((0 : Int32)) / ((10 : Int32)) * ((10 : Int32)))), none, none]) (st' := [.int ((0 : Int32)), .ref a]) rfl ?_
  refine Er_putI rfl m0.1 ?_
  have m1 : mrO (setI h a 18 ((0 : Int32))) a := mrO_setI m0
  have th1 : gI (setI h a 18 ((0 : Int32))) a 18 = (0 : Int32) := gI_eq
  have on1 : gI (setI h a 18 ((0 : Int32))) a 19 = (0 : Int32) := by rw [gI_ne (by omega)]; exact on0
  have md1 : ∀ j, j < 8 → gI (setI h a 18 ((0 : Int32))) (a + 14) j = 0 ∨ gI (setI h a 18 ((0 : Int32))) (a + 14) j = 1 := by rw [show gI (setI h a 18 ((0 : Int32))) (a + 14) = gI h (a + 14) from mr_ncI (by omega)]; exact md0
  generalize (setI h a 18 ((0 : Int32))) = h1 at m1 th1 on1 md1 ⊢
  refine Er_run 1 (pc' := 68) (ls' := [some (.ref a), some (.int ((0 : Int32))), some (.int (((0 : Int32)) - ((0 : Int32)) / ((10 : Int32)) * ((10 : Int32)))), none, none]) (st' := [.ref a]) rfl ?_
  refine Er_getI (v := (0 : Int32)) rfl m1.1 th1 ?_
  refine Er_run 1 (pc' := bif decide (((0 : Int32)) ≤ 0) then 76 else 74) (ls' := [some (.ref a), some (.int ((0 : Int32))), some (.int (((0 : Int32)) - ((0 : Int32)) / ((10 : Int32)) * ((10 : Int32)))), none, none]) (st' := []) rfl ?_
  refine Er_pc (t := 76) (show (bif decide (((0 : Int32)) ≤ 0) then 76 else 74) = 76 from by rw [show (decide (((0 : Int32)) ≤ 0)) = true from by decide]; rfl) ?_
  refine Er_run 3 (pc' := bif decide (((0 : Int32)) < ((20 : Int32))) then 98 else 82) (ls' := [some (.ref a), some (.int ((0 : Int32))), some (.int (((0 : Int32)) - ((0 : Int32)) / ((10 : Int32)) * ((10 : Int32)))), none, none]) (st' := []) rfl ?_
  refine Er_pc (t := 98) (show (bif decide (((0 : Int32)) < ((20 : Int32))) then 98 else 82) = 98 from by rw [show (decide (((0 : Int32)) < ((20 : Int32)))) = true from by decide]; rfl) ?_
  refine Er_run 3 (pc' := bif decide (((0 : Int32)) < ((10 : Int32))) then 119 else 104) (ls' := [some (.ref a), some (.int ((0 : Int32))), some (.int (((0 : Int32)) - ((0 : Int32)) / ((10 : Int32)) * ((10 : Int32)))), none, none]) (st' := []) rfl ?_
  refine Er_pc (t := 119) (show (bif decide (((0 : Int32)) < ((10 : Int32))) then 119 else 104) = 119 from by rw [show (decide (((0 : Int32)) < ((10 : Int32)))) = true from by decide]; rfl) ?_
  refine Er_run 4 (pc' := 124) (ls' := [some (.ref a), some (.int ((0 : Int32))), some (.int (((0 : Int32)) - ((0 : Int32)) / ((10 : Int32)) * ((10 : Int32)))), some (.int ((0 : Int32))), some (.int ((0 : Int32)))]) (st' := []) rfl ?_
  refine l_cnt m1 md1 8 0 0 (by omega) ?_
  refine Er_run 2 (pc' := bif !decide (((0 : Int32)) = 0) then 169 else 154) (ls' := [some (.ref a), some (.int ((0 : Int32))), some (.int (((0 : Int32)) - ((0 : Int32)) / ((10 : Int32)) * ((10 : Int32)))), some (.int (Int32.ofNat (0 + List.countP (jm_md h1 a) (List.range' 0 8)))), some (.int (Int32.ofNat 8))]) (st' := []) rfl ?_
  refine Er_pc (t := 154) (show (bif !decide (((0 : Int32)) = 0) then 169 else 154) = 154 from by rw [show (!decide (((0 : Int32)) = 0)) = false from by decide]; rfl) ?_
  refine Er_run 1 (pc' := 155) (ls' := [some (.ref a), some (.int ((0 : Int32))), some (.int (((0 : Int32)) - ((0 : Int32)) / ((10 : Int32)) * ((10 : Int32)))), some (.int (Int32.ofNat (0 + List.countP (jm_md h1 a) (List.range' 0 8)))), some (.int (Int32.ofNat 8))]) (st' := [.ref a]) rfl ?_
  refine Er_getI (v := (0 : Int32)) rfl m1.1 on1 ?_
  refine Er_run 1 (pc' := bif decide (((0 : Int32)) = 0) then 165 else 161) (ls' := [some (.ref a), some (.int ((0 : Int32))), some (.int (((0 : Int32)) - ((0 : Int32)) / ((10 : Int32)) * ((10 : Int32)))), some (.int (Int32.ofNat (0 + List.countP (jm_md h1 a) (List.range' 0 8)))), some (.int (Int32.ofNat 8))]) (st' := []) rfl ?_
  refine Er_pc (t := 165) (show (bif decide (((0 : Int32)) = 0) then 165 else 161) = 165 from by rw [show (decide (((0 : Int32)) = 0)) = true from by decide]; rfl) ?_
  refine Er_run 2 (pc' := 194) (ls' := [some (.ref a), some (.int ((0 : Int32))), some (.int (((0 : Int32)) - ((0 : Int32)) / ((10 : Int32)) * ((10 : Int32)))), some (.int (Int32.ofNat (0 + List.countP (jm_md h1 a) (List.range' 0 8)))), some (.int (Int32.ofNat 8))]) (st' := [.int ((0 : Int32))]) rfl ?_
  exact Er_fin rfl rfl ⟨rfl, rfl⟩
theorem s_Ref_count01 (m0 : mrO h a) (th0 : gI h a 18 = gI h a 18) (on0 : gI h a 19 = 1) (md0 : ∀ j, j < 8 → gI h (a + 14) j = 0 ∨ gI h (a + 14) j = 1) : Run 181 [.ref a, .int ((0 : Int32))] h (.inl (some (.int ((1 : Int32))))) (setI h a 18 0) := by
  refine ⟨Nat.le_of_ble_eq_true rfl, ?_⟩
  show Ev 181 0 [some (.ref a), some (.int ((0 : Int32))), none, none, none] [] h _
  refine Er_run 2 (pc' := 3) (ls' := [some (.ref a), some (.int ((0 : Int32))), none, none, none]) (st' := [.int ((10 : Int32)), .int ((0 : Int32))]) rfl ?_
  refine Er_irem rfl (by decide) ?_
  refine Er_run 5 (pc' := 9) (ls' := [some (.ref a), some (.int ((0 : Int32))), some (.int (((0 : Int32)) - ((0 : Int32)) / ((10 : Int32)) * ((10 : Int32)))), none, none]) (st' := [.int ((3 : Int32)), .int ((0 : Int32)), .int ((0 : Int32)), .ref a]) rfl ?_
  refine Er_sta1 (av := [.int ((0 : Int32)), .int ((0 : Int32)), .int ((3 : Int32))]) (rest := [.ref a]) rfl rfl ⟨Nat.le_of_ble_eq_true rfl, Nat.le_of_ble_eq_true rfl⟩ rfl rfl (s_Ref_in1 (by decide)) ?_
  refine Er_run 1 (pc' := bif !decide (((1 : Int32)) = 0) then 59 else 15) (ls' := [some (.ref a), some (.int ((0 : Int32))), some (.int (((0 : Int32)) - ((0 : Int32)) / ((10 : Int32)) * ((10 : Int32)))), none, none]) (st' := [.ref a]) rfl ?_
  refine Er_pc (t := 59) (show (bif !decide (((1 : Int32)) = 0) then 59 else 15) = 59 from by rw [show (!decide (((1 : Int32)) = 0)) = true from by decide]; rfl) ?_
  refine Er_run 2 (pc' := 64) (ls' := [some (.ref a), some (.int ((0 : Int32))), some (.int (((0 : Int32)) - ((0 : Int32)) / ((10 : Int32)) * ((10 : Int32)))), none, none]) (st' := [.int ((0 : Int32)), .ref a]) rfl ?_
  refine Er_putI rfl m0.1 ?_
  have m1 : mrO (setI h a 18 ((0 : Int32))) a := mrO_setI m0
  have th1 : gI (setI h a 18 ((0 : Int32))) a 18 = (0 : Int32) := gI_eq
  have on1 : gI (setI h a 18 ((0 : Int32))) a 19 = (1 : Int32) := by rw [gI_ne (by omega)]; exact on0
  have md1 : ∀ j, j < 8 → gI (setI h a 18 ((0 : Int32))) (a + 14) j = 0 ∨ gI (setI h a 18 ((0 : Int32))) (a + 14) j = 1 := by rw [show gI (setI h a 18 ((0 : Int32))) (a + 14) = gI h (a + 14) from mr_ncI (by omega)]; exact md0
  generalize (setI h a 18 ((0 : Int32))) = h1 at m1 th1 on1 md1 ⊢
  refine Er_run 1 (pc' := 68) (ls' := [some (.ref a), some (.int ((0 : Int32))), some (.int (((0 : Int32)) - ((0 : Int32)) / ((10 : Int32)) * ((10 : Int32)))), none, none]) (st' := [.ref a]) rfl ?_
  refine Er_getI (v := (0 : Int32)) rfl m1.1 th1 ?_
  refine Er_run 1 (pc' := bif decide (((0 : Int32)) ≤ 0) then 76 else 74) (ls' := [some (.ref a), some (.int ((0 : Int32))), some (.int (((0 : Int32)) - ((0 : Int32)) / ((10 : Int32)) * ((10 : Int32)))), none, none]) (st' := []) rfl ?_
  refine Er_pc (t := 76) (show (bif decide (((0 : Int32)) ≤ 0) then 76 else 74) = 76 from by rw [show (decide (((0 : Int32)) ≤ 0)) = true from by decide]; rfl) ?_
  refine Er_run 3 (pc' := bif decide (((0 : Int32)) < ((20 : Int32))) then 98 else 82) (ls' := [some (.ref a), some (.int ((0 : Int32))), some (.int (((0 : Int32)) - ((0 : Int32)) / ((10 : Int32)) * ((10 : Int32)))), none, none]) (st' := []) rfl ?_
  refine Er_pc (t := 98) (show (bif decide (((0 : Int32)) < ((20 : Int32))) then 98 else 82) = 98 from by rw [show (decide (((0 : Int32)) < ((20 : Int32)))) = true from by decide]; rfl) ?_
  refine Er_run 3 (pc' := bif decide (((0 : Int32)) < ((10 : Int32))) then 119 else 104) (ls' := [some (.ref a), some (.int ((0 : Int32))), some (.int (((0 : Int32)) - ((0 : Int32)) / ((10 : Int32)) * ((10 : Int32)))), none, none]) (st' := []) rfl ?_
  refine Er_pc (t := 119) (show (bif decide (((0 : Int32)) < ((10 : Int32))) then 119 else 104) = 119 from by rw [show (decide (((0 : Int32)) < ((10 : Int32)))) = true from by decide]; rfl) ?_
  refine Er_run 4 (pc' := 124) (ls' := [some (.ref a), some (.int ((0 : Int32))), some (.int (((0 : Int32)) - ((0 : Int32)) / ((10 : Int32)) * ((10 : Int32)))), some (.int ((0 : Int32))), some (.int ((0 : Int32)))]) (st' := []) rfl ?_
  refine l_cnt m1 md1 8 0 0 (by omega) ?_
  refine Er_run 2 (pc' := bif !decide (((0 : Int32)) = 0) then 169 else 154) (ls' := [some (.ref a), some (.int ((0 : Int32))), some (.int (((0 : Int32)) - ((0 : Int32)) / ((10 : Int32)) * ((10 : Int32)))), some (.int (Int32.ofNat (0 + List.countP (jm_md h1 a) (List.range' 0 8)))), some (.int (Int32.ofNat 8))]) (st' := []) rfl ?_
  refine Er_pc (t := 154) (show (bif !decide (((0 : Int32)) = 0) then 169 else 154) = 154 from by rw [show (!decide (((0 : Int32)) = 0)) = false from by decide]; rfl) ?_
  refine Er_run 1 (pc' := 155) (ls' := [some (.ref a), some (.int ((0 : Int32))), some (.int (((0 : Int32)) - ((0 : Int32)) / ((10 : Int32)) * ((10 : Int32)))), some (.int (Int32.ofNat (0 + List.countP (jm_md h1 a) (List.range' 0 8)))), some (.int (Int32.ofNat 8))]) (st' := [.ref a]) rfl ?_
  refine Er_getI (v := (1 : Int32)) rfl m1.1 on1 ?_
  refine Er_run 1 (pc' := bif decide (((1 : Int32)) = 0) then 165 else 161) (ls' := [some (.ref a), some (.int ((0 : Int32))), some (.int (((0 : Int32)) - ((0 : Int32)) / ((10 : Int32)) * ((10 : Int32)))), some (.int (Int32.ofNat (0 + List.countP (jm_md h1 a) (List.range' 0 8)))), some (.int (Int32.ofNat 8))]) (st' := []) rfl ?_
  refine Er_pc (t := 161) (show (bif decide (((1 : Int32)) = 0) then 165 else 161) = 161 from by rw [show (decide (((1 : Int32)) = 0)) = false from by decide]; rfl) ?_
  refine Er_run 2 (pc' := 194) (ls' := [some (.ref a), some (.int ((0 : Int32))), some (.int (((0 : Int32)) - ((0 : Int32)) / ((10 : Int32)) * ((10 : Int32)))), some (.int (Int32.ofNat (0 + List.countP (jm_md h1 a) (List.range' 0 8)))), some (.int (Int32.ofNat 8))]) (st' := [.int ((1 : Int32))]) rfl ?_
  exact Er_fin rfl rfl ⟨rfl, rfl⟩
theorem s_Ref_count1 (m0 : mrO h a) (th0 : gI h a 18 = gI h a 18)  (md0 : ∀ j, j < 8 → gI h (a + 14) j = 0 ∨ gI h (a + 14) j = 1) : Run 181 [.ref a, .int ((1 : Int32))] h (.inl (some (.int (Int32.ofNat (0 + List.countP (jm_md (setI h a 18 0) a) (List.range' 0 8)))))) (setI h a 18 0) := by
  refine ⟨Nat.le_of_ble_eq_true rfl, ?_⟩
  show Ev 181 0 [some (.ref a), some (.int ((1 : Int32))), none, none, none] [] h _
  refine Er_run 2 (pc' := 3) (ls' := [some (.ref a), some (.int ((1 : Int32))), none, none, none]) (st' := [.int ((10 : Int32)), .int ((1 : Int32))]) rfl ?_
  refine Er_irem rfl (by decide) ?_
  refine Er_run 5 (pc' := 9) (ls' := [some (.ref a), some (.int ((1 : Int32))), some (.int (((1 : Int32)) - ((1 : Int32)) / ((10 : Int32)) * ((10 : Int32)))), none, none]) (st' := [.int ((3 : Int32)), .int ((0 : Int32)), .int ((1 : Int32)), .ref a]) rfl ?_
  refine Er_sta1 (av := [.int ((1 : Int32)), .int ((0 : Int32)), .int ((3 : Int32))]) (rest := [.ref a]) rfl rfl ⟨Nat.le_of_ble_eq_true rfl, Nat.le_of_ble_eq_true rfl⟩ rfl rfl (s_Ref_in1 (by decide)) ?_
  refine Er_run 1 (pc' := bif !decide (((1 : Int32)) = 0) then 59 else 15) (ls' := [some (.ref a), some (.int ((1 : Int32))), some (.int (((1 : Int32)) - ((1 : Int32)) / ((10 : Int32)) * ((10 : Int32)))), none, none]) (st' := [.ref a]) rfl ?_
  refine Er_pc (t := 59) (show (bif !decide (((1 : Int32)) = 0) then 59 else 15) = 59 from by rw [show (!decide (((1 : Int32)) = 0)) = true from by decide]; rfl) ?_
  refine Er_run 2 (pc' := 64) (ls' := [some (.ref a), some (.int ((1 : Int32))), some (.int (((1 : Int32)) - ((1 : Int32)) / ((10 : Int32)) * ((10 : Int32)))), none, none]) (st' := [.int ((0 : Int32)), .ref a]) rfl ?_
  refine Er_putI rfl m0.1 ?_
  have m1 : mrO (setI h a 18 ((0 : Int32))) a := mrO_setI m0
  have th1 : gI (setI h a 18 ((0 : Int32))) a 18 = (0 : Int32) := gI_eq
  have md1 : ∀ j, j < 8 → gI (setI h a 18 ((0 : Int32))) (a + 14) j = 0 ∨ gI (setI h a 18 ((0 : Int32))) (a + 14) j = 1 := by rw [show gI (setI h a 18 ((0 : Int32))) (a + 14) = gI h (a + 14) from mr_ncI (by omega)]; exact md0
  generalize (setI h a 18 ((0 : Int32))) = h1 at m1 th1 md1 ⊢
  refine Er_run 1 (pc' := 68) (ls' := [some (.ref a), some (.int ((1 : Int32))), some (.int (((1 : Int32)) - ((1 : Int32)) / ((10 : Int32)) * ((10 : Int32)))), none, none]) (st' := [.ref a]) rfl ?_
  refine Er_getI (v := (0 : Int32)) rfl m1.1 th1 ?_
  refine Er_run 1 (pc' := bif decide (((0 : Int32)) ≤ 0) then 76 else 74) (ls' := [some (.ref a), some (.int ((1 : Int32))), some (.int (((1 : Int32)) - ((1 : Int32)) / ((10 : Int32)) * ((10 : Int32)))), none, none]) (st' := []) rfl ?_
  refine Er_pc (t := 76) (show (bif decide (((0 : Int32)) ≤ 0) then 76 else 74) = 76 from by rw [show (decide (((0 : Int32)) ≤ 0)) = true from by decide]; rfl) ?_
  refine Er_run 3 (pc' := bif decide (((1 : Int32)) < ((20 : Int32))) then 98 else 82) (ls' := [some (.ref a), some (.int ((1 : Int32))), some (.int (((1 : Int32)) - ((1 : Int32)) / ((10 : Int32)) * ((10 : Int32)))), none, none]) (st' := []) rfl ?_
  refine Er_pc (t := 98) (show (bif decide (((1 : Int32)) < ((20 : Int32))) then 98 else 82) = 98 from by rw [show (decide (((1 : Int32)) < ((20 : Int32)))) = true from by decide]; rfl) ?_
  refine Er_run 3 (pc' := bif decide (((1 : Int32)) < ((10 : Int32))) then 119 else 104) (ls' := [some (.ref a), some (.int ((1 : Int32))), some (.int (((1 : Int32)) - ((1 : Int32)) / ((10 : Int32)) * ((10 : Int32)))), none, none]) (st' := []) rfl ?_
  refine Er_pc (t := 119) (show (bif decide (((1 : Int32)) < ((10 : Int32))) then 119 else 104) = 119 from by rw [show (decide (((1 : Int32)) < ((10 : Int32)))) = true from by decide]; rfl) ?_
  refine Er_run 4 (pc' := 124) (ls' := [some (.ref a), some (.int ((1 : Int32))), some (.int (((1 : Int32)) - ((1 : Int32)) / ((10 : Int32)) * ((10 : Int32)))), some (.int ((0 : Int32))), some (.int ((0 : Int32)))]) (st' := []) rfl ?_
  refine l_cnt m1 md1 8 0 0 (by omega) ?_
  refine Er_run 2 (pc' := bif !decide (((1 : Int32)) = 0) then 169 else 154) (ls' := [some (.ref a), some (.int ((1 : Int32))), some (.int (((1 : Int32)) - ((1 : Int32)) / ((10 : Int32)) * ((10 : Int32)))), some (.int (Int32.ofNat (0 + List.countP (jm_md h1 a) (List.range' 0 8)))), some (.int (Int32.ofNat 8))]) (st' := []) rfl ?_
  refine Er_pc (t := 169) (show (bif !decide (((1 : Int32)) = 0) then 169 else 154) = 169 from by rw [show (!decide (((1 : Int32)) = 0)) = true from by decide]; rfl) ?_
  refine Er_run 3 (pc' := bif !decide (((1 : Int32)) = ((1 : Int32))) then 178 else 174) (ls' := [some (.ref a), some (.int ((1 : Int32))), some (.int (((1 : Int32)) - ((1 : Int32)) / ((10 : Int32)) * ((10 : Int32)))), some (.int (Int32.ofNat (0 + List.countP (jm_md h1 a) (List.range' 0 8)))), some (.int (Int32.ofNat 8))]) (st' := []) rfl ?_
  refine Er_pc (t := 174) (show (bif !decide (((1 : Int32)) = ((1 : Int32))) then 178 else 174) = 174 from by rw [show (!decide (((1 : Int32)) = ((1 : Int32)))) = false from by decide]; rfl) ?_
  refine Er_run 2 (pc' := 194) (ls' := [some (.ref a), some (.int ((1 : Int32))), some (.int (((1 : Int32)) - ((1 : Int32)) / ((10 : Int32)) * ((10 : Int32)))), some (.int (Int32.ofNat (0 + List.countP (jm_md h1 a) (List.range' 0 8)))), some (.int (Int32.ofNat 8))]) (st' := [.int (Int32.ofNat (0 + List.countP (jm_md h1 a) (List.range' 0 8)))]) rfl ?_
  exact Er_fin rfl rfl ⟨rfl, rfl⟩
theorem s_Ref_count2 (m0 : mrO h a) (th0 : gI h a 18 = gI h a 18) (nw0 : gI h a 15 = t) (md0 : ∀ j, j < 8 → gI h (a + 14) j = 0 ∨ gI h (a + 14) j = 1) : Run 181 [.ref a, .int ((2 : Int32))] h (.inl (some (.int t))) (setI h a 18 0) := by
  refine ⟨Nat.le_of_ble_eq_true rfl, ?_⟩
  show Ev 181 0 [some (.ref a), some (.int ((2 : Int32))), none, none, none] [] h _
  refine Er_run 2 (pc' := 3) (ls' := [some (.ref a), some (.int ((2 : Int32))), none, none, none]) (st' := [.int ((10 : Int32)), .int ((2 : Int32))]) rfl ?_
  refine Er_irem rfl (by decide) ?_
  refine Er_run 5 (pc' := 9) (ls' := [some (.ref a), some (.int ((2 : Int32))), some (.int (((2 : Int32)) - ((2 : Int32)) / ((10 : Int32)) * ((10 : Int32)))), none, none]) (st' := [.int ((3 : Int32)), .int ((0 : Int32)), .int ((2 : Int32)), .ref a]) rfl ?_
  refine Er_sta1 (av := [.int ((2 : Int32)), .int ((0 : Int32)), .int ((3 : Int32))]) (rest := [.ref a]) rfl rfl ⟨Nat.le_of_ble_eq_true rfl, Nat.le_of_ble_eq_true rfl⟩ rfl rfl (s_Ref_in1 (by decide)) ?_
  refine Er_run 1 (pc' := bif !decide (((1 : Int32)) = 0) then 59 else 15) (ls' := [some (.ref a), some (.int ((2 : Int32))), some (.int (((2 : Int32)) - ((2 : Int32)) / ((10 : Int32)) * ((10 : Int32)))), none, none]) (st' := [.ref a]) rfl ?_
  refine Er_pc (t := 59) (show (bif !decide (((1 : Int32)) = 0) then 59 else 15) = 59 from by rw [show (!decide (((1 : Int32)) = 0)) = true from by decide]; rfl) ?_
  refine Er_run 2 (pc' := 64) (ls' := [some (.ref a), some (.int ((2 : Int32))), some (.int (((2 : Int32)) - ((2 : Int32)) / ((10 : Int32)) * ((10 : Int32)))), none, none]) (st' := [.int ((0 : Int32)), .ref a]) rfl ?_
  refine Er_putI rfl m0.1 ?_
  have m1 : mrO (setI h a 18 ((0 : Int32))) a := mrO_setI m0
  have th1 : gI (setI h a 18 ((0 : Int32))) a 18 = (0 : Int32) := gI_eq
  have nw1 : gI (setI h a 18 ((0 : Int32))) a 15 = t := by rw [gI_ne (by omega)]; exact nw0
  have md1 : ∀ j, j < 8 → gI (setI h a 18 ((0 : Int32))) (a + 14) j = 0 ∨ gI (setI h a 18 ((0 : Int32))) (a + 14) j = 1 := by rw [show gI (setI h a 18 ((0 : Int32))) (a + 14) = gI h (a + 14) from mr_ncI (by omega)]; exact md0
  generalize (setI h a 18 ((0 : Int32))) = h1 at m1 th1 nw1 md1 ⊢
  refine Er_run 1 (pc' := 68) (ls' := [some (.ref a), some (.int ((2 : Int32))), some (.int (((2 : Int32)) - ((2 : Int32)) / ((10 : Int32)) * ((10 : Int32)))), none, none]) (st' := [.ref a]) rfl ?_
  refine Er_getI (v := (0 : Int32)) rfl m1.1 th1 ?_
  refine Er_run 1 (pc' := bif decide (((0 : Int32)) ≤ 0) then 76 else 74) (ls' := [some (.ref a), some (.int ((2 : Int32))), some (.int (((2 : Int32)) - ((2 : Int32)) / ((10 : Int32)) * ((10 : Int32)))), none, none]) (st' := []) rfl ?_
  refine Er_pc (t := 76) (show (bif decide (((0 : Int32)) ≤ 0) then 76 else 74) = 76 from by rw [show (decide (((0 : Int32)) ≤ 0)) = true from by decide]; rfl) ?_
  refine Er_run 3 (pc' := bif decide (((2 : Int32)) < ((20 : Int32))) then 98 else 82) (ls' := [some (.ref a), some (.int ((2 : Int32))), some (.int (((2 : Int32)) - ((2 : Int32)) / ((10 : Int32)) * ((10 : Int32)))), none, none]) (st' := []) rfl ?_
  refine Er_pc (t := 98) (show (bif decide (((2 : Int32)) < ((20 : Int32))) then 98 else 82) = 98 from by rw [show (decide (((2 : Int32)) < ((20 : Int32)))) = true from by decide]; rfl) ?_
  refine Er_run 3 (pc' := bif decide (((2 : Int32)) < ((10 : Int32))) then 119 else 104) (ls' := [some (.ref a), some (.int ((2 : Int32))), some (.int (((2 : Int32)) - ((2 : Int32)) / ((10 : Int32)) * ((10 : Int32)))), none, none]) (st' := []) rfl ?_
  refine Er_pc (t := 119) (show (bif decide (((2 : Int32)) < ((10 : Int32))) then 119 else 104) = 119 from by rw [show (decide (((2 : Int32)) < ((10 : Int32)))) = true from by decide]; rfl) ?_
  refine Er_run 4 (pc' := 124) (ls' := [some (.ref a), some (.int ((2 : Int32))), some (.int (((2 : Int32)) - ((2 : Int32)) / ((10 : Int32)) * ((10 : Int32)))), some (.int ((0 : Int32))), some (.int ((0 : Int32)))]) (st' := []) rfl ?_
  refine l_cnt m1 md1 8 0 0 (by omega) ?_
  refine Er_run 2 (pc' := bif !decide (((2 : Int32)) = 0) then 169 else 154) (ls' := [some (.ref a), some (.int ((2 : Int32))), some (.int (((2 : Int32)) - ((2 : Int32)) / ((10 : Int32)) * ((10 : Int32)))), some (.int (Int32.ofNat (0 + List.countP (jm_md h1 a) (List.range' 0 8)))), some (.int (Int32.ofNat 8))]) (st' := []) rfl ?_
  refine Er_pc (t := 169) (show (bif !decide (((2 : Int32)) = 0) then 169 else 154) = 169 from by rw [show (!decide (((2 : Int32)) = 0)) = true from by decide]; rfl) ?_
  refine Er_run 3 (pc' := bif !decide (((2 : Int32)) = ((1 : Int32))) then 178 else 174) (ls' := [some (.ref a), some (.int ((2 : Int32))), some (.int (((2 : Int32)) - ((2 : Int32)) / ((10 : Int32)) * ((10 : Int32)))), some (.int (Int32.ofNat (0 + List.countP (jm_md h1 a) (List.range' 0 8)))), some (.int (Int32.ofNat 8))]) (st' := []) rfl ?_
  refine Er_pc (t := 178) (show (bif !decide (((2 : Int32)) = ((1 : Int32))) then 178 else 174) = 178 from by rw [show (!decide (((2 : Int32)) = ((1 : Int32)))) = true from by decide]; rfl) ?_
  refine Er_run 3 (pc' := bif !decide (((2 : Int32)) = ((2 : Int32))) then 190 else 183) (ls' := [some (.ref a), some (.int ((2 : Int32))), some (.int (((2 : Int32)) - ((2 : Int32)) / ((10 : Int32)) * ((10 : Int32)))), some (.int (Int32.ofNat (0 + List.countP (jm_md h1 a) (List.range' 0 8)))), some (.int (Int32.ofNat 8))]) (st' := []) rfl ?_
  refine Er_pc (t := 183) (show (bif !decide (((2 : Int32)) = ((2 : Int32))) then 190 else 183) = 183 from by rw [show (!decide (((2 : Int32)) = ((2 : Int32)))) = false from by decide]; rfl) ?_
  refine Er_run 1 (pc' := 184) (ls' := [some (.ref a), some (.int ((2 : Int32))), some (.int (((2 : Int32)) - ((2 : Int32)) / ((10 : Int32)) * ((10 : Int32)))), some (.int (Int32.ofNat (0 + List.countP (jm_md h1 a) (List.range' 0 8)))), some (.int (Int32.ofNat 8))]) (st' := [.ref a]) rfl ?_
  refine Er_getI (v := t) rfl m1.1 nw1 ?_
  refine Er_run 1 (pc' := 194) (ls' := [some (.ref a), some (.int ((2 : Int32))), some (.int (((2 : Int32)) - ((2 : Int32)) / ((10 : Int32)) * ((10 : Int32)))), some (.int (Int32.ofNat (0 + List.countP (jm_md h1 a) (List.range' 0 8)))), some (.int (Int32.ofNat 8))]) (st' := [.int t]) rfl ?_
  exact Er_fin rfl rfl ⟨rfl, rfl⟩
theorem s_Ref_count3 (m0 : mrO h a) (th0 : gI h a 18 = gI h a 18) (rn0 : gI h a 16 = t) (md0 : ∀ j, j < 8 → gI h (a + 14) j = 0 ∨ gI h (a + 14) j = 1) : Run 181 [.ref a, .int ((3 : Int32))] h (.inl (some (.int t))) (setI h a 18 0) := by
  refine ⟨Nat.le_of_ble_eq_true rfl, ?_⟩
  show Ev 181 0 [some (.ref a), some (.int ((3 : Int32))), none, none, none] [] h _
  refine Er_run 2 (pc' := 3) (ls' := [some (.ref a), some (.int ((3 : Int32))), none, none, none]) (st' := [.int ((10 : Int32)), .int ((3 : Int32))]) rfl ?_
  refine Er_irem rfl (by decide) ?_
  refine Er_run 5 (pc' := 9) (ls' := [some (.ref a), some (.int ((3 : Int32))), some (.int (((3 : Int32)) - ((3 : Int32)) / ((10 : Int32)) * ((10 : Int32)))), none, none]) (st' := [.int ((3 : Int32)), .int ((0 : Int32)), .int ((3 : Int32)), .ref a]) rfl ?_
  refine Er_sta1 (av := [.int ((3 : Int32)), .int ((0 : Int32)), .int ((3 : Int32))]) (rest := [.ref a]) rfl rfl ⟨Nat.le_of_ble_eq_true rfl, Nat.le_of_ble_eq_true rfl⟩ rfl rfl (s_Ref_in1 (by decide)) ?_
  refine Er_run 1 (pc' := bif !decide (((1 : Int32)) = 0) then 59 else 15) (ls' := [some (.ref a), some (.int ((3 : Int32))), some (.int (((3 : Int32)) - ((3 : Int32)) / ((10 : Int32)) * ((10 : Int32)))), none, none]) (st' := [.ref a]) rfl ?_
  refine Er_pc (t := 59) (show (bif !decide (((1 : Int32)) = 0) then 59 else 15) = 59 from by rw [show (!decide (((1 : Int32)) = 0)) = true from by decide]; rfl) ?_
  refine Er_run 2 (pc' := 64) (ls' := [some (.ref a), some (.int ((3 : Int32))), some (.int (((3 : Int32)) - ((3 : Int32)) / ((10 : Int32)) * ((10 : Int32)))), none, none]) (st' := [.int ((0 : Int32)), .ref a]) rfl ?_
  refine Er_putI rfl m0.1 ?_
  have m1 : mrO (setI h a 18 ((0 : Int32))) a := mrO_setI m0
  have th1 : gI (setI h a 18 ((0 : Int32))) a 18 = (0 : Int32) := gI_eq
  have rn1 : gI (setI h a 18 ((0 : Int32))) a 16 = t := by rw [gI_ne (by omega)]; exact rn0
  have md1 : ∀ j, j < 8 → gI (setI h a 18 ((0 : Int32))) (a + 14) j = 0 ∨ gI (setI h a 18 ((0 : Int32))) (a + 14) j = 1 := by rw [show gI (setI h a 18 ((0 : Int32))) (a + 14) = gI h (a + 14) from mr_ncI (by omega)]; exact md0
  generalize (setI h a 18 ((0 : Int32))) = h1 at m1 th1 rn1 md1 ⊢
  refine Er_run 1 (pc' := 68) (ls' := [some (.ref a), some (.int ((3 : Int32))), some (.int (((3 : Int32)) - ((3 : Int32)) / ((10 : Int32)) * ((10 : Int32)))), none, none]) (st' := [.ref a]) rfl ?_
  refine Er_getI (v := (0 : Int32)) rfl m1.1 th1 ?_
  refine Er_run 1 (pc' := bif decide (((0 : Int32)) ≤ 0) then 76 else 74) (ls' := [some (.ref a), some (.int ((3 : Int32))), some (.int (((3 : Int32)) - ((3 : Int32)) / ((10 : Int32)) * ((10 : Int32)))), none, none]) (st' := []) rfl ?_
  refine Er_pc (t := 76) (show (bif decide (((0 : Int32)) ≤ 0) then 76 else 74) = 76 from by rw [show (decide (((0 : Int32)) ≤ 0)) = true from by decide]; rfl) ?_
  refine Er_run 3 (pc' := bif decide (((3 : Int32)) < ((20 : Int32))) then 98 else 82) (ls' := [some (.ref a), some (.int ((3 : Int32))), some (.int (((3 : Int32)) - ((3 : Int32)) / ((10 : Int32)) * ((10 : Int32)))), none, none]) (st' := []) rfl ?_
  refine Er_pc (t := 98) (show (bif decide (((3 : Int32)) < ((20 : Int32))) then 98 else 82) = 98 from by rw [show (decide (((3 : Int32)) < ((20 : Int32)))) = true from by decide]; rfl) ?_
  refine Er_run 3 (pc' := bif decide (((3 : Int32)) < ((10 : Int32))) then 119 else 104) (ls' := [some (.ref a), some (.int ((3 : Int32))), some (.int (((3 : Int32)) - ((3 : Int32)) / ((10 : Int32)) * ((10 : Int32)))), none, none]) (st' := []) rfl ?_
  refine Er_pc (t := 119) (show (bif decide (((3 : Int32)) < ((10 : Int32))) then 119 else 104) = 119 from by rw [show (decide (((3 : Int32)) < ((10 : Int32)))) = true from by decide]; rfl) ?_
  refine Er_run 4 (pc' := 124) (ls' := [some (.ref a), some (.int ((3 : Int32))), some (.int (((3 : Int32)) - ((3 : Int32)) / ((10 : Int32)) * ((10 : Int32)))), some (.int ((0 : Int32))), some (.int ((0 : Int32)))]) (st' := []) rfl ?_
  refine l_cnt m1 md1 8 0 0 (by omega) ?_
  refine Er_run 2 (pc' := bif !decide (((3 : Int32)) = 0) then 169 else 154) (ls' := [some (.ref a), some (.int ((3 : Int32))), some (.int (((3 : Int32)) - ((3 : Int32)) / ((10 : Int32)) * ((10 : Int32)))), some (.int (Int32.ofNat (0 + List.countP (jm_md h1 a) (List.range' 0 8)))), some (.int (Int32.ofNat 8))]) (st' := []) rfl ?_
  refine Er_pc (t := 169) (show (bif !decide (((3 : Int32)) = 0) then 169 else 154) = 169 from by rw [show (!decide (((3 : Int32)) = 0)) = true from by decide]; rfl) ?_
  refine Er_run 3 (pc' := bif !decide (((3 : Int32)) = ((1 : Int32))) then 178 else 174) (ls' := [some (.ref a), some (.int ((3 : Int32))), some (.int (((3 : Int32)) - ((3 : Int32)) / ((10 : Int32)) * ((10 : Int32)))), some (.int (Int32.ofNat (0 + List.countP (jm_md h1 a) (List.range' 0 8)))), some (.int (Int32.ofNat 8))]) (st' := []) rfl ?_
  refine Er_pc (t := 178) (show (bif !decide (((3 : Int32)) = ((1 : Int32))) then 178 else 174) = 178 from by rw [show (!decide (((3 : Int32)) = ((1 : Int32)))) = true from by decide]; rfl) ?_
  refine Er_run 3 (pc' := bif !decide (((3 : Int32)) = ((2 : Int32))) then 190 else 183) (ls' := [some (.ref a), some (.int ((3 : Int32))), some (.int (((3 : Int32)) - ((3 : Int32)) / ((10 : Int32)) * ((10 : Int32)))), some (.int (Int32.ofNat (0 + List.countP (jm_md h1 a) (List.range' 0 8)))), some (.int (Int32.ofNat 8))]) (st' := []) rfl ?_
  refine Er_pc (t := 190) (show (bif !decide (((3 : Int32)) = ((2 : Int32))) then 190 else 183) = 190 from by rw [show (!decide (((3 : Int32)) = ((2 : Int32)))) = true from by decide]; rfl) ?_
  refine Er_run 1 (pc' := 191) (ls' := [some (.ref a), some (.int ((3 : Int32))), some (.int (((3 : Int32)) - ((3 : Int32)) / ((10 : Int32)) * ((10 : Int32)))), some (.int (Int32.ofNat (0 + List.countP (jm_md h1 a) (List.range' 0 8)))), some (.int (Int32.ofNat 8))]) (st' := [.ref a]) rfl ?_
  refine Er_getI (v := t) rfl m1.1 rn1 ?_
  exact Er_fin rfl rfl ⟨rfl, rfl⟩
end REFK
