section REFE
variable {h h' : sm_H} {a : Nat} {x y z t : Int32} {G : Nat → Nat → Int32} {PR : Nat → Nat → List (Int32 × Int64)} {F : Nat → Jl} {D : List (Int32 × Int64)} {b : Bool} {n f j : Nat}

theorem s_Ref_record1 {k v : Int64} (hm : mrO h a) (hi : jm_in x 0 15 = false) : Run 168 [.ref a, .int x, .long k, .long v] h (.inl (some (.int ((0 : Int32))))) (setI h a 18 1) := by
  refine ⟨Nat.le_of_ble_eq_true rfl, ?_⟩
  show Ev 168 0 [some (.ref a), some (.int x), some (.long k), none, some (.long v), none] [] h _
  refine Er_run 4 (pc' := 5) (ls' := [some (.ref a), some (.int x), some (.long k), none, some (.long v), none]) (st' := [.int ((15 : Int32)), .int ((0 : Int32)), .int x, .ref a]) rfl ?_
  refine Er_sta1 (av := [.int x, .int ((0 : Int32)), .int ((15 : Int32))]) (rest := [.ref a]) rfl rfl ⟨Nat.le_of_ble_eq_true rfl, Nat.le_of_ble_eq_true rfl⟩ rfl rfl (s_Ref_in0 hi) ?_
  refine Er_run 1 (pc' := bif !decide (((0 : Int32)) = 0) then 15 else 11) (ls' := [some (.ref a), some (.int x), some (.long k), none, some (.long v), none]) (st' := [.ref a]) rfl ?_
  refine Er_pc (t := 11) (show (bif !decide (((0 : Int32)) = 0) then 15 else 11) = 11 from by rw [show (!decide (((0 : Int32)) = 0)) = false from by decide]; rfl) ?_
  refine Er_run 2 (pc' := 39) (ls' := [some (.ref a), some (.int x), some (.long k), none, some (.long v), none]) (st' := [.int ((1 : Int32)), .ref a]) rfl ?_
  refine Er_putI rfl hm.1 ?_
  refine Er_run 1 (pc' := 43) (ls' := [some (.ref a), some (.int x), some (.long k), none, some (.long v), none]) (st' := [.ref a]) rfl ?_
  refine Er_getI (v := (1 : Int32)) rfl hm.1 gI_eq ?_
  refine Er_run 1 (pc' := bif decide (((1 : Int32)) ≤ 0) then 51 else 49) (ls' := [some (.ref a), some (.int x), some (.long k), none, some (.long v), none]) (st' := []) rfl ?_
  refine Er_pc (t := 49) (show (bif decide (((1 : Int32)) ≤ 0) then 51 else 49) = 49 from by rw [show (decide (((1 : Int32)) ≤ 0)) = false from by decide]; rfl) ?_
  refine Er_run 1 (pc' := 50) (ls' := [some (.ref a), some (.int x), some (.long k), none, some (.long v), none]) (st' := [.int ((0 : Int32))]) rfl ?_
  exact Er_fin rfl rfl ⟨rfl, rfl⟩
theorem s_Ref_record2f {k v : Int64} (hm : mrO h a) (hf : f < 16) (hs : gI h (a + 3) f = 300) : Run 168 [.ref a, .int (Int32.ofNat f), .long k, .long v] h (.inl (some (.int ((0 : Int32))))) (setI h a 18 2) := by
  refine ⟨Nat.le_of_ble_eq_true rfl, ?_⟩
  show Ev 168 0 [some (.ref a), some (.int (Int32.ofNat f)), some (.long k), none, some (.long v), none] [] h _
  refine Er_run 4 (pc' := 5) (ls' := [some (.ref a), some (.int (Int32.ofNat f)), some (.long k), none, some (.long v), none]) (st' := [.int ((15 : Int32)), .int ((0 : Int32)), .int (Int32.ofNat f), .ref a]) rfl ?_
  refine Er_sta1 (av := [.int (Int32.ofNat f), .int ((0 : Int32)), .int ((15 : Int32))]) (rest := [.ref a]) rfl rfl ⟨Nat.le_of_ble_eq_true rfl, Nat.le_of_ble_eq_true rfl⟩ rfl rfl (s_Ref_in1 (jm_in_n (k := 15) (by omega) (by omega))) ?_
  refine Er_run 1 (pc' := bif !decide (((1 : Int32)) = 0) then 15 else 11) (ls' := [some (.ref a), some (.int (Int32.ofNat f)), some (.long k), none, some (.long v), none]) (st' := [.ref a]) rfl ?_
  refine Er_pc (t := 15) (show (bif !decide (((1 : Int32)) = 0) then 15 else 11) = 15 from by rw [show (!decide (((1 : Int32)) = 0)) = true from by decide]; rfl) ?_
  refine Er_run 1 (pc' := 16) (ls' := [some (.ref a), some (.int (Int32.ofNat f)), some (.long k), none, some (.long v), none]) (st' := [.ref a, .ref a]) rfl ?_
  refine Er_getR (x := a + 3) rfl hm.1 (hm.2 (2, 3, 0, 16) (by decide)).1 ?_
  refine Er_run 1 (pc' := 20) (ls' := [some (.ref a), some (.int (Int32.ofNat f)), some (.long k), none, some (.long v), none]) (st' := [.int (Int32.ofNat f), .ref (a + 3), .ref a]) rfl ?_
  refine Er_iald (v := (300 : Int32)) rfl (hm.2 (2, 3, 0, 16) (by decide)).2.1 (mr_idx (i := f) (k := 16) hf (by omega) (hm.2 (2, 3, 0, 16) (by decide)).2.2) (show gI h (a + 3) (Int32.ofNat f).toNatClampNeg = (300 : Int32) from by rw [jx_cn (by omega)]; exact hs) ?_
  refine Er_run 2 (pc' := bif decide (((300 : Int32)) = ((300 : Int32))) then 34 else 27) (ls' := [some (.ref a), some (.int (Int32.ofNat f)), some (.long k), none, some (.long v), none]) (st' := [.ref a]) rfl ?_
  refine Er_pc (t := 34) (show (bif decide (((300 : Int32)) = ((300 : Int32))) then 34 else 27) = 34 from by rw [show (decide (((300 : Int32)) = ((300 : Int32)))) = true from by decide]; rfl) ?_
  refine Er_run 2 (pc' := 39) (ls' := [some (.ref a), some (.int (Int32.ofNat f)), some (.long k), none, some (.long v), none]) (st' := [.int ((2 : Int32)), .ref a]) rfl ?_
  refine Er_putI rfl hm.1 ?_
  refine Er_run 1 (pc' := 43) (ls' := [some (.ref a), some (.int (Int32.ofNat f)), some (.long k), none, some (.long v), none]) (st' := [.ref a]) rfl ?_
  refine Er_getI (v := (2 : Int32)) rfl hm.1 gI_eq ?_
  refine Er_run 1 (pc' := bif decide (((2 : Int32)) ≤ 0) then 51 else 49) (ls' := [some (.ref a), some (.int (Int32.ofNat f)), some (.long k), none, some (.long v), none]) (st' := []) rfl ?_
  refine Er_pc (t := 49) (show (bif decide (((2 : Int32)) ≤ 0) then 51 else 49) = 49 from by rw [show (decide (((2 : Int32)) ≤ 0)) = false from by decide]; rfl) ?_
  refine Er_run 1 (pc' := 50) (ls' := [some (.ref a), some (.int (Int32.ofNat f)), some (.long k), none, some (.long v), none]) (st' := [.int ((0 : Int32))]) rfl ?_
  exact Er_fin rfl rfl ⟨rfl, rfl⟩
theorem s_Ref_record2o {k v : Int64} (hm : mrO h a) (hf : f < 16) (hs : gI h (a + 3) f = x) (hx : ¬ x = 300) (ho : gI h a 19 = 1) : Run 168 [.ref a, .int (Int32.ofNat f), .long k, .long v] h (.inl (some (.int ((0 : Int32))))) (setI h a 18 2) := by
  refine ⟨Nat.le_of_ble_eq_true rfl, ?_⟩
  show Ev 168 0 [some (.ref a), some (.int (Int32.ofNat f)), some (.long k), none, some (.long v), none] [] h _
  refine Er_run 4 (pc' := 5) (ls' := [some (.ref a), some (.int (Int32.ofNat f)), some (.long k), none, some (.long v), none]) (st' := [.int ((15 : Int32)), .int ((0 : Int32)), .int (Int32.ofNat f), .ref a]) rfl ?_
  refine Er_sta1 (av := [.int (Int32.ofNat f), .int ((0 : Int32)), .int ((15 : Int32))]) (rest := [.ref a]) rfl rfl ⟨Nat.le_of_ble_eq_true rfl, Nat.le_of_ble_eq_true rfl⟩ rfl rfl (s_Ref_in1 (jm_in_n (k := 15) (by omega) (by omega))) ?_
  refine Er_run 1 (pc' := bif !decide (((1 : Int32)) = 0) then 15 else 11) (ls' := [some (.ref a), some (.int (Int32.ofNat f)), some (.long k), none, some (.long v), none]) (st' := [.ref a]) rfl ?_
  refine Er_pc (t := 15) (show (bif !decide (((1 : Int32)) = 0) then 15 else 11) = 15 from by rw [show (!decide (((1 : Int32)) = 0)) = true from by decide]; rfl) ?_
  refine Er_run 1 (pc' := 16) (ls' := [some (.ref a), some (.int (Int32.ofNat f)), some (.long k), none, some (.long v), none]) (st' := [.ref a, .ref a]) rfl ?_
  refine Er_getR (x := a + 3) rfl hm.1 (hm.2 (2, 3, 0, 16) (by decide)).1 ?_
  refine Er_run 1 (pc' := 20) (ls' := [some (.ref a), some (.int (Int32.ofNat f)), some (.long k), none, some (.long v), none]) (st' := [.int (Int32.ofNat f), .ref (a + 3), .ref a]) rfl ?_
  refine Er_iald (v := x) rfl (hm.2 (2, 3, 0, 16) (by decide)).2.1 (mr_idx (i := f) (k := 16) hf (by omega) (hm.2 (2, 3, 0, 16) (by decide)).2.2) (show gI h (a + 3) (Int32.ofNat f).toNatClampNeg = x from by rw [jx_cn (by omega)]; exact hs) ?_
  refine Er_run 2 (pc' := bif decide (x = ((300 : Int32))) then 34 else 27) (ls' := [some (.ref a), some (.int (Int32.ofNat f)), some (.long k), none, some (.long v), none]) (st' := [.ref a]) rfl ?_
  refine Er_pc (t := 27) (show (bif decide (x = ((300 : Int32))) then 34 else 27) = 27 from by rw [show (decide (x = ((300 : Int32)))) = false from decide_eq_false hx]; rfl) ?_
  refine Er_run 1 (pc' := 28) (ls' := [some (.ref a), some (.int (Int32.ofNat f)), some (.long k), none, some (.long v), none]) (st' := [.ref a, .ref a]) rfl ?_
  refine Er_getI (v := (1 : Int32)) rfl hm.1 ho ?_
  refine Er_run 1 (pc' := bif decide (((1 : Int32)) = 0) then 38 else 34) (ls' := [some (.ref a), some (.int (Int32.ofNat f)), some (.long k), none, some (.long v), none]) (st' := [.ref a]) rfl ?_
  refine Er_pc (t := 34) (show (bif decide (((1 : Int32)) = 0) then 38 else 34) = 34 from by rw [show (decide (((1 : Int32)) = 0)) = false from by decide]; rfl) ?_
  refine Er_run 2 (pc' := 39) (ls' := [some (.ref a), some (.int (Int32.ofNat f)), some (.long k), none, some (.long v), none]) (st' := [.int ((2 : Int32)), .ref a]) rfl ?_
  refine Er_putI rfl hm.1 ?_
  refine Er_run 1 (pc' := 43) (ls' := [some (.ref a), some (.int (Int32.ofNat f)), some (.long k), none, some (.long v), none]) (st' := [.ref a]) rfl ?_
  refine Er_getI (v := (2 : Int32)) rfl hm.1 gI_eq ?_
  refine Er_run 1 (pc' := bif decide (((2 : Int32)) ≤ 0) then 51 else 49) (ls' := [some (.ref a), some (.int (Int32.ofNat f)), some (.long k), none, some (.long v), none]) (st' := []) rfl ?_
  refine Er_pc (t := 49) (show (bif decide (((2 : Int32)) ≤ 0) then 51 else 49) = 49 from by rw [show (decide (((2 : Int32)) ≤ 0)) = false from by decide]; rfl) ?_
  refine Er_run 1 (pc' := 50) (ls' := [some (.ref a), some (.int (Int32.ofNat f)), some (.long k), none, some (.long v), none]) (st' := [.int ((0 : Int32))]) rfl ?_
  exact Er_fin rfl rfl ⟨rfl, rfl⟩
end REFE
