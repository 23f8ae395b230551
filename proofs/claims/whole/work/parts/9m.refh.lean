section REFH
variable {h h' : sm_H} {a : Nat} {x y z t : Int32} {G : Nat → Nat → Int32} {PR : Nat → Nat → List (Int32 × Int64)} {F : Nat → Jl} {D : List (Int32 × Int64)} {b : Bool} {n f j : Nat}

theorem s_Ref_told1 (hm : mrO h a) (hi : jm_in x 0 15 = false) : Run 179 [.ref a, .int x, .int y, .int z] h (.inl (some (.long ((0 : Int64))))) (setI h a 18 1) := by
  refine ⟨Nat.le_of_ble_eq_true rfl, ?_⟩
  show Ev 179 0 [some (.ref a), some (.int x), some (.int y), some (.int z)] [] h _
  refine Er_run 4 (pc' := 5) (ls' := [some (.ref a), some (.int x), some (.int y), some (.int z)]) (st' := [.int ((15 : Int32)), .int ((0 : Int32)), .int x, .ref a]) rfl ?_
  refine Er_sta1 (av := [.int x, .int ((0 : Int32)), .int ((15 : Int32))]) (rest := [.ref a]) rfl rfl ⟨Nat.le_of_ble_eq_true rfl, Nat.le_of_ble_eq_true rfl⟩ rfl rfl (s_Ref_in0 hi) ?_
  refine Er_run 1 (pc' := bif !decide (((0 : Int32)) = 0) then 15 else 11) (ls' := [some (.ref a), some (.int x), some (.int y), some (.int z)]) (st' := [.ref a]) rfl ?_
  refine Er_pc (t := 11) (show (bif !decide (((0 : Int32)) = 0) then 15 else 11) = 11 from by rw [show (!decide (((0 : Int32)) = 0)) = false from by decide]; rfl) ?_
  refine Er_run 2 (pc' := 47) (ls' := [some (.ref a), some (.int x), some (.int y), some (.int z)]) (st' := [.int ((1 : Int32)), .ref a]) rfl ?_
  refine Er_putI rfl hm.1 ?_
  refine Er_run 1 (pc' := 51) (ls' := [some (.ref a), some (.int x), some (.int y), some (.int z)]) (st' := [.ref a]) rfl ?_
  refine Er_getI (v := (1 : Int32)) rfl hm.1 gI_eq ?_
  refine Er_run 1 (pc' := bif decide (((1 : Int32)) ≤ 0) then 59 else 57) (ls' := [some (.ref a), some (.int x), some (.int y), some (.int z)]) (st' := []) rfl ?_
  refine Er_pc (t := 57) (show (bif decide (((1 : Int32)) ≤ 0) then 59 else 57) = 57 from by rw [show (decide (((1 : Int32)) ≤ 0)) = false from by decide]; rfl) ?_
  refine Er_run 1 (pc' := 58) (ls' := [some (.ref a), some (.int x), some (.int y), some (.int z)]) (st' := [.long ((0 : Int64))]) rfl ?_
  exact Er_fin rfl rfl ⟨rfl, rfl⟩
theorem s_Ref_told2 (hm : mrO h a) (hi : jm_in x 0 15 = true) (ho : gI h a 19 = 1) : Run 179 [.ref a, .int x, .int y, .int z] h (.inl (some (.long ((0 : Int64))))) (setI h a 18 2) := by
  refine ⟨Nat.le_of_ble_eq_true rfl, ?_⟩
  show Ev 179 0 [some (.ref a), some (.int x), some (.int y), some (.int z)] [] h _
  refine Er_run 4 (pc' := 5) (ls' := [some (.ref a), some (.int x), some (.int y), some (.int z)]) (st' := [.int ((15 : Int32)), .int ((0 : Int32)), .int x, .ref a]) rfl ?_
  refine Er_sta1 (av := [.int x, .int ((0 : Int32)), .int ((15 : Int32))]) (rest := [.ref a]) rfl rfl ⟨Nat.le_of_ble_eq_true rfl, Nat.le_of_ble_eq_true rfl⟩ rfl rfl (s_Ref_in1 hi) ?_
  refine Er_run 1 (pc' := bif !decide (((1 : Int32)) = 0) then 15 else 11) (ls' := [some (.ref a), some (.int x), some (.int y), some (.int z)]) (st' := [.ref a]) rfl ?_
  refine Er_pc (t := 15) (show (bif !decide (((1 : Int32)) = 0) then 15 else 11) = 15 from by rw [show (!decide (((1 : Int32)) = 0)) = true from by decide]; rfl) ?_
  refine Er_run 1 (pc' := 16) (ls' := [some (.ref a), some (.int x), some (.int y), some (.int z)]) (st' := [.ref a, .ref a]) rfl ?_
  refine Er_getI (v := (1 : Int32)) rfl hm.1 ho ?_
  refine Er_run 1 (pc' := bif decide (((1 : Int32)) = 0) then 26 else 22) (ls' := [some (.ref a), some (.int x), some (.int y), some (.int z)]) (st' := [.ref a]) rfl ?_
  refine Er_pc (t := 22) (show (bif decide (((1 : Int32)) = 0) then 26 else 22) = 22 from by rw [show (decide (((1 : Int32)) = 0)) = false from by decide]; rfl) ?_
  refine Er_run 2 (pc' := 47) (ls' := [some (.ref a), some (.int x), some (.int y), some (.int z)]) (st' := [.int ((2 : Int32)), .ref a]) rfl ?_
  refine Er_putI rfl hm.1 ?_
  refine Er_run 1 (pc' := 51) (ls' := [some (.ref a), some (.int x), some (.int y), some (.int z)]) (st' := [.ref a]) rfl ?_
  refine Er_getI (v := (2 : Int32)) rfl hm.1 gI_eq ?_
  refine Er_run 1 (pc' := bif decide (((2 : Int32)) ≤ 0) then 59 else 57) (ls' := [some (.ref a), some (.int x), some (.int y), some (.int z)]) (st' := []) rfl ?_
  refine Er_pc (t := 57) (show (bif decide (((2 : Int32)) ≤ 0) then 59 else 57) = 57 from by rw [show (decide (((2 : Int32)) ≤ 0)) = false from by decide]; rfl) ?_
  refine Er_run 1 (pc' := 58) (ls' := [some (.ref a), some (.int x), some (.int y), some (.int z)]) (st' := [.long ((0 : Int64))]) rfl ?_
  exact Er_fin rfl rfl ⟨rfl, rfl⟩
end REFH
