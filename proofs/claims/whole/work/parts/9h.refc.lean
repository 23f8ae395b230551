section REFC
variable {h h' : sm_H} {a : Nat} {x y z t : Int32} {G : Nat → Nat → Int32} {PR : Nat → Nat → List (Int32 × Int64)} {F : Nat → Jl} {D : List (Int32 × Int64)} {b : Bool} {n f j : Nat}
theorem jm_in_n {k : Nat} (hk : k < 2147483648) (hf : f ≤ k) : jm_in (Int32.ofNat f) 0 (Int32.ofNat k) = true := by
  rw [jm_in, show (0 : Int32) = Int32.ofNat 0 from rfl, jx_le (by omega) (by omega), jx_le (by omega) (by omega), decide_eq_true (Nat.zero_le f), decide_eq_true hf]; rfl
theorem mr_idx {i : Nat} {q k : Nat} (hi : i < k) (hk : k < 2147483648) (hl : (gS h q).2 = k) : sm_in (Int32.ofNat i) (gS h q).2 = true := by
  rw [hl]; exact sm_in_of (by rw [sm_ofNat_toInt (by omega)]; omega) (by rw [sm_ofNat_toInt (by omega)]; omega)

theorem s_Ref_size0 (hm : mrO h a) (hf : f < 16) (ho : gI h a 19 = 0) (hs : gI h (a + 3) f = x) : Run 180 [.ref a, .int (Int32.ofNat f)] h (.inl (some (.int x))) (setI h a 18 0) := by
  refine ⟨Nat.le_of_ble_eq_true rfl, ?_⟩
  show Ev 180 0 [some (.ref a), some (.int (Int32.ofNat f))] [] h _
  refine Er_run 4 (pc' := 5) (ls' := [some (.ref a), some (.int (Int32.ofNat f))]) (st' := [.int ((15 : Int32)), .int ((0 : Int32)), .int (Int32.ofNat f), .ref a]) rfl ?_
  refine Er_sta1 (av := [.int (Int32.ofNat f), .int ((0 : Int32)), .int ((15 : Int32))]) (rest := [.ref a]) rfl rfl ⟨Nat.le_of_ble_eq_true rfl, Nat.le_of_ble_eq_true rfl⟩ rfl rfl (s_Ref_in1 (jm_in_n (k := 15) (by omega) (by omega))) ?_
  refine Er_run 1 (pc' := bif !decide (((1 : Int32)) = 0) then 15 else 11) (ls' := [some (.ref a), some (.int (Int32.ofNat f))]) (st' := [.ref a]) rfl ?_
  refine Er_pc (t := 15) (show (bif !decide (((1 : Int32)) = 0) then 15 else 11) = 15 from by rw [show (!decide (((1 : Int32)) = 0)) = true from by decide]; rfl) ?_
  refine Er_run 1 (pc' := 16) (ls' := [some (.ref a), some (.int (Int32.ofNat f))]) (st' := [.ref a, .ref a]) rfl ?_
  refine Er_getI (v := (0 : Int32)) rfl hm.1 ho ?_
  refine Er_run 1 (pc' := bif decide (((0 : Int32)) = 0) then 26 else 22) (ls' := [some (.ref a), some (.int (Int32.ofNat f))]) (st' := [.ref a]) rfl ?_
  refine Er_pc (t := 26) (show (bif decide (((0 : Int32)) = 0) then 26 else 22) = 26 from by rw [show (decide (((0 : Int32)) = 0)) = true from by decide]; rfl) ?_
  refine Er_run 1 (pc' := 27) (ls' := [some (.ref a), some (.int (Int32.ofNat f))]) (st' := [.int ((0 : Int32)), .ref a]) rfl ?_
  refine Er_putI rfl hm.1 ?_
  refine Er_run 1 (pc' := 31) (ls' := [some (.ref a), some (.int (Int32.ofNat f))]) (st' := [.ref a]) rfl ?_
  refine Er_getI (v := (0 : Int32)) rfl hm.1 gI_eq ?_
  refine Er_run 1 (pc' := bif decide (((0 : Int32)) ≤ 0) then 41 else 37) (ls' := [some (.ref a), some (.int (Int32.ofNat f))]) (st' := []) rfl ?_
  refine Er_pc (t := 41) (show (bif decide (((0 : Int32)) ≤ 0) then 41 else 37) = 41 from by rw [show (decide (((0 : Int32)) ≤ 0)) = true from by decide]; rfl) ?_
  refine Er_run 1 (pc' := 42) (ls' := [some (.ref a), some (.int (Int32.ofNat f))]) (st' := [.ref a]) rfl ?_
  refine Er_getR (x := a + 3) rfl hm.1 (hm.2 (2, 3, 0, 16) (by decide)).1 ?_
  refine Er_run 1 (pc' := 46) (ls' := [some (.ref a), some (.int (Int32.ofNat f))]) (st' := [.int (Int32.ofNat f), .ref (a + 3)]) rfl ?_
  refine Er_iald (v := x) rfl (hm.2 (2, 3, 0, 16) (by decide)).2.1 (mr_idx (i := f) (k := 16) hf (by omega) (hm.2 (2, 3, 0, 16) (by decide)).2.2) (show gI (setI h a 18 0) (a + 3) (Int32.ofNat f).toNatClampNeg = x from by rw [jx_cn (by omega), gI_ne (by omega)]; exact hs) ?_
  exact Er_fin rfl rfl ⟨rfl, rfl⟩
theorem s_Ref_clear0 (hm : mrO h a) (hf : f < 16) (ho : gI h a 19 = 0) (hs : gI h (a + 3) f = x) : Run 169 [.ref a, .int (Int32.ofNat f)] h (.inl (some (.int x))) (setI (setI h a 18 0) (a + 3) (Int32.ofNat f).toNatClampNeg 0) := by
  refine ⟨Nat.le_of_ble_eq_true rfl, ?_⟩
  show Ev 169 0 [some (.ref a), some (.int (Int32.ofNat f)), none] [] h _
  refine Er_run 4 (pc' := 5) (ls' := [some (.ref a), some (.int (Int32.ofNat f)), none]) (st' := [.int ((15 : Int32)), .int ((0 : Int32)), .int (Int32.ofNat f), .ref a]) rfl ?_
  refine Er_sta1 (av := [.int (Int32.ofNat f), .int ((0 : Int32)), .int ((15 : Int32))]) (rest := [.ref a]) rfl rfl ⟨Nat.le_of_ble_eq_true rfl, Nat.le_of_ble_eq_true rfl⟩ rfl rfl (s_Ref_in1 (jm_in_n (k := 15) (by omega) (by omega))) ?_
  refine Er_run 1 (pc' := bif !decide (((1 : Int32)) = 0) then 15 else 11) (ls' := [some (.ref a), some (.int (Int32.ofNat f)), none]) (st' := [.ref a]) rfl ?_
  refine Er_pc (t := 15) (show (bif !decide (((1 : Int32)) = 0) then 15 else 11) = 15 from by rw [show (!decide (((1 : Int32)) = 0)) = true from by decide]; rfl) ?_
  refine Er_run 1 (pc' := 16) (ls' := [some (.ref a), some (.int (Int32.ofNat f)), none]) (st' := [.ref a, .ref a]) rfl ?_
  refine Er_getI (v := (0 : Int32)) rfl hm.1 ho ?_
  refine Er_run 1 (pc' := bif decide (((0 : Int32)) = 0) then 26 else 22) (ls' := [some (.ref a), some (.int (Int32.ofNat f)), none]) (st' := [.ref a]) rfl ?_
  refine Er_pc (t := 26) (show (bif decide (((0 : Int32)) = 0) then 26 else 22) = 26 from by rw [show (decide (((0 : Int32)) = 0)) = true from by decide]; rfl) ?_
  refine Er_run 1 (pc' := 27) (ls' := [some (.ref a), some (.int (Int32.ofNat f)), none]) (st' := [.int ((0 : Int32)), .ref a]) rfl ?_
  refine Er_putI rfl hm.1 ?_
  refine Er_run 1 (pc' := 31) (ls' := [some (.ref a), some (.int (Int32.ofNat f)), none]) (st' := [.ref a]) rfl ?_
  refine Er_getI (v := (0 : Int32)) rfl hm.1 gI_eq ?_
  refine Er_run 1 (pc' := bif decide (((0 : Int32)) ≤ 0) then 39 else 37) (ls' := [some (.ref a), some (.int (Int32.ofNat f)), none]) (st' := []) rfl ?_
  refine Er_pc (t := 39) (show (bif decide (((0 : Int32)) ≤ 0) then 39 else 37) = 39 from by rw [show (decide (((0 : Int32)) ≤ 0)) = true from by decide]; rfl) ?_
  refine Er_run 1 (pc' := 40) (ls' := [some (.ref a), some (.int (Int32.ofNat f)), none]) (st' := [.ref a]) rfl ?_
  refine Er_getR (x := a + 3) rfl hm.1 (hm.2 (2, 3, 0, 16) (by decide)).1 ?_
  refine Er_run 1 (pc' := 44) (ls' := [some (.ref a), some (.int (Int32.ofNat f)), none]) (st' := [.int (Int32.ofNat f), .ref (a + 3)]) rfl ?_
  refine Er_iald (v := x) rfl (hm.2 (2, 3, 0, 16) (by decide)).2.1 (mr_idx (i := f) (k := 16) hf (by omega) (hm.2 (2, 3, 0, 16) (by decide)).2.2) (show gI (setI h a 18 0) (a + 3) (Int32.ofNat f).toNatClampNeg = x from by rw [jx_cn (by omega), gI_ne (by omega)]; exact hs) ?_
  refine Er_run 2 (pc' := 47) (ls' := [some (.ref a), some (.int (Int32.ofNat f)), some (.int x)]) (st' := [.ref a]) rfl ?_
  refine Er_getR (x := a + 3) rfl hm.1 (hm.2 (2, 3, 0, 16) (by decide)).1 ?_
  refine Er_run 2 (pc' := 52) (ls' := [some (.ref a), some (.int (Int32.ofNat f)), some (.int x)]) (st' := [.int ((0 : Int32)), .int (Int32.ofNat f), .ref (a + 3)]) rfl ?_
  refine Er_iast rfl (hm.2 (2, 3, 0, 16) (by decide)).2.1 (mr_idx (i := f) (k := 16) hf (by omega) (hm.2 (2, 3, 0, 16) (by decide)).2.2) ?_
  refine Er_run 1 (pc' := 54) (ls' := [some (.ref a), some (.int (Int32.ofNat f)), some (.int x)]) (st' := [.int x]) rfl ?_
  exact Er_fin rfl rfl ⟨rfl, rfl⟩
end REFC
