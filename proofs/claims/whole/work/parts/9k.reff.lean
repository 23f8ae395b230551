section REFF
variable {h h' : sm_H} {a : Nat} {n f s : Nat}
theorem mrO_setL {q i : Nat} {v : Int64} (hp : mrO h a) : mrO (setL h q i v) a := hp
theorem mr_rec : (300 : Int32) * Int32.ofNat f + Int32.ofNat s = Int32.ofNat (300 * f + s) := by
  rw [Int32.ofNat_add, Int32.ofNat_mul]; rfl
theorem mr_idk {q : Nat} (hf : f < 16) (hs : s < 300) (hl : (gS h q).2 = 4800) : sm_in ((300 : Int32) * Int32.ofNat f + Int32.ofNat s) (gS h q).2 = true := by
  rw [mr_rec]; exact mr_idx (k := 4800) (by omega) (by omega) hl

theorem s_Ref_record0 {k v : Int64} (hm : mrO h a) (hf : f < 16) (hs : s < 300) (ho : gI h a 19 = 0) (he : gI h (a + 3) f = Int32.ofNat s) : Run 168 [.ref a, .int (Int32.ofNat f), .long k, .long v] h (.inl (some (.int (Int32.ofNat s + 1)))) (setI (setL (setL (setI h a 18 0) (a + 1) ((300 : Int32) * Int32.ofNat f + Int32.ofNat s).toNatClampNeg k) (a + 2) ((300 : Int32) * Int32.ofNat f + Int32.ofNat s).toNatClampNeg v) (a + 3) (Int32.ofNat f).toNatClampNeg (Int32.ofNat s + 1)) := by
  refine ⟨Nat.le_of_ble_eq_true rfl, ?_⟩
  show Ev 168 0 [some (.ref a), some (.int (Int32.ofNat f)), some (.long k), none, some (.long v), none] [] h _
  refine Er_run 4 (pc' := 5) (ls' := [some (.ref a), some (.int (Int32.ofNat f)), some (.long k), none, some (.long v), none]) (st' := [.int ((15 : Int32)), .int ((0 : Int32)), .int (Int32.ofNat f), .ref a]) rfl ?_
  refine Er_sta1 (av := [.int (Int32.ofNat f), .int ((0 : Int32)), .int ((15 : Int32))]) (rest := [.ref a]) rfl rfl ⟨Nat.le_of_ble_eq_true rfl, Nat.le_of_ble_eq_true rfl⟩ rfl rfl (s_Ref_in1 (jm_in_n (k := 15) (by omega) (by omega))) ?_
  refine Er_run 1 (pc' := bif !decide (((1 : Int32)) = 0) then 15 else 11) (ls' := [some (.ref a), some (.int (Int32.ofNat f)), some (.long k), none, some (.long v), none]) (st' := [.ref a]) rfl ?_
  refine Er_pc (t := 15) (show (bif !decide (((1 : Int32)) = 0) then 15 else 11) = 15 from by rw [show (!decide (((1 : Int32)) = 0)) = true from by decide]; rfl) ?_
  refine Er_run 1 (pc' := 16) (ls' := [some (.ref a), some (.int (Int32.ofNat f)), some (.long k), none, some (.long v), none]) (st' := [.ref a, .ref a]) rfl ?_
  refine Er_getR (x := a + 3) rfl hm.1 (hm.2 (2, 3, 0, 16) (by decide)).1 ?_
  refine Er_run 1 (pc' := 20) (ls' := [some (.ref a), some (.int (Int32.ofNat f)), some (.long k), none, some (.long v), none]) (st' := [.int (Int32.ofNat f), .ref (a + 3), .ref a]) rfl ?_
  refine Er_iald (v := Int32.ofNat s) rfl (hm.2 (2, 3, 0, 16) (by decide)).2.1 (mr_idx (i := f) (k := 16) hf (by omega) (hm.2 (2, 3, 0, 16) (by decide)).2.2) (by rw [jx_cn (by omega)]; exact he) ?_
  refine Er_run 2 (pc' := bif decide ((Int32.ofNat s) = ((300 : Int32))) then 34 else 27) (ls' := [some (.ref a), some (.int (Int32.ofNat f)), some (.long k), none, some (.long v), none]) (st' := [.ref a]) rfl ?_
  refine Er_pc (t := 27) (show (bif decide ((Int32.ofNat s) = ((300 : Int32))) then 34 else 27) = 27 from by rw [show (decide ((Int32.ofNat s) = ((300 : Int32)))) = false from by rw [show (300 : Int32) = Int32.ofNat 300 from rfl, jx_eq (by omega) (by omega)]; exact decide_eq_false (by omega)]; rfl) ?_
  refine Er_run 1 (pc' := 28) (ls' := [some (.ref a), some (.int (Int32.ofNat f)), some (.long k), none, some (.long v), none]) (st' := [.ref a, .ref a]) rfl ?_
  refine Er_getI (v := (0 : Int32)) rfl hm.1 ho ?_
  refine Er_run 1 (pc' := bif decide (((0 : Int32)) = 0) then 38 else 34) (ls' := [some (.ref a), some (.int (Int32.ofNat f)), some (.long k), none, some (.long v), none]) (st' := [.ref a]) rfl ?_
  refine Er_pc (t := 38) (show (bif decide (((0 : Int32)) = 0) then 38 else 34) = 38 from by rw [show (decide (((0 : Int32)) = 0)) = true from by decide]; rfl) ?_
  refine Er_run 1 (pc' := 39) (ls' := [some (.ref a), some (.int (Int32.ofNat f)), some (.long k), none, some (.long v), none]) (st' := [.int ((0 : Int32)), .ref a]) rfl ?_
  refine Er_putI rfl hm.1 ?_
  have m1 : mrO (setI h a 18 ((0 : Int32))) a := mrO_setI hm
  have s1 : gI (setI h a 18 ((0 : Int32))) (a + 3) f = Int32.ofNat s := by rw [gI_ne (by omega)]; exact he
  have t1 : gI (setI h a 18 ((0 : Int32))) a 18 = 0 := gI_eq
  generalize (setI h a 18 ((0 : Int32))) = h1 at m1 s1 t1 ⊢
  refine Er_run 1 (pc' := 43) (ls' := [some (.ref a), some (.int (Int32.ofNat f)), some (.long k), none, some (.long v), none]) (st' := [.ref a]) rfl ?_
  refine Er_getI (v := (0 : Int32)) rfl m1.1 t1 ?_
  refine Er_run 1 (pc' := bif decide (((0 : Int32)) ≤ 0) then 51 else 49) (ls' := [some (.ref a), some (.int (Int32.ofNat f)), some (.long k), none, some (.long v), none]) (st' := []) rfl ?_
  refine Er_pc (t := 51) (show (bif decide (((0 : Int32)) ≤ 0) then 51 else 49) = 51 from by rw [show (decide (((0 : Int32)) ≤ 0)) = true from by decide]; rfl) ?_
  refine Er_run 1 (pc' := 52) (ls' := [some (.ref a), some (.int (Int32.ofNat f)), some (.long k), none, some (.long v), none]) (st' := [.ref a]) rfl ?_
  refine Er_getR (x := a + 1) rfl m1.1 (m1.2 (0, 1, 1, 4800) (by decide)).1 ?_
  refine Er_run 4 (pc' := 61) (ls' := [some (.ref a), some (.int (Int32.ofNat f)), some (.long k), none, some (.long v), none]) (st' := [.ref a, .int (((300 : Int32)) * (Int32.ofNat f)), .ref (a + 1)]) rfl ?_
  refine Er_getR (x := a + 3) rfl m1.1 (m1.2 (2, 3, 0, 16) (by decide)).1 ?_
  refine Er_run 1 (pc' := 65) (ls' := [some (.ref a), some (.int (Int32.ofNat f)), some (.long k), none, some (.long v), none]) (st' := [.int (Int32.ofNat f), .ref (a + 3), .int (((300 : Int32)) * (Int32.ofNat f)), .ref (a + 1)]) rfl ?_
  refine Er_iald (v := Int32.ofNat s) rfl (m1.2 (2, 3, 0, 16) (by decide)).2.1 (mr_idx (i := f) (k := 16) hf (by omega) (m1.2 (2, 3, 0, 16) (by decide)).2.2) (by rw [jx_cn (by omega)]; exact s1) ?_
  refine Er_run 2 (pc' := 68) (ls' := [some (.ref a), some (.int (Int32.ofNat f)), some (.long k), none, some (.long v), none]) (st' := [.long k, .int ((((300 : Int32)) * (Int32.ofNat f)) + (Int32.ofNat s)), .ref (a + 1)]) rfl ?_
  refine Er_last rfl (m1.2 (0, 1, 1, 4800) (by decide)).2.1 (mr_idk hf hs (m1.2 (0, 1, 1, 4800) (by decide)).2.2) ?_
  have m2 : mrO (setL h1 (a + 1) ((((300 : Int32)) * (Int32.ofNat f)) + (Int32.ofNat s)).toNatClampNeg k) a := mrO_setL m1
  have s2 : gI (setL h1 (a + 1) ((((300 : Int32)) * (Int32.ofNat f)) + (Int32.ofNat s)).toNatClampNeg k) (a + 3) f = Int32.ofNat s := s1
  generalize (setL h1 (a + 1) ((((300 : Int32)) * (Int32.ofNat f)) + (Int32.ofNat s)).toNatClampNeg k) = h2 at m2 s2 ⊢
  refine Er_run 1 (pc' := 70) (ls' := [some (.ref a), some (.int (Int32.ofNat f)), some (.long k), none, some (.long v), none]) (st' := [.ref a]) rfl ?_
  refine Er_getR (x := a + 2) rfl m2.1 (m2.2 (1, 2, 1, 4800) (by decide)).1 ?_
  refine Er_run 4 (pc' := 79) (ls' := [some (.ref a), some (.int (Int32.ofNat f)), some (.long k), none, some (.long v), none]) (st' := [.ref a, .int (((300 : Int32)) * (Int32.ofNat f)), .ref (a + 2)]) rfl ?_
  refine Er_getR (x := a + 3) rfl m2.1 (m2.2 (2, 3, 0, 16) (by decide)).1 ?_
  refine Er_run 1 (pc' := 83) (ls' := [some (.ref a), some (.int (Int32.ofNat f)), some (.long k), none, some (.long v), none]) (st' := [.int (Int32.ofNat f), .ref (a + 3), .int (((300 : Int32)) * (Int32.ofNat f)), .ref (a + 2)]) rfl ?_
  refine Er_iald (v := Int32.ofNat s) rfl (m2.2 (2, 3, 0, 16) (by decide)).2.1 (mr_idx (i := f) (k := 16) hf (by omega) (m2.2 (2, 3, 0, 16) (by decide)).2.2) (by rw [jx_cn (by omega)]; exact s2) ?_
  refine Er_run 2 (pc' := 87) (ls' := [some (.ref a), some (.int (Int32.ofNat f)), some (.long k), none, some (.long v), none]) (st' := [.long v, .int ((((300 : Int32)) * (Int32.ofNat f)) + (Int32.ofNat s)), .ref (a + 2)]) rfl ?_
  refine Er_last rfl (m2.2 (1, 2, 1, 4800) (by decide)).2.1 (mr_idk hf hs (m2.2 (1, 2, 1, 4800) (by decide)).2.2) ?_
  have m3 : mrO (setL h2 (a + 2) ((((300 : Int32)) * (Int32.ofNat f)) + (Int32.ofNat s)).toNatClampNeg v) a := mrO_setL m2
  have s3 : gI (setL h2 (a + 2) ((((300 : Int32)) * (Int32.ofNat f)) + (Int32.ofNat s)).toNatClampNeg v) (a + 3) f = Int32.ofNat s := s2
  generalize (setL h2 (a + 2) ((((300 : Int32)) * (Int32.ofNat f)) + (Int32.ofNat s)).toNatClampNeg v) = h3 at m3 s3 ⊢
  refine Er_run 1 (pc' := 89) (ls' := [some (.ref a), some (.int (Int32.ofNat f)), some (.long k), none, some (.long v), none]) (st' := [.ref a]) rfl ?_
  refine Er_getR (x := a + 3) rfl m3.1 (m3.2 (2, 3, 0, 16) (by decide)).1 ?_
  refine Er_run 2 (pc' := 94) (ls' := [some (.ref a), some (.int (Int32.ofNat f)), some (.long k), none, some (.long v), none]) (st' := [.int (Int32.ofNat f), .ref (a + 3), .int (Int32.ofNat f), .ref (a + 3)]) rfl ?_
  refine Er_iald (v := Int32.ofNat s) rfl (m3.2 (2, 3, 0, 16) (by decide)).2.1 (mr_idx (i := f) (k := 16) hf (by omega) (m3.2 (2, 3, 0, 16) (by decide)).2.2) (by rw [jx_cn (by omega)]; exact s3) ?_
  refine Er_run 2 (pc' := 97) (ls' := [some (.ref a), some (.int (Int32.ofNat f)), some (.long k), none, some (.long v), none]) (st' := [.int ((Int32.ofNat s) + ((1 : Int32))), .int (Int32.ofNat f), .ref (a + 3)]) rfl ?_
  refine Er_iast rfl (m3.2 (2, 3, 0, 16) (by decide)).2.1 (mr_idx (i := f) (k := 16) hf (by omega) (m3.2 (2, 3, 0, 16) (by decide)).2.2) ?_
  have m4 : mrO (setI h3 (a + 3) (Int32.ofNat f).toNatClampNeg ((Int32.ofNat s) + ((1 : Int32)))) a := mrO_setI m3
  have s4 : gI (setI h3 (a + 3) (Int32.ofNat f).toNatClampNeg ((Int32.ofNat s) + ((1 : Int32)))) (a + 3) f = Int32.ofNat s + 1 := by rw [jx_cn (by omega)]; exact gI_eq
  generalize (setI h3 (a + 3) (Int32.ofNat f).toNatClampNeg ((Int32.ofNat s) + ((1 : Int32)))) = h4 at m4 s4 ⊢
  refine Er_run 1 (pc' := 99) (ls' := [some (.ref a), some (.int (Int32.ofNat f)), some (.long k), none, some (.long v), none]) (st' := [.ref a]) rfl ?_
  refine Er_getR (x := a + 3) rfl m4.1 (m4.2 (2, 3, 0, 16) (by decide)).1 ?_
  refine Er_run 1 (pc' := 103) (ls' := [some (.ref a), some (.int (Int32.ofNat f)), some (.long k), none, some (.long v), none]) (st' := [.int (Int32.ofNat f), .ref (a + 3)]) rfl ?_
  refine Er_iald (v := Int32.ofNat s + 1) rfl (m4.2 (2, 3, 0, 16) (by decide)).2.1 (mr_idx (i := f) (k := 16) hf (by omega) (m4.2 (2, 3, 0, 16) (by decide)).2.2) (by rw [jx_cn (by omega)]; exact s4) ?_
  exact Er_fin rfl rfl ⟨rfl, rfl⟩
end REFF
