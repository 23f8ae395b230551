/-! class Pairs -/
/-- a row of pairs at cell a, with room for n -/
def isP (h : sm_H) (a n : Nat) : Prop := sm_at h a 10 = true ∧ gR h a 0 = some (a + 1) ∧ gR h a 1 = some (a + 2) ∧ sm_at h (a + 1) 1 = true ∧ (gS h (a + 1)).2 = n ∧ sm_at h (a + 2) 1 = true ∧ (gS h (a + 2)).2 = n
section PAIRS
variable {h : sm_H} {a n : Nat}
theorem sm_ofNat_toInt {n : Nat} (hn : n < 2147483648) : (Int32.ofNat n).toInt = n := Int32.toInt_ofNat_of_lt hn
theorem sm_in_of {i : Int32} {n : Nat} (h0 : 0 ≤ i.toInt) (h1 : i.toInt < n) : sm_in i n = true := by
  have e : ((i.toNatClampNeg : Nat) : Int) = i.toInt := Int.toNat_of_nonneg h0
  have hn : ¬ (i < 0) := by rw [Int32.lt_iff_toInt_lt]; simpa using h0
  simp only [sm_in, hn, decide_false, Bool.not_false, Bool.true_and, decide_eq_true_eq]
  omega

theorem r_Pairs_length (hp : isP h a n) : Run 1 [.ref a] h (.inl (some (.int (gI h a 2)))) h := by
  refine ⟨Nat.le_of_ble_eq_true rfl, ?_⟩
  show Ev 1 0 [some (.ref a)] [] h _
  refine Er_run 1 (pc' := 1) (ls' := [some (.ref a)]) (st' := [.ref a]) rfl ?_
  refine Er_getI (v := gI h a 2) rfl hp.1 rfl ?_
  exact Er_fin rfl rfl ⟨rfl, rfl⟩
theorem r_Pairs_room (hp : isP h a n) : Run 2 [.ref a] h (.inl (some (.int (Int32.ofNat n - gI h a 2)))) h := by
  refine ⟨Nat.le_of_ble_eq_true rfl, ?_⟩
  show Ev 2 0 [some (.ref a)] [] h _
  refine Er_run 1 (pc' := 1) (ls' := [some (.ref a)]) (st' := [.ref a]) rfl ?_
  refine Er_getR (x := a + 1) rfl hp.1 hp.2.1 ?_
  refine Er_alen (k := 1) rfl hp.2.2.2.1 (by decide) hp.2.2.2.2.1 ?_
  refine Er_run 1 (pc' := 6) (ls' := [some (.ref a)]) (st' := [.ref a, .int (Int32.ofNat n)]) rfl ?_
  refine Er_getI (v := gI h a 2) rfl hp.1 rfl ?_
  refine Er_run 1 (pc' := 10) (ls' := [some (.ref a)]) (st' := [.int ((Int32.ofNat n) - (gI h a 2))]) rfl ?_
  exact Er_fin rfl rfl ⟨rfl, rfl⟩
theorem r_Pairs_empty (hp : isP h a n) : Run 3 [.ref a] h (.inl none) (setI h a 2 0) := by
  refine ⟨Nat.le_of_ble_eq_true rfl, ?_⟩
  show Ev 3 0 [some (.ref a)] [] h _
  refine Er_run 2 (pc' := 2) (ls' := [some (.ref a)]) (st' := [.int ((0 : Int32)), .ref a]) rfl ?_
  refine Er_putI rfl hp.1 ?_
  exact Er_fin rfl rfl ⟨rfl, rfl⟩
theorem r_Pairs_key {i : Int32} (hp : isP h a n) (h0 : 0 ≤ i.toInt) (h1 : i.toInt < (gI h a 2).toInt) (h2 : (gI h a 2).toInt ≤ n) : Run 4 [.ref a, .int i] h (.inl (some (.long (gL h (a + 1) i.toNatClampNeg)))) h := by
  refine ⟨Nat.le_of_ble_eq_true rfl, ?_⟩
  show Ev 4 0 [some (.ref a), some (.int i)] [] h _
  refine Er_run 2 (pc' := bif decide (i < 0) then 21 else 4) (ls' := [some (.ref a), some (.int i)]) (st' := []) rfl ?_
  refine Er_pc (t := 4) (show (bif decide (i < 0) then 21 else 4) = 4 from by rw [show (decide (i < 0)) = false from decide_eq_false (by rw [Int32.lt_iff_toInt_lt]; show ¬ i.toInt < 0; omega)]; rfl) ?_
  refine Er_run 2 (pc' := 6) (ls' := [some (.ref a), some (.int i)]) (st' := [.ref a, .int i]) rfl ?_
  refine Er_getI (v := gI h a 2) rfl hp.1 rfl ?_
  refine Er_run 1 (pc' := bif decide ((gI h a 2) ≤ i) then 21 else 12) (ls' := [some (.ref a), some (.int i)]) (st' := []) rfl ?_
  refine Er_pc (t := 12) (show (bif decide ((gI h a 2) ≤ i) then 21 else 12) = 12 from by rw [show (decide ((gI h a 2) ≤ i)) = false from decide_eq_false (by rw [Int32.le_iff_toInt_le]; omega)]; rfl) ?_
  refine Er_run 1 (pc' := 13) (ls' := [some (.ref a), some (.int i)]) (st' := [.ref a]) rfl ?_
  refine Er_getR (x := a + 1) rfl hp.1 hp.2.1 ?_
  refine Er_run 1 (pc' := 17) (ls' := [some (.ref a), some (.int i)]) (st' := [.int i, .ref (a + 1)]) rfl ?_
  refine Er_lald (v := gL h (a + 1) i.toNatClampNeg) rfl hp.2.2.2.1 (by rw [hp.2.2.2.2.1]; exact sm_in_of h0 (by omega)) rfl ?_
  refine Er_run 1 (pc' := 22) (ls' := [some (.ref a), some (.int i)]) (st' := [.long (gL h (a + 1) i.toNatClampNeg)]) rfl ?_
  exact Er_fin rfl rfl ⟨rfl, rfl⟩
theorem r_Pairs_value {i : Int32} (hp : isP h a n) (h0 : 0 ≤ i.toInt) (h1 : i.toInt < (gI h a 2).toInt) (h2 : (gI h a 2).toInt ≤ n) : Run 5 [.ref a, .int i] h (.inl (some (.long (gL h (a + 2) i.toNatClampNeg)))) h := by
  refine ⟨Nat.le_of_ble_eq_true rfl, ?_⟩
  show Ev 5 0 [some (.ref a), some (.int i)] [] h _
  refine Er_run 2 (pc' := bif decide (i < 0) then 21 else 4) (ls' := [some (.ref a), some (.int i)]) (st' := []) rfl ?_
  refine Er_pc (t := 4) (show (bif decide (i < 0) then 21 else 4) = 4 from by rw [show (decide (i < 0)) = false from decide_eq_false (by rw [Int32.lt_iff_toInt_lt]; show ¬ i.toInt < 0; omega)]; rfl) ?_
  refine Er_run 2 (pc' := 6) (ls' := [some (.ref a), some (.int i)]) (st' := [.ref a, .int i]) rfl ?_
  refine Er_getI (v := gI h a 2) rfl hp.1 rfl ?_
  refine Er_run 1 (pc' := bif decide ((gI h a 2) ≤ i) then 21 else 12) (ls' := [some (.ref a), some (.int i)]) (st' := []) rfl ?_
  refine Er_pc (t := 12) (show (bif decide ((gI h a 2) ≤ i) then 21 else 12) = 12 from by rw [show (decide ((gI h a 2) ≤ i)) = false from decide_eq_false (by rw [Int32.le_iff_toInt_le]; omega)]; rfl) ?_
  refine Er_run 1 (pc' := 13) (ls' := [some (.ref a), some (.int i)]) (st' := [.ref a]) rfl ?_
  refine Er_getR (x := a + 2) rfl hp.1 hp.2.2.1 ?_
  refine Er_run 1 (pc' := 17) (ls' := [some (.ref a), some (.int i)]) (st' := [.int i, .ref (a + 2)]) rfl ?_
  refine Er_lald (v := gL h (a + 2) i.toNatClampNeg) rfl hp.2.2.2.2.2.1 (by rw [hp.2.2.2.2.2.2]; exact sm_in_of h0 (by omega)) rfl ?_
  refine Er_run 1 (pc' := 22) (ls' := [some (.ref a), some (.int i)]) (st' := [.long (gL h (a + 2) i.toNatClampNeg)]) rfl ?_
  exact Er_fin rfl rfl ⟨rfl, rfl⟩
theorem r_Pairs_add1 {k v : Int64} (hp : isP h a n) (h0 : 0 ≤ (gI h a 2).toInt) (h1 : (gI h a 2).toInt < n) (hn : n < 2147483648) : Run 6 [.ref a, .long k, .long v] h (.inl (some (.int 1))) (setI (setL (setL h (a + 1) (gI h a 2).toNatClampNeg k) (a + 2) (gI h a 2).toNatClampNeg v) a 2 (gI h a 2 + 1)) := by
  refine ⟨Nat.le_of_ble_eq_true rfl, ?_⟩
  show Ev 6 0 [some (.ref a), some (.long k), none, some (.long v), none] [] h _
  refine Er_run 1 (pc' := 1) (ls' := [some (.ref a), some (.long k), none, some (.long v), none]) (st' := [.ref a]) rfl ?_
  refine Er_getI (v := gI h a 2) rfl hp.1 rfl ?_
  refine Er_run 1 (pc' := 5) (ls' := [some (.ref a), some (.long k), none, some (.long v), none]) (st' := [.ref a, .int (gI h a 2)]) rfl ?_
  refine Er_getR (x := a + 1) rfl hp.1 hp.2.1 ?_
  refine Er_alen (k := 1) rfl hp.2.2.2.1 (by decide) hp.2.2.2.2.1 ?_
  refine Er_run 1 (pc' := bif decide ((gI h a 2) < (Int32.ofNat n)) then 14 else 12) (ls' := [some (.ref a), some (.long k), none, some (.long v), none]) (st' := []) rfl ?_
  refine Er_pc (t := 14) (show (bif decide ((gI h a 2) < (Int32.ofNat n)) then 14 else 12) = 14 from by rw [show (decide ((gI h a 2) < (Int32.ofNat n))) = true from decide_eq_true (by rw [Int32.lt_iff_toInt_lt, sm_ofNat_toInt hn]; exact h1)]; rfl) ?_
  refine Er_run 1 (pc' := 15) (ls' := [some (.ref a), some (.long k), none, some (.long v), none]) (st' := [.ref a]) rfl ?_
  refine Er_getR (x := a + 1) rfl hp.1 hp.2.1 ?_
  refine Er_run 1 (pc' := 19) (ls' := [some (.ref a), some (.long k), none, some (.long v), none]) (st' := [.ref a, .ref (a + 1)]) rfl ?_
  refine Er_getI (v := gI h a 2) rfl hp.1 rfl ?_
  refine Er_run 1 (pc' := 23) (ls' := [some (.ref a), some (.long k), none, some (.long v), none]) (st' := [.long k, .int (gI h a 2), .ref (a + 1)]) rfl ?_
  refine Er_last rfl hp.2.2.2.1 (by rw [hp.2.2.2.2.1]; exact sm_in_of h0 h1) ?_
  refine Er_run 1 (pc' := 25) (ls' := [some (.ref a), some (.long k), none, some (.long v), none]) (st' := [.ref a]) rfl ?_
  refine Er_getR (x := a + 2) rfl hp.1 hp.2.2.1 ?_
  refine Er_run 1 (pc' := 29) (ls' := [some (.ref a), some (.long k), none, some (.long v), none]) (st' := [.ref a, .ref (a + 2)]) rfl ?_
  refine Er_getI (v := gI h a 2) rfl hp.1 rfl ?_
  refine Er_run 1 (pc' := 33) (ls' := [some (.ref a), some (.long k), none, some (.long v), none]) (st' := [.long v, .int (gI h a 2), .ref (a + 2)]) rfl ?_
  refine Er_last rfl hp.2.2.2.2.2.1 (by show sm_in _ (gS h (a + 2)).2 = true; rw [hp.2.2.2.2.2.2]; exact sm_in_of h0 h1) ?_
  refine Er_run 2 (pc' := 36) (ls' := [some (.ref a), some (.long k), none, some (.long v), none]) (st' := [.ref a, .ref a]) rfl ?_
  refine Er_getI (v := gI h a 2) rfl hp.1 rfl ?_
  refine Er_run 2 (pc' := 41) (ls' := [some (.ref a), some (.long k), none, some (.long v), none]) (st' := [.int ((gI h a 2) + ((1 : Int32))), .ref a]) rfl ?_
  refine Er_putI rfl hp.1 ?_
  refine Er_run 1 (pc' := 45) (ls' := [some (.ref a), some (.long k), none, some (.long v), none]) (st' := [.int ((1 : Int32))]) rfl ?_
  exact Er_fin rfl rfl ⟨rfl, rfl⟩
theorem r_Pairs_add0 {k v : Int64} (hp : isP h a n) (h1 : (gI h a 2).toInt = n) (hn : n < 2147483648) : Run 6 [.ref a, .long k, .long v] h (.inl (some (.int 0))) h := by
  refine ⟨Nat.le_of_ble_eq_true rfl, ?_⟩
  show Ev 6 0 [some (.ref a), some (.long k), none, some (.long v), none] [] h _
  refine Er_run 1 (pc' := 1) (ls' := [some (.ref a), some (.long k), none, some (.long v), none]) (st' := [.ref a]) rfl ?_
  refine Er_getI (v := gI h a 2) rfl hp.1 rfl ?_
  refine Er_run 1 (pc' := 5) (ls' := [some (.ref a), some (.long k), none, some (.long v), none]) (st' := [.ref a, .int (gI h a 2)]) rfl ?_
  refine Er_getR (x := a + 1) rfl hp.1 hp.2.1 ?_
  refine Er_alen (k := 1) rfl hp.2.2.2.1 (by decide) hp.2.2.2.2.1 ?_
  refine Er_run 1 (pc' := bif decide ((gI h a 2) < (Int32.ofNat n)) then 14 else 12) (ls' := [some (.ref a), some (.long k), none, some (.long v), none]) (st' := []) rfl ?_
  refine Er_pc (t := 12) (show (bif decide ((gI h a 2) < (Int32.ofNat n)) then 14 else 12) = 12 from by rw [show (decide ((gI h a 2) < (Int32.ofNat n))) = false from decide_eq_false (by rw [Int32.lt_iff_toInt_lt, sm_ofNat_toInt hn]; omega)]; rfl) ?_
  refine Er_run 1 (pc' := 13) (ls' := [some (.ref a), some (.long k), none, some (.long v), none]) (st' := [.int ((0 : Int32))]) rfl ?_
  exact Er_fin rfl rfl ⟨rfl, rfl⟩
end PAIRS
