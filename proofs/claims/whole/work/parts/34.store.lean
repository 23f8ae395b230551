/-! class Store at cell s: files' row s + 1, jobs' row s + 2, chain s + 3, the files from s + 4 on (3 cells each), the jobs from s + 52 on (11 each); 140 cells -/
def isS (h : sm_H) (s : Nat) : Prop := sm_at h s 13 = true ∧ gR h s 0 = some (s + 1) ∧ gR h s 1 = some (s + 2) ∧ gR h s 2 = some (s + 3) ∧ sm_at h (s + 1) 3 = true ∧ (gS h (s + 1)).2 = 16 ∧ sm_at h (s + 2) 4 = true ∧ (gS h (s + 2)).2 = 8 ∧ sm_at h (s + 3) 0 = true ∧ (gS h (s + 3)).2 = 8 ∧ (∀ f, f < 16 → gR h (s + 1) f = some (s + 4 + 3 * f)) ∧ (∀ j, j < 8 → gR h (s + 2) j = some (s + 52 + 11 * j))
section STORE
variable {h : sm_H} {s : Nat}

theorem s_Store_file {f : Nat} (hp : isS h s) (hf : f < 16) : Run 34 [.ref s, .int (Int32.ofNat f)] h (.inl (some (.ref (s + 4 + 3 * f)))) h := by
  refine ⟨Nat.le_of_ble_eq_true rfl, ?_⟩
  show Ev 34 0 [some (.ref s), some (.int (Int32.ofNat f))] [] h _
  refine Er_run 1 (pc' := 1) (ls' := [some (.ref s), some (.int (Int32.ofNat f))]) (st' := [.ref s]) rfl ?_
  refine Er_getR (x := s + 1) rfl hp.1 hp.2.1 ?_
  refine Er_run 2 (pc' := bif decide ((Int32.ofNat f) < 0) then 18 else 8) (ls' := [some (.ref s), some (.int (Int32.ofNat f))]) (st' := [.ref (s + 1)]) rfl ?_
  refine Er_pc (t := 8) (show (bif decide ((Int32.ofNat f) < 0) then 18 else 8) = 8 from by rw [show (decide ((Int32.ofNat f) < 0)) = false from sm_nn (by rw [sm_ofNat_toInt (by omega)]; omega)]; rfl) ?_
  refine Er_run 3 (pc' := bif decide (((16 : Int32)) ≤ (Int32.ofNat f)) then 18 else 14) (ls' := [some (.ref s), some (.int (Int32.ofNat f))]) (st' := [.ref (s + 1)]) rfl ?_
  refine Er_pc (t := 14) (show (bif decide (((16 : Int32)) ≤ (Int32.ofNat f)) then 18 else 14) = 14 from by rw [show (decide (((16 : Int32)) ≤ (Int32.ofNat f))) = false from by rw [show (16 : Int32) = Int32.ofNat 16 from rfl, jx_le (by omega) (by omega)]; exact decide_eq_false (by omega)]; rfl) ?_
  refine Er_run 2 (pc' := 19) (ls' := [some (.ref s), some (.int (Int32.ofNat f))]) (st' := [.int (Int32.ofNat f), .ref (s + 1)]) rfl ?_
  refine Er_aald (x := s + 4 + 3 * f) rfl hp.2.2.2.2.1 (by rw [hp.2.2.2.2.2.1]; exact sm_in_of (by rw [sm_ofNat_toInt (by omega)]; omega) (by rw [sm_ofNat_toInt (by omega)]; omega)) (by rw [jx_cn (by omega)]; exact hp.2.2.2.2.2.2.2.2.2.2.1 f hf) ?_
  exact Er_fin rfl rfl ⟨rfl, rfl⟩
theorem s_Store_jobNumbered {j : Nat} (hp : isS h s) (hj : j < 8) : Run 35 [.ref s, .int (Int32.ofNat j)] h (.inl (some (.ref (s + 52 + 11 * j)))) h := by
  refine ⟨Nat.le_of_ble_eq_true rfl, ?_⟩
  show Ev 35 0 [some (.ref s), some (.int (Int32.ofNat j))] [] h _
  refine Er_run 1 (pc' := 1) (ls' := [some (.ref s), some (.int (Int32.ofNat j))]) (st' := [.ref s]) rfl ?_
  refine Er_getR (x := s + 2) rfl hp.1 hp.2.2.1 ?_
  refine Er_run 2 (pc' := bif decide ((Int32.ofNat j) < 0) then 18 else 8) (ls' := [some (.ref s), some (.int (Int32.ofNat j))]) (st' := [.ref (s + 2)]) rfl ?_
  refine Er_pc (t := 8) (show (bif decide ((Int32.ofNat j) < 0) then 18 else 8) = 8 from by rw [show (decide ((Int32.ofNat j) < 0)) = false from sm_nn (by rw [sm_ofNat_toInt (by omega)]; omega)]; rfl) ?_
  refine Er_run 3 (pc' := bif decide (((8 : Int32)) ≤ (Int32.ofNat j)) then 18 else 14) (ls' := [some (.ref s), some (.int (Int32.ofNat j))]) (st' := [.ref (s + 2)]) rfl ?_
  refine Er_pc (t := 14) (show (bif decide (((8 : Int32)) ≤ (Int32.ofNat j)) then 18 else 14) = 14 from by rw [show (decide (((8 : Int32)) ≤ (Int32.ofNat j))) = false from by rw [show (8 : Int32) = Int32.ofNat 8 from rfl, jx_le (by omega) (by omega)]; exact decide_eq_false (by omega)]; rfl) ?_
  refine Er_run 2 (pc' := 19) (ls' := [some (.ref s), some (.int (Int32.ofNat j))]) (st' := [.int (Int32.ofNat j), .ref (s + 2)]) rfl ?_
  refine Er_aald (x := s + 52 + 11 * j) rfl hp.2.2.2.2.2.2.1 (by rw [hp.2.2.2.2.2.2.2.1]; exact sm_in_of (by rw [sm_ofNat_toInt (by omega)]; omega) (by rw [sm_ofNat_toInt (by omega)]; omega)) (by rw [jx_cn (by omega)]; exact hp.2.2.2.2.2.2.2.2.2.2.2 j hj) ?_
  exact Er_fin rfl rfl ⟨rfl, rfl⟩
theorem s_Store_chained (hp : isS h s) : Run 37 [.ref s] h (.inl (some (.int (gI h s 3)))) h := by
  refine ⟨Nat.le_of_ble_eq_true rfl, ?_⟩
  show Ev 37 0 [some (.ref s)] [] h _
  refine Er_run 1 (pc' := 1) (ls' := [some (.ref s)]) (st' := [.ref s]) rfl ?_
  refine Er_getI (v := gI h s 3) rfl hp.1 rfl ?_
  exact Er_fin rfl rfl ⟨rfl, rfl⟩
theorem s_Store_numberAt {c i : Nat} {x : Int32} (hp : isS h s) (hc : gI h s 3 = Int32.ofNat c) (hc8 : c ≤ 8) (hi : i < c) (hx : gI h (s + 3) i = x) : Run 38 [.ref s, .int (Int32.ofNat i)] h (.inl (some (.int x))) h := by
  refine ⟨Nat.le_of_ble_eq_true rfl, ?_⟩
  show Ev 38 0 [some (.ref s), some (.int (Int32.ofNat i))] [] h _
  refine Er_run 2 (pc' := bif decide ((Int32.ofNat i) < 0) then 21 else 4) (ls' := [some (.ref s), some (.int (Int32.ofNat i))]) (st' := []) rfl ?_
  refine Er_pc (t := 4) (show (bif decide ((Int32.ofNat i) < 0) then 21 else 4) = 4 from by rw [show (decide ((Int32.ofNat i) < 0)) = false from sm_nn (by rw [sm_ofNat_toInt (by omega)]; omega)]; rfl) ?_
  refine Er_run 2 (pc' := 6) (ls' := [some (.ref s), some (.int (Int32.ofNat i))]) (st' := [.ref s, .int (Int32.ofNat i)]) rfl ?_
  refine Er_getI (v := Int32.ofNat c) rfl hp.1 hc ?_
  refine Er_run 1 (pc' := bif decide ((Int32.ofNat c) ≤ (Int32.ofNat i)) then 21 else 12) (ls' := [some (.ref s), some (.int (Int32.ofNat i))]) (st' := []) rfl ?_
  refine Er_pc (t := 12) (show (bif decide ((Int32.ofNat c) ≤ (Int32.ofNat i)) then 21 else 12) = 12 from by rw [show (decide ((Int32.ofNat c) ≤ (Int32.ofNat i))) = false from by rw [jx_le (by omega) (by omega)]; exact decide_eq_false (by omega)]; rfl) ?_
  refine Er_run 1 (pc' := 13) (ls' := [some (.ref s), some (.int (Int32.ofNat i))]) (st' := [.ref s]) rfl ?_
  refine Er_getR (x := s + 3) rfl hp.1 hp.2.2.2.1 ?_
  refine Er_run 1 (pc' := 17) (ls' := [some (.ref s), some (.int (Int32.ofNat i))]) (st' := [.int (Int32.ofNat i), .ref (s + 3)]) rfl ?_
  refine Er_iald (v := x) rfl hp.2.2.2.2.2.2.2.2.1 (by rw [hp.2.2.2.2.2.2.2.2.2.1]; exact sm_in_of (by rw [sm_ofNat_toInt (by omega)]; omega) (by rw [sm_ofNat_toInt (by omega)]; omega)) (by rw [jx_cn (by omega)]; exact hx) ?_
  refine Er_run 1 (pc' := 22) (ls' := [some (.ref s), some (.int (Int32.ofNat i))]) (st' := [.int x]) rfl ?_
  exact Er_fin rfl rfl ⟨rfl, rfl⟩
theorem s_Store_jobAt {c i j : Nat} (hp : isS h s) (hc : gI h s 3 = Int32.ofNat c) (hc8 : c ≤ 8) (hi : i < c) (hx : gI h (s + 3) i = Int32.ofNat j) (hj : j < 8) : Run 39 [.ref s, .int (Int32.ofNat i)] h (.inl (some (.ref (s + 52 + 11 * j)))) h := by
  refine ⟨Nat.le_of_ble_eq_true rfl, ?_⟩
  show Ev 39 0 [some (.ref s), some (.int (Int32.ofNat i))] [] h _
  refine Er_run 2 (pc' := bif decide ((Int32.ofNat i) < 0) then 26 else 4) (ls' := [some (.ref s), some (.int (Int32.ofNat i))]) (st' := []) rfl ?_
  refine Er_pc (t := 4) (show (bif decide ((Int32.ofNat i) < 0) then 26 else 4) = 4 from by rw [show (decide ((Int32.ofNat i) < 0)) = false from sm_nn (by rw [sm_ofNat_toInt (by omega)]; omega)]; rfl) ?_
  refine Er_run 2 (pc' := 6) (ls' := [some (.ref s), some (.int (Int32.ofNat i))]) (st' := [.ref s, .int (Int32.ofNat i)]) rfl ?_
  refine Er_getI (v := Int32.ofNat c) rfl hp.1 hc ?_
  refine Er_run 1 (pc' := bif decide ((Int32.ofNat c) ≤ (Int32.ofNat i)) then 26 else 12) (ls' := [some (.ref s), some (.int (Int32.ofNat i))]) (st' := []) rfl ?_
  refine Er_pc (t := 12) (show (bif decide ((Int32.ofNat c) ≤ (Int32.ofNat i)) then 26 else 12) = 12 from by rw [show (decide ((Int32.ofNat c) ≤ (Int32.ofNat i))) = false from by rw [jx_le (by omega) (by omega)]; exact decide_eq_false (by omega)]; rfl) ?_
  refine Er_run 1 (pc' := 13) (ls' := [some (.ref s), some (.int (Int32.ofNat i))]) (st' := [.ref s]) rfl ?_
  refine Er_getR (x := s + 2) rfl hp.1 hp.2.2.1 ?_
  refine Er_run 1 (pc' := 17) (ls' := [some (.ref s), some (.int (Int32.ofNat i))]) (st' := [.ref s, .ref (s + 2)]) rfl ?_
  refine Er_getR (x := s + 3) rfl hp.1 hp.2.2.2.1 ?_
  refine Er_run 1 (pc' := 21) (ls' := [some (.ref s), some (.int (Int32.ofNat i))]) (st' := [.int (Int32.ofNat i), .ref (s + 3), .ref (s + 2)]) rfl ?_
  refine Er_iald (v := Int32.ofNat j) rfl hp.2.2.2.2.2.2.2.2.1 (by rw [hp.2.2.2.2.2.2.2.2.2.1]; exact sm_in_of (by rw [sm_ofNat_toInt (by omega)]; omega) (by rw [sm_ofNat_toInt (by omega)]; omega)) (by rw [jx_cn (by omega)]; exact hx) ?_
  refine Er_aald (x := s + 52 + 11 * j) rfl hp.2.2.2.2.2.2.1 (by rw [hp.2.2.2.2.2.2.2.1]; exact sm_in_of (by rw [sm_ofNat_toInt (by omega)]; omega) (by rw [sm_ofNat_toInt (by omega)]; omega)) (by rw [jx_cn (by omega)]; exact hp.2.2.2.2.2.2.2.2.2.2.2 j hj) ?_
  refine Er_run 1 (pc' := 27) (ls' := [some (.ref s), some (.int (Int32.ofNat i))]) (st' := [.ref (s + 52 + 11 * j)]) rfl ?_
  exact Er_fin rfl rfl ⟨rfl, rfl⟩
theorem s_Store_jobAtN {c i : Nat} (hp : isS h s) (hc : gI h s 3 = Int32.ofNat c) (hc8 : c ≤ 8) (hi : c ≤ i) (hb : i < 2147483648) : Run 39 [.ref s, .int (Int32.ofNat i)] h (.inl (some .null)) h := by
  refine ⟨Nat.le_of_ble_eq_true rfl, ?_⟩
  show Ev 39 0 [some (.ref s), some (.int (Int32.ofNat i))] [] h _
  refine Er_run 2 (pc' := bif decide ((Int32.ofNat i) < 0) then 26 else 4) (ls' := [some (.ref s), some (.int (Int32.ofNat i))]) (st' := []) rfl ?_
  refine Er_pc (t := 4) (show (bif decide ((Int32.ofNat i) < 0) then 26 else 4) = 4 from by rw [show (decide ((Int32.ofNat i) < 0)) = false from sm_nn (by rw [sm_ofNat_toInt (by omega)]; omega)]; rfl) ?_
  refine Er_run 2 (pc' := 6) (ls' := [some (.ref s), some (.int (Int32.ofNat i))]) (st' := [.ref s, .int (Int32.ofNat i)]) rfl ?_
  refine Er_getI (v := Int32.ofNat c) rfl hp.1 hc ?_
  refine Er_run 1 (pc' := bif decide ((Int32.ofNat c) ≤ (Int32.ofNat i)) then 26 else 12) (ls' := [some (.ref s), some (.int (Int32.ofNat i))]) (st' := []) rfl ?_
  refine Er_pc (t := 26) (show (bif decide ((Int32.ofNat c) ≤ (Int32.ofNat i)) then 26 else 12) = 26 from by rw [show (decide ((Int32.ofNat c) ≤ (Int32.ofNat i))) = true from by rw [jx_le (by omega) (by omega)]; exact decide_eq_true (by omega)]; rfl) ?_
  refine Er_run 1 (pc' := 27) (ls' := [some (.ref s), some (.int (Int32.ofNat i))]) (st' := [.null]) rfl ?_
  exact Er_fin rfl rfl ⟨rfl, rfl⟩
end STORE
