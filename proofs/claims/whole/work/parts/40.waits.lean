section WAITS
variable {h : sm_H} {s : Nat} {cl : List Nat}
def jx_wt (h : sm_H) (s : Nat) (cl : List Nat) (j k : Nat) : Bool := jx_md h s k && (decide (gI h (s + 52 + 11 * j) 2 = gI h (s + 52 + 11 * k) 4 ∨ gI h (s + 52 + 11 * j) 3 = gI h (s + 52 + 11 * k) 4) && !decide (k ∈ cl))

theorem l_waits {j : Nat} (hp : isS h s) (hjs : isJs h s) (hc : CH h s cl) (hj : j < 8) : ∀ (n k : Nat), k + n = 8 → Ev 43 2 [some (.ref s), some (.int (Int32.ofNat j)), some (.int (Int32.ofNat k))] [] h (fun r h1 => r = .inl (some (.int (if (List.range' k n).any (jx_wt h s cl j) then 1 else 0))) ∧ h1 = h) := by
  intro n
  induction n with
  | zero =>
    intro k hn
    rw [List.range'_zero, List.any_nil]
    refine Er_run 3 (pc' := bif decide (((8 : Int32)) ≤ (Int32.ofNat k)) then 57 else 8) (ls' := [some (.ref s), some (.int (Int32.ofNat j)), some (.int (Int32.ofNat k))]) (st' := []) rfl ?_
    refine Er_pc (t := 57) (show (bif decide (((8 : Int32)) ≤ (Int32.ofNat k)) then 57 else 8) = 57 from by rw [show (decide (((8 : Int32)) ≤ (Int32.ofNat k))) = true from by rw [show (8 : Int32) = Int32.ofNat 8 from rfl, jx_le (by omega) (by omega)]; exact decide_eq_true (by omega)]; rfl) ?_
    refine Er_run 1 (pc' := 58) (ls' := [some (.ref s), some (.int (Int32.ofNat j)), some (.int (Int32.ofNat k))]) (st' := [.int ((0 : Int32))]) rfl ?_
    exact Er_fin rfl rfl ⟨rfl, rfl⟩
  | succ n ih =>
    intro k hn
    have hk : k < 8 := by omega
    rw [List.range'_succ, List.any_cons]
    rcases (hjs k hk).2.2.2.2.2.2.2 with h0 | h1
    · rw [show jx_wt h s cl j k = false from by rw [jx_wt, jx_md, h0]; rfl, Bool.false_or]
      refine Er_run 3 (pc' := bif decide (((8 : Int32)) ≤ (Int32.ofNat k)) then 57 else 8) (ls' := [some (.ref s), some (.int (Int32.ofNat j)), some (.int (Int32.ofNat k))]) (st' := []) rfl ?_
      refine Er_pc (t := 8) (show (bif decide (((8 : Int32)) ≤ (Int32.ofNat k)) then 57 else 8) = 8 from by rw [show (decide (((8 : Int32)) ≤ (Int32.ofNat k))) = false from by rw [show (8 : Int32) = Int32.ofNat 8 from rfl, jx_le (by omega) (by omega)]; exact decide_eq_false (by omega)]; rfl) ?_
      refine Er_run 1 (pc' := 9) (ls' := [some (.ref s), some (.int (Int32.ofNat j)), some (.int (Int32.ofNat k))]) (st' := [.ref s]) rfl ?_
      refine Er_getR (x := s + 2) rfl hp.1 hp.2.2.1 ?_
      refine Er_run 1 (pc' := 13) (ls' := [some (.ref s), some (.int (Int32.ofNat j)), some (.int (Int32.ofNat k))]) (st' := [.int (Int32.ofNat k), .ref (s + 2)]) rfl ?_
      refine Er_aald (x := s + 52 + 11 * k) rfl hp.2.2.2.2.2.2.1 (by rw [hp.2.2.2.2.2.2.2.1]; exact sm_in_of (by rw [sm_ofNat_toInt (by omega)]; omega) (by rw [sm_ofNat_toInt (by omega)]; omega)) (by rw [jx_cn (by omega)]; exact hp.2.2.2.2.2.2.2.2.2.2.2 k hk) ?_
      refine Er_inv1 (q' := s + 52 + 11 * k) (ci := 2) (av := []) (rest := []) rfl rfl ⟨Nat.le_of_ble_eq_true rfl, Nat.le_of_ble_eq_true rfl⟩ rfl rfl (hjs k hk).1 (s_Job_isMade (hjs k hk)) ?_
      refine Er_run 1 (pc' := bif decide ((gI h (s + 52 + 11 * k) 1) = 0) then 51 else 20) (ls' := [some (.ref s), some (.int (Int32.ofNat j)), some (.int (Int32.ofNat k))]) (st' := []) rfl ?_
      refine Er_pc (t := 51) (show (bif decide ((gI h (s + 52 + 11 * k) 1) = 0) then 51 else 20) = 51 from by rw [show (decide ((gI h (s + 52 + 11 * k) 1) = 0)) = true from by rw [h0]; rfl]; rfl) ?_
      refine Er_run 2 (pc' := 2) (ls' := [some (.ref s), some (.int (Int32.ofNat j)), some (.int ((Int32.ofNat k) + (1 : Int32)))]) (st' := []) rfl ?_
      rw [jx_s1]
      exact ih (k + 1) (by omega)
    · by_cases e1 : (gI h (s + 52 + 11 * j) 2 = gI h (s + 52 + 11 * k) 4 ∨ gI h (s + 52 + 11 * j) 3 = gI h (s + 52 + 11 * k) 4)
      · by_cases e2 : k ∈ cl
        · rw [show jx_wt h s cl j k = false from by rw [jx_wt, decide_eq_true e2]; simp, Bool.false_or]
          refine Er_run 3 (pc' := bif decide (((8 : Int32)) ≤ (Int32.ofNat k)) then 57 else 8) (ls' := [some (.ref s), some (.int (Int32.ofNat j)), some (.int (Int32.ofNat k))]) (st' := []) rfl ?_
          refine Er_pc (t := 8) (show (bif decide (((8 : Int32)) ≤ (Int32.ofNat k)) then 57 else 8) = 8 from by rw [show (decide (((8 : Int32)) ≤ (Int32.ofNat k))) = false from by rw [show (8 : Int32) = Int32.ofNat 8 from rfl, jx_le (by omega) (by omega)]; exact decide_eq_false (by omega)]; rfl) ?_
          refine Er_run 1 (pc' := 9) (ls' := [some (.ref s), some (.int (Int32.ofNat j)), some (.int (Int32.ofNat k))]) (st' := [.ref s]) rfl ?_
          refine Er_getR (x := s + 2) rfl hp.1 hp.2.2.1 ?_
          refine Er_run 1 (pc' := 13) (ls' := [some (.ref s), some (.int (Int32.ofNat j)), some (.int (Int32.ofNat k))]) (st' := [.int (Int32.ofNat k), .ref (s + 2)]) rfl ?_
          refine Er_aald (x := s + 52 + 11 * k) rfl hp.2.2.2.2.2.2.1 (by rw [hp.2.2.2.2.2.2.2.1]; exact sm_in_of (by rw [sm_ofNat_toInt (by omega)]; omega) (by rw [sm_ofNat_toInt (by omega)]; omega)) (by rw [jx_cn (by omega)]; exact hp.2.2.2.2.2.2.2.2.2.2.2 k hk) ?_
          refine Er_inv1 (q' := s + 52 + 11 * k) (ci := 2) (av := []) (rest := []) rfl rfl ⟨Nat.le_of_ble_eq_true rfl, Nat.le_of_ble_eq_true rfl⟩ rfl rfl (hjs k hk).1 (s_Job_isMade (hjs k hk)) ?_
          refine Er_run 1 (pc' := bif decide ((gI h (s + 52 + 11 * k) 1) = 0) then 51 else 20) (ls' := [some (.ref s), some (.int (Int32.ofNat j)), some (.int (Int32.ofNat k))]) (st' := []) rfl ?_
          refine Er_pc (t := 20) (show (bif decide ((gI h (s + 52 + 11 * k) 1) = 0) then 51 else 20) = 20 from by rw [show (decide ((gI h (s + 52 + 11 * k) 1) = 0)) = false from by rw [h1]; rfl]; rfl) ?_
          refine Er_run 1 (pc' := 21) (ls' := [some (.ref s), some (.int (Int32.ofNat j)), some (.int (Int32.ofNat k))]) (st' := [.ref s]) rfl ?_
          refine Er_getR (x := s + 2) rfl hp.1 hp.2.2.1 ?_
          refine Er_run 1 (pc' := 25) (ls' := [some (.ref s), some (.int (Int32.ofNat j)), some (.int (Int32.ofNat k))]) (st' := [.int (Int32.ofNat j), .ref (s + 2)]) rfl ?_
          refine Er_aald (x := s + 52 + 11 * j) rfl hp.2.2.2.2.2.2.1 (by rw [hp.2.2.2.2.2.2.2.1]; exact sm_in_of (by rw [sm_ofNat_toInt (by omega)]; omega) (by rw [sm_ofNat_toInt (by omega)]; omega)) (by rw [jx_cn (by omega)]; exact hp.2.2.2.2.2.2.2.2.2.2.2 j hj) ?_
          refine Er_run 1 (pc' := 27) (ls' := [some (.ref s), some (.int (Int32.ofNat j)), some (.int (Int32.ofNat k))]) (st' := [.ref s, .ref (s + 52 + 11 * j)]) rfl ?_
          refine Er_getR (x := s + 2) rfl hp.1 hp.2.2.1 ?_
          refine Er_run 1 (pc' := 31) (ls' := [some (.ref s), some (.int (Int32.ofNat j)), some (.int (Int32.ofNat k))]) (st' := [.int (Int32.ofNat k), .ref (s + 2), .ref (s + 52 + 11 * j)]) rfl ?_
          refine Er_aald (x := s + 52 + 11 * k) rfl hp.2.2.2.2.2.2.1 (by rw [hp.2.2.2.2.2.2.2.1]; exact sm_in_of (by rw [sm_ofNat_toInt (by omega)]; omega) (by rw [sm_ofNat_toInt (by omega)]; omega)) (by rw [jx_cn (by omega)]; exact hp.2.2.2.2.2.2.2.2.2.2.2 k hk) ?_
          refine Er_inv1 (q' := s + 52 + 11 * k) (ci := 2) (av := []) (rest := [.ref (s + 52 + 11 * j)]) rfl rfl ⟨Nat.le_of_ble_eq_true rfl, Nat.le_of_ble_eq_true rfl⟩ rfl rfl (hjs k hk).1 (s_Job_output (hjs k hk)) ?_
          refine Er_inv1 (q' := s + 52 + 11 * j) (ci := 2) (av := [.int (gI h (s + 52 + 11 * k) 4)]) (rest := []) rfl rfl ⟨Nat.le_of_ble_eq_true rfl, Nat.le_of_ble_eq_true rfl⟩ rfl rfl (hjs j hj).1 (s_Job_reads (hjs j hj)) ?_
          refine Er_run 1 (pc' := bif decide ((if gI h (s + 52 + 11 * j) 2 = gI h (s + 52 + 11 * k) 4 ∨ gI h (s + 52 + 11 * j) 3 = gI h (s + 52 + 11 * k) 4 then (1 : Int32) else 0) = 0) then 51 else 41) (ls' := [some (.ref s), some (.int (Int32.ofNat j)), some (.int (Int32.ofNat k))]) (st' := []) rfl ?_
          refine Er_pc (t := 41) (show (bif decide ((if gI h (s + 52 + 11 * j) 2 = gI h (s + 52 + 11 * k) 4 ∨ gI h (s + 52 + 11 * j) 3 = gI h (s + 52 + 11 * k) 4 then (1 : Int32) else 0) = 0) then 51 else 41) = 41 from by rw [show (decide ((if gI h (s + 52 + 11 * j) 2 = gI h (s + 52 + 11 * k) 4 ∨ gI h (s + 52 + 11 * j) 3 = gI h (s + 52 + 11 * k) 4 then (1 : Int32) else 0) = 0)) = false from by rw [if_pos e1]; rfl]; rfl) ?_
          refine Er_run 2 (pc' := 43) (ls' := [some (.ref s), some (.int (Int32.ofNat j)), some (.int (Int32.ofNat k))]) (st' := [.int (Int32.ofNat k), .ref s]) rfl ?_
          refine Er_inv1 (q' := s) (ci := 3) (av := [.int (Int32.ofNat k)]) (rest := []) rfl rfl ⟨Nat.le_of_ble_eq_true rfl, Nat.le_of_ble_eq_true rfl⟩ rfl rfl hp.1 (s_Store_isChained hp hc (by omega)) ?_
          refine Er_run 1 (pc' := bif !decide ((if k ∈ cl then (1 : Int32) else 0) = 0) then 51 else 49) (ls' := [some (.ref s), some (.int (Int32.ofNat j)), some (.int (Int32.ofNat k))]) (st' := []) rfl ?_
          refine Er_pc (t := 51) (show (bif !decide ((if k ∈ cl then (1 : Int32) else 0) = 0) then 51 else 49) = 51 from by rw [show (!decide ((if k ∈ cl then (1 : Int32) else 0) = 0)) = true from by rw [if_pos e2]; rfl]; rfl) ?_
          refine Er_run 2 (pc' := 2) (ls' := [some (.ref s), some (.int (Int32.ofNat j)), some (.int ((Int32.ofNat k) + (1 : Int32)))]) (st' := []) rfl ?_
          rw [jx_s1]
          exact ih (k + 1) (by omega)
        · rw [show jx_wt h s cl j k = true from by rw [jx_wt, jx_md, h1, decide_eq_true e1, decide_eq_false e2]; rfl, Bool.true_or]
          refine Er_run 3 (pc' := bif decide (((8 : Int32)) ≤ (Int32.ofNat k)) then 57 else 8) (ls' := [some (.ref s), some (.int (Int32.ofNat j)), some (.int (Int32.ofNat k))]) (st' := []) rfl ?_
          refine Er_pc (t := 8) (show (bif decide (((8 : Int32)) ≤ (Int32.ofNat k)) then 57 else 8) = 8 from by rw [show (decide (((8 : Int32)) ≤ (Int32.ofNat k))) = false from by rw [show (8 : Int32) = Int32.ofNat 8 from rfl, jx_le (by omega) (by omega)]; exact decide_eq_false (by omega)]; rfl) ?_
          refine Er_run 1 (pc' := 9) (ls' := [some (.ref s), some (.int (Int32.ofNat j)), some (.int (Int32.ofNat k))]) (st' := [.ref s]) rfl ?_
          refine Er_getR (x := s + 2) rfl hp.1 hp.2.2.1 ?_
          refine Er_run 1 (pc' := 13) (ls' := [some (.ref s), some (.int (Int32.ofNat j)), some (.int (Int32.ofNat k))]) (st' := [.int (Int32.ofNat k), .ref (s + 2)]) rfl ?_
          refine Er_aald (x := s + 52 + 11 * k) rfl hp.2.2.2.2.2.2.1 (by rw [hp.2.2.2.2.2.2.2.1]; exact sm_in_of (by rw [sm_ofNat_toInt (by omega)]; omega) (by rw [sm_ofNat_toInt (by omega)]; omega)) (by rw [jx_cn (by omega)]; exact hp.2.2.2.2.2.2.2.2.2.2.2 k hk) ?_
          refine Er_inv1 (q' := s + 52 + 11 * k) (ci := 2) (av := []) (rest := []) rfl rfl ⟨Nat.le_of_ble_eq_true rfl, Nat.le_of_ble_eq_true rfl⟩ rfl rfl (hjs k hk).1 (s_Job_isMade (hjs k hk)) ?_
          refine Er_run 1 (pc' := bif decide ((gI h (s + 52 + 11 * k) 1) = 0) then 51 else 20) (ls' := [some (.ref s), some (.int (Int32.ofNat j)), some (.int (Int32.ofNat k))]) (st' := []) rfl ?_
          refine Er_pc (t := 20) (show (bif decide ((gI h (s + 52 + 11 * k) 1) = 0) then 51 else 20) = 20 from by rw [show (decide ((gI h (s + 52 + 11 * k) 1) = 0)) = false from by rw [h1]; rfl]; rfl) ?_
          refine Er_run 1 (pc' := 21) (ls' := [some (.ref s), some (.int (Int32.ofNat j)), some (.int (Int32.ofNat k))]) (st' := [.ref s]) rfl ?_
          refine Er_getR (x := s + 2) rfl hp.1 hp.2.2.1 ?_
          refine Er_run 1 (pc' := 25) (ls' := [some (.ref s), some (.int (Int32.ofNat j)), some (.int (Int32.ofNat k))]) (st' := [.int (Int32.ofNat j), .ref (s + 2)]) rfl ?_
          refine Er_aald (x := s + 52 + 11 * j) rfl hp.2.2.2.2.2.2.1 (by rw [hp.2.2.2.2.2.2.2.1]; exact sm_in_of (by rw [sm_ofNat_toInt (by omega)]; omega) (by rw [sm_ofNat_toInt (by omega)]; omega)) (by rw [jx_cn (by omega)]; exact hp.2.2.2.2.2.2.2.2.2.2.2 j hj) ?_
          refine Er_run 1 (pc' := 27) (ls' := [some (.ref s), some (.int (Int32.ofNat j)), some (.int (Int32.ofNat k))]) (st' := [.ref s, .ref (s + 52 + 11 * j)]) rfl ?_
          refine Er_getR (x := s + 2) rfl hp.1 hp.2.2.1 ?_
          refine Er_run 1 (pc' := 31) (ls' := [some (.ref s), some (.int (Int32.ofNat j)), some (.int (Int32.ofNat k))]) (st' := [.int (Int32.ofNat k), .ref (s + 2), .ref (s + 52 + 11 * j)]) rfl ?_
          refine Er_aald (x := s + 52 + 11 * k) rfl hp.2.2.2.2.2.2.1 (by rw [hp.2.2.2.2.2.2.2.1]; exact sm_in_of (by rw [sm_ofNat_toInt (by omega)]; omega) (by rw [sm_ofNat_toInt (by omega)]; omega)) (by rw [jx_cn (by omega)]; exact hp.2.2.2.2.2.2.2.2.2.2.2 k hk) ?_
          refine Er_inv1 (q' := s + 52 + 11 * k) (ci := 2) (av := []) (rest := [.ref (s + 52 + 11 * j)]) rfl rfl ⟨Nat.le_of_ble_eq_true rfl, Nat.le_of_ble_eq_true rfl⟩ rfl rfl (hjs k hk).1 (s_Job_output (hjs k hk)) ?_
          refine Er_inv1 (q' := s + 52 + 11 * j) (ci := 2) (av := [.int (gI h (s + 52 + 11 * k) 4)]) (rest := []) rfl rfl ⟨Nat.le_of_ble_eq_true rfl, Nat.le_of_ble_eq_true rfl⟩ rfl rfl (hjs j hj).1 (s_Job_reads (hjs j hj)) ?_
          refine Er_run 1 (pc' := bif decide ((if gI h (s + 52 + 11 * j) 2 = gI h (s + 52 + 11 * k) 4 ∨ gI h (s + 52 + 11 * j) 3 = gI h (s + 52 + 11 * k) 4 then (1 : Int32) else 0) = 0) then 51 else 41) (ls' := [some (.ref s), some (.int (Int32.ofNat j)), some (.int (Int32.ofNat k))]) (st' := []) rfl ?_
          refine Er_pc (t := 41) (show (bif decide ((if gI h (s + 52 + 11 * j) 2 = gI h (s + 52 + 11 * k) 4 ∨ gI h (s + 52 + 11 * j) 3 = gI h (s + 52 + 11 * k) 4 then (1 : Int32) else 0) = 0) then 51 else 41) = 41 from by rw [show (decide ((if gI h (s + 52 + 11 * j) 2 = gI h (s + 52 + 11 * k) 4 ∨ gI h (s + 52 + 11 * j) 3 = gI h (s + 52 + 11 * k) 4 then (1 : Int32) else 0) = 0)) = false from by rw [if_pos e1]; rfl]; rfl) ?_
          refine Er_run 2 (pc' := 43) (ls' := [some (.ref s), some (.int (Int32.ofNat j)), some (.int (Int32.ofNat k))]) (st' := [.int (Int32.ofNat k), .ref s]) rfl ?_
          refine Er_inv1 (q' := s) (ci := 3) (av := [.int (Int32.ofNat k)]) (rest := []) rfl rfl ⟨Nat.le_of_ble_eq_true rfl, Nat.le_of_ble_eq_true rfl⟩ rfl rfl hp.1 (s_Store_isChained hp hc (by omega)) ?_
          refine Er_run 1 (pc' := bif !decide ((if k ∈ cl then (1 : Int32) else 0) = 0) then 51 else 49) (ls' := [some (.ref s), some (.int (Int32.ofNat j)), some (.int (Int32.ofNat k))]) (st' := []) rfl ?_
          refine Er_pc (t := 49) (show (bif !decide ((if k ∈ cl then (1 : Int32) else 0) = 0) then 51 else 49) = 49 from by rw [show (!decide ((if k ∈ cl then (1 : Int32) else 0) = 0)) = false from by rw [if_neg e2]; rfl]; rfl) ?_
          refine Er_run 1 (pc' := 50) (ls' := [some (.ref s), some (.int (Int32.ofNat j)), some (.int (Int32.ofNat k))]) (st' := [.int ((1 : Int32))]) rfl ?_
          exact Er_fin rfl rfl ⟨rfl, rfl⟩
      · rw [show jx_wt h s cl j k = false from by rw [jx_wt, decide_eq_false e1]; simp, Bool.false_or]
        refine Er_run 3 (pc' := bif decide (((8 : Int32)) ≤ (Int32.ofNat k)) then 57 else 8) (ls' := [some (.ref s), some (.int (Int32.ofNat j)), some (.int (Int32.ofNat k))]) (st' := []) rfl ?_
        refine Er_pc (t := 8) (show (bif decide (((8 : Int32)) ≤ (Int32.ofNat k)) then 57 else 8) = 8 from by rw [show (decide (((8 : Int32)) ≤ (Int32.ofNat k))) = false from by rw [show (8 : Int32) = Int32.ofNat 8 from rfl, jx_le (by omega) (by omega)]; exact decide_eq_false (by omega)]; rfl) ?_
        refine Er_run 1 (pc' := 9) (ls' := [some (.ref s), some (.int (Int32.ofNat j)), some (.int (Int32.ofNat k))]) (st' := [.ref s]) rfl ?_
        refine Er_getR (x := s + 2) rfl hp.1 hp.2.2.1 ?_
        refine Er_run 1 (pc' := 13) (ls' := [some (.ref s), some (.int (Int32.ofNat j)), some (.int (Int32.ofNat k))]) (st' := [.int (Int32.ofNat k), .ref (s + 2)]) rfl ?_
        refine Er_aald (x := s + 52 + 11 * k) rfl hp.2.2.2.2.2.2.1 (by rw [hp.2.2.2.2.2.2.2.1]; exact sm_in_of (by rw [sm_ofNat_toInt (by omega)]; omega) (by rw [sm_ofNat_toInt (by omega)]; omega)) (by rw [jx_cn (by omega)]; exact hp.2.2.2.2.2.2.2.2.2.2.2 k hk) ?_
        refine Er_inv1 (q' := s + 52 + 11 * k) (ci := 2) (av := []) (rest := []) rfl rfl ⟨Nat.le_of_ble_eq_true rfl, Nat.le_of_ble_eq_true rfl⟩ rfl rfl (hjs k hk).1 (s_Job_isMade (hjs k hk)) ?_
        refine Er_run 1 (pc' := bif decide ((gI h (s + 52 + 11 * k) 1) = 0) then 51 else 20) (ls' := [some (.ref s), some (.int (Int32.ofNat j)), some (.int (Int32.ofNat k))]) (st' := []) rfl ?_
        refine Er_pc (t := 20) (show (bif decide ((gI h (s + 52 + 11 * k) 1) = 0) then 51 else 20) = 20 from by rw [show (decide ((gI h (s + 52 + 11 * k) 1) = 0)) = false from by rw [h1]; rfl]; rfl) ?_
        refine Er_run 1 (pc' := 21) (ls' := [some (.ref s), some (.int (Int32.ofNat j)), some (.int (Int32.ofNat k))]) (st' := [.ref s]) rfl ?_
        refine Er_getR (x := s + 2) rfl hp.1 hp.2.2.1 ?_
        refine Er_run 1 (pc' := 25) (ls' := [some (.ref s), some (.int (Int32.ofNat j)), some (.int (Int32.ofNat k))]) (st' := [.int (Int32.ofNat j), .ref (s + 2)]) rfl ?_
        refine Er_aald (x := s + 52 + 11 * j) rfl hp.2.2.2.2.2.2.1 (by rw [hp.2.2.2.2.2.2.2.1]; exact sm_in_of (by rw [sm_ofNat_toInt (by omega)]; omega) (by rw [sm_ofNat_toInt (by omega)]; omega)) (by rw [jx_cn (by omega)]; exact hp.2.2.2.2.2.2.2.2.2.2.2 j hj) ?_
        refine Er_run 1 (pc' := 27) (ls' := [some (.ref s), some (.int (Int32.ofNat j)), some (.int (Int32.ofNat k))]) (st' := [.ref s, .ref (s + 52 + 11 * j)]) rfl ?_
        refine Er_getR (x := s + 2) rfl hp.1 hp.2.2.1 ?_
        refine Er_run 1 (pc' := 31) (ls' := [some (.ref s), some (.int (Int32.ofNat j)), some (.int (Int32.ofNat k))]) (st' := [.int (Int32.ofNat k), .ref (s + 2), .ref (s + 52 + 11 * j)]) rfl ?_
        refine Er_aald (x := s + 52 + 11 * k) rfl hp.2.2.2.2.2.2.1 (by rw [hp.2.2.2.2.2.2.2.1]; exact sm_in_of (by rw [sm_ofNat_toInt (by omega)]; omega) (by rw [sm_ofNat_toInt (by omega)]; omega)) (by rw [jx_cn (by omega)]; exact hp.2.2.2.2.2.2.2.2.2.2.2 k hk) ?_
        refine Er_inv1 (q' := s + 52 + 11 * k) (ci := 2) (av := []) (rest := [.ref (s + 52 + 11 * j)]) rfl rfl ⟨Nat.le_of_ble_eq_true rfl, Nat.le_of_ble_eq_true rfl⟩ rfl rfl (hjs k hk).1 (s_Job_output (hjs k hk)) ?_
        refine Er_inv1 (q' := s + 52 + 11 * j) (ci := 2) (av := [.int (gI h (s + 52 + 11 * k) 4)]) (rest := []) rfl rfl ⟨Nat.le_of_ble_eq_true rfl, Nat.le_of_ble_eq_true rfl⟩ rfl rfl (hjs j hj).1 (s_Job_reads (hjs j hj)) ?_
        refine Er_run 1 (pc' := bif decide ((if gI h (s + 52 + 11 * j) 2 = gI h (s + 52 + 11 * k) 4 ∨ gI h (s + 52 + 11 * j) 3 = gI h (s + 52 + 11 * k) 4 then (1 : Int32) else 0) = 0) then 51 else 41) (ls' := [some (.ref s), some (.int (Int32.ofNat j)), some (.int (Int32.ofNat k))]) (st' := []) rfl ?_
        refine Er_pc (t := 51) (show (bif decide ((if gI h (s + 52 + 11 * j) 2 = gI h (s + 52 + 11 * k) 4 ∨ gI h (s + 52 + 11 * j) 3 = gI h (s + 52 + 11 * k) 4 then (1 : Int32) else 0) = 0) then 51 else 41) = 51 from by rw [show (decide ((if gI h (s + 52 + 11 * j) 2 = gI h (s + 52 + 11 * k) 4 ∨ gI h (s + 52 + 11 * j) 3 = gI h (s + 52 + 11 * k) 4 then (1 : Int32) else 0) = 0)) = true from by rw [if_neg e1]; rfl]; rfl) ?_
        refine Er_run 2 (pc' := 2) (ls' := [some (.ref s), some (.int (Int32.ofNat j)), some (.int ((Int32.ofNat k) + (1 : Int32)))]) (st' := []) rfl ?_
        rw [jx_s1]
        exact ih (k + 1) (by omega)
theorem s_Store_waitsForOutput {j : Nat} (hp : isS h s) (hjs : isJs h s) (hc : CH h s cl) (hj : j < 8) : Run 43 [.ref s, .int (Int32.ofNat j)] h (.inl (some (.int (if (List.range' 0 8).any (jx_wt h s cl j) then 1 else 0)))) h := by
  refine ⟨Nat.le_of_ble_eq_true rfl, ?_⟩
  show Ev 43 0 [some (.ref s), some (.int (Int32.ofNat j)), none] [] h _
  refine Er_run 2 (pc' := 2) (ls' := [some (.ref s), some (.int (Int32.ofNat j)), some (.int ((0 : Int32)))]) (st' := []) rfl ?_
  exact l_waits hp hjs hc hj 8 0 rfl
end WAITS
