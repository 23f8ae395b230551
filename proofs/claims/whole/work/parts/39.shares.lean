section SHARES
variable {h : sm_H} {s : Nat} {cl : List Nat}
def jx_sh (h : sm_H) (s j k : Nat) : Bool := !decide (k = j) && (jx_md h s k && decide (gI h (s + 52 + 11 * k) 4 = gI h (s + 52 + 11 * j) 4))

theorem l_shares {j : Nat} (hp : isS h s) (hjs : isJs h s) (hj : j < 8) : ∀ (n k : Nat), k + n = 8 → Ev 41 2 [some (.ref s), some (.int (Int32.ofNat j)), some (.int (Int32.ofNat k))] [] h (fun r h1 => r = .inl (some (.int (if (List.range' k n).any (jx_sh h s j) then 1 else 0))) ∧ h1 = h) := by
  intro n
  induction n with
  | zero =>
    intro k hn
    rw [List.range'_zero, List.any_nil]
    refine Er_run 3 (pc' := bif decide (((8 : Int32)) ≤ (Int32.ofNat k)) then 54 else 8) (ls' := [some (.ref s), some (.int (Int32.ofNat j)), some (.int (Int32.ofNat k))]) (st' := []) rfl ?_
    refine Er_pc (t := 54) (show (bif decide (((8 : Int32)) ≤ (Int32.ofNat k)) then 54 else 8) = 54 from by rw [show (decide (((8 : Int32)) ≤ (Int32.ofNat k))) = true from by rw [show (8 : Int32) = Int32.ofNat 8 from rfl, jx_le (by omega) (by omega)]; exact decide_eq_true (by omega)]; rfl) ?_
    refine Er_run 1 (pc' := 55) (ls' := [some (.ref s), some (.int (Int32.ofNat j)), some (.int (Int32.ofNat k))]) (st' := [.int ((0 : Int32))]) rfl ?_
    exact Er_fin rfl rfl ⟨rfl, rfl⟩
  | succ n ih =>
    intro k hn
    have hk : k < 8 := by omega
    rw [List.range'_succ, List.any_cons]
    by_cases e1 : k = j
    · rw [show jx_sh h s j k = false from by rw [jx_sh, decide_eq_true e1]; rfl, Bool.false_or]
      refine Er_run 3 (pc' := bif decide (((8 : Int32)) ≤ (Int32.ofNat k)) then 54 else 8) (ls' := [some (.ref s), some (.int (Int32.ofNat j)), some (.int (Int32.ofNat k))]) (st' := []) rfl ?_
      refine Er_pc (t := 8) (show (bif decide (((8 : Int32)) ≤ (Int32.ofNat k)) then 54 else 8) = 8 from by rw [show (decide (((8 : Int32)) ≤ (Int32.ofNat k))) = false from by rw [show (8 : Int32) = Int32.ofNat 8 from rfl, jx_le (by omega) (by omega)]; exact decide_eq_false (by omega)]; rfl) ?_
      refine Er_run 3 (pc' := bif decide ((Int32.ofNat k) = (Int32.ofNat j)) then 48 else 13) (ls' := [some (.ref s), some (.int (Int32.ofNat j)), some (.int (Int32.ofNat k))]) (st' := []) rfl ?_
      refine Er_pc (t := 48) (show (bif decide ((Int32.ofNat k) = (Int32.ofNat j)) then 48 else 13) = 48 from by rw [show (decide ((Int32.ofNat k) = (Int32.ofNat j))) = true from by rw [jx_eq (by omega) (by omega)]; exact decide_eq_true e1]; rfl) ?_
      refine Er_run 2 (pc' := 2) (ls' := [some (.ref s), some (.int (Int32.ofNat j)), some (.int ((Int32.ofNat k) + (1 : Int32)))]) (st' := []) rfl ?_
      rw [jx_s1]
      exact ih (k + 1) (by omega)
    · rcases (hjs k hk).2.2.2.2.2.2.2 with h0 | h1
      · rw [show jx_sh h s j k = false from by rw [jx_sh, jx_md, h0, decide_eq_false e1]; rfl, Bool.false_or]
        refine Er_run 3 (pc' := bif decide (((8 : Int32)) ≤ (Int32.ofNat k)) then 54 else 8) (ls' := [some (.ref s), some (.int (Int32.ofNat j)), some (.int (Int32.ofNat k))]) (st' := []) rfl ?_
        refine Er_pc (t := 8) (show (bif decide (((8 : Int32)) ≤ (Int32.ofNat k)) then 54 else 8) = 8 from by rw [show (decide (((8 : Int32)) ≤ (Int32.ofNat k))) = false from by rw [show (8 : Int32) = Int32.ofNat 8 from rfl, jx_le (by omega) (by omega)]; exact decide_eq_false (by omega)]; rfl) ?_
        refine Er_run 3 (pc' := bif decide ((Int32.ofNat k) = (Int32.ofNat j)) then 48 else 13) (ls' := [some (.ref s), some (.int (Int32.ofNat j)), some (.int (Int32.ofNat k))]) (st' := []) rfl ?_
        refine Er_pc (t := 13) (show (bif decide ((Int32.ofNat k) = (Int32.ofNat j)) then 48 else 13) = 13 from by rw [show (decide ((Int32.ofNat k) = (Int32.ofNat j))) = false from by rw [jx_eq (by omega) (by omega)]; exact decide_eq_false e1]; rfl) ?_
        refine Er_run 1 (pc' := 14) (ls' := [some (.ref s), some (.int (Int32.ofNat j)), some (.int (Int32.ofNat k))]) (st' := [.ref s]) rfl ?_
        refine Er_getR (x := s + 2) rfl hp.1 hp.2.2.1 ?_
        refine Er_run 1 (pc' := 18) (ls' := [some (.ref s), some (.int (Int32.ofNat j)), some (.int (Int32.ofNat k))]) (st' := [.int (Int32.ofNat k), .ref (s + 2)]) rfl ?_
        refine Er_aald (x := s + 52 + 11 * k) rfl hp.2.2.2.2.2.2.1 (by rw [hp.2.2.2.2.2.2.2.1]; exact sm_in_of (by rw [sm_ofNat_toInt (by omega)]; omega) (by rw [sm_ofNat_toInt (by omega)]; omega)) (by rw [jx_cn (by omega)]; exact hp.2.2.2.2.2.2.2.2.2.2.2 k hk) ?_
        refine Er_inv1 (q' := s + 52 + 11 * k) (ci := 2) (av := []) (rest := []) rfl rfl ⟨Nat.le_of_ble_eq_true rfl, Nat.le_of_ble_eq_true rfl⟩ rfl rfl (hjs k hk).1 (s_Job_isMade (hjs k hk)) ?_
        refine Er_run 1 (pc' := bif decide ((gI h (s + 52 + 11 * k) 1) = 0) then 48 else 25) (ls' := [some (.ref s), some (.int (Int32.ofNat j)), some (.int (Int32.ofNat k))]) (st' := []) rfl ?_
        refine Er_pc (t := 48) (show (bif decide ((gI h (s + 52 + 11 * k) 1) = 0) then 48 else 25) = 48 from by rw [show (decide ((gI h (s + 52 + 11 * k) 1) = 0)) = true from by rw [h0]; rfl]; rfl) ?_
        refine Er_run 2 (pc' := 2) (ls' := [some (.ref s), some (.int (Int32.ofNat j)), some (.int ((Int32.ofNat k) + (1 : Int32)))]) (st' := []) rfl ?_
        rw [jx_s1]
        exact ih (k + 1) (by omega)
      · by_cases e2 : gI h (s + 52 + 11 * k) 4 = gI h (s + 52 + 11 * j) 4
        · rw [show jx_sh h s j k = true from by rw [jx_sh, jx_md, h1, decide_eq_false e1, decide_eq_true e2]; rfl, Bool.true_or]
          refine Er_run 3 (pc' := bif decide (((8 : Int32)) ≤ (Int32.ofNat k)) then 54 else 8) (ls' := [some (.ref s), some (.int (Int32.ofNat j)), some (.int (Int32.ofNat k))]) (st' := []) rfl ?_
          refine Er_pc (t := 8) (show (bif decide (((8 : Int32)) ≤ (Int32.ofNat k)) then 54 else 8) = 8 from by rw [show (decide (((8 : Int32)) ≤ (Int32.ofNat k))) = false from by rw [show (8 : Int32) = Int32.ofNat 8 from rfl, jx_le (by omega) (by omega)]; exact decide_eq_false (by omega)]; rfl) ?_
          refine Er_run 3 (pc' := bif decide ((Int32.ofNat k) = (Int32.ofNat j)) then 48 else 13) (ls' := [some (.ref s), some (.int (Int32.ofNat j)), some (.int (Int32.ofNat k))]) (st' := []) rfl ?_
          refine Er_pc (t := 13) (show (bif decide ((Int32.ofNat k) = (Int32.ofNat j)) then 48 else 13) = 13 from by rw [show (decide ((Int32.ofNat k) = (Int32.ofNat j))) = false from by rw [jx_eq (by omega) (by omega)]; exact decide_eq_false e1]; rfl) ?_
          refine Er_run 1 (pc' := 14) (ls' := [some (.ref s), some (.int (Int32.ofNat j)), some (.int (Int32.ofNat k))]) (st' := [.ref s]) rfl ?_
          refine Er_getR (x := s + 2) rfl hp.1 hp.2.2.1 ?_
          refine Er_run 1 (pc' := 18) (ls' := [some (.ref s), some (.int (Int32.ofNat j)), some (.int (Int32.ofNat k))]) (st' := [.int (Int32.ofNat k), .ref (s + 2)]) rfl ?_
          refine Er_aald (x := s + 52 + 11 * k) rfl hp.2.2.2.2.2.2.1 (by rw [hp.2.2.2.2.2.2.2.1]; exact sm_in_of (by rw [sm_ofNat_toInt (by omega)]; omega) (by rw [sm_ofNat_toInt (by omega)]; omega)) (by rw [jx_cn (by omega)]; exact hp.2.2.2.2.2.2.2.2.2.2.2 k hk) ?_
          refine Er_inv1 (q' := s + 52 + 11 * k) (ci := 2) (av := []) (rest := []) rfl rfl ⟨Nat.le_of_ble_eq_true rfl, Nat.le_of_ble_eq_true rfl⟩ rfl rfl (hjs k hk).1 (s_Job_isMade (hjs k hk)) ?_
          refine Er_run 1 (pc' := bif decide ((gI h (s + 52 + 11 * k) 1) = 0) then 48 else 25) (ls' := [some (.ref s), some (.int (Int32.ofNat j)), some (.int (Int32.ofNat k))]) (st' := []) rfl ?_
          refine Er_pc (t := 25) (show (bif decide ((gI h (s + 52 + 11 * k) 1) = 0) then 48 else 25) = 25 from by rw [show (decide ((gI h (s + 52 + 11 * k) 1) = 0)) = false from by rw [h1]; rfl]; rfl) ?_
          refine Er_run 1 (pc' := 26) (ls' := [some (.ref s), some (.int (Int32.ofNat j)), some (.int (Int32.ofNat k))]) (st' := [.ref s]) rfl ?_
          refine Er_getR (x := s + 2) rfl hp.1 hp.2.2.1 ?_
          refine Er_run 1 (pc' := 30) (ls' := [some (.ref s), some (.int (Int32.ofNat j)), some (.int (Int32.ofNat k))]) (st' := [.int (Int32.ofNat k), .ref (s + 2)]) rfl ?_
          refine Er_aald (x := s + 52 + 11 * k) rfl hp.2.2.2.2.2.2.1 (by rw [hp.2.2.2.2.2.2.2.1]; exact sm_in_of (by rw [sm_ofNat_toInt (by omega)]; omega) (by rw [sm_ofNat_toInt (by omega)]; omega)) (by rw [jx_cn (by omega)]; exact hp.2.2.2.2.2.2.2.2.2.2.2 k hk) ?_
          refine Er_inv1 (q' := s + 52 + 11 * k) (ci := 2) (av := []) (rest := []) rfl rfl ⟨Nat.le_of_ble_eq_true rfl, Nat.le_of_ble_eq_true rfl⟩ rfl rfl (hjs k hk).1 (s_Job_output (hjs k hk)) ?_
          refine Er_run 1 (pc' := 35) (ls' := [some (.ref s), some (.int (Int32.ofNat j)), some (.int (Int32.ofNat k))]) (st' := [.ref s, .int (gI h (s + 52 + 11 * k) 4)]) rfl ?_
          refine Er_getR (x := s + 2) rfl hp.1 hp.2.2.1 ?_
          refine Er_run 1 (pc' := 39) (ls' := [some (.ref s), some (.int (Int32.ofNat j)), some (.int (Int32.ofNat k))]) (st' := [.int (Int32.ofNat j), .ref (s + 2), .int (gI h (s + 52 + 11 * k) 4)]) rfl ?_
          refine Er_aald (x := s + 52 + 11 * j) rfl hp.2.2.2.2.2.2.1 (by rw [hp.2.2.2.2.2.2.2.1]; exact sm_in_of (by rw [sm_ofNat_toInt (by omega)]; omega) (by rw [sm_ofNat_toInt (by omega)]; omega)) (by rw [jx_cn (by omega)]; exact hp.2.2.2.2.2.2.2.2.2.2.2 j hj) ?_
          refine Er_inv1 (q' := s + 52 + 11 * j) (ci := 2) (av := []) (rest := [.int (gI h (s + 52 + 11 * k) 4)]) rfl rfl ⟨Nat.le_of_ble_eq_true rfl, Nat.le_of_ble_eq_true rfl⟩ rfl rfl (hjs j hj).1 (s_Job_output (hjs j hj)) ?_
          refine Er_run 1 (pc' := bif !decide ((gI h (s + 52 + 11 * k) 4) = (gI h (s + 52 + 11 * j) 4)) then 48 else 46) (ls' := [some (.ref s), some (.int (Int32.ofNat j)), some (.int (Int32.ofNat k))]) (st' := []) rfl ?_
          refine Er_pc (t := 46) (show (bif !decide ((gI h (s + 52 + 11 * k) 4) = (gI h (s + 52 + 11 * j) 4)) then 48 else 46) = 46 from by rw [show (!decide ((gI h (s + 52 + 11 * k) 4) = (gI h (s + 52 + 11 * j) 4))) = false from by rw [decide_eq_true e2]; rfl]; rfl) ?_
          refine Er_run 1 (pc' := 47) (ls' := [some (.ref s), some (.int (Int32.ofNat j)), some (.int (Int32.ofNat k))]) (st' := [.int ((1 : Int32))]) rfl ?_
          exact Er_fin rfl rfl ⟨rfl, rfl⟩
        · rw [show jx_sh h s j k = false from by rw [jx_sh, jx_md, h1, decide_eq_false e1, decide_eq_false e2]; rfl, Bool.false_or]
          refine Er_run 3 (pc' := bif decide (((8 : Int32)) ≤ (Int32.ofNat k)) then 54 else 8) (ls' := [some (.ref s), some (.int (Int32.ofNat j)), some (.int (Int32.ofNat k))]) (st' := []) rfl ?_
          refine Er_pc (t := 8) (show (bif decide (((8 : Int32)) ≤ (Int32.ofNat k)) then 54 else 8) = 8 from by rw [show (decide (((8 : Int32)) ≤ (Int32.ofNat k))) = false from by rw [show (8 : Int32) = Int32.ofNat 8 from rfl, jx_le (by omega) (by omega)]; exact decide_eq_false (by omega)]; rfl) ?_
          refine Er_run 3 (pc' := bif decide ((Int32.ofNat k) = (Int32.ofNat j)) then 48 else 13) (ls' := [some (.ref s), some (.int (Int32.ofNat j)), some (.int (Int32.ofNat k))]) (st' := []) rfl ?_
          refine Er_pc (t := 13) (show (bif decide ((Int32.ofNat k) = (Int32.ofNat j)) then 48 else 13) = 13 from by rw [show (decide ((Int32.ofNat k) = (Int32.ofNat j))) = false from by rw [jx_eq (by omega) (by omega)]; exact decide_eq_false e1]; rfl) ?_
          refine Er_run 1 (pc' := 14) (ls' := [some (.ref s), some (.int (Int32.ofNat j)), some (.int (Int32.ofNat k))]) (st' := [.ref s]) rfl ?_
          refine Er_getR (x := s + 2) rfl hp.1 hp.2.2.1 ?_
          refine Er_run 1 (pc' := 18) (ls' := [some (.ref s), some (.int (Int32.ofNat j)), some (.int (Int32.ofNat k))]) (st' := [.int (Int32.ofNat k), .ref (s + 2)]) rfl ?_
          refine Er_aald (x := s + 52 + 11 * k) rfl hp.2.2.2.2.2.2.1 (by rw [hp.2.2.2.2.2.2.2.1]; exact sm_in_of (by rw [sm_ofNat_toInt (by omega)]; omega) (by rw [sm_ofNat_toInt (by omega)]; omega)) (by rw [jx_cn (by omega)]; exact hp.2.2.2.2.2.2.2.2.2.2.2 k hk) ?_
          refine Er_inv1 (q' := s + 52 + 11 * k) (ci := 2) (av := []) (rest := []) rfl rfl ⟨Nat.le_of_ble_eq_true rfl, Nat.le_of_ble_eq_true rfl⟩ rfl rfl (hjs k hk).1 (s_Job_isMade (hjs k hk)) ?_
          refine Er_run 1 (pc' := bif decide ((gI h (s + 52 + 11 * k) 1) = 0) then 48 else 25) (ls' := [some (.ref s), some (.int (Int32.ofNat j)), some (.int (Int32.ofNat k))]) (st' := []) rfl ?_
          refine Er_pc (t := 25) (show (bif decide ((gI h (s + 52 + 11 * k) 1) = 0) then 48 else 25) = 25 from by rw [show (decide ((gI h (s + 52 + 11 * k) 1) = 0)) = false from by rw [h1]; rfl]; rfl) ?_
          refine Er_run 1 (pc' := 26) (ls' := [some (.ref s), some (.int (Int32.ofNat j)), some (.int (Int32.ofNat k))]) (st' := [.ref s]) rfl ?_
          refine Er_getR (x := s + 2) rfl hp.1 hp.2.2.1 ?_
          refine Er_run 1 (pc' := 30) (ls' := [some (.ref s), some (.int (Int32.ofNat j)), some (.int (Int32.ofNat k))]) (st' := [.int (Int32.ofNat k), .ref (s + 2)]) rfl ?_
          refine Er_aald (x := s + 52 + 11 * k) rfl hp.2.2.2.2.2.2.1 (by rw [hp.2.2.2.2.2.2.2.1]; exact sm_in_of (by rw [sm_ofNat_toInt (by omega)]; omega) (by rw [sm_ofNat_toInt (by omega)]; omega)) (by rw [jx_cn (by omega)]; exact hp.2.2.2.2.2.2.2.2.2.2.2 k hk) ?_
          refine Er_inv1 (q' := s + 52 + 11 * k) (ci := 2) (av := []) (rest := []) rfl rfl ⟨Nat.le_of_ble_eq_true rfl, Nat.le_of_ble_eq_true rfl⟩ rfl rfl (hjs k hk).1 (s_Job_output (hjs k hk)) ?_
          refine Er_run 1 (pc' := 35) (ls' := [some (.ref s), some (.int (Int32.ofNat j)), some (.int (Int32.ofNat k))]) (st' := [.ref s, .int (gI h (s + 52 + 11 * k) 4)]) rfl ?_
          refine Er_getR (x := s + 2) rfl hp.1 hp.2.2.1 ?_
          refine Er_run 1 (pc' := 39) (ls' := [some (.ref s), some (.int (Int32.ofNat j)), some (.int (Int32.ofNat k))]) (st' := [.int (Int32.ofNat j), .ref (s + 2), .int (gI h (s + 52 + 11 * k) 4)]) rfl ?_
          refine Er_aald (x := s + 52 + 11 * j) rfl hp.2.2.2.2.2.2.1 (by rw [hp.2.2.2.2.2.2.2.1]; exact sm_in_of (by rw [sm_ofNat_toInt (by omega)]; omega) (by rw [sm_ofNat_toInt (by omega)]; omega)) (by rw [jx_cn (by omega)]; exact hp.2.2.2.2.2.2.2.2.2.2.2 j hj) ?_
          refine Er_inv1 (q' := s + 52 + 11 * j) (ci := 2) (av := []) (rest := [.int (gI h (s + 52 + 11 * k) 4)]) rfl rfl ⟨Nat.le_of_ble_eq_true rfl, Nat.le_of_ble_eq_true rfl⟩ rfl rfl (hjs j hj).1 (s_Job_output (hjs j hj)) ?_
          refine Er_run 1 (pc' := bif !decide ((gI h (s + 52 + 11 * k) 4) = (gI h (s + 52 + 11 * j) 4)) then 48 else 46) (ls' := [some (.ref s), some (.int (Int32.ofNat j)), some (.int (Int32.ofNat k))]) (st' := []) rfl ?_
          refine Er_pc (t := 48) (show (bif !decide ((gI h (s + 52 + 11 * k) 4) = (gI h (s + 52 + 11 * j) 4)) then 48 else 46) = 48 from by rw [show (!decide ((gI h (s + 52 + 11 * k) 4) = (gI h (s + 52 + 11 * j) 4))) = true from by rw [decide_eq_false e2]; rfl]; rfl) ?_
          refine Er_run 2 (pc' := 2) (ls' := [some (.ref s), some (.int (Int32.ofNat j)), some (.int ((Int32.ofNat k) + (1 : Int32)))]) (st' := []) rfl ?_
          rw [jx_s1]
          exact ih (k + 1) (by omega)
theorem s_Store_sharesOutput {j : Nat} (hp : isS h s) (hjs : isJs h s) (hj : j < 8) : Run 41 [.ref s, .int (Int32.ofNat j)] h (.inl (some (.int (if (List.range' 0 8).any (jx_sh h s j) then 1 else 0)))) h := by
  refine ⟨Nat.le_of_ble_eq_true rfl, ?_⟩
  show Ev 41 0 [some (.ref s), some (.int (Int32.ofNat j)), none] [] h _
  refine Er_run 2 (pc' := 2) (ls' := [some (.ref s), some (.int (Int32.ofNat j)), some (.int ((0 : Int32)))]) (st' := []) rfl ?_
  exact l_shares hp hjs hj 8 0 rfl
end SHARES
