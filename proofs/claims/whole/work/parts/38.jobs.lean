section JOBS
variable {h : sm_H} {s : Nat} {cl : List Nat}
def isJs (h : sm_H) (s : Nat) : Prop := ∀ j, j < 8 → isJ h (s + 52 + 11 * j)
/-- the JOB j is made -/
def jx_md (h : sm_H) (s j : Nat) : Bool := decide (gI h (s + 52 + 11 * j) 1 = 1)

theorem l_madeJobs (hp : isS h s) (hjs : isJs h s) : ∀ (k j c : Nat), j + k = 8 → c ≤ j → Ev 36 4 [some (.ref s), some (.int (Int32.ofNat c)), some (.int (Int32.ofNat j))] [] h (fun r h1 => r = .inl (some (.int (Int32.ofNat (c + (List.range' j k).countP (jx_md h s))))) ∧ h1 = h) := by
  intro k
  induction k with
  | zero =>
    intro j c hk hcj
    rw [List.range'_zero, List.countP_nil, Nat.add_zero]
    refine Er_run 3 (pc' := bif decide (((8 : Int32)) ≤ (Int32.ofNat j)) then 31 else 10) (ls' := [some (.ref s), some (.int (Int32.ofNat c)), some (.int (Int32.ofNat j))]) (st' := []) rfl ?_
    refine Er_pc (t := 31) (show (bif decide (((8 : Int32)) ≤ (Int32.ofNat j)) then 31 else 10) = 31 from by rw [show (decide (((8 : Int32)) ≤ (Int32.ofNat j))) = true from by rw [show (8 : Int32) = Int32.ofNat 8 from rfl, jx_le (by omega) (by omega)]; exact decide_eq_true (by omega)]; rfl) ?_
    refine Er_run 1 (pc' := 32) (ls' := [some (.ref s), some (.int (Int32.ofNat c)), some (.int (Int32.ofNat j))]) (st' := [.int (Int32.ofNat c)]) rfl ?_
    exact Er_fin rfl rfl ⟨rfl, rfl⟩
  | succ k ih =>
    intro j c hk hcj
    have hj : j < 8 := by omega
    rw [List.range'_succ]
    rcases (hjs j hj).2.2.2.2.2.2.2 with h0 | h1
    · rw [List.countP_cons_of_neg (by rw [jx_md, h0]; decide)]
      refine Er_run 3 (pc' := bif decide (((8 : Int32)) ≤ (Int32.ofNat j)) then 31 else 10) (ls' := [some (.ref s), some (.int (Int32.ofNat c)), some (.int (Int32.ofNat j))]) (st' := []) rfl ?_
      refine Er_pc (t := 10) (show (bif decide (((8 : Int32)) ≤ (Int32.ofNat j)) then 31 else 10) = 10 from by rw [show (decide (((8 : Int32)) ≤ (Int32.ofNat j))) = false from by rw [show (8 : Int32) = Int32.ofNat 8 from rfl, jx_le (by omega) (by omega)]; exact decide_eq_false (by omega)]; rfl) ?_
      refine Er_run 1 (pc' := 11) (ls' := [some (.ref s), some (.int (Int32.ofNat c)), some (.int (Int32.ofNat j))]) (st' := [.ref s]) rfl ?_
      refine Er_getR (x := s + 2) rfl hp.1 hp.2.2.1 ?_
      refine Er_run 1 (pc' := 15) (ls' := [some (.ref s), some (.int (Int32.ofNat c)), some (.int (Int32.ofNat j))]) (st' := [.int (Int32.ofNat j), .ref (s + 2)]) rfl ?_
      refine Er_aald (x := s + 52 + 11 * j) rfl hp.2.2.2.2.2.2.1 (by rw [hp.2.2.2.2.2.2.2.1]; exact sm_in_of (by rw [sm_ofNat_toInt (by omega)]; omega) (by rw [sm_ofNat_toInt (by omega)]; omega)) (by rw [jx_cn (by omega)]; exact hp.2.2.2.2.2.2.2.2.2.2.2 j hj) ?_
      refine Er_inv1 (q' := s + 52 + 11 * j) (ci := 2) (av := []) (rest := []) rfl rfl ⟨Nat.le_of_ble_eq_true rfl, Nat.le_of_ble_eq_true rfl⟩ rfl rfl (hjs j hj).1 (s_Job_isMade (hjs j hj)) ?_
      refine Er_run 1 (pc' := bif decide ((gI h (s + 52 + 11 * j) 1) = 0) then 25 else 22) (ls' := [some (.ref s), some (.int (Int32.ofNat c)), some (.int (Int32.ofNat j))]) (st' := []) rfl ?_
      refine Er_pc (t := 25) (show (bif decide ((gI h (s + 52 + 11 * j) 1) = 0) then 25 else 22) = 25 from by rw [show (decide ((gI h (s + 52 + 11 * j) 1) = 0)) = true from by rw [h0]; rfl]; rfl) ?_
      refine Er_run 2 (pc' := 4) (ls' := [some (.ref s), some (.int (Int32.ofNat c)), some (.int ((Int32.ofNat j) + (1 : Int32)))]) (st' := []) rfl ?_
      rw [jx_s1]
      exact ih (j + 1) c (by omega) (by omega)
    · rw [List.countP_cons_of_pos (by rw [jx_md, h1]; rfl)]
      refine Er_run 3 (pc' := bif decide (((8 : Int32)) ≤ (Int32.ofNat j)) then 31 else 10) (ls' := [some (.ref s), some (.int (Int32.ofNat c)), some (.int (Int32.ofNat j))]) (st' := []) rfl ?_
      refine Er_pc (t := 10) (show (bif decide (((8 : Int32)) ≤ (Int32.ofNat j)) then 31 else 10) = 10 from by rw [show (decide (((8 : Int32)) ≤ (Int32.ofNat j))) = false from by rw [show (8 : Int32) = Int32.ofNat 8 from rfl, jx_le (by omega) (by omega)]; exact decide_eq_false (by omega)]; rfl) ?_
      refine Er_run 1 (pc' := 11) (ls' := [some (.ref s), some (.int (Int32.ofNat c)), some (.int (Int32.ofNat j))]) (st' := [.ref s]) rfl ?_
      refine Er_getR (x := s + 2) rfl hp.1 hp.2.2.1 ?_
      refine Er_run 1 (pc' := 15) (ls' := [some (.ref s), some (.int (Int32.ofNat c)), some (.int (Int32.ofNat j))]) (st' := [.int (Int32.ofNat j), .ref (s + 2)]) rfl ?_
      refine Er_aald (x := s + 52 + 11 * j) rfl hp.2.2.2.2.2.2.1 (by rw [hp.2.2.2.2.2.2.2.1]; exact sm_in_of (by rw [sm_ofNat_toInt (by omega)]; omega) (by rw [sm_ofNat_toInt (by omega)]; omega)) (by rw [jx_cn (by omega)]; exact hp.2.2.2.2.2.2.2.2.2.2.2 j hj) ?_
      refine Er_inv1 (q' := s + 52 + 11 * j) (ci := 2) (av := []) (rest := []) rfl rfl ⟨Nat.le_of_ble_eq_true rfl, Nat.le_of_ble_eq_true rfl⟩ rfl rfl (hjs j hj).1 (s_Job_isMade (hjs j hj)) ?_
      refine Er_run 1 (pc' := bif decide ((gI h (s + 52 + 11 * j) 1) = 0) then 25 else 22) (ls' := [some (.ref s), some (.int (Int32.ofNat c)), some (.int (Int32.ofNat j))]) (st' := []) rfl ?_
      refine Er_pc (t := 22) (show (bif decide ((gI h (s + 52 + 11 * j) 1) = 0) then 25 else 22) = 22 from by rw [show (decide ((gI h (s + 52 + 11 * j) 1) = 0)) = false from by rw [h1]; rfl]; rfl) ?_
      refine Er_run 3 (pc' := 4) (ls' := [some (.ref s), some (.int ((Int32.ofNat c) + (1 : Int32))), some (.int ((Int32.ofNat j) + (1 : Int32)))]) (st' := []) rfl ?_
      rw [jx_s1, jx_s1]
      have ik := ih (j + 1) (c + 1) (by omega) (by omega)
      rw [show c + 1 + List.countP (jx_md h s) (List.range' (j + 1) k) = c + (List.countP (jx_md h s) (List.range' (j + 1) k) + 1) from by omega] at ik
      exact ik
theorem s_Store_madeJobs (hp : isS h s) (hjs : isJs h s) : Run 36 [.ref s] h (.inl (some (.int (Int32.ofNat ((List.range' 0 8).countP (jx_md h s)))))) h := by
  refine ⟨Nat.le_of_ble_eq_true rfl, ?_⟩
  show Ev 36 0 [some (.ref s), none, none] [] h _
  refine Er_run 4 (pc' := 4) (ls' := [some (.ref s), some (.int ((0 : Int32))), some (.int ((0 : Int32)))]) (st' := []) rfl ?_
  have ik := l_madeJobs hp hjs 8 0 0 rfl (Nat.le_refl _)
  rw [Nat.zero_add] at ik
  exact ik
end JOBS
