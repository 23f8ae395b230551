section NEXTC
variable {h : sm_H} {s : Nat} {cl : List Nat}
def jx_nc (h : sm_H) (s : Nat) (cl : List Nat) (j : Nat) : Bool := jx_md h s j && (!decide (j ∈ cl) && !(List.range' 0 8).any (jx_wt h s cl j))
def jx_op (x : Option Nat) : Int32 := match x with
  | none => -1
  | some j => Int32.ofNat j

theorem l_nextc (hp : isS h s) (hjs : isJs h s) (hc : CH h s cl) : ∀ (n j : Nat), j + n = 8 → Ev 42 2 [some (.ref s), some (.int (Int32.ofNat j))] [] h (fun r h1 => r = .inl (some (.int (jx_op ((List.range' j n).find? (jx_nc h s cl))))) ∧ h1 = h) := by
  intro n
  induction n with
  | zero =>
    intro j hn
    rw [List.range'_zero, List.find?_nil]
    refine Er_run 3 (pc' := bif decide (((8 : Int32)) ≤ (Int32.ofNat j)) then 44 else 8) (ls' := [some (.ref s), some (.int (Int32.ofNat j))]) (st' := []) rfl ?_
    refine Er_pc (t := 44) (show (bif decide (((8 : Int32)) ≤ (Int32.ofNat j)) then 44 else 8) = 44 from by rw [show (decide (((8 : Int32)) ≤ (Int32.ofNat j))) = true from by rw [show (8 : Int32) = Int32.ofNat 8 from rfl, jx_le (by omega) (by omega)]; exact decide_eq_true (by omega)]; rfl) ?_
    refine Er_run 1 (pc' := 45) (ls' := [some (.ref s), some (.int (Int32.ofNat j))]) (st' := [.int ((-1 : Int32))]) rfl ?_
    exact Er_fin rfl rfl ⟨rfl, rfl⟩
  | succ n ih =>
    intro j hn
    have hj : j < 8 := by omega
    rw [List.range'_succ]
    rcases (hjs j hj).2.2.2.2.2.2.2 with h0 | h1
    · rw [List.find?_cons_of_neg (by rw [jx_nc, jx_md, h0]; simp)]
      refine Er_run 3 (pc' := bif decide (((8 : Int32)) ≤ (Int32.ofNat j)) then 44 else 8) (ls' := [some (.ref s), some (.int (Int32.ofNat j))]) (st' := []) rfl ?_
      refine Er_pc (t := 8) (show (bif decide (((8 : Int32)) ≤ (Int32.ofNat j)) then 44 else 8) = 8 from by rw [show (decide (((8 : Int32)) ≤ (Int32.ofNat j))) = false from by rw [show (8 : Int32) = Int32.ofNat 8 from rfl, jx_le (by omega) (by omega)]; exact decide_eq_false (by omega)]; rfl) ?_
      refine Er_run 1 (pc' := 9) (ls' := [some (.ref s), some (.int (Int32.ofNat j))]) (st' := [.ref s]) rfl ?_
      refine Er_getR (x := s + 2) rfl hp.1 hp.2.2.1 ?_
      refine Er_run 1 (pc' := 13) (ls' := [some (.ref s), some (.int (Int32.ofNat j))]) (st' := [.int (Int32.ofNat j), .ref (s + 2)]) rfl ?_
      refine Er_aald (x := s + 52 + 11 * j) rfl hp.2.2.2.2.2.2.1 (by rw [hp.2.2.2.2.2.2.2.1]; exact sm_in_of (by rw [sm_ofNat_toInt (by omega)]; omega) (by rw [sm_ofNat_toInt (by omega)]; omega)) (by rw [jx_cn (by omega)]; exact hp.2.2.2.2.2.2.2.2.2.2.2 j hj) ?_
      refine Er_inv1 (q' := s + 52 + 11 * j) (ci := 2) (av := []) (rest := []) rfl rfl ⟨Nat.le_of_ble_eq_true rfl, Nat.le_of_ble_eq_true rfl⟩ rfl rfl (hjs j hj).1 (s_Job_isMade (hjs j hj)) ?_
      refine Er_run 1 (pc' := bif decide ((gI h (s + 52 + 11 * j) 1) = 0) then 38 else 20) (ls' := [some (.ref s), some (.int (Int32.ofNat j))]) (st' := []) rfl ?_
      refine Er_pc (t := 38) (show (bif decide ((gI h (s + 52 + 11 * j) 1) = 0) then 38 else 20) = 38 from by rw [show (decide ((gI h (s + 52 + 11 * j) 1) = 0)) = true from by rw [h0]; rfl]; rfl) ?_
      refine Er_run 2 (pc' := 2) (ls' := [some (.ref s), some (.int ((Int32.ofNat j) + (1 : Int32)))]) (st' := []) rfl ?_
      rw [jx_s1]
      exact ih (j + 1) (by omega)
    · by_cases e1 : j ∈ cl
      · rw [List.find?_cons_of_neg (by rw [jx_nc, decide_eq_true e1]; simp)]
        refine Er_run 3 (pc' := bif decide (((8 : Int32)) ≤ (Int32.ofNat j)) then 44 else 8) (ls' := [some (.ref s), some (.int (Int32.ofNat j))]) (st' := []) rfl ?_
        refine Er_pc (t := 8) (show (bif decide (((8 : Int32)) ≤ (Int32.ofNat j)) then 44 else 8) = 8 from by rw [show (decide (((8 : Int32)) ≤ (Int32.ofNat j))) = false from by rw [show (8 : Int32) = Int32.ofNat 8 from rfl, jx_le (by omega) (by omega)]; exact decide_eq_false (by omega)]; rfl) ?_
        refine Er_run 1 (pc' := 9) (ls' := [some (.ref s), some (.int (Int32.ofNat j))]) (st' := [.ref s]) rfl ?_
        refine Er_getR (x := s + 2) rfl hp.1 hp.2.2.1 ?_
        refine Er_run 1 (pc' := 13) (ls' := [some (.ref s), some (.int (Int32.ofNat j))]) (st' := [.int (Int32.ofNat j), .ref (s + 2)]) rfl ?_
        refine Er_aald (x := s + 52 + 11 * j) rfl hp.2.2.2.2.2.2.1 (by rw [hp.2.2.2.2.2.2.2.1]; exact sm_in_of (by rw [sm_ofNat_toInt (by omega)]; omega) (by rw [sm_ofNat_toInt (by omega)]; omega)) (by rw [jx_cn (by omega)]; exact hp.2.2.2.2.2.2.2.2.2.2.2 j hj) ?_
        refine Er_inv1 (q' := s + 52 + 11 * j) (ci := 2) (av := []) (rest := []) rfl rfl ⟨Nat.le_of_ble_eq_true rfl, Nat.le_of_ble_eq_true rfl⟩ rfl rfl (hjs j hj).1 (s_Job_isMade (hjs j hj)) ?_
        refine Er_run 1 (pc' := bif decide ((gI h (s + 52 + 11 * j) 1) = 0) then 38 else 20) (ls' := [some (.ref s), some (.int (Int32.ofNat j))]) (st' := []) rfl ?_
        refine Er_pc (t := 20) (show (bif decide ((gI h (s + 52 + 11 * j) 1) = 0) then 38 else 20) = 20 from by rw [show (decide ((gI h (s + 52 + 11 * j) 1) = 0)) = false from by rw [h1]; rfl]; rfl) ?_
        refine Er_run 2 (pc' := 22) (ls' := [some (.ref s), some (.int (Int32.ofNat j))]) (st' := [.int (Int32.ofNat j), .ref s]) rfl ?_
        refine Er_inv1 (q' := s) (ci := 3) (av := [.int (Int32.ofNat j)]) (rest := []) rfl rfl ⟨Nat.le_of_ble_eq_true rfl, Nat.le_of_ble_eq_true rfl⟩ rfl rfl hp.1 (s_Store_isChained hp hc (by omega)) ?_
        refine Er_run 1 (pc' := bif !decide ((if j ∈ cl then (1 : Int32) else 0) = 0) then 38 else 28) (ls' := [some (.ref s), some (.int (Int32.ofNat j))]) (st' := []) rfl ?_
        refine Er_pc (t := 38) (show (bif !decide ((if j ∈ cl then (1 : Int32) else 0) = 0) then 38 else 28) = 38 from by rw [show (!decide ((if j ∈ cl then (1 : Int32) else 0) = 0)) = true from by rw [if_pos e1]; rfl]; rfl) ?_
        refine Er_run 2 (pc' := 2) (ls' := [some (.ref s), some (.int ((Int32.ofNat j) + (1 : Int32)))]) (st' := []) rfl ?_
        rw [jx_s1]
        exact ih (j + 1) (by omega)
      · by_cases e2 : (List.range' 0 8).any (jx_wt h s cl j) = true
        · rw [List.find?_cons_of_neg (by rw [jx_nc, e2]; simp)]
          refine Er_run 3 (pc' := bif decide (((8 : Int32)) ≤ (Int32.ofNat j)) then 44 else 8) (ls' := [some (.ref s), some (.int (Int32.ofNat j))]) (st' := []) rfl ?_
          refine Er_pc (t := 8) (show (bif decide (((8 : Int32)) ≤ (Int32.ofNat j)) then 44 else 8) = 8 from by rw [show (decide (((8 : Int32)) ≤ (Int32.ofNat j))) = false from by rw [show (8 : Int32) = Int32.ofNat 8 from rfl, jx_le (by omega) (by omega)]; exact decide_eq_false (by omega)]; rfl) ?_
          refine Er_run 1 (pc' := 9) (ls' := [some (.ref s), some (.int (Int32.ofNat j))]) (st' := [.ref s]) rfl ?_
          refine Er_getR (x := s + 2) rfl hp.1 hp.2.2.1 ?_
          refine Er_run 1 (pc' := 13) (ls' := [some (.ref s), some (.int (Int32.ofNat j))]) (st' := [.int (Int32.ofNat j), .ref (s + 2)]) rfl ?_
          refine Er_aald (x := s + 52 + 11 * j) rfl hp.2.2.2.2.2.2.1 (by rw [hp.2.2.2.2.2.2.2.1]; exact sm_in_of (by rw [sm_ofNat_toInt (by omega)]; omega) (by rw [sm_ofNat_toInt (by omega)]; omega)) (by rw [jx_cn (by omega)]; exact hp.2.2.2.2.2.2.2.2.2.2.2 j hj) ?_
          refine Er_inv1 (q' := s + 52 + 11 * j) (ci := 2) (av := []) (rest := []) rfl rfl ⟨Nat.le_of_ble_eq_true rfl, Nat.le_of_ble_eq_true rfl⟩ rfl rfl (hjs j hj).1 (s_Job_isMade (hjs j hj)) ?_
          refine Er_run 1 (pc' := bif decide ((gI h (s + 52 + 11 * j) 1) = 0) then 38 else 20) (ls' := [some (.ref s), some (.int (Int32.ofNat j))]) (st' := []) rfl ?_
          refine Er_pc (t := 20) (show (bif decide ((gI h (s + 52 + 11 * j) 1) = 0) then 38 else 20) = 20 from by rw [show (decide ((gI h (s + 52 + 11 * j) 1) = 0)) = false from by rw [h1]; rfl]; rfl) ?_
          refine Er_run 2 (pc' := 22) (ls' := [some (.ref s), some (.int (Int32.ofNat j))]) (st' := [.int (Int32.ofNat j), .ref s]) rfl ?_
          refine Er_inv1 (q' := s) (ci := 3) (av := [.int (Int32.ofNat j)]) (rest := []) rfl rfl ⟨Nat.le_of_ble_eq_true rfl, Nat.le_of_ble_eq_true rfl⟩ rfl rfl hp.1 (s_Store_isChained hp hc (by omega)) ?_
          refine Er_run 1 (pc' := bif !decide ((if j ∈ cl then (1 : Int32) else 0) = 0) then 38 else 28) (ls' := [some (.ref s), some (.int (Int32.ofNat j))]) (st' := []) rfl ?_
          refine Er_pc (t := 28) (show (bif !decide ((if j ∈ cl then (1 : Int32) else 0) = 0) then 38 else 28) = 28 from by rw [show (!decide ((if j ∈ cl then (1 : Int32) else 0) = 0)) = false from by rw [if_neg e1]; rfl]; rfl) ?_
          refine Er_run 2 (pc' := 30) (ls' := [some (.ref s), some (.int (Int32.ofNat j))]) (st' := [.int (Int32.ofNat j), .ref s]) rfl ?_
          refine Er_inv1 (q' := s) (ci := 3) (av := [.int (Int32.ofNat j)]) (rest := []) rfl rfl ⟨Nat.le_of_ble_eq_true rfl, Nat.le_of_ble_eq_true rfl⟩ rfl rfl hp.1 (s_Store_waitsForOutput hp hjs hc hj) ?_
          refine Er_run 1 (pc' := bif !decide ((if (List.range' 0 8).any (jx_wt h s cl j) = true then (1 : Int32) else 0) = 0) then 38 else 36) (ls' := [some (.ref s), some (.int (Int32.ofNat j))]) (st' := []) rfl ?_
          refine Er_pc (t := 38) (show (bif !decide ((if (List.range' 0 8).any (jx_wt h s cl j) = true then (1 : Int32) else 0) = 0) then 38 else 36) = 38 from by rw [show (!decide ((if (List.range' 0 8).any (jx_wt h s cl j) = true then (1 : Int32) else 0) = 0)) = true from by rw [if_pos e2]; rfl]; rfl) ?_
          refine Er_run 2 (pc' := 2) (ls' := [some (.ref s), some (.int ((Int32.ofNat j) + (1 : Int32)))]) (st' := []) rfl ?_
          rw [jx_s1]
          exact ih (j + 1) (by omega)
        · rw [List.find?_cons_of_pos (by rw [jx_nc, jx_md, h1, decide_eq_false e1, Bool.eq_false_iff.2 e2]; rfl)]
          refine Er_run 3 (pc' := bif decide (((8 : Int32)) ≤ (Int32.ofNat j)) then 44 else 8) (ls' := [some (.ref s), some (.int (Int32.ofNat j))]) (st' := []) rfl ?_
          refine Er_pc (t := 8) (show (bif decide (((8 : Int32)) ≤ (Int32.ofNat j)) then 44 else 8) = 8 from by rw [show (decide (((8 : Int32)) ≤ (Int32.ofNat j))) = false from by rw [show (8 : Int32) = Int32.ofNat 8 from rfl, jx_le (by omega) (by omega)]; exact decide_eq_false (by omega)]; rfl) ?_
          refine Er_run 1 (pc' := 9) (ls' := [some (.ref s), some (.int (Int32.ofNat j))]) (st' := [.ref s]) rfl ?_
          refine Er_getR (x := s + 2) rfl hp.1 hp.2.2.1 ?_
          refine Er_run 1 (pc' := 13) (ls' := [some (.ref s), some (.int (Int32.ofNat j))]) (st' := [.int (Int32.ofNat j), .ref (s + 2)]) rfl ?_
          refine Er_aald (x := s + 52 + 11 * j) rfl hp.2.2.2.2.2.2.1 (by rw [hp.2.2.2.2.2.2.2.1]; exact sm_in_of (by rw [sm_ofNat_toInt (by omega)]; omega) (by rw [sm_ofNat_toInt (by omega)]; omega)) (by rw [jx_cn (by omega)]; exact hp.2.2.2.2.2.2.2.2.2.2.2 j hj) ?_
          refine Er_inv1 (q' := s + 52 + 11 * j) (ci := 2) (av := []) (rest := []) rfl rfl ⟨Nat.le_of_ble_eq_true rfl, Nat.le_of_ble_eq_true rfl⟩ rfl rfl (hjs j hj).1 (s_Job_isMade (hjs j hj)) ?_
          refine Er_run 1 (pc' := bif decide ((gI h (s + 52 + 11 * j) 1) = 0) then 38 else 20) (ls' := [some (.ref s), some (.int (Int32.ofNat j))]) (st' := []) rfl ?_
          refine Er_pc (t := 20) (show (bif decide ((gI h (s + 52 + 11 * j) 1) = 0) then 38 else 20) = 20 from by rw [show (decide ((gI h (s + 52 + 11 * j) 1) = 0)) = false from by rw [h1]; rfl]; rfl) ?_
          refine Er_run 2 (pc' := 22) (ls' := [some (.ref s), some (.int (Int32.ofNat j))]) (st' := [.int (Int32.ofNat j), .ref s]) rfl ?_
          refine Er_inv1 (q' := s) (ci := 3) (av := [.int (Int32.ofNat j)]) (rest := []) rfl rfl ⟨Nat.le_of_ble_eq_true rfl, Nat.le_of_ble_eq_true rfl⟩ rfl rfl hp.1 (s_Store_isChained hp hc (by omega)) ?_
          refine Er_run 1 (pc' := bif !decide ((if j ∈ cl then (1 : Int32) else 0) = 0) then 38 else 28) (ls' := [some (.ref s), some (.int (Int32.ofNat j))]) (st' := []) rfl ?_
          refine Er_pc (t := 28) (show (bif !decide ((if j ∈ cl then (1 : Int32) else 0) = 0) then 38 else 28) = 28 from by rw [show (!decide ((if j ∈ cl then (1 : Int32) else 0) = 0)) = false from by rw [if_neg e1]; rfl]; rfl) ?_
          refine Er_run 2 (pc' := 30) (ls' := [some (.ref s), some (.int (Int32.ofNat j))]) (st' := [.int (Int32.ofNat j), .ref s]) rfl ?_
          refine Er_inv1 (q' := s) (ci := 3) (av := [.int (Int32.ofNat j)]) (rest := []) rfl rfl ⟨Nat.le_of_ble_eq_true rfl, Nat.le_of_ble_eq_true rfl⟩ rfl rfl hp.1 (s_Store_waitsForOutput hp hjs hc hj) ?_
          refine Er_run 1 (pc' := bif !decide ((if (List.range' 0 8).any (jx_wt h s cl j) = true then (1 : Int32) else 0) = 0) then 38 else 36) (ls' := [some (.ref s), some (.int (Int32.ofNat j))]) (st' := []) rfl ?_
          refine Er_pc (t := 36) (show (bif !decide ((if (List.range' 0 8).any (jx_wt h s cl j) = true then (1 : Int32) else 0) = 0) then 38 else 36) = 36 from by rw [show (!decide ((if (List.range' 0 8).any (jx_wt h s cl j) = true then (1 : Int32) else 0) = 0)) = false from by rw [if_neg e2]; rfl]; rfl) ?_
          refine Er_run 1 (pc' := 37) (ls' := [some (.ref s), some (.int (Int32.ofNat j))]) (st' := [.int (Int32.ofNat j)]) rfl ?_
          exact Er_fin rfl rfl ⟨rfl, rfl⟩
theorem s_Store_nextForChain (hp : isS h s) (hjs : isJs h s) (hc : CH h s cl) : Run 42 [.ref s] h (.inl (some (.int (jx_op ((List.range' 0 8).find? (jx_nc h s cl)))))) h := by
  refine ⟨Nat.le_of_ble_eq_true rfl, ?_⟩
  show Ev 42 0 [some (.ref s), none] [] h _
  refine Er_run 2 (pc' := 2) (ls' := [some (.ref s), some (.int ((0 : Int32)))]) (st' := []) rfl ?_
  exact l_nextc hp hjs hc 8 0 rfl
end NEXTC
