section INPUTS
variable {h : sm_H} {s a f g i : Nat} {l l2 : List (Int64 × Int64)}

theorem jx_ne1 {g : Nat} (hg : g < 2147483648) : ¬ Int32.ofNat g = -1 := fun e => by
  have := congrArg Int32.toInt e
  rw [sm_ofNat_toInt hg] at this
  have h1 : (-1 : Int32).toInt = -1 := by decide
  omega
theorem s_Store_inputLength1 (hp : isS h s) (hj : isJ h a) (h1 : gI h a 2 = Int32.ofNat f) (hf : f < 16) (hl : PL h (s + 4 + 3 * f) 300 l) (h2 : gI h a 3 = -1) : Run 45 [.ref s, .ref a] h (.inl (some (.int (Int32.ofNat l.length)))) h := by
  refine ⟨Nat.le_of_ble_eq_true rfl, ?_⟩
  show Ev 45 0 [some (.ref s), some (.ref a), none] [] h _
  refine Er_run 2 (pc' := 2) (ls' := [some (.ref s), some (.ref a), none]) (st' := [.ref a, .ref s]) rfl ?_
  have r1 := s_Job_first hj
  rw [h1] at r1
  refine Er_inv1 (q' := a) (ci := 2) (av := []) (rest := [.ref s]) rfl rfl ⟨Nat.le_of_ble_eq_true rfl, Nat.le_of_ble_eq_true rfl⟩ rfl rfl hj.1 r1 ?_
  refine Er_inv1 (q' := s) (ci := 3) (av := [.int (Int32.ofNat f)]) (rest := []) rfl rfl ⟨Nat.le_of_ble_eq_true rfl, Nat.le_of_ble_eq_true rfl⟩ rfl rfl hp.1 (s_Store_file hp hf) ?_
  refine Er_inv1 (q' := s + 4 + 3 * f) (ci := 0) (av := []) (rest := []) rfl rfl ⟨Nat.le_of_ble_eq_true rfl, Nat.le_of_ble_eq_true rfl⟩ rfl rfl hl.1.1 (s_Pairs_length hl) ?_
  refine Er_run 2 (pc' := 13) (ls' := [some (.ref s), some (.ref a), some (.int (Int32.ofNat l.length))]) (st' := [.ref a]) rfl ?_
  have r2 := s_Job_second hj
  rw [h2] at r2
  refine Er_inv1 (q' := a) (ci := 2) (av := []) (rest := []) rfl rfl ⟨Nat.le_of_ble_eq_true rfl, Nat.le_of_ble_eq_true rfl⟩ rfl rfl hj.1 r2 ?_
  refine Er_run 2 (pc' := bif !decide (((-1 : Int32)) = ((-1 : Int32))) then 24 else 20) (ls' := [some (.ref s), some (.ref a), some (.int (Int32.ofNat l.length))]) (st' := []) rfl ?_
  refine Er_pc (t := 20) (show (bif !decide (((-1 : Int32)) = ((-1 : Int32))) then 24 else 20) = 20 from by rw [show (!decide (((-1 : Int32)) = ((-1 : Int32)))) = false from by decide]; rfl) ?_
  refine Er_run 2 (pc' := 37) (ls' := [some (.ref s), some (.ref a), some (.int (Int32.ofNat l.length))]) (st' := [.int (Int32.ofNat l.length)]) rfl ?_
  exact Er_fin rfl rfl ⟨rfl, rfl⟩
theorem s_Store_inputLength2 (hp : isS h s) (hj : isJ h a) (h1 : gI h a 2 = Int32.ofNat f) (hf : f < 16) (hl : PL h (s + 4 + 3 * f) 300 l) (h2 : gI h a 3 = Int32.ofNat g) (hg : g < 16) (hl2 : PL h (s + 4 + 3 * g) 300 l2)  : Run 45 [.ref s, .ref a] h (.inl (some (.int (Int32.ofNat (l.length + l2.length))))) h := by
  refine ⟨Nat.le_of_ble_eq_true rfl, ?_⟩
  show Ev 45 0 [some (.ref s), some (.ref a), none] [] h _
  refine Er_run 2 (pc' := 2) (ls' := [some (.ref s), some (.ref a), none]) (st' := [.ref a, .ref s]) rfl ?_
  have r1 := s_Job_first hj
  rw [h1] at r1
  refine Er_inv1 (q' := a) (ci := 2) (av := []) (rest := [.ref s]) rfl rfl ⟨Nat.le_of_ble_eq_true rfl, Nat.le_of_ble_eq_true rfl⟩ rfl rfl hj.1 r1 ?_
  refine Er_inv1 (q' := s) (ci := 3) (av := [.int (Int32.ofNat f)]) (rest := []) rfl rfl ⟨Nat.le_of_ble_eq_true rfl, Nat.le_of_ble_eq_true rfl⟩ rfl rfl hp.1 (s_Store_file hp hf) ?_
  refine Er_inv1 (q' := s + 4 + 3 * f) (ci := 0) (av := []) (rest := []) rfl rfl ⟨Nat.le_of_ble_eq_true rfl, Nat.le_of_ble_eq_true rfl⟩ rfl rfl hl.1.1 (s_Pairs_length hl) ?_
  refine Er_run 2 (pc' := 13) (ls' := [some (.ref s), some (.ref a), some (.int (Int32.ofNat l.length))]) (st' := [.ref a]) rfl ?_
  have r2 := s_Job_second hj
  rw [h2] at r2
  refine Er_inv1 (q' := a) (ci := 2) (av := []) (rest := []) rfl rfl ⟨Nat.le_of_ble_eq_true rfl, Nat.le_of_ble_eq_true rfl⟩ rfl rfl hj.1 r2 ?_
  refine Er_run 2 (pc' := bif !decide ((Int32.ofNat g) = ((-1 : Int32))) then 24 else 20) (ls' := [some (.ref s), some (.ref a), some (.int (Int32.ofNat l.length))]) (st' := []) rfl ?_
  refine Er_pc (t := 24) (show (bif !decide ((Int32.ofNat g) = ((-1 : Int32))) then 24 else 20) = 24 from by rw [show (!decide ((Int32.ofNat g) = ((-1 : Int32)))) = true from by rw [decide_eq_false (jx_ne1 (by omega))]; rfl]; rfl) ?_
  refine Er_run 3 (pc' := 27) (ls' := [some (.ref s), some (.ref a), some (.int (Int32.ofNat l.length))]) (st' := [.ref a, .ref s, .int (Int32.ofNat l.length)]) rfl ?_
  refine Er_inv1 (q' := a) (ci := 2) (av := []) (rest := [.ref s, .int (Int32.ofNat l.length)]) rfl rfl ⟨Nat.le_of_ble_eq_true rfl, Nat.le_of_ble_eq_true rfl⟩ rfl rfl hj.1 r2 ?_
  refine Er_inv1 (q' := s) (ci := 3) (av := [.int (Int32.ofNat g)]) (rest := [.int (Int32.ofNat l.length)]) rfl rfl ⟨Nat.le_of_ble_eq_true rfl, Nat.le_of_ble_eq_true rfl⟩ rfl rfl hp.1 (s_Store_file hp hg) ?_
  refine Er_inv1 (q' := s + 4 + 3 * g) (ci := 0) (av := []) (rest := [.int (Int32.ofNat l.length)]) rfl rfl ⟨Nat.le_of_ble_eq_true rfl, Nat.le_of_ble_eq_true rfl⟩ rfl rfl hl2.1.1 (s_Pairs_length hl2) ?_
  refine Er_run 1 (pc' := 37) (ls' := [some (.ref s), some (.ref a), some (.int (Int32.ofNat l.length))]) (st' := [.int ((Int32.ofNat l.length) + (Int32.ofNat l2.length))]) rfl ?_
  exact Er_fin rfl rfl ⟨by rw [Int32.ofNat_add], rfl⟩
theorem s_Store_inputFile1 (hp : isS h s) (hj : isJ h a) (h1 : gI h a 2 = Int32.ofNat f) (hf : f < 16) (hl : PL h (s + 4 + 3 * f) 300 l) (hi : i < l.length) : Run 46 [.ref s, .ref a, .int (Int32.ofNat i)] h (.inl (some (.ref (s + 4 + 3 * f)))) h := by
  have b1 := hl.2.2.1
  refine ⟨Nat.le_of_ble_eq_true rfl, ?_⟩
  show Ev 46 0 [some (.ref s), some (.ref a), some (.int (Int32.ofNat i))] [] h _
  refine Er_run 4 (pc' := 4) (ls' := [some (.ref s), some (.ref a), some (.int (Int32.ofNat i))]) (st' := [.ref a, .ref s, .int (Int32.ofNat i), .ref s]) rfl ?_
  have r1 := s_Job_first hj
  rw [h1] at r1
  refine Er_inv1 (q' := a) (ci := 2) (av := []) (rest := [.ref s, .int (Int32.ofNat i), .ref s]) rfl rfl ⟨Nat.le_of_ble_eq_true rfl, Nat.le_of_ble_eq_true rfl⟩ rfl rfl hj.1 r1 ?_
  refine Er_inv1 (q' := s) (ci := 3) (av := [.int (Int32.ofNat f)]) (rest := [.int (Int32.ofNat i), .ref s]) rfl rfl ⟨Nat.le_of_ble_eq_true rfl, Nat.le_of_ble_eq_true rfl⟩ rfl rfl hp.1 (s_Store_file hp hf) ?_
  refine Er_inv1 (q' := s + 4 + 3 * f) (ci := 0) (av := []) (rest := [.int (Int32.ofNat i), .ref s]) rfl rfl ⟨Nat.le_of_ble_eq_true rfl, Nat.le_of_ble_eq_true rfl⟩ rfl rfl hl.1.1 (s_Pairs_length hl) ?_
  refine Er_run 1 (pc' := bif decide ((Int32.ofNat l.length) ≤ (Int32.ofNat i)) then 23 else 16) (ls' := [some (.ref s), some (.ref a), some (.int (Int32.ofNat i))]) (st' := [.ref s]) rfl ?_
  refine Er_pc (t := 16) (show (bif decide ((Int32.ofNat l.length) ≤ (Int32.ofNat i)) then 23 else 16) = 16 from by rw [show (decide ((Int32.ofNat l.length) ≤ (Int32.ofNat i))) = false from by rw [jx_le (by omega) (by omega)]; exact decide_eq_false (by omega)]; rfl) ?_
  refine Er_run 1 (pc' := 17) (ls' := [some (.ref s), some (.ref a), some (.int (Int32.ofNat i))]) (st' := [.ref a, .ref s]) rfl ?_
  refine Er_inv1 (q' := a) (ci := 2) (av := []) (rest := [.ref s]) rfl rfl ⟨Nat.le_of_ble_eq_true rfl, Nat.le_of_ble_eq_true rfl⟩ rfl rfl hj.1 r1 ?_
  refine Er_run 1 (pc' := 27) (ls' := [some (.ref s), some (.ref a), some (.int (Int32.ofNat i))]) (st' := [.int (Int32.ofNat f), .ref s]) rfl ?_
  refine Er_inv1 (q' := s) (ci := 3) (av := [.int (Int32.ofNat f)]) (rest := []) rfl rfl ⟨Nat.le_of_ble_eq_true rfl, Nat.le_of_ble_eq_true rfl⟩ rfl rfl hp.1 (s_Store_file hp hf) ?_
  exact Er_fin rfl rfl ⟨rfl, rfl⟩
theorem s_Store_inputFile2 (hp : isS h s) (hj : isJ h a) (h1 : gI h a 2 = Int32.ofNat f) (hf : f < 16) (hl : PL h (s + 4 + 3 * f) 300 l) (h2 : gI h a 3 = Int32.ofNat g) (hg : g < 16) (hl2 : PL h (s + 4 + 3 * g) 300 l2) (hi : l.length ≤ i) (hb : i < 2147483648) : Run 46 [.ref s, .ref a, .int (Int32.ofNat i)] h (.inl (some (.ref (s + 4 + 3 * g)))) h := by
  have b1 := hl.2.2.1
  refine ⟨Nat.le_of_ble_eq_true rfl, ?_⟩
  show Ev 46 0 [some (.ref s), some (.ref a), some (.int (Int32.ofNat i))] [] h _
  refine Er_run 4 (pc' := 4) (ls' := [some (.ref s), some (.ref a), some (.int (Int32.ofNat i))]) (st' := [.ref a, .ref s, .int (Int32.ofNat i), .ref s]) rfl ?_
  have r1 := s_Job_first hj
  rw [h1] at r1
  refine Er_inv1 (q' := a) (ci := 2) (av := []) (rest := [.ref s, .int (Int32.ofNat i), .ref s]) rfl rfl ⟨Nat.le_of_ble_eq_true rfl, Nat.le_of_ble_eq_true rfl⟩ rfl rfl hj.1 r1 ?_
  refine Er_inv1 (q' := s) (ci := 3) (av := [.int (Int32.ofNat f)]) (rest := [.int (Int32.ofNat i), .ref s]) rfl rfl ⟨Nat.le_of_ble_eq_true rfl, Nat.le_of_ble_eq_true rfl⟩ rfl rfl hp.1 (s_Store_file hp hf) ?_
  refine Er_inv1 (q' := s + 4 + 3 * f) (ci := 0) (av := []) (rest := [.int (Int32.ofNat i), .ref s]) rfl rfl ⟨Nat.le_of_ble_eq_true rfl, Nat.le_of_ble_eq_true rfl⟩ rfl rfl hl.1.1 (s_Pairs_length hl) ?_
  refine Er_run 1 (pc' := bif decide ((Int32.ofNat l.length) ≤ (Int32.ofNat i)) then 23 else 16) (ls' := [some (.ref s), some (.ref a), some (.int (Int32.ofNat i))]) (st' := [.ref s]) rfl ?_
  refine Er_pc (t := 23) (show (bif decide ((Int32.ofNat l.length) ≤ (Int32.ofNat i)) then 23 else 16) = 23 from by rw [show (decide ((Int32.ofNat l.length) ≤ (Int32.ofNat i))) = true from by rw [jx_le (by omega) (by omega)]; exact decide_eq_true (by omega)]; rfl) ?_
  refine Er_run 1 (pc' := 24) (ls' := [some (.ref s), some (.ref a), some (.int (Int32.ofNat i))]) (st' := [.ref a, .ref s]) rfl ?_
  have r2 := s_Job_second hj
  rw [h2] at r2
  refine Er_inv1 (q' := a) (ci := 2) (av := []) (rest := [.ref s]) rfl rfl ⟨Nat.le_of_ble_eq_true rfl, Nat.le_of_ble_eq_true rfl⟩ rfl rfl hj.1 r2 ?_
  refine Er_inv1 (q' := s) (ci := 3) (av := [.int (Int32.ofNat g)]) (rest := []) rfl rfl ⟨Nat.le_of_ble_eq_true rfl, Nat.le_of_ble_eq_true rfl⟩ rfl rfl hp.1 (s_Store_file hp hg) ?_
  exact Er_fin rfl rfl ⟨rfl, rfl⟩
theorem s_Store_inputPlace1 (hp : isS h s) (hj : isJ h a) (h1 : gI h a 2 = Int32.ofNat f) (hf : f < 16) (hl : PL h (s + 4 + 3 * f) 300 l) (hi : i < l.length) : Run 47 [.ref s, .ref a, .int (Int32.ofNat i)] h (.inl (some (.int (Int32.ofNat i)))) h := by
  have b1 := hl.2.2.1
  refine ⟨Nat.le_of_ble_eq_true rfl, ?_⟩
  show Ev 47 0 [some (.ref s), some (.ref a), some (.int (Int32.ofNat i)), none] [] h _
  refine Er_run 2 (pc' := 2) (ls' := [some (.ref s), some (.ref a), some (.int (Int32.ofNat i)), none]) (st' := [.ref a, .ref s]) rfl ?_
  have r1 := s_Job_first hj
  rw [h1] at r1
  refine Er_inv1 (q' := a) (ci := 2) (av := []) (rest := [.ref s]) rfl rfl ⟨Nat.le_of_ble_eq_true rfl, Nat.le_of_ble_eq_true rfl⟩ rfl rfl hj.1 r1 ?_
  refine Er_inv1 (q' := s) (ci := 3) (av := [.int (Int32.ofNat f)]) (rest := []) rfl rfl ⟨Nat.le_of_ble_eq_true rfl, Nat.le_of_ble_eq_true rfl⟩ rfl rfl hp.1 (s_Store_file hp hf) ?_
  refine Er_inv1 (q' := s + 4 + 3 * f) (ci := 0) (av := []) (rest := []) rfl rfl ⟨Nat.le_of_ble_eq_true rfl, Nat.le_of_ble_eq_true rfl⟩ rfl rfl hl.1.1 (s_Pairs_length hl) ?_
  refine Er_run 4 (pc' := bif decide ((Int32.ofNat l.length) ≤ (Int32.ofNat i)) then 21 else 17) (ls' := [some (.ref s), some (.ref a), some (.int (Int32.ofNat i)), some (.int (Int32.ofNat l.length))]) (st' := []) rfl ?_
  refine Er_pc (t := 17) (show (bif decide ((Int32.ofNat l.length) ≤ (Int32.ofNat i)) then 21 else 17) = 17 from by rw [show (decide ((Int32.ofNat l.length) ≤ (Int32.ofNat i))) = false from by rw [jx_le (by omega) (by omega)]; exact decide_eq_false (by omega)]; rfl) ?_
  refine Er_run 2 (pc' := 24) (ls' := [some (.ref s), some (.ref a), some (.int (Int32.ofNat i)), some (.int (Int32.ofNat l.length))]) (st' := [.int (Int32.ofNat i)]) rfl ?_
  exact Er_fin rfl rfl ⟨rfl, rfl⟩
theorem s_Store_inputPlace2 (hp : isS h s) (hj : isJ h a) (h1 : gI h a 2 = Int32.ofNat f) (hf : f < 16) (hl : PL h (s + 4 + 3 * f) 300 l) (hi : l.length ≤ i) (hb : i < 2147483648) : Run 47 [.ref s, .ref a, .int (Int32.ofNat i)] h (.inl (some (.int (Int32.ofNat (i - l.length))))) h := by
  have b1 := hl.2.2.1
  refine ⟨Nat.le_of_ble_eq_true rfl, ?_⟩
  show Ev 47 0 [some (.ref s), some (.ref a), some (.int (Int32.ofNat i)), none] [] h _
  refine Er_run 2 (pc' := 2) (ls' := [some (.ref s), some (.ref a), some (.int (Int32.ofNat i)), none]) (st' := [.ref a, .ref s]) rfl ?_
  have r1 := s_Job_first hj
  rw [h1] at r1
  refine Er_inv1 (q' := a) (ci := 2) (av := []) (rest := [.ref s]) rfl rfl ⟨Nat.le_of_ble_eq_true rfl, Nat.le_of_ble_eq_true rfl⟩ rfl rfl hj.1 r1 ?_
  refine Er_inv1 (q' := s) (ci := 3) (av := [.int (Int32.ofNat f)]) (rest := []) rfl rfl ⟨Nat.le_of_ble_eq_true rfl, Nat.le_of_ble_eq_true rfl⟩ rfl rfl hp.1 (s_Store_file hp hf) ?_
  refine Er_inv1 (q' := s + 4 + 3 * f) (ci := 0) (av := []) (rest := []) rfl rfl ⟨Nat.le_of_ble_eq_true rfl, Nat.le_of_ble_eq_true rfl⟩ rfl rfl hl.1.1 (s_Pairs_length hl) ?_
  refine Er_run 4 (pc' := bif decide ((Int32.ofNat l.length) ≤ (Int32.ofNat i)) then 21 else 17) (ls' := [some (.ref s), some (.ref a), some (.int (Int32.ofNat i)), some (.int (Int32.ofNat l.length))]) (st' := []) rfl ?_
  refine Er_pc (t := 21) (show (bif decide ((Int32.ofNat l.length) ≤ (Int32.ofNat i)) then 21 else 17) = 21 from by rw [show (decide ((Int32.ofNat l.length) ≤ (Int32.ofNat i))) = true from by rw [jx_le (by omega) (by omega)]; exact decide_eq_true (by omega)]; rfl) ?_
  refine Er_run 3 (pc' := 24) (ls' := [some (.ref s), some (.ref a), some (.int (Int32.ofNat i)), some (.int (Int32.ofNat l.length))]) (st' := [.int ((Int32.ofNat i) - (Int32.ofNat l.length))]) rfl ?_
  exact Er_fin rfl rfl ⟨by rw [jx_sub hi], rfl⟩
end INPUTS
