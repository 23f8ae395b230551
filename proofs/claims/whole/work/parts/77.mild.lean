section MILD
variable {h : sm_H} {cl : List Nat} {G : Nat → Nat → Int32} {PR : Nat → Nat → List (Int32 × Int64)} {F : Nat → Jl} {D : List (Int32 × Int64)} {x a b c d : Int32} {j fa fb fo np : Nat}
/-- a JOB as job makes it -/
def jb_mk (a b c d : Int32) : Nat → Int32 := fun i => if i = 1 then 1 else if i = 2 then a else if i = 3 then b else if i = 4 then c else d
theorem ST_make (hj : j < 8) (hs : ST h 1 cl G PR F) : ST (setI (setI (setI (setI (setI h (1 + 52 + 11 * j) 1 1) (1 + 52 + 11 * j) 2 a) (1 + 52 + 11 * j) 3 b) (1 + 52 + 11 * j) 4 c) (1 + 52 + 11 * j) 5 d) 1 cl (jx_up G j (jb_mk a b c d)) PR F ∧ Fr (1 + 52 + 11 * j) (1 + 52 + 11 * j + 1) h (setI (setI (setI (setI (setI h (1 + 52 + 11 * j) 1 1) (1 + 52 + 11 * j) 2 a) (1 + 52 + 11 * j) 3 b) (1 + 52 + 11 * j) 4 c) (1 + 52 + 11 * j) 5 d) := by
  have z : Fr (1 + 52 + 11 * j) (1 + 52 + 11 * j + 1) h (setI (setI (setI (setI (setI h (1 + 52 + 11 * j) 1 1) (1 + 52 + 11 * j) 2 a) (1 + 52 + 11 * j) 3 b) (1 + 52 + 11 * j) 4 c) (1 + 52 + 11 * j) 5 d) := ((((Fr.setI (by omega) (by omega)).trans (Fr.setI (by omega) (by omega))).trans (Fr.setI (by omega) (by omega))).trans (Fr.setI (by omega) (by omega))).trans (Fr.setI (by omega) (by omega))
  have g0 : ∀ (h : sm_H) (q i : Nat) (x : Int32), gR (setI h q i x) = gR h := fun _ _ _ _ => rfl
  refine ⟨ST_job hj z (by rw [g0, g0, g0, g0, g0]) (Or.inr rfl) (fun i h1 h2 => ?_) hs, z⟩
  have hi : i = 1 ∨ i = 2 ∨ i = 3 ∨ i = 4 ∨ i = 5 := by omega
  rcases hi with rfl | rfl | rfl | rfl | rfl
  · rw [gI_ne (by omega), gI_ne (by omega), gI_ne (by omega), gI_ne (by omega), gI_eq]; rfl
  · rw [gI_ne (by omega), gI_ne (by omega), gI_ne (by omega), gI_eq]; rfl
  · rw [gI_ne (by omega), gI_ne (by omega), gI_eq]; rfl
  · rw [gI_ne (by omega), gI_eq]; rfl
  · rw [gI_eq]; rfl

theorem s_Mill_job_a (hj : j < 8) (hf : jn_out a 16) : Run 139 [.ref 0, .int (Int32.ofNat j), .int a, .int b, .int c, .int d] h (.inr 1) (hjunk h) := by
  refine ⟨Nat.le_of_ble_eq_true rfl, ?_⟩
  show Ev 139 0 [some (.ref 0), some (.int (Int32.ofNat j)), some (.int a), some (.int b), some (.int c), some (.int d), none] [] h _
  refine Er_run 1 (pc' := 1) (ls' := [some (.ref 0), some (.int (Int32.ofNat j)), some (.int a), some (.int b), some (.int c), some (.int d), none]) (st' := [.int (Int32.ofNat j)]) rfl ?_
  refine Er_sta0 (av := [.int (Int32.ofNat j)]) (rest := []) rfl rfl ⟨Nat.le_of_ble_eq_true rfl, Nat.le_of_ble_eq_true rfl⟩ rfl rfl (s_Mill_needJobNumber1 hj) ?_
  refine Er_run 1 (pc' := 5) (ls' := [some (.ref 0), some (.int (Int32.ofNat j)), some (.int a), some (.int b), some (.int c), some (.int d), none]) (st' := [.int a]) rfl ?_
  refine Er_sta1 (av := [.int a]) (rest := []) rfl rfl ⟨Nat.le_of_ble_eq_true rfl, Nat.le_of_ble_eq_true rfl⟩ rfl rfl (s_Mill_isFile0 hf) ?_
  refine Er_run 1 (pc' := bif decide (((0 : Int32)) = 0) then 31 else 11) (ls' := [some (.ref 0), some (.int (Int32.ofNat j)), some (.int a), some (.int b), some (.int c), some (.int d), none]) (st' := []) rfl ?_
  refine Er_pc (t := 31) (show (bif decide (((0 : Int32)) = 0) then 31 else 11) = 31 from by rw [show (decide (((0 : Int32)) = 0)) = true from by decide]; rfl) ?_
  exact Er_fin rfl rfl ⟨rfl, rfl⟩
theorem s_Mill_job_o (hj : j < 8) (ea : a = Int32.ofNat fa) (hfa : fa < 16) (hf : jn_out c 16) : Run 139 [.ref 0, .int (Int32.ofNat j), .int a, .int b, .int c, .int d] h (.inr 1) (hjunk h) := by
  refine ⟨Nat.le_of_ble_eq_true rfl, ?_⟩
  show Ev 139 0 [some (.ref 0), some (.int (Int32.ofNat j)), some (.int a), some (.int b), some (.int c), some (.int d), none] [] h _
  refine Er_run 1 (pc' := 1) (ls' := [some (.ref 0), some (.int (Int32.ofNat j)), some (.int a), some (.int b), some (.int c), some (.int d), none]) (st' := [.int (Int32.ofNat j)]) rfl ?_
  refine Er_sta0 (av := [.int (Int32.ofNat j)]) (rest := []) rfl rfl ⟨Nat.le_of_ble_eq_true rfl, Nat.le_of_ble_eq_true rfl⟩ rfl rfl (s_Mill_needJobNumber1 hj) ?_
  refine Er_run 1 (pc' := 5) (ls' := [some (.ref 0), some (.int (Int32.ofNat j)), some (.int a), some (.int b), some (.int c), some (.int d), none]) (st' := [.int a]) rfl ?_
  refine Er_sta1 (av := [.int a]) (rest := []) rfl rfl ⟨Nat.le_of_ble_eq_true rfl, Nat.le_of_ble_eq_true rfl⟩ rfl rfl (by rw [ea]; exact s_Mill_isFile1 hfa) ?_
  refine Er_run 1 (pc' := bif decide (((1 : Int32)) = 0) then 31 else 11) (ls' := [some (.ref 0), some (.int (Int32.ofNat j)), some (.int a), some (.int b), some (.int c), some (.int d), none]) (st' := []) rfl ?_
  refine Er_pc (t := 11) (show (bif decide (((1 : Int32)) = 0) then 31 else 11) = 11 from by rw [show (decide (((1 : Int32)) = 0)) = false from by decide]; rfl) ?_
  refine Er_run 1 (pc' := 13) (ls' := [some (.ref 0), some (.int (Int32.ofNat j)), some (.int a), some (.int b), some (.int c), some (.int d), none]) (st' := [.int c]) rfl ?_
  refine Er_sta1 (av := [.int c]) (rest := []) rfl rfl ⟨Nat.le_of_ble_eq_true rfl, Nat.le_of_ble_eq_true rfl⟩ rfl rfl (s_Mill_isFile0 hf) ?_
  refine Er_run 1 (pc' := bif decide (((0 : Int32)) = 0) then 31 else 19) (ls' := [some (.ref 0), some (.int (Int32.ofNat j)), some (.int a), some (.int b), some (.int c), some (.int d), none]) (st' := []) rfl ?_
  refine Er_pc (t := 31) (show (bif decide (((0 : Int32)) = 0) then 31 else 19) = 31 from by rw [show (decide (((0 : Int32)) = 0)) = true from by decide]; rfl) ?_
  exact Er_fin rfl rfl ⟨rfl, rfl⟩
theorem s_Mill_job_b (hj : j < 8) (ea : a = Int32.ofNat fa) (hfa : fa < 16) (ec : c = Int32.ofNat fo) (hfo : fo < 16) (hb1 : ¬ b = -1) (hf : jn_out b 16) : Run 139 [.ref 0, .int (Int32.ofNat j), .int a, .int b, .int c, .int d] h (.inr 1) (hjunk h) := by
  refine ⟨Nat.le_of_ble_eq_true rfl, ?_⟩
  show Ev 139 0 [some (.ref 0), some (.int (Int32.ofNat j)), some (.int a), some (.int b), some (.int c), some (.int d), none] [] h _
  refine Er_run 1 (pc' := 1) (ls' := [some (.ref 0), some (.int (Int32.ofNat j)), some (.int a), some (.int b), some (.int c), some (.int d), none]) (st' := [.int (Int32.ofNat j)]) rfl ?_
  refine Er_sta0 (av := [.int (Int32.ofNat j)]) (rest := []) rfl rfl ⟨Nat.le_of_ble_eq_true rfl, Nat.le_of_ble_eq_true rfl⟩ rfl rfl (s_Mill_needJobNumber1 hj) ?_
  refine Er_run 1 (pc' := 5) (ls' := [some (.ref 0), some (.int (Int32.ofNat j)), some (.int a), some (.int b), some (.int c), some (.int d), none]) (st' := [.int a]) rfl ?_
  refine Er_sta1 (av := [.int a]) (rest := []) rfl rfl ⟨Nat.le_of_ble_eq_true rfl, Nat.le_of_ble_eq_true rfl⟩ rfl rfl (by rw [ea]; exact s_Mill_isFile1 hfa) ?_
  refine Er_run 1 (pc' := bif decide (((1 : Int32)) = 0) then 31 else 11) (ls' := [some (.ref 0), some (.int (Int32.ofNat j)), some (.int a), some (.int b), some (.int c), some (.int d), none]) (st' := []) rfl ?_
  refine Er_pc (t := 11) (show (bif decide (((1 : Int32)) = 0) then 31 else 11) = 11 from by rw [show (decide (((1 : Int32)) = 0)) = false from by decide]; rfl) ?_
  refine Er_run 1 (pc' := 13) (ls' := [some (.ref 0), some (.int (Int32.ofNat j)), some (.int a), some (.int b), some (.int c), some (.int d), none]) (st' := [.int c]) rfl ?_
  refine Er_sta1 (av := [.int c]) (rest := []) rfl rfl ⟨Nat.le_of_ble_eq_true rfl, Nat.le_of_ble_eq_true rfl⟩ rfl rfl (by rw [ec]; exact s_Mill_isFile1 hfo) ?_
  refine Er_run 1 (pc' := bif decide (((1 : Int32)) = 0) then 31 else 19) (ls' := [some (.ref 0), some (.int (Int32.ofNat j)), some (.int a), some (.int b), some (.int c), some (.int d), none]) (st' := []) rfl ?_
  refine Er_pc (t := 19) (show (bif decide (((1 : Int32)) = 0) then 31 else 19) = 19 from by rw [show (decide (((1 : Int32)) = 0)) = false from by decide]; rfl) ?_
  refine Er_run 3 (pc' := bif decide (b = ((-1 : Int32))) then 41 else 24) (ls' := [some (.ref 0), some (.int (Int32.ofNat j)), some (.int a), some (.int b), some (.int c), some (.int d), none]) (st' := []) rfl ?_
  refine Er_pc (t := 24) (show (bif decide (b = ((-1 : Int32))) then 41 else 24) = 24 from by rw [show (decide (b = ((-1 : Int32)))) = false from decide_eq_false hb1]; rfl) ?_
  refine Er_run 1 (pc' := 25) (ls' := [some (.ref 0), some (.int (Int32.ofNat j)), some (.int a), some (.int b), some (.int c), some (.int d), none]) (st' := [.int b]) rfl ?_
  refine Er_sta1 (av := [.int b]) (rest := []) rfl rfl ⟨Nat.le_of_ble_eq_true rfl, Nat.le_of_ble_eq_true rfl⟩ rfl rfl (s_Mill_isFile0 hf) ?_
  refine Er_run 1 (pc' := bif !decide (((0 : Int32)) = 0) then 41 else 31) (ls' := [some (.ref 0), some (.int (Int32.ofNat j)), some (.int a), some (.int b), some (.int c), some (.int d), none]) (st' := []) rfl ?_
  refine Er_pc (t := 31) (show (bif !decide (((0 : Int32)) = 0) then 41 else 31) = 31 from by rw [show (!decide (((0 : Int32)) = 0)) = false from by decide]; rfl) ?_
  exact Er_fin rfl rfl ⟨rfl, rfl⟩
theorem s_Mill_job_p (hj : j < 8) (ea : a = Int32.ofNat fa) (hfa : fa < 16) (ec : c = Int32.ofNat fo) (hfo : fo < 16) (hb : b = -1 ∨ ∃ k, k < 16 ∧ b = Int32.ofNat k) (hf : d.toInt < 1 ∨ 6 < d.toInt) : Run 139 [.ref 0, .int (Int32.ofNat j), .int a, .int b, .int c, .int d] h (.inr 1) (hjunk h) := by
  have h1 : ¬ d < 1 → (6 : Int) < d.toInt := by
    intro h0
    rw [Int32.lt_iff_toInt_lt] at h0
    have h0' : ¬ d.toInt < 1 := h0
    omega
  refine ⟨Nat.le_of_ble_eq_true rfl, ?_⟩
  rcases hb with hb | ⟨fb, hfb, eb⟩
  · skip
    by_cases h0 : d < 1
    · skip
      show Ev 139 0 [some (.ref 0), some (.int (Int32.ofNat j)), some (.int a), some (.int b), some (.int c), some (.int d), none] [] h _
      refine Er_run 1 (pc' := 1) (ls' := [some (.ref 0), some (.int (Int32.ofNat j)), some (.int a), some (.int b), some (.int c), some (.int d), none]) (st' := [.int (Int32.ofNat j)]) rfl ?_
      refine Er_sta0 (av := [.int (Int32.ofNat j)]) (rest := []) rfl rfl ⟨Nat.le_of_ble_eq_true rfl, Nat.le_of_ble_eq_true rfl⟩ rfl rfl (s_Mill_needJobNumber1 hj) ?_
      refine Er_run 1 (pc' := 5) (ls' := [some (.ref 0), some (.int (Int32.ofNat j)), some (.int a), some (.int b), some (.int c), some (.int d), none]) (st' := [.int a]) rfl ?_
      refine Er_sta1 (av := [.int a]) (rest := []) rfl rfl ⟨Nat.le_of_ble_eq_true rfl, Nat.le_of_ble_eq_true rfl⟩ rfl rfl (by rw [ea]; exact s_Mill_isFile1 hfa) ?_
      refine Er_run 1 (pc' := bif decide (((1 : Int32)) = 0) then 31 else 11) (ls' := [some (.ref 0), some (.int (Int32.ofNat j)), some (.int a), some (.int b), some (.int c), some (.int d), none]) (st' := []) rfl ?_
      refine Er_pc (t := 11) (show (bif decide (((1 : Int32)) = 0) then 31 else 11) = 11 from by rw [show (decide (((1 : Int32)) = 0)) = false from by decide]; rfl) ?_
      refine Er_run 1 (pc' := 13) (ls' := [some (.ref 0), some (.int (Int32.ofNat j)), some (.int a), some (.int b), some (.int c), some (.int d), none]) (st' := [.int c]) rfl ?_
      refine Er_sta1 (av := [.int c]) (rest := []) rfl rfl ⟨Nat.le_of_ble_eq_true rfl, Nat.le_of_ble_eq_true rfl⟩ rfl rfl (by rw [ec]; exact s_Mill_isFile1 hfo) ?_
      refine Er_run 1 (pc' := bif decide (((1 : Int32)) = 0) then 31 else 19) (ls' := [some (.ref 0), some (.int (Int32.ofNat j)), some (.int a), some (.int b), some (.int c), some (.int d), none]) (st' := []) rfl ?_
      refine Er_pc (t := 19) (show (bif decide (((1 : Int32)) = 0) then 31 else 19) = 19 from by rw [show (decide (((1 : Int32)) = 0)) = false from by decide]; rfl) ?_
      refine Er_run 3 (pc' := bif decide (b = ((-1 : Int32))) then 41 else 24) (ls' := [some (.ref 0), some (.int (Int32.ofNat j)), some (.int a), some (.int b), some (.int c), some (.int d), none]) (st' := []) rfl ?_
      refine Er_pc (t := 41) (show (bif decide (b = ((-1 : Int32))) then 41 else 24) = 41 from by rw [show (decide (b = ((-1 : Int32)))) = true from by rw [hb]; decide]; rfl) ?_
      refine Er_run 3 (pc' := bif decide (d < ((1 : Int32))) then 54 else 47) (ls' := [some (.ref 0), some (.int (Int32.ofNat j)), some (.int a), some (.int b), some (.int c), some (.int d), none]) (st' := []) rfl ?_
      refine Er_pc (t := 54) (show (bif decide (d < ((1 : Int32))) then 54 else 47) = 54 from by rw [show (decide (d < ((1 : Int32)))) = true from decide_eq_true h0]; rfl) ?_
      exact Er_fin rfl rfl ⟨rfl, rfl⟩
    · have h2 := h1 h0
      show Ev 139 0 [some (.ref 0), some (.int (Int32.ofNat j)), some (.int a), some (.int b), some (.int c), some (.int d), none] [] h _
      refine Er_run 1 (pc' := 1) (ls' := [some (.ref 0), some (.int (Int32.ofNat j)), some (.int a), some (.int b), some (.int c), some (.int d), none]) (st' := [.int (Int32.ofNat j)]) rfl ?_
      refine Er_sta0 (av := [.int (Int32.ofNat j)]) (rest := []) rfl rfl ⟨Nat.le_of_ble_eq_true rfl, Nat.le_of_ble_eq_true rfl⟩ rfl rfl (s_Mill_needJobNumber1 hj) ?_
      refine Er_run 1 (pc' := 5) (ls' := [some (.ref 0), some (.int (Int32.ofNat j)), some (.int a), some (.int b), some (.int c), some (.int d), none]) (st' := [.int a]) rfl ?_
      refine Er_sta1 (av := [.int a]) (rest := []) rfl rfl ⟨Nat.le_of_ble_eq_true rfl, Nat.le_of_ble_eq_true rfl⟩ rfl rfl (by rw [ea]; exact s_Mill_isFile1 hfa) ?_
      refine Er_run 1 (pc' := bif decide (((1 : Int32)) = 0) then 31 else 11) (ls' := [some (.ref 0), some (.int (Int32.ofNat j)), some (.int a), some (.int b), some (.int c), some (.int d), none]) (st' := []) rfl ?_
      refine Er_pc (t := 11) (show (bif decide (((1 : Int32)) = 0) then 31 else 11) = 11 from by rw [show (decide (((1 : Int32)) = 0)) = false from by decide]; rfl) ?_
      refine Er_run 1 (pc' := 13) (ls' := [some (.ref 0), some (.int (Int32.ofNat j)), some (.int a), some (.int b), some (.int c), some (.int d), none]) (st' := [.int c]) rfl ?_
      refine Er_sta1 (av := [.int c]) (rest := []) rfl rfl ⟨Nat.le_of_ble_eq_true rfl, Nat.le_of_ble_eq_true rfl⟩ rfl rfl (by rw [ec]; exact s_Mill_isFile1 hfo) ?_
      refine Er_run 1 (pc' := bif decide (((1 : Int32)) = 0) then 31 else 19) (ls' := [some (.ref 0), some (.int (Int32.ofNat j)), some (.int a), some (.int b), some (.int c), some (.int d), none]) (st' := []) rfl ?_
      refine Er_pc (t := 19) (show (bif decide (((1 : Int32)) = 0) then 31 else 19) = 19 from by rw [show (decide (((1 : Int32)) = 0)) = false from by decide]; rfl) ?_
      refine Er_run 3 (pc' := bif decide (b = ((-1 : Int32))) then 41 else 24) (ls' := [some (.ref 0), some (.int (Int32.ofNat j)), some (.int a), some (.int b), some (.int c), some (.int d), none]) (st' := []) rfl ?_
      refine Er_pc (t := 41) (show (bif decide (b = ((-1 : Int32))) then 41 else 24) = 41 from by rw [show (decide (b = ((-1 : Int32)))) = true from by rw [hb]; decide]; rfl) ?_
      refine Er_run 3 (pc' := bif decide (d < ((1 : Int32))) then 54 else 47) (ls' := [some (.ref 0), some (.int (Int32.ofNat j)), some (.int a), some (.int b), some (.int c), some (.int d), none]) (st' := []) rfl ?_
      refine Er_pc (t := 47) (show (bif decide (d < ((1 : Int32))) then 54 else 47) = 47 from by rw [show (decide (d < ((1 : Int32)))) = false from decide_eq_false h0]; rfl) ?_
      refine Er_run 3 (pc' := bif decide (d ≤ ((6 : Int32))) then 64 else 54) (ls' := [some (.ref 0), some (.int (Int32.ofNat j)), some (.int a), some (.int b), some (.int c), some (.int d), none]) (st' := []) rfl ?_
      refine Er_pc (t := 54) (show (bif decide (d ≤ ((6 : Int32))) then 64 else 54) = 54 from by rw [show (decide (d ≤ ((6 : Int32)))) = false from decide_eq_false (by rw [Int32.le_iff_toInt_le]; show ¬ d.toInt ≤ (6 : Int); omega)]; rfl) ?_
      exact Er_fin rfl rfl ⟨rfl, rfl⟩
  · have hb1 : ¬ b = -1 := by rw [eb]; exact jx_m1 (by omega)
    by_cases h0 : d < 1
    · skip
      show Ev 139 0 [some (.ref 0), some (.int (Int32.ofNat j)), some (.int a), some (.int b), some (.int c), some (.int d), none] [] h _
      refine Er_run 1 (pc' := 1) (ls' := [some (.ref 0), some (.int (Int32.ofNat j)), some (.int a), some (.int b), some (.int c), some (.int d), none]) (st' := [.int (Int32.ofNat j)]) rfl ?_
      refine Er_sta0 (av := [.int (Int32.ofNat j)]) (rest := []) rfl rfl ⟨Nat.le_of_ble_eq_true rfl, Nat.le_of_ble_eq_true rfl⟩ rfl rfl (s_Mill_needJobNumber1 hj) ?_
      refine Er_run 1 (pc' := 5) (ls' := [some (.ref 0), some (.int (Int32.ofNat j)), some (.int a), some (.int b), some (.int c), some (.int d), none]) (st' := [.int a]) rfl ?_
      refine Er_sta1 (av := [.int a]) (rest := []) rfl rfl ⟨Nat.le_of_ble_eq_true rfl, Nat.le_of_ble_eq_true rfl⟩ rfl rfl (by rw [ea]; exact s_Mill_isFile1 hfa) ?_
      refine Er_run 1 (pc' := bif decide (((1 : Int32)) = 0) then 31 else 11) (ls' := [some (.ref 0), some (.int (Int32.ofNat j)), some (.int a), some (.int b), some (.int c), some (.int d), none]) (st' := []) rfl ?_
      refine Er_pc (t := 11) (show (bif decide (((1 : Int32)) = 0) then 31 else 11) = 11 from by rw [show (decide (((1 : Int32)) = 0)) = false from by decide]; rfl) ?_
      refine Er_run 1 (pc' := 13) (ls' := [some (.ref 0), some (.int (Int32.ofNat j)), some (.int a), some (.int b), some (.int c), some (.int d), none]) (st' := [.int c]) rfl ?_
      refine Er_sta1 (av := [.int c]) (rest := []) rfl rfl ⟨Nat.le_of_ble_eq_true rfl, Nat.le_of_ble_eq_true rfl⟩ rfl rfl (by rw [ec]; exact s_Mill_isFile1 hfo) ?_
      refine Er_run 1 (pc' := bif decide (((1 : Int32)) = 0) then 31 else 19) (ls' := [some (.ref 0), some (.int (Int32.ofNat j)), some (.int a), some (.int b), some (.int c), some (.int d), none]) (st' := []) rfl ?_
      refine Er_pc (t := 19) (show (bif decide (((1 : Int32)) = 0) then 31 else 19) = 19 from by rw [show (decide (((1 : Int32)) = 0)) = false from by decide]; rfl) ?_
      refine Er_run 3 (pc' := bif decide (b = ((-1 : Int32))) then 41 else 24) (ls' := [some (.ref 0), some (.int (Int32.ofNat j)), some (.int a), some (.int b), some (.int c), some (.int d), none]) (st' := []) rfl ?_
      refine Er_pc (t := 24) (show (bif decide (b = ((-1 : Int32))) then 41 else 24) = 24 from by rw [show (decide (b = ((-1 : Int32)))) = false from decide_eq_false hb1]; rfl) ?_
      refine Er_run 1 (pc' := 25) (ls' := [some (.ref 0), some (.int (Int32.ofNat j)), some (.int a), some (.int b), some (.int c), some (.int d), none]) (st' := [.int b]) rfl ?_
      refine Er_sta1 (av := [.int b]) (rest := []) rfl rfl ⟨Nat.le_of_ble_eq_true rfl, Nat.le_of_ble_eq_true rfl⟩ rfl rfl (by rw [eb]; exact s_Mill_isFile1 hfb) ?_
      refine Er_run 1 (pc' := bif !decide (((1 : Int32)) = 0) then 41 else 31) (ls' := [some (.ref 0), some (.int (Int32.ofNat j)), some (.int a), some (.int b), some (.int c), some (.int d), none]) (st' := []) rfl ?_
      refine Er_pc (t := 41) (show (bif !decide (((1 : Int32)) = 0) then 41 else 31) = 41 from by rw [show (!decide (((1 : Int32)) = 0)) = true from by decide]; rfl) ?_
      refine Er_run 3 (pc' := bif decide (d < ((1 : Int32))) then 54 else 47) (ls' := [some (.ref 0), some (.int (Int32.ofNat j)), some (.int a), some (.int b), some (.int c), some (.int d), none]) (st' := []) rfl ?_
      refine Er_pc (t := 54) (show (bif decide (d < ((1 : Int32))) then 54 else 47) = 54 from by rw [show (decide (d < ((1 : Int32)))) = true from decide_eq_true h0]; rfl) ?_
      exact Er_fin rfl rfl ⟨rfl, rfl⟩
    · have h2 := h1 h0
      show Ev 139 0 [some (.ref 0), some (.int (Int32.ofNat j)), some (.int a), some (.int b), some (.int c), some (.int d), none] [] h _
      refine Er_run 1 (pc' := 1) (ls' := [some (.ref 0), some (.int (Int32.ofNat j)), some (.int a), some (.int b), some (.int c), some (.int d), none]) (st' := [.int (Int32.ofNat j)]) rfl ?_
      refine Er_sta0 (av := [.int (Int32.ofNat j)]) (rest := []) rfl rfl ⟨Nat.le_of_ble_eq_true rfl, Nat.le_of_ble_eq_true rfl⟩ rfl rfl (s_Mill_needJobNumber1 hj) ?_
      refine Er_run 1 (pc' := 5) (ls' := [some (.ref 0), some (.int (Int32.ofNat j)), some (.int a), some (.int b), some (.int c), some (.int d), none]) (st' := [.int a]) rfl ?_
      refine Er_sta1 (av := [.int a]) (rest := []) rfl rfl ⟨Nat.le_of_ble_eq_true rfl, Nat.le_of_ble_eq_true rfl⟩ rfl rfl (by rw [ea]; exact s_Mill_isFile1 hfa) ?_
      refine Er_run 1 (pc' := bif decide (((1 : Int32)) = 0) then 31 else 11) (ls' := [some (.ref 0), some (.int (Int32.ofNat j)), some (.int a), some (.int b), some (.int c), some (.int d), none]) (st' := []) rfl ?_
      refine Er_pc (t := 11) (show (bif decide (((1 : Int32)) = 0) then 31 else 11) = 11 from by rw [show (decide (((1 : Int32)) = 0)) = false from by decide]; rfl) ?_
      refine Er_run 1 (pc' := 13) (ls' := [some (.ref 0), some (.int (Int32.ofNat j)), some (.int a), some (.int b), some (.int c), some (.int d), none]) (st' := [.int c]) rfl ?_
      refine Er_sta1 (av := [.int c]) (rest := []) rfl rfl ⟨Nat.le_of_ble_eq_true rfl, Nat.le_of_ble_eq_true rfl⟩ rfl rfl (by rw [ec]; exact s_Mill_isFile1 hfo) ?_
      refine Er_run 1 (pc' := bif decide (((1 : Int32)) = 0) then 31 else 19) (ls' := [some (.ref 0), some (.int (Int32.ofNat j)), some (.int a), some (.int b), some (.int c), some (.int d), none]) (st' := []) rfl ?_
      refine Er_pc (t := 19) (show (bif decide (((1 : Int32)) = 0) then 31 else 19) = 19 from by rw [show (decide (((1 : Int32)) = 0)) = false from by decide]; rfl) ?_
      refine Er_run 3 (pc' := bif decide (b = ((-1 : Int32))) then 41 else 24) (ls' := [some (.ref 0), some (.int (Int32.ofNat j)), some (.int a), some (.int b), some (.int c), some (.int d), none]) (st' := []) rfl ?_
      refine Er_pc (t := 24) (show (bif decide (b = ((-1 : Int32))) then 41 else 24) = 24 from by rw [show (decide (b = ((-1 : Int32)))) = false from decide_eq_false hb1]; rfl) ?_
      refine Er_run 1 (pc' := 25) (ls' := [some (.ref 0), some (.int (Int32.ofNat j)), some (.int a), some (.int b), some (.int c), some (.int d), none]) (st' := [.int b]) rfl ?_
      refine Er_sta1 (av := [.int b]) (rest := []) rfl rfl ⟨Nat.le_of_ble_eq_true rfl, Nat.le_of_ble_eq_true rfl⟩ rfl rfl (by rw [eb]; exact s_Mill_isFile1 hfb) ?_
      refine Er_run 1 (pc' := bif !decide (((1 : Int32)) = 0) then 41 else 31) (ls' := [some (.ref 0), some (.int (Int32.ofNat j)), some (.int a), some (.int b), some (.int c), some (.int d), none]) (st' := []) rfl ?_
      refine Er_pc (t := 41) (show (bif !decide (((1 : Int32)) = 0) then 41 else 31) = 41 from by rw [show (!decide (((1 : Int32)) = 0)) = true from by decide]; rfl) ?_
      refine Er_run 3 (pc' := bif decide (d < ((1 : Int32))) then 54 else 47) (ls' := [some (.ref 0), some (.int (Int32.ofNat j)), some (.int a), some (.int b), some (.int c), some (.int d), none]) (st' := []) rfl ?_
      refine Er_pc (t := 47) (show (bif decide (d < ((1 : Int32))) then 54 else 47) = 47 from by rw [show (decide (d < ((1 : Int32)))) = false from decide_eq_false h0]; rfl) ?_
      refine Er_run 3 (pc' := bif decide (d ≤ ((6 : Int32))) then 64 else 54) (ls' := [some (.ref 0), some (.int (Int32.ofNat j)), some (.int a), some (.int b), some (.int c), some (.int d), none]) (st' := []) rfl ?_
      refine Er_pc (t := 54) (show (bif decide (d ≤ ((6 : Int32))) then 64 else 54) = 54 from by rw [show (decide (d ≤ ((6 : Int32)))) = false from decide_eq_false (by rw [Int32.le_iff_toInt_le]; show ¬ d.toInt ≤ (6 : Int); omega)]; rfl) ?_
      exact Er_fin rfl rfl ⟨rfl, rfl⟩
theorem s_Mill_job_r (hj : j < 8) (ea : a = Int32.ofNat fa) (hfa : fa < 16) (ec : c = Int32.ofNat fo) (hfo : fo < 16) (hb : b = -1 ∨ ∃ k, k < 16 ∧ b = Int32.ofNat k) (ed : d = Int32.ofNat np) (hn1 : 1 ≤ np) (hn6 : np ≤ 6) (hx : isX h) (hr : gI h 0 6 = 1) : Run 139 [.ref 0, .int (Int32.ofNat j), .int a, .int b, .int c, .int d] h (.inr 2) (hjunk h) := by
  refine ⟨Nat.le_of_ble_eq_true rfl, ?_⟩
  rcases hb with hb | ⟨fb, hfb, eb⟩
  · skip
    show Ev 139 0 [some (.ref 0), some (.int (Int32.ofNat j)), some (.int a), some (.int b), some (.int c), some (.int d), none] [] h _
    refine Er_run 1 (pc' := 1) (ls' := [some (.ref 0), some (.int (Int32.ofNat j)), some (.int a), some (.int b), some (.int c), some (.int d), none]) (st' := [.int (Int32.ofNat j)]) rfl ?_
    refine Er_sta0 (av := [.int (Int32.ofNat j)]) (rest := []) rfl rfl ⟨Nat.le_of_ble_eq_true rfl, Nat.le_of_ble_eq_true rfl⟩ rfl rfl (s_Mill_needJobNumber1 hj) ?_
    refine Er_run 1 (pc' := 5) (ls' := [some (.ref 0), some (.int (Int32.ofNat j)), some (.int a), some (.int b), some (.int c), some (.int d), none]) (st' := [.int a]) rfl ?_
    refine Er_sta1 (av := [.int a]) (rest := []) rfl rfl ⟨Nat.le_of_ble_eq_true rfl, Nat.le_of_ble_eq_true rfl⟩ rfl rfl (by rw [ea]; exact s_Mill_isFile1 hfa) ?_
    refine Er_run 1 (pc' := bif decide (((1 : Int32)) = 0) then 31 else 11) (ls' := [some (.ref 0), some (.int (Int32.ofNat j)), some (.int a), some (.int b), some (.int c), some (.int d), none]) (st' := []) rfl ?_
    refine Er_pc (t := 11) (show (bif decide (((1 : Int32)) = 0) then 31 else 11) = 11 from by rw [show (decide (((1 : Int32)) = 0)) = false from by decide]; rfl) ?_
    refine Er_run 1 (pc' := 13) (ls' := [some (.ref 0), some (.int (Int32.ofNat j)), some (.int a), some (.int b), some (.int c), some (.int d), none]) (st' := [.int c]) rfl ?_
    refine Er_sta1 (av := [.int c]) (rest := []) rfl rfl ⟨Nat.le_of_ble_eq_true rfl, Nat.le_of_ble_eq_true rfl⟩ rfl rfl (by rw [ec]; exact s_Mill_isFile1 hfo) ?_
    refine Er_run 1 (pc' := bif decide (((1 : Int32)) = 0) then 31 else 19) (ls' := [some (.ref 0), some (.int (Int32.ofNat j)), some (.int a), some (.int b), some (.int c), some (.int d), none]) (st' := []) rfl ?_
    refine Er_pc (t := 19) (show (bif decide (((1 : Int32)) = 0) then 31 else 19) = 19 from by rw [show (decide (((1 : Int32)) = 0)) = false from by decide]; rfl) ?_
    refine Er_run 3 (pc' := bif decide (b = ((-1 : Int32))) then 41 else 24) (ls' := [some (.ref 0), some (.int (Int32.ofNat j)), some (.int a), some (.int b), some (.int c), some (.int d), none]) (st' := []) rfl ?_
    refine Er_pc (t := 41) (show (bif decide (b = ((-1 : Int32))) then 41 else 24) = 41 from by rw [show (decide (b = ((-1 : Int32)))) = true from by rw [hb]; decide]; rfl) ?_
    refine Er_run 3 (pc' := bif decide (d < ((1 : Int32))) then 54 else 47) (ls' := [some (.ref 0), some (.int (Int32.ofNat j)), some (.int a), some (.int b), some (.int c), some (.int d), none]) (st' := []) rfl ?_
    refine Er_pc (t := 47) (show (bif decide (d < ((1 : Int32))) then 54 else 47) = 47 from by rw [show (decide (d < ((1 : Int32)))) = false from by rw [ed, show (1 : Int32) = Int32.ofNat 1 from rfl, jx_lt (by omega) (by omega)]; exact decide_eq_false (by omega)]; rfl) ?_
    refine Er_run 3 (pc' := bif decide (d ≤ ((6 : Int32))) then 64 else 54) (ls' := [some (.ref 0), some (.int (Int32.ofNat j)), some (.int a), some (.int b), some (.int c), some (.int d), none]) (st' := []) rfl ?_
    refine Er_pc (t := 64) (show (bif decide (d ≤ ((6 : Int32))) then 64 else 54) = 64 from by rw [show (decide (d ≤ ((6 : Int32)))) = true from by rw [ed, show (6 : Int32) = Int32.ofNat 6 from rfl, jx_le (by omega) (by omega)]; exact decide_eq_true (by omega)]; rfl) ?_
    refine Er_run 1 (pc' := 65) (ls' := [some (.ref 0), some (.int (Int32.ofNat j)), some (.int a), some (.int b), some (.int c), some (.int d), none]) (st' := [.ref 0]) rfl ?_
    exact Er_invX (q' := 0) (ci := 11) (av := []) rfl rfl ⟨Nat.le_of_ble_eq_true rfl, Nat.le_of_ble_eq_true rfl⟩ rfl hx.1 (s_Mill_needRest0 hx hr) rfl ⟨rfl, rfl⟩
  · have hb1 : ¬ b = -1 := by rw [eb]; exact jx_m1 (by omega)
    show Ev 139 0 [some (.ref 0), some (.int (Int32.ofNat j)), some (.int a), some (.int b), some (.int c), some (.int d), none] [] h _
    refine Er_run 1 (pc' := 1) (ls' := [some (.ref 0), some (.int (Int32.ofNat j)), some (.int a), some (.int b), some (.int c), some (.int d), none]) (st' := [.int (Int32.ofNat j)]) rfl ?_
    refine Er_sta0 (av := [.int (Int32.ofNat j)]) (rest := []) rfl rfl ⟨Nat.le_of_ble_eq_true rfl, Nat.le_of_ble_eq_true rfl⟩ rfl rfl (s_Mill_needJobNumber1 hj) ?_
    refine Er_run 1 (pc' := 5) (ls' := [some (.ref 0), some (.int (Int32.ofNat j)), some (.int a), some (.int b), some (.int c), some (.int d), none]) (st' := [.int a]) rfl ?_
    refine Er_sta1 (av := [.int a]) (rest := []) rfl rfl ⟨Nat.le_of_ble_eq_true rfl, Nat.le_of_ble_eq_true rfl⟩ rfl rfl (by rw [ea]; exact s_Mill_isFile1 hfa) ?_
    refine Er_run 1 (pc' := bif decide (((1 : Int32)) = 0) then 31 else 11) (ls' := [some (.ref 0), some (.int (Int32.ofNat j)), some (.int a), some (.int b), some (.int c), some (.int d), none]) (st' := []) rfl ?_
    refine Er_pc (t := 11) (show (bif decide (((1 : Int32)) = 0) then 31 else 11) = 11 from by rw [show (decide (((1 : Int32)) = 0)) = false from by decide]; rfl) ?_
    refine Er_run 1 (pc' := 13) (ls' := [some (.ref 0), some (.int (Int32.ofNat j)), some (.int a), some (.int b), some (.int c), some (.int d), none]) (st' := [.int c]) rfl ?_
    refine Er_sta1 (av := [.int c]) (rest := []) rfl rfl ⟨Nat.le_of_ble_eq_true rfl, Nat.le_of_ble_eq_true rfl⟩ rfl rfl (by rw [ec]; exact s_Mill_isFile1 hfo) ?_
    refine Er_run 1 (pc' := bif decide (((1 : Int32)) = 0) then 31 else 19) (ls' := [some (.ref 0), some (.int (Int32.ofNat j)), some (.int a), some (.int b), some (.int c), some (.int d), none]) (st' := []) rfl ?_
    refine Er_pc (t := 19) (show (bif decide (((1 : Int32)) = 0) then 31 else 19) = 19 from by rw [show (decide (((1 : Int32)) = 0)) = false from by decide]; rfl) ?_
    refine Er_run 3 (pc' := bif decide (b = ((-1 : Int32))) then 41 else 24) (ls' := [some (.ref 0), some (.int (Int32.ofNat j)), some (.int a), some (.int b), some (.int c), some (.int d), none]) (st' := []) rfl ?_
    refine Er_pc (t := 24) (show (bif decide (b = ((-1 : Int32))) then 41 else 24) = 24 from by rw [show (decide (b = ((-1 : Int32)))) = false from decide_eq_false hb1]; rfl) ?_
    refine Er_run 1 (pc' := 25) (ls' := [some (.ref 0), some (.int (Int32.ofNat j)), some (.int a), some (.int b), some (.int c), some (.int d), none]) (st' := [.int b]) rfl ?_
    refine Er_sta1 (av := [.int b]) (rest := []) rfl rfl ⟨Nat.le_of_ble_eq_true rfl, Nat.le_of_ble_eq_true rfl⟩ rfl rfl (by rw [eb]; exact s_Mill_isFile1 hfb) ?_
    refine Er_run 1 (pc' := bif !decide (((1 : Int32)) = 0) then 41 else 31) (ls' := [some (.ref 0), some (.int (Int32.ofNat j)), some (.int a), some (.int b), some (.int c), some (.int d), none]) (st' := []) rfl ?_
    refine Er_pc (t := 41) (show (bif !decide (((1 : Int32)) = 0) then 41 else 31) = 41 from by rw [show (!decide (((1 : Int32)) = 0)) = true from by decide]; rfl) ?_
    refine Er_run 3 (pc' := bif decide (d < ((1 : Int32))) then 54 else 47) (ls' := [some (.ref 0), some (.int (Int32.ofNat j)), some (.int a), some (.int b), some (.int c), some (.int d), none]) (st' := []) rfl ?_
    refine Er_pc (t := 47) (show (bif decide (d < ((1 : Int32))) then 54 else 47) = 47 from by rw [show (decide (d < ((1 : Int32)))) = false from by rw [ed, show (1 : Int32) = Int32.ofNat 1 from rfl, jx_lt (by omega) (by omega)]; exact decide_eq_false (by omega)]; rfl) ?_
    refine Er_run 3 (pc' := bif decide (d ≤ ((6 : Int32))) then 64 else 54) (ls' := [some (.ref 0), some (.int (Int32.ofNat j)), some (.int a), some (.int b), some (.int c), some (.int d), none]) (st' := []) rfl ?_
    refine Er_pc (t := 64) (show (bif decide (d ≤ ((6 : Int32))) then 64 else 54) = 64 from by rw [show (decide (d ≤ ((6 : Int32)))) = true from by rw [ed, show (6 : Int32) = Int32.ofNat 6 from rfl, jx_le (by omega) (by omega)]; exact decide_eq_true (by omega)]; rfl) ?_
    refine Er_run 1 (pc' := 65) (ls' := [some (.ref 0), some (.int (Int32.ofNat j)), some (.int a), some (.int b), some (.int c), some (.int d), none]) (st' := [.ref 0]) rfl ?_
    exact Er_invX (q' := 0) (ci := 11) (av := []) rfl rfl ⟨Nat.le_of_ble_eq_true rfl, Nat.le_of_ble_eq_true rfl⟩ rfl hx.1 (s_Mill_needRest0 hx hr) rfl ⟨rfl, rfl⟩
theorem s_Mill_job_m (hj : j < 8) (ea : a = Int32.ofNat fa) (hfa : fa < 16) (ec : c = Int32.ofNat fo) (hfo : fo < 16) (hb : b = -1 ∨ ∃ k, k < 16 ∧ b = Int32.ofNat k) (ed : d = Int32.ofNat np) (hn1 : 1 ≤ np) (hn6 : np ≤ 6) (hx : isX h) (hr : gI h 0 6 = 0) (hs : ST h 1 cl G PR F) (h0 : (PR j 0).length = 0) : Run 139 [.ref 0, .int (Int32.ofNat j), .int a, .int b, .int c, .int d] h (.inr 2) (hjunk h) := by
  refine ⟨Nat.le_of_ble_eq_true rfl, ?_⟩
  rcases hb with hb | ⟨fb, hfb, eb⟩
  · skip
    show Ev 139 0 [some (.ref 0), some (.int (Int32.ofNat j)), some (.int a), some (.int b), some (.int c), some (.int d), none] [] h _
    refine Er_run 1 (pc' := 1) (ls' := [some (.ref 0), some (.int (Int32.ofNat j)), some (.int a), some (.int b), some (.int c), some (.int d), none]) (st' := [.int (Int32.ofNat j)]) rfl ?_
    refine Er_sta0 (av := [.int (Int32.ofNat j)]) (rest := []) rfl rfl ⟨Nat.le_of_ble_eq_true rfl, Nat.le_of_ble_eq_true rfl⟩ rfl rfl (s_Mill_needJobNumber1 hj) ?_
    refine Er_run 1 (pc' := 5) (ls' := [some (.ref 0), some (.int (Int32.ofNat j)), some (.int a), some (.int b), some (.int c), some (.int d), none]) (st' := [.int a]) rfl ?_
    refine Er_sta1 (av := [.int a]) (rest := []) rfl rfl ⟨Nat.le_of_ble_eq_true rfl, Nat.le_of_ble_eq_true rfl⟩ rfl rfl (by rw [ea]; exact s_Mill_isFile1 hfa) ?_
    refine Er_run 1 (pc' := bif decide (((1 : Int32)) = 0) then 31 else 11) (ls' := [some (.ref 0), some (.int (Int32.ofNat j)), some (.int a), some (.int b), some (.int c), some (.int d), none]) (st' := []) rfl ?_
    refine Er_pc (t := 11) (show (bif decide (((1 : Int32)) = 0) then 31 else 11) = 11 from by rw [show (decide (((1 : Int32)) = 0)) = false from by decide]; rfl) ?_
    refine Er_run 1 (pc' := 13) (ls' := [some (.ref 0), some (.int (Int32.ofNat j)), some (.int a), some (.int b), some (.int c), some (.int d), none]) (st' := [.int c]) rfl ?_
    refine Er_sta1 (av := [.int c]) (rest := []) rfl rfl ⟨Nat.le_of_ble_eq_true rfl, Nat.le_of_ble_eq_true rfl⟩ rfl rfl (by rw [ec]; exact s_Mill_isFile1 hfo) ?_
    refine Er_run 1 (pc' := bif decide (((1 : Int32)) = 0) then 31 else 19) (ls' := [some (.ref 0), some (.int (Int32.ofNat j)), some (.int a), some (.int b), some (.int c), some (.int d), none]) (st' := []) rfl ?_
    refine Er_pc (t := 19) (show (bif decide (((1 : Int32)) = 0) then 31 else 19) = 19 from by rw [show (decide (((1 : Int32)) = 0)) = false from by decide]; rfl) ?_
    refine Er_run 3 (pc' := bif decide (b = ((-1 : Int32))) then 41 else 24) (ls' := [some (.ref 0), some (.int (Int32.ofNat j)), some (.int a), some (.int b), some (.int c), some (.int d), none]) (st' := []) rfl ?_
    refine Er_pc (t := 41) (show (bif decide (b = ((-1 : Int32))) then 41 else 24) = 41 from by rw [show (decide (b = ((-1 : Int32)))) = true from by rw [hb]; decide]; rfl) ?_
    refine Er_run 3 (pc' := bif decide (d < ((1 : Int32))) then 54 else 47) (ls' := [some (.ref 0), some (.int (Int32.ofNat j)), some (.int a), some (.int b), some (.int c), some (.int d), none]) (st' := []) rfl ?_
    refine Er_pc (t := 47) (show (bif decide (d < ((1 : Int32))) then 54 else 47) = 47 from by rw [show (decide (d < ((1 : Int32)))) = false from by rw [ed, show (1 : Int32) = Int32.ofNat 1 from rfl, jx_lt (by omega) (by omega)]; exact decide_eq_false (by omega)]; rfl) ?_
    refine Er_run 3 (pc' := bif decide (d ≤ ((6 : Int32))) then 64 else 54) (ls' := [some (.ref 0), some (.int (Int32.ofNat j)), some (.int a), some (.int b), some (.int c), some (.int d), none]) (st' := []) rfl ?_
    refine Er_pc (t := 64) (show (bif decide (d ≤ ((6 : Int32))) then 64 else 54) = 64 from by rw [show (decide (d ≤ ((6 : Int32)))) = true from by rw [ed, show (6 : Int32) = Int32.ofNat 6 from rfl, jx_le (by omega) (by omega)]; exact decide_eq_true (by omega)]; rfl) ?_
    refine Er_run 1 (pc' := 65) (ls' := [some (.ref 0), some (.int (Int32.ofNat j)), some (.int a), some (.int b), some (.int c), some (.int d), none]) (st' := [.ref 0]) rfl ?_
    refine Er_inv0 (q' := 0) (ci := 11) (av := []) (rest := []) rfl rfl ⟨Nat.le_of_ble_eq_true rfl, Nat.le_of_ble_eq_true rfl⟩ rfl rfl hx.1 (s_Mill_needRest1 hx hr) ?_
    refine Er_run 1 (pc' := 69) (ls' := [some (.ref 0), some (.int (Int32.ofNat j)), some (.int a), some (.int b), some (.int c), some (.int d), none]) (st' := [.ref 0]) rfl ?_
    refine Er_getR (x := 1) rfl hx.1 hx.2.1 ?_
    refine Er_run 1 (pc' := 73) (ls' := [some (.ref 0), some (.int (Int32.ofNat j)), some (.int a), some (.int b), some (.int c), some (.int d), none]) (st' := [.int (Int32.ofNat j), .ref 1]) rfl ?_
    refine Er_inv1 (q' := 1) (ci := 3) (av := [.int (Int32.ofNat j)]) (rest := []) rfl rfl ⟨Nat.le_of_ble_eq_true rfl, Nat.le_of_ble_eq_true rfl⟩ rfl rfl hs.1.1 (s_Store_jobNumbered hs.1 hj) ?_
    refine Er_run 3 (pc' := 81) (ls' := [some (.ref 0), some (.int (Int32.ofNat j)), some (.int a), some (.int b), some (.int c), some (.int d), some (.ref (1 + 52 + 11 * j))]) (st' := [.int ((0 : Int32)), .ref (1 + 52 + 11 * j)]) rfl ?_
    refine Er_inv1 (q' := 1 + 52 + 11 * j) (ci := 2) (av := [.int ((0 : Int32))]) (rest := []) rfl rfl ⟨Nat.le_of_ble_eq_true rfl, Nat.le_of_ble_eq_true rfl⟩ rfl rfl (hs.2.2.2 j hj).1.1 (s_Job_programFor0 (hs.2.2.2 j hj).1) ?_
    refine Er_inv1 (q' := 1 + 52 + 11 * j + 2) (ci := 1) (av := []) (rest := []) rfl rfl ⟨Nat.le_of_ble_eq_true rfl, Nat.le_of_ble_eq_true rfl⟩ rfl rfl (hs.2.2.2 j hj).2.2.1.1.1 (s_Program_length (hs.2.2.2 j hj).2.2.1) ?_
    refine Er_run 1 (pc' := bif decide ((Int32.ofNat (PR j 0).length) = 0) then 102 else 90) (ls' := [some (.ref 0), some (.int (Int32.ofNat j)), some (.int a), some (.int b), some (.int c), some (.int d), some (.ref (1 + 52 + 11 * j))]) (st' := []) rfl ?_
    refine Er_pc (t := 102) (show (bif decide ((Int32.ofNat (PR j 0).length) = 0) then 102 else 90) = 102 from by rw [show (decide ((Int32.ofNat (PR j 0).length) = 0)) = true from by rw [h0]; rfl]; rfl) ?_
    exact Er_fin rfl rfl ⟨rfl, rfl⟩
  · have hb1 : ¬ b = -1 := by rw [eb]; exact jx_m1 (by omega)
    show Ev 139 0 [some (.ref 0), some (.int (Int32.ofNat j)), some (.int a), some (.int b), some (.int c), some (.int d), none] [] h _
    refine Er_run 1 (pc' := 1) (ls' := [some (.ref 0), some (.int (Int32.ofNat j)), some (.int a), some (.int b), some (.int c), some (.int d), none]) (st' := [.int (Int32.ofNat j)]) rfl ?_
    refine Er_sta0 (av := [.int (Int32.ofNat j)]) (rest := []) rfl rfl ⟨Nat.le_of_ble_eq_true rfl, Nat.le_of_ble_eq_true rfl⟩ rfl rfl (s_Mill_needJobNumber1 hj) ?_
    refine Er_run 1 (pc' := 5) (ls' := [some (.ref 0), some (.int (Int32.ofNat j)), some (.int a), some (.int b), some (.int c), some (.int d), none]) (st' := [.int a]) rfl ?_
    refine Er_sta1 (av := [.int a]) (rest := []) rfl rfl ⟨Nat.le_of_ble_eq_true rfl, Nat.le_of_ble_eq_true rfl⟩ rfl rfl (by rw [ea]; exact s_Mill_isFile1 hfa) ?_
    refine Er_run 1 (pc' := bif decide (((1 : Int32)) = 0) then 31 else 11) (ls' := [some (.ref 0), some (.int (Int32.ofNat j)), some (.int a), some (.int b), some (.int c), some (.int d), none]) (st' := []) rfl ?_
    refine Er_pc (t := 11) (show (bif decide (((1 : Int32)) = 0) then 31 else 11) = 11 from by rw [show (decide (((1 : Int32)) = 0)) = false from by decide]; rfl) ?_
    refine Er_run 1 (pc' := 13) (ls' := [some (.ref 0), some (.int (Int32.ofNat j)), some (.int a), some (.int b), some (.int c), some (.int d), none]) (st' := [.int c]) rfl ?_
    refine Er_sta1 (av := [.int c]) (rest := []) rfl rfl ⟨Nat.le_of_ble_eq_true rfl, Nat.le_of_ble_eq_true rfl⟩ rfl rfl (by rw [ec]; exact s_Mill_isFile1 hfo) ?_
    refine Er_run 1 (pc' := bif decide (((1 : Int32)) = 0) then 31 else 19) (ls' := [some (.ref 0), some (.int (Int32.ofNat j)), some (.int a), some (.int b), some (.int c), some (.int d), none]) (st' := []) rfl ?_
    refine Er_pc (t := 19) (show (bif decide (((1 : Int32)) = 0) then 31 else 19) = 19 from by rw [show (decide (((1 : Int32)) = 0)) = false from by decide]; rfl) ?_
    refine Er_run 3 (pc' := bif decide (b = ((-1 : Int32))) then 41 else 24) (ls' := [some (.ref 0), some (.int (Int32.ofNat j)), some (.int a), some (.int b), some (.int c), some (.int d), none]) (st' := []) rfl ?_
    refine Er_pc (t := 24) (show (bif decide (b = ((-1 : Int32))) then 41 else 24) = 24 from by rw [show (decide (b = ((-1 : Int32)))) = false from decide_eq_false hb1]; rfl) ?_
    refine Er_run 1 (pc' := 25) (ls' := [some (.ref 0), some (.int (Int32.ofNat j)), some (.int a), some (.int b), some (.int c), some (.int d), none]) (st' := [.int b]) rfl ?_
    refine Er_sta1 (av := [.int b]) (rest := []) rfl rfl ⟨Nat.le_of_ble_eq_true rfl, Nat.le_of_ble_eq_true rfl⟩ rfl rfl (by rw [eb]; exact s_Mill_isFile1 hfb) ?_
    refine Er_run 1 (pc' := bif !decide (((1 : Int32)) = 0) then 41 else 31) (ls' := [some (.ref 0), some (.int (Int32.ofNat j)), some (.int a), some (.int b), some (.int c), some (.int d), none]) (st' := []) rfl ?_
    refine Er_pc (t := 41) (show (bif !decide (((1 : Int32)) = 0) then 41 else 31) = 41 from by rw [show (!decide (((1 : Int32)) = 0)) = true from by decide]; rfl) ?_
    refine Er_run 3 (pc' := bif decide (d < ((1 : Int32))) then 54 else 47) (ls' := [some (.ref 0), some (.int (Int32.ofNat j)), some (.int a), some (.int b), some (.int c), some (.int d), none]) (st' := []) rfl ?_
    refine Er_pc (t := 47) (show (bif decide (d < ((1 : Int32))) then 54 else 47) = 47 from by rw [show (decide (d < ((1 : Int32)))) = false from by rw [ed, show (1 : Int32) = Int32.ofNat 1 from rfl, jx_lt (by omega) (by omega)]; exact decide_eq_false (by omega)]; rfl) ?_
    refine Er_run 3 (pc' := bif decide (d ≤ ((6 : Int32))) then 64 else 54) (ls' := [some (.ref 0), some (.int (Int32.ofNat j)), some (.int a), some (.int b), some (.int c), some (.int d), none]) (st' := []) rfl ?_
    refine Er_pc (t := 64) (show (bif decide (d ≤ ((6 : Int32))) then 64 else 54) = 64 from by rw [show (decide (d ≤ ((6 : Int32)))) = true from by rw [ed, show (6 : Int32) = Int32.ofNat 6 from rfl, jx_le (by omega) (by omega)]; exact decide_eq_true (by omega)]; rfl) ?_
    refine Er_run 1 (pc' := 65) (ls' := [some (.ref 0), some (.int (Int32.ofNat j)), some (.int a), some (.int b), some (.int c), some (.int d), none]) (st' := [.ref 0]) rfl ?_
    refine Er_inv0 (q' := 0) (ci := 11) (av := []) (rest := []) rfl rfl ⟨Nat.le_of_ble_eq_true rfl, Nat.le_of_ble_eq_true rfl⟩ rfl rfl hx.1 (s_Mill_needRest1 hx hr) ?_
    refine Er_run 1 (pc' := 69) (ls' := [some (.ref 0), some (.int (Int32.ofNat j)), some (.int a), some (.int b), some (.int c), some (.int d), none]) (st' := [.ref 0]) rfl ?_
    refine Er_getR (x := 1) rfl hx.1 hx.2.1 ?_
    refine Er_run 1 (pc' := 73) (ls' := [some (.ref 0), some (.int (Int32.ofNat j)), some (.int a), some (.int b), some (.int c), some (.int d), none]) (st' := [.int (Int32.ofNat j), .ref 1]) rfl ?_
    refine Er_inv1 (q' := 1) (ci := 3) (av := [.int (Int32.ofNat j)]) (rest := []) rfl rfl ⟨Nat.le_of_ble_eq_true rfl, Nat.le_of_ble_eq_true rfl⟩ rfl rfl hs.1.1 (s_Store_jobNumbered hs.1 hj) ?_
    refine Er_run 3 (pc' := 81) (ls' := [some (.ref 0), some (.int (Int32.ofNat j)), some (.int a), some (.int b), some (.int c), some (.int d), some (.ref (1 + 52 + 11 * j))]) (st' := [.int ((0 : Int32)), .ref (1 + 52 + 11 * j)]) rfl ?_
    refine Er_inv1 (q' := 1 + 52 + 11 * j) (ci := 2) (av := [.int ((0 : Int32))]) (rest := []) rfl rfl ⟨Nat.le_of_ble_eq_true rfl, Nat.le_of_ble_eq_true rfl⟩ rfl rfl (hs.2.2.2 j hj).1.1 (s_Job_programFor0 (hs.2.2.2 j hj).1) ?_
    refine Er_inv1 (q' := 1 + 52 + 11 * j + 2) (ci := 1) (av := []) (rest := []) rfl rfl ⟨Nat.le_of_ble_eq_true rfl, Nat.le_of_ble_eq_true rfl⟩ rfl rfl (hs.2.2.2 j hj).2.2.1.1.1 (s_Program_length (hs.2.2.2 j hj).2.2.1) ?_
    refine Er_run 1 (pc' := bif decide ((Int32.ofNat (PR j 0).length) = 0) then 102 else 90) (ls' := [some (.ref 0), some (.int (Int32.ofNat j)), some (.int a), some (.int b), some (.int c), some (.int d), some (.ref (1 + 52 + 11 * j))]) (st' := []) rfl ?_
    refine Er_pc (t := 102) (show (bif decide ((Int32.ofNat (PR j 0).length) = 0) then 102 else 90) = 102 from by rw [show (decide ((Int32.ofNat (PR j 0).length) = 0)) = true from by rw [h0]; rfl]; rfl) ?_
    exact Er_fin rfl rfl ⟨rfl, rfl⟩
theorem s_Mill_job_n (hj : j < 8) (ea : a = Int32.ofNat fa) (hfa : fa < 16) (ec : c = Int32.ofNat fo) (hfo : fo < 16) (hb : b = -1 ∨ ∃ k, k < 16 ∧ b = Int32.ofNat k) (ed : d = Int32.ofNat np) (hn1 : 1 ≤ np) (hn6 : np ≤ 6) (hx : isX h) (hr : gI h 0 6 = 0) (hs : ST h 1 cl G PR F) (h0 : ¬ (PR j 0).length = 0) (h2 : (PR j 2).length = 0) : Run 139 [.ref 0, .int (Int32.ofNat j), .int a, .int b, .int c, .int d] h (.inr 2) (hjunk h) := by
  refine ⟨Nat.le_of_ble_eq_true rfl, ?_⟩
  rcases hb with hb | ⟨fb, hfb, eb⟩
  · skip
    show Ev 139 0 [some (.ref 0), some (.int (Int32.ofNat j)), some (.int a), some (.int b), some (.int c), some (.int d), none] [] h _
    refine Er_run 1 (pc' := 1) (ls' := [some (.ref 0), some (.int (Int32.ofNat j)), some (.int a), some (.int b), some (.int c), some (.int d), none]) (st' := [.int (Int32.ofNat j)]) rfl ?_
    refine Er_sta0 (av := [.int (Int32.ofNat j)]) (rest := []) rfl rfl ⟨Nat.le_of_ble_eq_true rfl, Nat.le_of_ble_eq_true rfl⟩ rfl rfl (s_Mill_needJobNumber1 hj) ?_
    refine Er_run 1 (pc' := 5) (ls' := [some (.ref 0), some (.int (Int32.ofNat j)), some (.int a), some (.int b), some (.int c), some (.int d), none]) (st' := [.int a]) rfl ?_
    refine Er_sta1 (av := [.int a]) (rest := []) rfl rfl ⟨Nat.le_of_ble_eq_true rfl, Nat.le_of_ble_eq_true rfl⟩ rfl rfl (by rw [ea]; exact s_Mill_isFile1 hfa) ?_
    refine Er_run 1 (pc' := bif decide (((1 : Int32)) = 0) then 31 else 11) (ls' := [some (.ref 0), some (.int (Int32.ofNat j)), some (.int a), some (.int b), some (.int c), some (.int d), none]) (st' := []) rfl ?_
    refine Er_pc (t := 11) (show (bif decide (((1 : Int32)) = 0) then 31 else 11) = 11 from by rw [show (decide (((1 : Int32)) = 0)) = false from by decide]; rfl) ?_
    refine Er_run 1 (pc' := 13) (ls' := [some (.ref 0), some (.int (Int32.ofNat j)), some (.int a), some (.int b), some (.int c), some (.int d), none]) (st' := [.int c]) rfl ?_
    refine Er_sta1 (av := [.int c]) (rest := []) rfl rfl ⟨Nat.le_of_ble_eq_true rfl, Nat.le_of_ble_eq_true rfl⟩ rfl rfl (by rw [ec]; exact s_Mill_isFile1 hfo) ?_
    refine Er_run 1 (pc' := bif decide (((1 : Int32)) = 0) then 31 else 19) (ls' := [some (.ref 0), some (.int (Int32.ofNat j)), some (.int a), some (.int b), some (.int c), some (.int d), none]) (st' := []) rfl ?_
    refine Er_pc (t := 19) (show (bif decide (((1 : Int32)) = 0) then 31 else 19) = 19 from by rw [show (decide (((1 : Int32)) = 0)) = false from by decide]; rfl) ?_
    refine Er_run 3 (pc' := bif decide (b = ((-1 : Int32))) then 41 else 24) (ls' := [some (.ref 0), some (.int (Int32.ofNat j)), some (.int a), some (.int b), some (.int c), some (.int d), none]) (st' := []) rfl ?_
    refine Er_pc (t := 41) (show (bif decide (b = ((-1 : Int32))) then 41 else 24) = 41 from by rw [show (decide (b = ((-1 : Int32)))) = true from by rw [hb]; decide]; rfl) ?_
    refine Er_run 3 (pc' := bif decide (d < ((1 : Int32))) then 54 else 47) (ls' := [some (.ref 0), some (.int (Int32.ofNat j)), some (.int a), some (.int b), some (.int c), some (.int d), none]) (st' := []) rfl ?_
    refine Er_pc (t := 47) (show (bif decide (d < ((1 : Int32))) then 54 else 47) = 47 from by rw [show (decide (d < ((1 : Int32)))) = false from by rw [ed, show (1 : Int32) = Int32.ofNat 1 from rfl, jx_lt (by omega) (by omega)]; exact decide_eq_false (by omega)]; rfl) ?_
    refine Er_run 3 (pc' := bif decide (d ≤ ((6 : Int32))) then 64 else 54) (ls' := [some (.ref 0), some (.int (Int32.ofNat j)), some (.int a), some (.int b), some (.int c), some (.int d), none]) (st' := []) rfl ?_
    refine Er_pc (t := 64) (show (bif decide (d ≤ ((6 : Int32))) then 64 else 54) = 64 from by rw [show (decide (d ≤ ((6 : Int32)))) = true from by rw [ed, show (6 : Int32) = Int32.ofNat 6 from rfl, jx_le (by omega) (by omega)]; exact decide_eq_true (by omega)]; rfl) ?_
    refine Er_run 1 (pc' := 65) (ls' := [some (.ref 0), some (.int (Int32.ofNat j)), some (.int a), some (.int b), some (.int c), some (.int d), none]) (st' := [.ref 0]) rfl ?_
    refine Er_inv0 (q' := 0) (ci := 11) (av := []) (rest := []) rfl rfl ⟨Nat.le_of_ble_eq_true rfl, Nat.le_of_ble_eq_true rfl⟩ rfl rfl hx.1 (s_Mill_needRest1 hx hr) ?_
    refine Er_run 1 (pc' := 69) (ls' := [some (.ref 0), some (.int (Int32.ofNat j)), some (.int a), some (.int b), some (.int c), some (.int d), none]) (st' := [.ref 0]) rfl ?_
    refine Er_getR (x := 1) rfl hx.1 hx.2.1 ?_
    refine Er_run 1 (pc' := 73) (ls' := [some (.ref 0), some (.int (Int32.ofNat j)), some (.int a), some (.int b), some (.int c), some (.int d), none]) (st' := [.int (Int32.ofNat j), .ref 1]) rfl ?_
    refine Er_inv1 (q' := 1) (ci := 3) (av := [.int (Int32.ofNat j)]) (rest := []) rfl rfl ⟨Nat.le_of_ble_eq_true rfl, Nat.le_of_ble_eq_true rfl⟩ rfl rfl hs.1.1 (s_Store_jobNumbered hs.1 hj) ?_
    refine Er_run 3 (pc' := 81) (ls' := [some (.ref 0), some (.int (Int32.ofNat j)), some (.int a), some (.int b), some (.int c), some (.int d), some (.ref (1 + 52 + 11 * j))]) (st' := [.int ((0 : Int32)), .ref (1 + 52 + 11 * j)]) rfl ?_
    refine Er_inv1 (q' := 1 + 52 + 11 * j) (ci := 2) (av := [.int ((0 : Int32))]) (rest := []) rfl rfl ⟨Nat.le_of_ble_eq_true rfl, Nat.le_of_ble_eq_true rfl⟩ rfl rfl (hs.2.2.2 j hj).1.1 (s_Job_programFor0 (hs.2.2.2 j hj).1) ?_
    refine Er_inv1 (q' := 1 + 52 + 11 * j + 2) (ci := 1) (av := []) (rest := []) rfl rfl ⟨Nat.le_of_ble_eq_true rfl, Nat.le_of_ble_eq_true rfl⟩ rfl rfl (hs.2.2.2 j hj).2.2.1.1.1 (s_Program_length (hs.2.2.2 j hj).2.2.1) ?_
    refine Er_run 1 (pc' := bif decide ((Int32.ofNat (PR j 0).length) = 0) then 102 else 90) (ls' := [some (.ref 0), some (.int (Int32.ofNat j)), some (.int a), some (.int b), some (.int c), some (.int d), some (.ref (1 + 52 + 11 * j))]) (st' := []) rfl ?_
    refine Er_pc (t := 90) (show (bif decide ((Int32.ofNat (PR j 0).length) = 0) then 102 else 90) = 90 from by rw [show (decide ((Int32.ofNat (PR j 0).length) = 0)) = false from by rw [show (0 : Int32) = Int32.ofNat 0 from rfl, jx_eq (by have := (hs.2.2.2 j hj).2.2.1.2.1; omega) (by omega), decide_eq_false h0]]; rfl) ?_
    refine Er_run 2 (pc' := 93) (ls' := [some (.ref 0), some (.int (Int32.ofNat j)), some (.int a), some (.int b), some (.int c), some (.int d), some (.ref (1 + 52 + 11 * j))]) (st' := [.int ((2 : Int32)), .ref (1 + 52 + 11 * j)]) rfl ?_
    refine Er_inv1 (q' := 1 + 52 + 11 * j) (ci := 2) (av := [.int ((2 : Int32))]) (rest := []) rfl rfl ⟨Nat.le_of_ble_eq_true rfl, Nat.le_of_ble_eq_true rfl⟩ rfl rfl (hs.2.2.2 j hj).1.1 (s_Job_programFor2 (hs.2.2.2 j hj).1) ?_
    refine Er_inv1 (q' := 1 + 52 + 11 * j + 8) (ci := 1) (av := []) (rest := []) rfl rfl ⟨Nat.le_of_ble_eq_true rfl, Nat.le_of_ble_eq_true rfl⟩ rfl rfl (hs.2.2.2 j hj).2.2.2.2.1.1 (s_Program_length (hs.2.2.2 j hj).2.2.2.2) ?_
    refine Er_run 1 (pc' := bif !decide ((Int32.ofNat (PR j 2).length) = 0) then 112 else 102) (ls' := [some (.ref 0), some (.int (Int32.ofNat j)), some (.int a), some (.int b), some (.int c), some (.int d), some (.ref (1 + 52 + 11 * j))]) (st' := []) rfl ?_
    refine Er_pc (t := 102) (show (bif !decide ((Int32.ofNat (PR j 2).length) = 0) then 112 else 102) = 102 from by rw [show (!decide ((Int32.ofNat (PR j 2).length) = 0)) = false from by rw [h2]; rfl]; rfl) ?_
    exact Er_fin rfl rfl ⟨rfl, rfl⟩
  · have hb1 : ¬ b = -1 := by rw [eb]; exact jx_m1 (by omega)
    show Ev 139 0 [some (.ref 0), some (.int (Int32.ofNat j)), some (.int a), some (.int b), some (.int c), some (.int d), none] [] h _
    refine Er_run 1 (pc' := 1) (ls' := [some (.ref 0), some (.int (Int32.ofNat j)), some (.int a), some (.int b), some (.int c), some (.int d), none]) (st' := [.int (Int32.ofNat j)]) rfl ?_
    refine Er_sta0 (av := [.int (Int32.ofNat j)]) (rest := []) rfl rfl ⟨Nat.le_of_ble_eq_true rfl, Nat.le_of_ble_eq_true rfl⟩ rfl rfl (s_Mill_needJobNumber1 hj) ?_
    refine Er_run 1 (pc' := 5) (ls' := [some (.ref 0), some (.int (Int32.ofNat j)), some (.int a), some (.int b), some (.int c), some (.int d), none]) (st' := [.int a]) rfl ?_
    refine Er_sta1 (av := [.int a]) (rest := []) rfl rfl ⟨Nat.le_of_ble_eq_true rfl, Nat.le_of_ble_eq_true rfl⟩ rfl rfl (by rw [ea]; exact s_Mill_isFile1 hfa) ?_
    refine Er_run 1 (pc' := bif decide (((1 : Int32)) = 0) then 31 else 11) (ls' := [some (.ref 0), some (.int (Int32.ofNat j)), some (.int a), some (.int b), some (.int c), some (.int d), none]) (st' := []) rfl ?_
    refine Er_pc (t := 11) (show (bif decide (((1 : Int32)) = 0) then 31 else 11) = 11 from by rw [show (decide (((1 : Int32)) = 0)) = false from by decide]; rfl) ?_
    refine Er_run 1 (pc' := 13) (ls' := [some (.ref 0), some (.int (Int32.ofNat j)), some (.int a), some (.int b), some (.int c), some (.int d), none]) (st' := [.int c]) rfl ?_
    refine Er_sta1 (av := [.int c]) (rest := []) rfl rfl ⟨Nat.le_of_ble_eq_true rfl, Nat.le_of_ble_eq_true rfl⟩ rfl rfl (by rw [ec]; exact s_Mill_isFile1 hfo) ?_
    refine Er_run 1 (pc' := bif decide (((1 : Int32)) = 0) then 31 else 19) (ls' := [some (.ref 0), some (.int (Int32.ofNat j)), some (.int a), some (.int b), some (.int c), some (.int d), none]) (st' := []) rfl ?_
    refine Er_pc (t := 19) (show (bif decide (((1 : Int32)) = 0) then 31 else 19) = 19 from by rw [show (decide (((1 : Int32)) = 0)) = false from by decide]; rfl) ?_
    refine Er_run 3 (pc' := bif decide (b = ((-1 : Int32))) then 41 else 24) (ls' := [some (.ref 0), some (.int (Int32.ofNat j)), some (.int a), some (.int b), some (.int c), some (.int d), none]) (st' := []) rfl ?_
    refine Er_pc (t := 24) (show (bif decide (b = ((-1 : Int32))) then 41 else 24) = 24 from by rw [show (decide (b = ((-1 : Int32)))) = false from decide_eq_false hb1]; rfl) ?_
    refine Er_run 1 (pc' := 25) (ls' := [some (.ref 0), some (.int (Int32.ofNat j)), some (.int a), some (.int b), some (.int c), some (.int d), none]) (st' := [.int b]) rfl ?_
    refine Er_sta1 (av := [.int b]) (rest := []) rfl rfl ⟨Nat.le_of_ble_eq_true rfl, Nat.le_of_ble_eq_true rfl⟩ rfl rfl (by rw [eb]; exact s_Mill_isFile1 hfb) ?_
    refine Er_run 1 (pc' := bif !decide (((1 : Int32)) = 0) then 41 else 31) (ls' := [some (.ref 0), some (.int (Int32.ofNat j)), some (.int a), some (.int b), some (.int c), some (.int d), none]) (st' := []) rfl ?_
    refine Er_pc (t := 41) (show (bif !decide (((1 : Int32)) = 0) then 41 else 31) = 41 from by rw [show (!decide (((1 : Int32)) = 0)) = true from by decide]; rfl) ?_
    refine Er_run 3 (pc' := bif decide (d < ((1 : Int32))) then 54 else 47) (ls' := [some (.ref 0), some (.int (Int32.ofNat j)), some (.int a), some (.int b), some (.int c), some (.int d), none]) (st' := []) rfl ?_
    refine Er_pc (t := 47) (show (bif decide (d < ((1 : Int32))) then 54 else 47) = 47 from by rw [show (decide (d < ((1 : Int32)))) = false from by rw [ed, show (1 : Int32) = Int32.ofNat 1 from rfl, jx_lt (by omega) (by omega)]; exact decide_eq_false (by omega)]; rfl) ?_
    refine Er_run 3 (pc' := bif decide (d ≤ ((6 : Int32))) then 64 else 54) (ls' := [some (.ref 0), some (.int (Int32.ofNat j)), some (.int a), some (.int b), some (.int c), some (.int d), none]) (st' := []) rfl ?_
    refine Er_pc (t := 64) (show (bif decide (d ≤ ((6 : Int32))) then 64 else 54) = 64 from by rw [show (decide (d ≤ ((6 : Int32)))) = true from by rw [ed, show (6 : Int32) = Int32.ofNat 6 from rfl, jx_le (by omega) (by omega)]; exact decide_eq_true (by omega)]; rfl) ?_
    refine Er_run 1 (pc' := 65) (ls' := [some (.ref 0), some (.int (Int32.ofNat j)), some (.int a), some (.int b), some (.int c), some (.int d), none]) (st' := [.ref 0]) rfl ?_
    refine Er_inv0 (q' := 0) (ci := 11) (av := []) (rest := []) rfl rfl ⟨Nat.le_of_ble_eq_true rfl, Nat.le_of_ble_eq_true rfl⟩ rfl rfl hx.1 (s_Mill_needRest1 hx hr) ?_
    refine Er_run 1 (pc' := 69) (ls' := [some (.ref 0), some (.int (Int32.ofNat j)), some (.int a), some (.int b), some (.int c), some (.int d), none]) (st' := [.ref 0]) rfl ?_
    refine Er_getR (x := 1) rfl hx.1 hx.2.1 ?_
    refine Er_run 1 (pc' := 73) (ls' := [some (.ref 0), some (.int (Int32.ofNat j)), some (.int a), some (.int b), some (.int c), some (.int d), none]) (st' := [.int (Int32.ofNat j), .ref 1]) rfl ?_
    refine Er_inv1 (q' := 1) (ci := 3) (av := [.int (Int32.ofNat j)]) (rest := []) rfl rfl ⟨Nat.le_of_ble_eq_true rfl, Nat.le_of_ble_eq_true rfl⟩ rfl rfl hs.1.1 (s_Store_jobNumbered hs.1 hj) ?_
    refine Er_run 3 (pc' := 81) (ls' := [some (.ref 0), some (.int (Int32.ofNat j)), some (.int a), some (.int b), some (.int c), some (.int d), some (.ref (1 + 52 + 11 * j))]) (st' := [.int ((0 : Int32)), .ref (1 + 52 + 11 * j)]) rfl ?_
    refine Er_inv1 (q' := 1 + 52 + 11 * j) (ci := 2) (av := [.int ((0 : Int32))]) (rest := []) rfl rfl ⟨Nat.le_of_ble_eq_true rfl, Nat.le_of_ble_eq_true rfl⟩ rfl rfl (hs.2.2.2 j hj).1.1 (s_Job_programFor0 (hs.2.2.2 j hj).1) ?_
    refine Er_inv1 (q' := 1 + 52 + 11 * j + 2) (ci := 1) (av := []) (rest := []) rfl rfl ⟨Nat.le_of_ble_eq_true rfl, Nat.le_of_ble_eq_true rfl⟩ rfl rfl (hs.2.2.2 j hj).2.2.1.1.1 (s_Program_length (hs.2.2.2 j hj).2.2.1) ?_
    refine Er_run 1 (pc' := bif decide ((Int32.ofNat (PR j 0).length) = 0) then 102 else 90) (ls' := [some (.ref 0), some (.int (Int32.ofNat j)), some (.int a), some (.int b), some (.int c), some (.int d), some (.ref (1 + 52 + 11 * j))]) (st' := []) rfl ?_
    refine Er_pc (t := 90) (show (bif decide ((Int32.ofNat (PR j 0).length) = 0) then 102 else 90) = 90 from by rw [show (decide ((Int32.ofNat (PR j 0).length) = 0)) = false from by rw [show (0 : Int32) = Int32.ofNat 0 from rfl, jx_eq (by have := (hs.2.2.2 j hj).2.2.1.2.1; omega) (by omega), decide_eq_false h0]]; rfl) ?_
    refine Er_run 2 (pc' := 93) (ls' := [some (.ref 0), some (.int (Int32.ofNat j)), some (.int a), some (.int b), some (.int c), some (.int d), some (.ref (1 + 52 + 11 * j))]) (st' := [.int ((2 : Int32)), .ref (1 + 52 + 11 * j)]) rfl ?_
    refine Er_inv1 (q' := 1 + 52 + 11 * j) (ci := 2) (av := [.int ((2 : Int32))]) (rest := []) rfl rfl ⟨Nat.le_of_ble_eq_true rfl, Nat.le_of_ble_eq_true rfl⟩ rfl rfl (hs.2.2.2 j hj).1.1 (s_Job_programFor2 (hs.2.2.2 j hj).1) ?_
    refine Er_inv1 (q' := 1 + 52 + 11 * j + 8) (ci := 1) (av := []) (rest := []) rfl rfl ⟨Nat.le_of_ble_eq_true rfl, Nat.le_of_ble_eq_true rfl⟩ rfl rfl (hs.2.2.2 j hj).2.2.2.2.1.1 (s_Program_length (hs.2.2.2 j hj).2.2.2.2) ?_
    refine Er_run 1 (pc' := bif !decide ((Int32.ofNat (PR j 2).length) = 0) then 112 else 102) (ls' := [some (.ref 0), some (.int (Int32.ofNat j)), some (.int a), some (.int b), some (.int c), some (.int d), some (.ref (1 + 52 + 11 * j))]) (st' := []) rfl ?_
    refine Er_pc (t := 102) (show (bif !decide ((Int32.ofNat (PR j 2).length) = 0) then 112 else 102) = 102 from by rw [show (!decide ((Int32.ofNat (PR j 2).length) = 0)) = false from by rw [h2]; rfl]; rfl) ?_
    exact Er_fin rfl rfl ⟨rfl, rfl⟩
theorem s_Mill_job (hj : j < 8) (ea : a = Int32.ofNat fa) (hfa : fa < 16) (ec : c = Int32.ofNat fo) (hfo : fo < 16) (hb : b = -1 ∨ ∃ k, k < 16 ∧ b = Int32.ofNat k) (ed : d = Int32.ofNat np) (hn1 : 1 ≤ np) (hn6 : np ≤ 6) (hx : isX h) (hr : gI h 0 6 = 0) (hs : ST h 1 cl G PR F) (h0 : ¬ (PR j 0).length = 0) (h2 : ¬ (PR j 2).length = 0) : ∃ h', Run 139 [.ref 0, .int (Int32.ofNat j), .int a, .int b, .int c, .int d] h (.inl none) h' ∧ ST h' 1 cl (jx_up G j (jb_mk a b c d)) PR F ∧ Fr (1 + 52 + 11 * j) (1 + 52 + 11 * j + 1) h h' := by
  have hx : Ev 139 0 (sm_pad (sm_ent [.ref 0, .int (Int32.ofNat j), .int a, .int b, .int c, .int d]) (sm_prog.2.1 139)) [] h (fun r h1 => r = .inl none ∧ ST h1 1 cl (jx_up G j (jb_mk a b c d)) PR F ∧ Fr (1 + 52 + 11 * j) (1 + 52 + 11 * j + 1) h h1) := by
    rcases hb with hb | ⟨fb, hfb, eb⟩
    · skip
      show Ev 139 0 [some (.ref 0), some (.int (Int32.ofNat j)), some (.int a), some (.int b), some (.int c), some (.int d), none] [] h _
      refine Er_run 1 (pc' := 1) (ls' := [some (.ref 0), some (.int (Int32.ofNat j)), some (.int a), some (.int b), some (.int c), some (.int d), none]) (st' := [.int (Int32.ofNat j)]) rfl ?_
      refine Er_sta0 (av := [.int (Int32.ofNat j)]) (rest := []) rfl rfl ⟨Nat.le_of_ble_eq_true rfl, Nat.le_of_ble_eq_true rfl⟩ rfl rfl (s_Mill_needJobNumber1 hj) ?_
      refine Er_run 1 (pc' := 5) (ls' := [some (.ref 0), some (.int (Int32.ofNat j)), some (.int a), some (.int b), some (.int c), some (.int d), none]) (st' := [.int a]) rfl ?_
      refine Er_sta1 (av := [.int a]) (rest := []) rfl rfl ⟨Nat.le_of_ble_eq_true rfl, Nat.le_of_ble_eq_true rfl⟩ rfl rfl (by rw [ea]; exact s_Mill_isFile1 hfa) ?_
      refine Er_run 1 (pc' := bif decide (((1 : Int32)) = 0) then 31 else 11) (ls' := [some (.ref 0), some (.int (Int32.ofNat j)), some (.int a), some (.int b), some (.int c), some (.int d), none]) (st' := []) rfl ?_
      refine Er_pc (t := 11) (show (bif decide (((1 : Int32)) = 0) then 31 else 11) = 11 from by rw [show (decide (((1 : Int32)) = 0)) = false from by decide]; rfl) ?_
      refine Er_run 1 (pc' := 13) (ls' := [some (.ref 0), some (.int (Int32.ofNat j)), some (.int a), some (.int b), some (.int c), some (.int d), none]) (st' := [.int c]) rfl ?_
      refine Er_sta1 (av := [.int c]) (rest := []) rfl rfl ⟨Nat.le_of_ble_eq_true rfl, Nat.le_of_ble_eq_true rfl⟩ rfl rfl (by rw [ec]; exact s_Mill_isFile1 hfo) ?_
      refine Er_run 1 (pc' := bif decide (((1 : Int32)) = 0) then 31 else 19) (ls' := [some (.ref 0), some (.int (Int32.ofNat j)), some (.int a), some (.int b), some (.int c), some (.int d), none]) (st' := []) rfl ?_
      refine Er_pc (t := 19) (show (bif decide (((1 : Int32)) = 0) then 31 else 19) = 19 from by rw [show (decide (((1 : Int32)) = 0)) = false from by decide]; rfl) ?_
      refine Er_run 3 (pc' := bif decide (b = ((-1 : Int32))) then 41 else 24) (ls' := [some (.ref 0), some (.int (Int32.ofNat j)), some (.int a), some (.int b), some (.int c), some (.int d), none]) (st' := []) rfl ?_
      refine Er_pc (t := 41) (show (bif decide (b = ((-1 : Int32))) then 41 else 24) = 41 from by rw [show (decide (b = ((-1 : Int32)))) = true from by rw [hb]; decide]; rfl) ?_
      refine Er_run 3 (pc' := bif decide (d < ((1 : Int32))) then 54 else 47) (ls' := [some (.ref 0), some (.int (Int32.ofNat j)), some (.int a), some (.int b), some (.int c), some (.int d), none]) (st' := []) rfl ?_
      refine Er_pc (t := 47) (show (bif decide (d < ((1 : Int32))) then 54 else 47) = 47 from by rw [show (decide (d < ((1 : Int32)))) = false from by rw [ed, show (1 : Int32) = Int32.ofNat 1 from rfl, jx_lt (by omega) (by omega)]; exact decide_eq_false (by omega)]; rfl) ?_
      refine Er_run 3 (pc' := bif decide (d ≤ ((6 : Int32))) then 64 else 54) (ls' := [some (.ref 0), some (.int (Int32.ofNat j)), some (.int a), some (.int b), some (.int c), some (.int d), none]) (st' := []) rfl ?_
      refine Er_pc (t := 64) (show (bif decide (d ≤ ((6 : Int32))) then 64 else 54) = 64 from by rw [show (decide (d ≤ ((6 : Int32)))) = true from by rw [ed, show (6 : Int32) = Int32.ofNat 6 from rfl, jx_le (by omega) (by omega)]; exact decide_eq_true (by omega)]; rfl) ?_
      refine Er_run 1 (pc' := 65) (ls' := [some (.ref 0), some (.int (Int32.ofNat j)), some (.int a), some (.int b), some (.int c), some (.int d), none]) (st' := [.ref 0]) rfl ?_
      refine Er_inv0 (q' := 0) (ci := 11) (av := []) (rest := []) rfl rfl ⟨Nat.le_of_ble_eq_true rfl, Nat.le_of_ble_eq_true rfl⟩ rfl rfl hx.1 (s_Mill_needRest1 hx hr) ?_
      refine Er_run 1 (pc' := 69) (ls' := [some (.ref 0), some (.int (Int32.ofNat j)), some (.int a), some (.int b), some (.int c), some (.int d), none]) (st' := [.ref 0]) rfl ?_
      refine Er_getR (x := 1) rfl hx.1 hx.2.1 ?_
      refine Er_run 1 (pc' := 73) (ls' := [some (.ref 0), some (.int (Int32.ofNat j)), some (.int a), some (.int b), some (.int c), some (.int d), none]) (st' := [.int (Int32.ofNat j), .ref 1]) rfl ?_
      refine Er_inv1 (q' := 1) (ci := 3) (av := [.int (Int32.ofNat j)]) (rest := []) rfl rfl ⟨Nat.le_of_ble_eq_true rfl, Nat.le_of_ble_eq_true rfl⟩ rfl rfl hs.1.1 (s_Store_jobNumbered hs.1 hj) ?_
      refine Er_run 3 (pc' := 81) (ls' := [some (.ref 0), some (.int (Int32.ofNat j)), some (.int a), some (.int b), some (.int c), some (.int d), some (.ref (1 + 52 + 11 * j))]) (st' := [.int ((0 : Int32)), .ref (1 + 52 + 11 * j)]) rfl ?_
      refine Er_inv1 (q' := 1 + 52 + 11 * j) (ci := 2) (av := [.int ((0 : Int32))]) (rest := []) rfl rfl ⟨Nat.le_of_ble_eq_true rfl, Nat.le_of_ble_eq_true rfl⟩ rfl rfl (hs.2.2.2 j hj).1.1 (s_Job_programFor0 (hs.2.2.2 j hj).1) ?_
      refine Er_inv1 (q' := 1 + 52 + 11 * j + 2) (ci := 1) (av := []) (rest := []) rfl rfl ⟨Nat.le_of_ble_eq_true rfl, Nat.le_of_ble_eq_true rfl⟩ rfl rfl (hs.2.2.2 j hj).2.2.1.1.1 (s_Program_length (hs.2.2.2 j hj).2.2.1) ?_
      refine Er_run 1 (pc' := bif decide ((Int32.ofNat (PR j 0).length) = 0) then 102 else 90) (ls' := [some (.ref 0), some (.int (Int32.ofNat j)), some (.int a), some (.int b), some (.int c), some (.int d), some (.ref (1 + 52 + 11 * j))]) (st' := []) rfl ?_
      refine Er_pc (t := 90) (show (bif decide ((Int32.ofNat (PR j 0).length) = 0) then 102 else 90) = 90 from by rw [show (decide ((Int32.ofNat (PR j 0).length) = 0)) = false from by rw [show (0 : Int32) = Int32.ofNat 0 from rfl, jx_eq (by have := (hs.2.2.2 j hj).2.2.1.2.1; omega) (by omega), decide_eq_false h0]]; rfl) ?_
      refine Er_run 2 (pc' := 93) (ls' := [some (.ref 0), some (.int (Int32.ofNat j)), some (.int a), some (.int b), some (.int c), some (.int d), some (.ref (1 + 52 + 11 * j))]) (st' := [.int ((2 : Int32)), .ref (1 + 52 + 11 * j)]) rfl ?_
      refine Er_inv1 (q' := 1 + 52 + 11 * j) (ci := 2) (av := [.int ((2 : Int32))]) (rest := []) rfl rfl ⟨Nat.le_of_ble_eq_true rfl, Nat.le_of_ble_eq_true rfl⟩ rfl rfl (hs.2.2.2 j hj).1.1 (s_Job_programFor2 (hs.2.2.2 j hj).1) ?_
      refine Er_inv1 (q' := 1 + 52 + 11 * j + 8) (ci := 1) (av := []) (rest := []) rfl rfl ⟨Nat.le_of_ble_eq_true rfl, Nat.le_of_ble_eq_true rfl⟩ rfl rfl (hs.2.2.2 j hj).2.2.2.2.1.1 (s_Program_length (hs.2.2.2 j hj).2.2.2.2) ?_
      refine Er_run 1 (pc' := bif !decide ((Int32.ofNat (PR j 2).length) = 0) then 112 else 102) (ls' := [some (.ref 0), some (.int (Int32.ofNat j)), some (.int a), some (.int b), some (.int c), some (.int d), some (.ref (1 + 52 + 11 * j))]) (st' := []) rfl ?_
      refine Er_pc (t := 112) (show (bif !decide ((Int32.ofNat (PR j 2).length) = 0) then 112 else 102) = 112 from by rw [show (!decide ((Int32.ofNat (PR j 2).length) = 0)) = true from by rw [show (0 : Int32) = Int32.ofNat 0 from rfl, jx_eq (by have := (hs.2.2.2 j hj).2.2.2.2.2.1; omega) (by omega), decide_eq_false h2]; rfl]; rfl) ?_
      refine Er_run 5 (pc' := 120) (ls' := [some (.ref 0), some (.int (Int32.ofNat j)), some (.int a), some (.int b), some (.int c), some (.int d), some (.ref (1 + 52 + 11 * j))]) (st' := [.int d, .int c, .int b, .int a, .ref (1 + 52 + 11 * j)]) rfl ?_
      have hmk := s_Job_make (x := a) (y := b) (z := c) (w := d) (hs.2.2.2 j hj).1
      have hst := ST_make (a := a) (b := b) (c := c) (d := d) hj hs
      generalize setI (setI (setI (setI (setI h (1 + 52 + 11 * j) 1 1) (1 + 52 + 11 * j) 2 a) (1 + 52 + 11 * j) 3 b) (1 + 52 + 11 * j) 4 c) (1 + 52 + 11 * j) 5 d = h1 at hmk hst
      refine Er_inv0 (q' := 1 + 52 + 11 * j) (ci := 2) (av := [.int a, .int b, .int c, .int d]) (rest := []) rfl rfl ⟨Nat.le_of_ble_eq_true rfl, Nat.le_of_ble_eq_true rfl⟩ rfl rfl (hs.2.2.2 j hj).1.1 hmk ?_
      exact Er_fin rfl rfl ⟨rfl, hst.1, hst.2⟩
    · have hb1 : ¬ b = -1 := by rw [eb]; exact jx_m1 (by omega)
      show Ev 139 0 [some (.ref 0), some (.int (Int32.ofNat j)), some (.int a), some (.int b), some (.int c), some (.int d), none] [] h _
      refine Er_run 1 (pc' := 1) (ls' := [some (.ref 0), some (.int (Int32.ofNat j)), some (.int a), some (.int b), some (.int c), some (.int d), none]) (st' := [.int (Int32.ofNat j)]) rfl ?_
      refine Er_sta0 (av := [.int (Int32.ofNat j)]) (rest := []) rfl rfl ⟨Nat.le_of_ble_eq_true rfl, Nat.le_of_ble_eq_true rfl⟩ rfl rfl (s_Mill_needJobNumber1 hj) ?_
      refine Er_run 1 (pc' := 5) (ls' := [some (.ref 0), some (.int (Int32.ofNat j)), some (.int a), some (.int b), some (.int c), some (.int d), none]) (st' := [.int a]) rfl ?_
      refine Er_sta1 (av := [.int a]) (rest := []) rfl rfl ⟨Nat.le_of_ble_eq_true rfl, Nat.le_of_ble_eq_true rfl⟩ rfl rfl (by rw [ea]; exact s_Mill_isFile1 hfa) ?_
      refine Er_run 1 (pc' := bif decide (((1 : Int32)) = 0) then 31 else 11) (ls' := [some (.ref 0), some (.int (Int32.ofNat j)), some (.int a), some (.int b), some (.int c), some (.int d), none]) (st' := []) rfl ?_
      refine Er_pc (t := 11) (show (bif decide (((1 : Int32)) = 0) then 31 else 11) = 11 from by rw [show (decide (((1 : Int32)) = 0)) = false from by decide]; rfl) ?_
      refine Er_run 1 (pc' := 13) (ls' := [some (.ref 0), some (.int (Int32.ofNat j)), some (.int a), some (.int b), some (.int c), some (.int d), none]) (st' := [.int c]) rfl ?_
      refine Er_sta1 (av := [.int c]) (rest := []) rfl rfl ⟨Nat.le_of_ble_eq_true rfl, Nat.le_of_ble_eq_true rfl⟩ rfl rfl (by rw [ec]; exact s_Mill_isFile1 hfo) ?_
      refine Er_run 1 (pc' := bif decide (((1 : Int32)) = 0) then 31 else 19) (ls' := [some (.ref 0), some (.int (Int32.ofNat j)), some (.int a), some (.int b), some (.int c), some (.int d), none]) (st' := []) rfl ?_
      refine Er_pc (t := 19) (show (bif decide (((1 : Int32)) = 0) then 31 else 19) = 19 from by rw [show (decide (((1 : Int32)) = 0)) = false from by decide]; rfl) ?_
      refine Er_run 3 (pc' := bif decide (b = ((-1 : Int32))) then 41 else 24) (ls' := [some (.ref 0), some (.int (Int32.ofNat j)), some (.int a), some (.int b), some (.int c), some (.int d), none]) (st' := []) rfl ?_
      refine Er_pc (t := 24) (show (bif decide (b = ((-1 : Int32))) then 41 else 24) = 24 from by rw [show (decide (b = ((-1 : Int32)))) = false from decide_eq_false hb1]; rfl) ?_
      refine Er_run 1 (pc' := 25) (ls' := [some (.ref 0), some (.int (Int32.ofNat j)), some (.int a), some (.int b), some (.int c), some (.int d), none]) (st' := [.int b]) rfl ?_
      refine Er_sta1 (av := [.int b]) (rest := []) rfl rfl ⟨Nat.le_of_ble_eq_true rfl, Nat.le_of_ble_eq_true rfl⟩ rfl rfl (by rw [eb]; exact s_Mill_isFile1 hfb) ?_
      refine Er_run 1 (pc' := bif !decide (((1 : Int32)) = 0) then 41 else 31) (ls' := [some (.ref 0), some (.int (Int32.ofNat j)), some (.int a), some (.int b), some (.int c), some (.int d), none]) (st' := []) rfl ?_
      refine Er_pc (t := 41) (show (bif !decide (((1 : Int32)) = 0) then 41 else 31) = 41 from by rw [show (!decide (((1 : Int32)) = 0)) = true from by decide]; rfl) ?_
      refine Er_run 3 (pc' := bif decide (d < ((1 : Int32))) then 54 else 47) (ls' := [some (.ref 0), some (.int (Int32.ofNat j)), some (.int a), some (.int b), some (.int c), some (.int d), none]) (st' := []) rfl ?_
      refine Er_pc (t := 47) (show (bif decide (d < ((1 : Int32))) then 54 else 47) = 47 from by rw [show (decide (d < ((1 : Int32)))) = false from by rw [ed, show (1 : Int32) = Int32.ofNat 1 from rfl, jx_lt (by omega) (by omega)]; exact decide_eq_false (by omega)]; rfl) ?_
      refine Er_run 3 (pc' := bif decide (d ≤ ((6 : Int32))) then 64 else 54) (ls' := [some (.ref 0), some (.int (Int32.ofNat j)), some (.int a), some (.int b), some (.int c), some (.int d), none]) (st' := []) rfl ?_
      refine Er_pc (t := 64) (show (bif decide (d ≤ ((6 : Int32))) then 64 else 54) = 64 from by rw [show (decide (d ≤ ((6 : Int32)))) = true from by rw [ed, show (6 : Int32) = Int32.ofNat 6 from rfl, jx_le (by omega) (by omega)]; exact decide_eq_true (by omega)]; rfl) ?_
      refine Er_run 1 (pc' := 65) (ls' := [some (.ref 0), some (.int (Int32.ofNat j)), some (.int a), some (.int b), some (.int c), some (.int d), none]) (st' := [.ref 0]) rfl ?_
      refine Er_inv0 (q' := 0) (ci := 11) (av := []) (rest := []) rfl rfl ⟨Nat.le_of_ble_eq_true rfl, Nat.le_of_ble_eq_true rfl⟩ rfl rfl hx.1 (s_Mill_needRest1 hx hr) ?_
      refine Er_run 1 (pc' := 69) (ls' := [some (.ref 0), some (.int (Int32.ofNat j)), some (.int a), some (.int b), some (.int c), some (.int d), none]) (st' := [.ref 0]) rfl ?_
      refine Er_getR (x := 1) rfl hx.1 hx.2.1 ?_
      refine Er_run 1 (pc' := 73) (ls' := [some (.ref 0), some (.int (Int32.ofNat j)), some (.int a), some (.int b), some (.int c), some (.int d), none]) (st' := [.int (Int32.ofNat j), .ref 1]) rfl ?_
      refine Er_inv1 (q' := 1) (ci := 3) (av := [.int (Int32.ofNat j)]) (rest := []) rfl rfl ⟨Nat.le_of_ble_eq_true rfl, Nat.le_of_ble_eq_true rfl⟩ rfl rfl hs.1.1 (s_Store_jobNumbered hs.1 hj) ?_
      refine Er_run 3 (pc' := 81) (ls' := [some (.ref 0), some (.int (Int32.ofNat j)), some (.int a), some (.int b), some (.int c), some (.int d), some (.ref (1 + 52 + 11 * j))]) (st' := [.int ((0 : Int32)), .ref (1 + 52 + 11 * j)]) rfl ?_
      refine Er_inv1 (q' := 1 + 52 + 11 * j) (ci := 2) (av := [.int ((0 : Int32))]) (rest := []) rfl rfl ⟨Nat.le_of_ble_eq_true rfl, Nat.le_of_ble_eq_true rfl⟩ rfl rfl (hs.2.2.2 j hj).1.1 (s_Job_programFor0 (hs.2.2.2 j hj).1) ?_
      refine Er_inv1 (q' := 1 + 52 + 11 * j + 2) (ci := 1) (av := []) (rest := []) rfl rfl ⟨Nat.le_of_ble_eq_true rfl, Nat.le_of_ble_eq_true rfl⟩ rfl rfl (hs.2.2.2 j hj).2.2.1.1.1 (s_Program_length (hs.2.2.2 j hj).2.2.1) ?_
      refine Er_run 1 (pc' := bif decide ((Int32.ofNat (PR j 0).length) = 0) then 102 else 90) (ls' := [some (.ref 0), some (.int (Int32.ofNat j)), some (.int a), some (.int b), some (.int c), some (.int d), some (.ref (1 + 52 + 11 * j))]) (st' := []) rfl ?_
      refine Er_pc (t := 90) (show (bif decide ((Int32.ofNat (PR j 0).length) = 0) then 102 else 90) = 90 from by rw [show (decide ((Int32.ofNat (PR j 0).length) = 0)) = false from by rw [show (0 : Int32) = Int32.ofNat 0 from rfl, jx_eq (by have := (hs.2.2.2 j hj).2.2.1.2.1; omega) (by omega), decide_eq_false h0]]; rfl) ?_
      refine Er_run 2 (pc' := 93) (ls' := [some (.ref 0), some (.int (Int32.ofNat j)), some (.int a), some (.int b), some (.int c), some (.int d), some (.ref (1 + 52 + 11 * j))]) (st' := [.int ((2 : Int32)), .ref (1 + 52 + 11 * j)]) rfl ?_
      refine Er_inv1 (q' := 1 + 52 + 11 * j) (ci := 2) (av := [.int ((2 : Int32))]) (rest := []) rfl rfl ⟨Nat.le_of_ble_eq_true rfl, Nat.le_of_ble_eq_true rfl⟩ rfl rfl (hs.2.2.2 j hj).1.1 (s_Job_programFor2 (hs.2.2.2 j hj).1) ?_
      refine Er_inv1 (q' := 1 + 52 + 11 * j + 8) (ci := 1) (av := []) (rest := []) rfl rfl ⟨Nat.le_of_ble_eq_true rfl, Nat.le_of_ble_eq_true rfl⟩ rfl rfl (hs.2.2.2 j hj).2.2.2.2.1.1 (s_Program_length (hs.2.2.2 j hj).2.2.2.2) ?_
      refine Er_run 1 (pc' := bif !decide ((Int32.ofNat (PR j 2).length) = 0) then 112 else 102) (ls' := [some (.ref 0), some (.int (Int32.ofNat j)), some (.int a), some (.int b), some (.int c), some (.int d), some (.ref (1 + 52 + 11 * j))]) (st' := []) rfl ?_
      refine Er_pc (t := 112) (show (bif !decide ((Int32.ofNat (PR j 2).length) = 0) then 112 else 102) = 112 from by rw [show (!decide ((Int32.ofNat (PR j 2).length) = 0)) = true from by rw [show (0 : Int32) = Int32.ofNat 0 from rfl, jx_eq (by have := (hs.2.2.2 j hj).2.2.2.2.2.1; omega) (by omega), decide_eq_false h2]; rfl]; rfl) ?_
      refine Er_run 5 (pc' := 120) (ls' := [some (.ref 0), some (.int (Int32.ofNat j)), some (.int a), some (.int b), some (.int c), some (.int d), some (.ref (1 + 52 + 11 * j))]) (st' := [.int d, .int c, .int b, .int a, .ref (1 + 52 + 11 * j)]) rfl ?_
      have hmk := s_Job_make (x := a) (y := b) (z := c) (w := d) (hs.2.2.2 j hj).1
      have hst := ST_make (a := a) (b := b) (c := c) (d := d) hj hs
      generalize setI (setI (setI (setI (setI h (1 + 52 + 11 * j) 1 1) (1 + 52 + 11 * j) 2 a) (1 + 52 + 11 * j) 3 b) (1 + 52 + 11 * j) 4 c) (1 + 52 + 11 * j) 5 d = h1 at hmk hst
      refine Er_inv0 (q' := 1 + 52 + 11 * j) (ci := 2) (av := [.int a, .int b, .int c, .int d]) (rest := []) rfl rfl ⟨Nat.le_of_ble_eq_true rfl, Nat.le_of_ble_eq_true rfl⟩ rfl rfl (hs.2.2.2 j hj).1.1 hmk ?_
      exact Er_fin rfl rfl ⟨rfl, hst.1, hst.2⟩
  obtain ⟨r, h', hr, e, hq⟩ := Run_of (Nat.le_of_ble_eq_true rfl) hx
  subst e
  exact ⟨h', hr, hq⟩
theorem s_Mill_count0_1 (hx : isX h) (hr : gI h 0 6 = 1) : Run 148 [.ref 0, .int ((0 : Int32))] h (.inl (some (.int ((1 : Int32))))) h := by
  refine ⟨Nat.le_of_ble_eq_true rfl, ?_⟩
  show Ev 148 0 [some (.ref 0), some (.int ((0 : Int32)))] [] h _
  refine Er_run 3 (pc' := 33) (ls' := [some (.ref 0), some (.int ((0 : Int32)))]) (st' := [.ref 0]) rfl ?_
  refine Er_getI (v := (1 : Int32)) rfl hx.1 hr ?_
  refine Er_run 1 (pc' := bif decide (((1 : Int32)) = 0) then 43 else 39) (ls' := [some (.ref 0), some (.int ((0 : Int32)))]) (st' := []) rfl ?_
  refine Er_pc (t := 39) (show (bif decide (((1 : Int32)) = 0) then 43 else 39) = 39 from by rw [show (decide (((1 : Int32)) = 0)) = false from by decide]; rfl) ?_
  refine Er_run 2 (pc' := 44) (ls' := [some (.ref 0), some (.int ((0 : Int32)))]) (st' := [.int ((1 : Int32))]) rfl ?_
  exact Er_fin rfl rfl ⟨rfl, rfl⟩
theorem s_Mill_count0_0 (hx : isX h) (hr : gI h 0 6 = 0) : Run 148 [.ref 0, .int ((0 : Int32))] h (.inl (some (.int ((0 : Int32))))) h := by
  refine ⟨Nat.le_of_ble_eq_true rfl, ?_⟩
  show Ev 148 0 [some (.ref 0), some (.int ((0 : Int32)))] [] h _
  refine Er_run 3 (pc' := 33) (ls' := [some (.ref 0), some (.int ((0 : Int32)))]) (st' := [.ref 0]) rfl ?_
  refine Er_getI (v := (0 : Int32)) rfl hx.1 hr ?_
  refine Er_run 1 (pc' := bif decide (((0 : Int32)) = 0) then 43 else 39) (ls' := [some (.ref 0), some (.int ((0 : Int32)))]) (st' := []) rfl ?_
  refine Er_pc (t := 43) (show (bif decide (((0 : Int32)) = 0) then 43 else 39) = 43 from by rw [show (decide (((0 : Int32)) = 0)) = true from by decide]; rfl) ?_
  refine Er_run 1 (pc' := 44) (ls' := [some (.ref 0), some (.int ((0 : Int32)))]) (st' := [.int ((0 : Int32))]) rfl ?_
  exact Er_fin rfl rfl ⟨rfl, rfl⟩
theorem s_Mill_count1 (hx : isX h) (hs : ST h 1 cl G PR F) : Run 148 [.ref 0, .int ((1 : Int32))] h (.inl (some (.int (Int32.ofNat ((List.range' 0 8).countP (jx_md h 1)))))) h := by
  refine ⟨Nat.le_of_ble_eq_true rfl, ?_⟩
  show Ev 148 0 [some (.ref 0), some (.int ((1 : Int32)))] [] h _
  refine Er_run 3 (pc' := 46) (ls' := [some (.ref 0), some (.int ((1 : Int32)))]) (st' := [.ref 0]) rfl ?_
  refine Er_getR (x := 1) rfl hx.1 hx.2.1 ?_
  refine Er_inv1 (q' := 1) (ci := 3) (av := []) (rest := []) rfl rfl ⟨Nat.le_of_ble_eq_true rfl, Nat.le_of_ble_eq_true rfl⟩ rfl rfl hs.1.1 (s_Store_madeJobs hs.1 (fun j hj => (hs.2.2.2 j hj).1)) ?_
  exact Er_fin rfl rfl ⟨rfl, rfl⟩
theorem s_Mill_count2 (hx : isX h) (hd : GL h 141 D) : Run 148 [.ref 0, .int ((2 : Int32))] h (.inl (some (.int (Int32.ofNat D.length)))) h := by
  refine ⟨Nat.le_of_ble_eq_true rfl, ?_⟩
  show Ev 148 0 [some (.ref 0), some (.int ((2 : Int32)))] [] h _
  refine Er_run 3 (pc' := 54) (ls' := [some (.ref 0), some (.int ((2 : Int32)))]) (st' := [.ref 0]) rfl ?_
  refine Er_getR (x := 141) rfl hx.1 hx.2.2.1 ?_
  refine Er_inv1 (q' := 141) (ci := 1) (av := []) (rest := []) rfl rfl ⟨Nat.le_of_ble_eq_true rfl, Nat.le_of_ble_eq_true rfl⟩ rfl rfl hd.1.1 (s_Program_length hd) ?_
  exact Er_fin rfl rfl ⟨rfl, rfl⟩
theorem s_Mill_count3 (hx : isX h)  : Run 148 [.ref 0, .int ((3 : Int32))] h (.inl (some (.int (gI h 0 7)))) h := by
  refine ⟨Nat.le_of_ble_eq_true rfl, ?_⟩
  show Ev 148 0 [some (.ref 0), some (.int ((3 : Int32)))] [] h _
  refine Er_run 3 (pc' := 62) (ls' := [some (.ref 0), some (.int ((3 : Int32)))]) (st' := [.ref 0]) rfl ?_
  refine Er_getI (v := gI h 0 7) rfl hx.1 rfl ?_
  exact Er_fin rfl rfl ⟨rfl, rfl⟩
theorem jx_m10 {n : Nat} (hn : n < 50) : Int32.ofNat n - Int32.ofNat n / 10 * 10 = Int32.ofNat (n % 10) := by
  have : ∀ n, n < 50 → Int32.ofNat n - Int32.ofNat n / 10 * 10 = Int32.ofNat (n % 10) := by decide
  exact this n hn
theorem jx_d10 {n : Nat} (hn : n < 50) (h2 : 20 ≤ n) : Int32.ofNat n / 10 - 2 = Int32.ofNat (n / 10 - 2) := by
  have : ∀ n, n < 50 → 20 ≤ n → Int32.ofNat n / 10 - 2 = Int32.ofNat (n / 10 - 2) := by decide
  exact this n hn h2

theorem s_Mill_coj_s {n : Nat} (hn : n < 10) : Run 150 [.ref 0, .int (Int32.ofNat n)] h (.inr 1) (hjunk h) := by
  refine ⟨Nat.le_of_ble_eq_true rfl, ?_⟩
  show Ev 150 0 [some (.ref 0), some (.int (Int32.ofNat n)), none, none] [] h _
  refine Er_run 2 (pc' := 3) (ls' := [some (.ref 0), some (.int (Int32.ofNat n)), none, none]) (st' := [.int ((10 : Int32)), .int (Int32.ofNat n)]) rfl ?_
  refine Er_irem rfl (by decide) ?_
  refine Er_run 4 (pc' := bif decide ((Int32.ofNat n) < ((10 : Int32))) then 23 else 11) (ls' := [some (.ref 0), some (.int (Int32.ofNat n)), some (.int ((Int32.ofNat n) - (Int32.ofNat n) / ((10 : Int32)) * ((10 : Int32)))), none]) (st' := []) rfl ?_
  refine Er_pc (t := 23) (show (bif decide ((Int32.ofNat n) < ((10 : Int32))) then 23 else 11) = 23 from by rw [show (decide ((Int32.ofNat n) < ((10 : Int32)))) = true from by rw [show (10 : Int32) = Int32.ofNat 10 from rfl, jx_lt (by omega) (by omega)]; exact decide_eq_true (by omega)]; rfl) ?_
  exact Er_fin rfl rfl ⟨rfl, rfl⟩
theorem s_Mill_coj_j {n : Nat} (hn1 : 10 ≤ n) (hn : n < 50) (hj : 8 ≤ n % 10) : Run 150 [.ref 0, .int (Int32.ofNat n)] h (.inr 1) (hjunk h) := by
  refine ⟨Nat.le_of_ble_eq_true rfl, ?_⟩
  show Ev 150 0 [some (.ref 0), some (.int (Int32.ofNat n)), none, none] [] h _
  refine Er_run 2 (pc' := 3) (ls' := [some (.ref 0), some (.int (Int32.ofNat n)), none, none]) (st' := [.int ((10 : Int32)), .int (Int32.ofNat n)]) rfl ?_
  refine Er_irem rfl (by decide) ?_
  refine Er_run 4 (pc' := bif decide ((Int32.ofNat n) < ((10 : Int32))) then 23 else 11) (ls' := [some (.ref 0), some (.int (Int32.ofNat n)), some (.int ((Int32.ofNat n) - (Int32.ofNat n) / ((10 : Int32)) * ((10 : Int32)))), none]) (st' := []) rfl ?_
  refine Er_pc (t := 11) (show (bif decide ((Int32.ofNat n) < ((10 : Int32))) then 23 else 11) = 11 from by rw [show (decide ((Int32.ofNat n) < ((10 : Int32)))) = false from by rw [show (10 : Int32) = Int32.ofNat 10 from rfl, jx_lt (by omega) (by omega)]; exact decide_eq_false (by omega)]; rfl) ?_
  refine Er_run 3 (pc' := bif decide (((50 : Int32)) ≤ (Int32.ofNat n)) then 23 else 17) (ls' := [some (.ref 0), some (.int (Int32.ofNat n)), some (.int ((Int32.ofNat n) - (Int32.ofNat n) / ((10 : Int32)) * ((10 : Int32)))), none]) (st' := []) rfl ?_
  refine Er_pc (t := 17) (show (bif decide (((50 : Int32)) ≤ (Int32.ofNat n)) then 23 else 17) = 17 from by rw [show (decide (((50 : Int32)) ≤ (Int32.ofNat n))) = false from by rw [show (50 : Int32) = Int32.ofNat 50 from rfl, jx_le (by omega) (by omega)]; exact decide_eq_false (by omega)]; rfl) ?_
  refine Er_run 3 (pc' := bif decide (((Int32.ofNat n) - (Int32.ofNat n) / ((10 : Int32)) * ((10 : Int32))) < ((8 : Int32))) then 33 else 23) (ls' := [some (.ref 0), some (.int (Int32.ofNat n)), some (.int ((Int32.ofNat n) - (Int32.ofNat n) / ((10 : Int32)) * ((10 : Int32)))), none]) (st' := []) rfl ?_
  refine Er_pc (t := 23) (show (bif decide (((Int32.ofNat n) - (Int32.ofNat n) / ((10 : Int32)) * ((10 : Int32))) < ((8 : Int32))) then 33 else 23) = 23 from by rw [show (decide (((Int32.ofNat n) - (Int32.ofNat n) / ((10 : Int32)) * ((10 : Int32))) < ((8 : Int32)))) = false from by rw [jx_m10 (by omega), show (8 : Int32) = Int32.ofNat 8 from rfl, jx_lt (by omega) (by omega)]; exact decide_eq_false (by omega)]; rfl) ?_
  exact Er_fin rfl rfl ⟨rfl, rfl⟩
theorem s_Mill_coj_m1 {n : Nat} (hs : ST h 1 cl G PR F) (hx : isX h) (hj : n % 10 < 8) (hn1 : 10 ≤ n) (hn : n < 20) (hg : G (n % 10) 1 = 1) : Run 150 [.ref 0, .int (Int32.ofNat n)] h (.inl (some (.int ((1 : Int32))))) h := by
  refine ⟨Nat.le_of_ble_eq_true rfl, ?_⟩
  show Ev 150 0 [some (.ref 0), some (.int (Int32.ofNat n)), none, none] [] h _
  refine Er_run 2 (pc' := 3) (ls' := [some (.ref 0), some (.int (Int32.ofNat n)), none, none]) (st' := [.int ((10 : Int32)), .int (Int32.ofNat n)]) rfl ?_
  refine Er_irem rfl (by decide) ?_
  refine Er_run 4 (pc' := bif decide ((Int32.ofNat n) < ((10 : Int32))) then 23 else 11) (ls' := [some (.ref 0), some (.int (Int32.ofNat n)), some (.int ((Int32.ofNat n) - (Int32.ofNat n) / ((10 : Int32)) * ((10 : Int32)))), none]) (st' := []) rfl ?_
  refine Er_pc (t := 11) (show (bif decide ((Int32.ofNat n) < ((10 : Int32))) then 23 else 11) = 11 from by rw [show (decide ((Int32.ofNat n) < ((10 : Int32)))) = false from by rw [show (10 : Int32) = Int32.ofNat 10 from rfl, jx_lt (by omega) (by omega)]; exact decide_eq_false (by omega)]; rfl) ?_
  refine Er_run 3 (pc' := bif decide (((50 : Int32)) ≤ (Int32.ofNat n)) then 23 else 17) (ls' := [some (.ref 0), some (.int (Int32.ofNat n)), some (.int ((Int32.ofNat n) - (Int32.ofNat n) / ((10 : Int32)) * ((10 : Int32)))), none]) (st' := []) rfl ?_
  refine Er_pc (t := 17) (show (bif decide (((50 : Int32)) ≤ (Int32.ofNat n)) then 23 else 17) = 17 from by rw [show (decide (((50 : Int32)) ≤ (Int32.ofNat n))) = false from by rw [show (50 : Int32) = Int32.ofNat 50 from rfl, jx_le (by omega) (by omega)]; exact decide_eq_false (by omega)]; rfl) ?_
  refine Er_run 3 (pc' := bif decide (((Int32.ofNat n) - (Int32.ofNat n) / ((10 : Int32)) * ((10 : Int32))) < ((8 : Int32))) then 33 else 23) (ls' := [some (.ref 0), some (.int (Int32.ofNat n)), some (.int ((Int32.ofNat n) - (Int32.ofNat n) / ((10 : Int32)) * ((10 : Int32)))), none]) (st' := []) rfl ?_
  refine Er_pc (t := 33) (show (bif decide (((Int32.ofNat n) - (Int32.ofNat n) / ((10 : Int32)) * ((10 : Int32))) < ((8 : Int32))) then 33 else 23) = 33 from by rw [show (decide (((Int32.ofNat n) - (Int32.ofNat n) / ((10 : Int32)) * ((10 : Int32))) < ((8 : Int32)))) = true from by rw [jx_m10 (by omega), show (8 : Int32) = Int32.ofNat 8 from rfl, jx_lt (by omega) (by omega)]; exact decide_eq_true (by omega)]; rfl) ?_
  refine Er_run 1 (pc' := 34) (ls' := [some (.ref 0), some (.int (Int32.ofNat n)), some (.int ((Int32.ofNat n) - (Int32.ofNat n) / ((10 : Int32)) * ((10 : Int32)))), none]) (st' := [.ref 0]) rfl ?_
  refine Er_getR (x := 1) rfl hx.1 hx.2.1 ?_
  refine Er_run 1 (pc' := 38) (ls' := [some (.ref 0), some (.int (Int32.ofNat n)), some (.int ((Int32.ofNat n) - (Int32.ofNat n) / ((10 : Int32)) * ((10 : Int32)))), none]) (st' := [.int ((Int32.ofNat n) - (Int32.ofNat n) / ((10 : Int32)) * ((10 : Int32))), .ref 1]) rfl ?_
  refine Er_inv1 (q' := 1) (ci := 3) (av := [.int ((Int32.ofNat n) - (Int32.ofNat n) / ((10 : Int32)) * ((10 : Int32)))]) (rest := []) rfl rfl ⟨Nat.le_of_ble_eq_true rfl, Nat.le_of_ble_eq_true rfl⟩ rfl rfl hs.1.1 (by rw [jx_m10 (by omega)]; exact s_Store_jobNumbered hs.1 hj) ?_
  refine Er_run 4 (pc' := bif decide (((20 : Int32)) ≤ (Int32.ofNat n)) then 61 else 48) (ls' := [some (.ref 0), some (.int (Int32.ofNat n)), some (.int ((Int32.ofNat n) - (Int32.ofNat n) / ((10 : Int32)) * ((10 : Int32)))), some (.ref (1 + 52 + 11 * (n % 10)))]) (st' := []) rfl ?_
  refine Er_pc (t := 48) (show (bif decide (((20 : Int32)) ≤ (Int32.ofNat n)) then 61 else 48) = 48 from by rw [show (decide (((20 : Int32)) ≤ (Int32.ofNat n))) = false from by rw [show (20 : Int32) = Int32.ofNat 20 from rfl, jx_le (by omega) (by omega)]; exact decide_eq_false (by omega)]; rfl) ?_
  refine Er_run 1 (pc' := 49) (ls' := [some (.ref 0), some (.int (Int32.ofNat n)), some (.int ((Int32.ofNat n) - (Int32.ofNat n) / ((10 : Int32)) * ((10 : Int32)))), some (.ref (1 + 52 + 11 * (n % 10)))]) (st' := [.ref (1 + 52 + 11 * (n % 10))]) rfl ?_
  have him := s_Job_isMade (hs.2.2.2 (n % 10) hj).1
  rw [(hs.2.2.2 (n % 10) hj).2.1 1 (by omega) (by omega), hg] at him
  refine Er_inv1 (q' := 1 + 52 + 11 * (n % 10)) (ci := 2) (av := []) (rest := []) rfl rfl ⟨Nat.le_of_ble_eq_true rfl, Nat.le_of_ble_eq_true rfl⟩ rfl rfl (hs.2.2.2 (n % 10) hj).1.1 him ?_
  refine Er_run 1 (pc' := bif decide (((1 : Int32)) = 0) then 59 else 55) (ls' := [some (.ref 0), some (.int (Int32.ofNat n)), some (.int ((Int32.ofNat n) - (Int32.ofNat n) / ((10 : Int32)) * ((10 : Int32)))), some (.ref (1 + 52 + 11 * (n % 10)))]) (st' := []) rfl ?_
  refine Er_pc (t := 55) (show (bif decide (((1 : Int32)) = 0) then 59 else 55) = 55 from by rw [show (decide (((1 : Int32)) = 0)) = false from by decide]; rfl) ?_
  refine Er_run 2 (pc' := 60) (ls' := [some (.ref 0), some (.int (Int32.ofNat n)), some (.int ((Int32.ofNat n) - (Int32.ofNat n) / ((10 : Int32)) * ((10 : Int32)))), some (.ref (1 + 52 + 11 * (n % 10)))]) (st' := [.int ((1 : Int32))]) rfl ?_
  exact Er_fin rfl rfl ⟨rfl, rfl⟩
theorem s_Mill_coj_m0 {n : Nat} (hs : ST h 1 cl G PR F) (hx : isX h) (hj : n % 10 < 8) (hn1 : 10 ≤ n) (hn : n < 20) (hg : G (n % 10) 1 = 0) : Run 150 [.ref 0, .int (Int32.ofNat n)] h (.inl (some (.int ((0 : Int32))))) h := by
  refine ⟨Nat.le_of_ble_eq_true rfl, ?_⟩
  show Ev 150 0 [some (.ref 0), some (.int (Int32.ofNat n)), none, none] [] h _
  refine Er_run 2 (pc' := 3) (ls' := [some (.ref 0), some (.int (Int32.ofNat n)), none, none]) (st' := [.int ((10 : Int32)), .int (Int32.ofNat n)]) rfl ?_
  refine Er_irem rfl (by decide) ?_
  refine Er_run 4 (pc' := bif decide ((Int32.ofNat n) < ((10 : Int32))) then 23 else 11) (ls' := [some (.ref 0), some (.int (Int32.ofNat n)), some (.int ((Int32.ofNat n) - (Int32.ofNat n) / ((10 : Int32)) * ((10 : Int32)))), none]) (st' := []) rfl ?_
  refine Er_pc (t := 11) (show (bif decide ((Int32.ofNat n) < ((10 : Int32))) then 23 else 11) = 11 from by rw [show (decide ((Int32.ofNat n) < ((10 : Int32)))) = false from by rw [show (10 : Int32) = Int32.ofNat 10 from rfl, jx_lt (by omega) (by omega)]; exact decide_eq_false (by omega)]; rfl) ?_
  refine Er_run 3 (pc' := bif decide (((50 : Int32)) ≤ (Int32.ofNat n)) then 23 else 17) (ls' := [some (.ref 0), some (.int (Int32.ofNat n)), some (.int ((Int32.ofNat n) - (Int32.ofNat n) / ((10 : Int32)) * ((10 : Int32)))), none]) (st' := []) rfl ?_
  refine Er_pc (t := 17) (show (bif decide (((50 : Int32)) ≤ (Int32.ofNat n)) then 23 else 17) = 17 from by rw [show (decide (((50 : Int32)) ≤ (Int32.ofNat n))) = false from by rw [show (50 : Int32) = Int32.ofNat 50 from rfl, jx_le (by omega) (by omega)]; exact decide_eq_false (by omega)]; rfl) ?_
  refine Er_run 3 (pc' := bif decide (((Int32.ofNat n) - (Int32.ofNat n) / ((10 : Int32)) * ((10 : Int32))) < ((8 : Int32))) then 33 else 23) (ls' := [some (.ref 0), some (.int (Int32.ofNat n)), some (.int ((Int32.ofNat n) - (Int32.ofNat n) / ((10 : Int32)) * ((10 : Int32)))), none]) (st' := []) rfl ?_
  refine Er_pc (t := 33) (show (bif decide (((Int32.ofNat n) - (Int32.ofNat n) / ((10 : Int32)) * ((10 : Int32))) < ((8 : Int32))) then 33 else 23) = 33 from by rw [show (decide (((Int32.ofNat n) - (Int32.ofNat n) / ((10 : Int32)) * ((10 : Int32))) < ((8 : Int32)))) = true from by rw [jx_m10 (by omega), show (8 : Int32) = Int32.ofNat 8 from rfl, jx_lt (by omega) (by omega)]; exact decide_eq_true (by omega)]; rfl) ?_
  refine Er_run 1 (pc' := 34) (ls' := [some (.ref 0), some (.int (Int32.ofNat n)), some (.int ((Int32.ofNat n) - (Int32.ofNat n) / ((10 : Int32)) * ((10 : Int32)))), none]) (st' := [.ref 0]) rfl ?_
  refine Er_getR (x := 1) rfl hx.1 hx.2.1 ?_
  refine Er_run 1 (pc' := 38) (ls' := [some (.ref 0), some (.int (Int32.ofNat n)), some (.int ((Int32.ofNat n) - (Int32.ofNat n) / ((10 : Int32)) * ((10 : Int32)))), none]) (st' := [.int ((Int32.ofNat n) - (Int32.ofNat n) / ((10 : Int32)) * ((10 : Int32))), .ref 1]) rfl ?_
  refine Er_inv1 (q' := 1) (ci := 3) (av := [.int ((Int32.ofNat n) - (Int32.ofNat n) / ((10 : Int32)) * ((10 : Int32)))]) (rest := []) rfl rfl ⟨Nat.le_of_ble_eq_true rfl, Nat.le_of_ble_eq_true rfl⟩ rfl rfl hs.1.1 (by rw [jx_m10 (by omega)]; exact s_Store_jobNumbered hs.1 hj) ?_
  refine Er_run 4 (pc' := bif decide (((20 : Int32)) ≤ (Int32.ofNat n)) then 61 else 48) (ls' := [some (.ref 0), some (.int (Int32.ofNat n)), some (.int ((Int32.ofNat n) - (Int32.ofNat n) / ((10 : Int32)) * ((10 : Int32)))), some (.ref (1 + 52 + 11 * (n % 10)))]) (st' := []) rfl ?_
  refine Er_pc (t := 48) (show (bif decide (((20 : Int32)) ≤ (Int32.ofNat n)) then 61 else 48) = 48 from by rw [show (decide (((20 : Int32)) ≤ (Int32.ofNat n))) = false from by rw [show (20 : Int32) = Int32.ofNat 20 from rfl, jx_le (by omega) (by omega)]; exact decide_eq_false (by omega)]; rfl) ?_
  refine Er_run 1 (pc' := 49) (ls' := [some (.ref 0), some (.int (Int32.ofNat n)), some (.int ((Int32.ofNat n) - (Int32.ofNat n) / ((10 : Int32)) * ((10 : Int32)))), some (.ref (1 + 52 + 11 * (n % 10)))]) (st' := [.ref (1 + 52 + 11 * (n % 10))]) rfl ?_
  have him := s_Job_isMade (hs.2.2.2 (n % 10) hj).1
  rw [(hs.2.2.2 (n % 10) hj).2.1 1 (by omega) (by omega), hg] at him
  refine Er_inv1 (q' := 1 + 52 + 11 * (n % 10)) (ci := 2) (av := []) (rest := []) rfl rfl ⟨Nat.le_of_ble_eq_true rfl, Nat.le_of_ble_eq_true rfl⟩ rfl rfl (hs.2.2.2 (n % 10) hj).1.1 him ?_
  refine Er_run 1 (pc' := bif decide (((0 : Int32)) = 0) then 59 else 55) (ls' := [some (.ref 0), some (.int (Int32.ofNat n)), some (.int ((Int32.ofNat n) - (Int32.ofNat n) / ((10 : Int32)) * ((10 : Int32)))), some (.ref (1 + 52 + 11 * (n % 10)))]) (st' := []) rfl ?_
  refine Er_pc (t := 59) (show (bif decide (((0 : Int32)) = 0) then 59 else 55) = 59 from by rw [show (decide (((0 : Int32)) = 0)) = true from by decide]; rfl) ?_
  refine Er_run 1 (pc' := 60) (ls' := [some (.ref 0), some (.int (Int32.ofNat n)), some (.int ((Int32.ofNat n) - (Int32.ofNat n) / ((10 : Int32)) * ((10 : Int32)))), some (.ref (1 + 52 + 11 * (n % 10)))]) (st' := [.int ((0 : Int32))]) rfl ?_
  exact Er_fin rfl rfl ⟨rfl, rfl⟩
theorem s_Mill_coj_p0 {n : Nat} (hs : ST h 1 cl G PR F) (hx : isX h) (hj : n % 10 < 8) (hn1 : 20 ≤ n) (hn : n < 30) : Run 150 [.ref 0, .int (Int32.ofNat n)] h (.inl (some (.int (Int32.ofNat (PR (n % 10) 0).length)))) h := by
  refine ⟨Nat.le_of_ble_eq_true rfl, ?_⟩
  show Ev 150 0 [some (.ref 0), some (.int (Int32.ofNat n)), none, none] [] h _
  refine Er_run 2 (pc' := 3) (ls' := [some (.ref 0), some (.int (Int32.ofNat n)), none, none]) (st' := [.int ((10 : Int32)), .int (Int32.ofNat n)]) rfl ?_
  refine Er_irem rfl (by decide) ?_
  refine Er_run 4 (pc' := bif decide ((Int32.ofNat n) < ((10 : Int32))) then 23 else 11) (ls' := [some (.ref 0), some (.int (Int32.ofNat n)), some (.int ((Int32.ofNat n) - (Int32.ofNat n) / ((10 : Int32)) * ((10 : Int32)))), none]) (st' := []) rfl ?_
  refine Er_pc (t := 11) (show (bif decide ((Int32.ofNat n) < ((10 : Int32))) then 23 else 11) = 11 from by rw [show (decide ((Int32.ofNat n) < ((10 : Int32)))) = false from by rw [show (10 : Int32) = Int32.ofNat 10 from rfl, jx_lt (by omega) (by omega)]; exact decide_eq_false (by omega)]; rfl) ?_
  refine Er_run 3 (pc' := bif decide (((50 : Int32)) ≤ (Int32.ofNat n)) then 23 else 17) (ls' := [some (.ref 0), some (.int (Int32.ofNat n)), some (.int ((Int32.ofNat n) - (Int32.ofNat n) / ((10 : Int32)) * ((10 : Int32)))), none]) (st' := []) rfl ?_
  refine Er_pc (t := 17) (show (bif decide (((50 : Int32)) ≤ (Int32.ofNat n)) then 23 else 17) = 17 from by rw [show (decide (((50 : Int32)) ≤ (Int32.ofNat n))) = false from by rw [show (50 : Int32) = Int32.ofNat 50 from rfl, jx_le (by omega) (by omega)]; exact decide_eq_false (by omega)]; rfl) ?_
  refine Er_run 3 (pc' := bif decide (((Int32.ofNat n) - (Int32.ofNat n) / ((10 : Int32)) * ((10 : Int32))) < ((8 : Int32))) then 33 else 23) (ls' := [some (.ref 0), some (.int (Int32.ofNat n)), some (.int ((Int32.ofNat n) - (Int32.ofNat n) / ((10 : Int32)) * ((10 : Int32)))), none]) (st' := []) rfl ?_
  refine Er_pc (t := 33) (show (bif decide (((Int32.ofNat n) - (Int32.ofNat n) / ((10 : Int32)) * ((10 : Int32))) < ((8 : Int32))) then 33 else 23) = 33 from by rw [show (decide (((Int32.ofNat n) - (Int32.ofNat n) / ((10 : Int32)) * ((10 : Int32))) < ((8 : Int32)))) = true from by rw [jx_m10 (by omega), show (8 : Int32) = Int32.ofNat 8 from rfl, jx_lt (by omega) (by omega)]; exact decide_eq_true (by omega)]; rfl) ?_
  refine Er_run 1 (pc' := 34) (ls' := [some (.ref 0), some (.int (Int32.ofNat n)), some (.int ((Int32.ofNat n) - (Int32.ofNat n) / ((10 : Int32)) * ((10 : Int32)))), none]) (st' := [.ref 0]) rfl ?_
  refine Er_getR (x := 1) rfl hx.1 hx.2.1 ?_
  refine Er_run 1 (pc' := 38) (ls' := [some (.ref 0), some (.int (Int32.ofNat n)), some (.int ((Int32.ofNat n) - (Int32.ofNat n) / ((10 : Int32)) * ((10 : Int32)))), none]) (st' := [.int ((Int32.ofNat n) - (Int32.ofNat n) / ((10 : Int32)) * ((10 : Int32))), .ref 1]) rfl ?_
  refine Er_inv1 (q' := 1) (ci := 3) (av := [.int ((Int32.ofNat n) - (Int32.ofNat n) / ((10 : Int32)) * ((10 : Int32)))]) (rest := []) rfl rfl ⟨Nat.le_of_ble_eq_true rfl, Nat.le_of_ble_eq_true rfl⟩ rfl rfl hs.1.1 (by rw [jx_m10 (by omega)]; exact s_Store_jobNumbered hs.1 hj) ?_
  refine Er_run 4 (pc' := bif decide (((20 : Int32)) ≤ (Int32.ofNat n)) then 61 else 48) (ls' := [some (.ref 0), some (.int (Int32.ofNat n)), some (.int ((Int32.ofNat n) - (Int32.ofNat n) / ((10 : Int32)) * ((10 : Int32)))), some (.ref (1 + 52 + 11 * (n % 10)))]) (st' := []) rfl ?_
  refine Er_pc (t := 61) (show (bif decide (((20 : Int32)) ≤ (Int32.ofNat n)) then 61 else 48) = 61 from by rw [show (decide (((20 : Int32)) ≤ (Int32.ofNat n))) = true from by rw [show (20 : Int32) = Int32.ofNat 20 from rfl, jx_le (by omega) (by omega)]; exact decide_eq_true (by omega)]; rfl) ?_
  refine Er_run 3 (pc' := 65) (ls' := [some (.ref 0), some (.int (Int32.ofNat n)), some (.int ((Int32.ofNat n) - (Int32.ofNat n) / ((10 : Int32)) * ((10 : Int32)))), some (.ref (1 + 52 + 11 * (n % 10)))]) (st' := [.int ((10 : Int32)), .int (Int32.ofNat n), .ref (1 + 52 + 11 * (n % 10))]) rfl ?_
  refine Er_idiv rfl (by decide) ?_
  refine Er_run 2 (pc' := 68) (ls' := [some (.ref 0), some (.int (Int32.ofNat n)), some (.int ((Int32.ofNat n) - (Int32.ofNat n) / ((10 : Int32)) * ((10 : Int32)))), some (.ref (1 + 52 + 11 * (n % 10)))]) (st' := [.int (((Int32.ofNat n) / ((10 : Int32))) - ((2 : Int32))), .ref (1 + 52 + 11 * (n % 10))]) rfl ?_
  refine Er_inv1 (q' := 1 + 52 + 11 * (n % 10)) (ci := 2) (av := [.int (((Int32.ofNat n) / ((10 : Int32))) - ((2 : Int32)))]) (rest := []) rfl rfl ⟨Nat.le_of_ble_eq_true rfl, Nat.le_of_ble_eq_true rfl⟩ rfl rfl (hs.2.2.2 (n % 10) hj).1.1 (by rw [jx_d10 (by omega) (by omega), show n / 10 - 2 = 0 from by omega]; exact s_Job_programFor0 (hs.2.2.2 (n % 10) hj).1) ?_
  refine Er_inv1 (q' := 1 + 52 + 11 * (n % 10) + 2) (ci := 1) (av := []) (rest := []) rfl rfl ⟨Nat.le_of_ble_eq_true rfl, Nat.le_of_ble_eq_true rfl⟩ rfl rfl (hs.2.2.2 (n % 10) hj).2.2.1.1.1 (s_Program_length (hs.2.2.2 (n % 10) hj).2.2.1) ?_
  exact Er_fin rfl rfl ⟨rfl, rfl⟩
theorem s_Mill_coj_p1 {n : Nat} (hs : ST h 1 cl G PR F) (hx : isX h) (hj : n % 10 < 8) (hn1 : 30 ≤ n) (hn : n < 40) : Run 150 [.ref 0, .int (Int32.ofNat n)] h (.inl (some (.int (Int32.ofNat (PR (n % 10) 1).length)))) h := by
  refine ⟨Nat.le_of_ble_eq_true rfl, ?_⟩
  show Ev 150 0 [some (.ref 0), some (.int (Int32.ofNat n)), none, none] [] h _
  refine Er_run 2 (pc' := 3) (ls' := [some (.ref 0), some (.int (Int32.ofNat n)), none, none]) (st' := [.int ((10 : Int32)), .int (Int32.ofNat n)]) rfl ?_
  refine Er_irem rfl (by decide) ?_
  refine Er_run 4 (pc' := bif decide ((Int32.ofNat n) < ((10 : Int32))) then 23 else 11) (ls' := [some (.ref 0), some (.int (Int32.ofNat n)), some (.int ((Int32.ofNat n) - (Int32.ofNat n) / ((10 : Int32)) * ((10 : Int32)))), none]) (st' := []) rfl ?_
  refine Er_pc (t := 11) (show (bif decide ((Int32.ofNat n) < ((10 : Int32))) then 23 else 11) = 11 from by rw [show (decide ((Int32.ofNat n) < ((10 : Int32)))) = false from by rw [show (10 : Int32) = Int32.ofNat 10 from rfl, jx_lt (by omega) (by omega)]; exact decide_eq_false (by omega)]; rfl) ?_
  refine Er_run 3 (pc' := bif decide (((50 : Int32)) ≤ (Int32.ofNat n)) then 23 else 17) (ls' := [some (.ref 0), some (.int (Int32.ofNat n)), some (.int ((Int32.ofNat n) - (Int32.ofNat n) / ((10 : Int32)) * ((10 : Int32)))), none]) (st' := []) rfl ?_
  refine Er_pc (t := 17) (show (bif decide (((50 : Int32)) ≤ (Int32.ofNat n)) then 23 else 17) = 17 from by rw [show (decide (((50 : Int32)) ≤ (Int32.ofNat n))) = false from by rw [show (50 : Int32) = Int32.ofNat 50 from rfl, jx_le (by omega) (by omega)]; exact decide_eq_false (by omega)]; rfl) ?_
  refine Er_run 3 (pc' := bif decide (((Int32.ofNat n) - (Int32.ofNat n) / ((10 : Int32)) * ((10 : Int32))) < ((8 : Int32))) then 33 else 23) (ls' := [some (.ref 0), some (.int (Int32.ofNat n)), some (.int ((Int32.ofNat n) - (Int32.ofNat n) / ((10 : Int32)) * ((10 : Int32)))), none]) (st' := []) rfl ?_
  refine Er_pc (t := 33) (show (bif decide (((Int32.ofNat n) - (Int32.ofNat n) / ((10 : Int32)) * ((10 : Int32))) < ((8 : Int32))) then 33 else 23) = 33 from by rw [show (decide (((Int32.ofNat n) - (Int32.ofNat n) / ((10 : Int32)) * ((10 : Int32))) < ((8 : Int32)))) = true from by rw [jx_m10 (by omega), show (8 : Int32) = Int32.ofNat 8 from rfl, jx_lt (by omega) (by omega)]; exact decide_eq_true (by omega)]; rfl) ?_
  refine Er_run 1 (pc' := 34) (ls' := [some (.ref 0), some (.int (Int32.ofNat n)), some (.int ((Int32.ofNat n) - (Int32.ofNat n) / ((10 : Int32)) * ((10 : Int32)))), none]) (st' := [.ref 0]) rfl ?_
  refine Er_getR (x := 1) rfl hx.1 hx.2.1 ?_
  refine Er_run 1 (pc' := 38) (ls' := [some (.ref 0), some (.int (Int32.ofNat n)), some (.int ((Int32.ofNat n) - (Int32.ofNat n) / ((10 : Int32)) * ((10 : Int32)))), none]) (st' := [.int ((Int32.ofNat n) - (Int32.ofNat n) / ((10 : Int32)) * ((10 : Int32))), .ref 1]) rfl ?_
  refine Er_inv1 (q' := 1) (ci := 3) (av := [.int ((Int32.ofNat n) - (Int32.ofNat n) / ((10 : Int32)) * ((10 : Int32)))]) (rest := []) rfl rfl ⟨Nat.le_of_ble_eq_true rfl, Nat.le_of_ble_eq_true rfl⟩ rfl rfl hs.1.1 (by rw [jx_m10 (by omega)]; exact s_Store_jobNumbered hs.1 hj) ?_
  refine Er_run 4 (pc' := bif decide (((20 : Int32)) ≤ (Int32.ofNat n)) then 61 else 48) (ls' := [some (.ref 0), some (.int (Int32.ofNat n)), some (.int ((Int32.ofNat n) - (Int32.ofNat n) / ((10 : Int32)) * ((10 : Int32)))), some (.ref (1 + 52 + 11 * (n % 10)))]) (st' := []) rfl ?_
  refine Er_pc (t := 61) (show (bif decide (((20 : Int32)) ≤ (Int32.ofNat n)) then 61 else 48) = 61 from by rw [show (decide (((20 : Int32)) ≤ (Int32.ofNat n))) = true from by rw [show (20 : Int32) = Int32.ofNat 20 from rfl, jx_le (by omega) (by omega)]; exact decide_eq_true (by omega)]; rfl) ?_
  refine Er_run 3 (pc' := 65) (ls' := [some (.ref 0), some (.int (Int32.ofNat n)), some (.int ((Int32.ofNat n) - (Int32.ofNat n) / ((10 : Int32)) * ((10 : Int32)))), some (.ref (1 + 52 + 11 * (n % 10)))]) (st' := [.int ((10 : Int32)), .int (Int32.ofNat n), .ref (1 + 52 + 11 * (n % 10))]) rfl ?_
  refine Er_idiv rfl (by decide) ?_
  refine Er_run 2 (pc' := 68) (ls' := [some (.ref 0), some (.int (Int32.ofNat n)), some (.int ((Int32.ofNat n) - (Int32.ofNat n) / ((10 : Int32)) * ((10 : Int32)))), some (.ref (1 + 52 + 11 * (n % 10)))]) (st' := [.int (((Int32.ofNat n) / ((10 : Int32))) - ((2 : Int32))), .ref (1 + 52 + 11 * (n % 10))]) rfl ?_
  refine Er_inv1 (q' := 1 + 52 + 11 * (n % 10)) (ci := 2) (av := [.int (((Int32.ofNat n) / ((10 : Int32))) - ((2 : Int32)))]) (rest := []) rfl rfl ⟨Nat.le_of_ble_eq_true rfl, Nat.le_of_ble_eq_true rfl⟩ rfl rfl (hs.2.2.2 (n % 10) hj).1.1 (by rw [jx_d10 (by omega) (by omega), show n / 10 - 2 = 1 from by omega]; exact s_Job_programFor1 (hs.2.2.2 (n % 10) hj).1) ?_
  refine Er_inv1 (q' := 1 + 52 + 11 * (n % 10) + 5) (ci := 1) (av := []) (rest := []) rfl rfl ⟨Nat.le_of_ble_eq_true rfl, Nat.le_of_ble_eq_true rfl⟩ rfl rfl (hs.2.2.2 (n % 10) hj).2.2.2.1.1.1 (s_Program_length (hs.2.2.2 (n % 10) hj).2.2.2.1) ?_
  exact Er_fin rfl rfl ⟨rfl, rfl⟩
theorem s_Mill_coj_p2 {n : Nat} (hs : ST h 1 cl G PR F) (hx : isX h) (hj : n % 10 < 8) (hn1 : 40 ≤ n) (hn : n < 50) : Run 150 [.ref 0, .int (Int32.ofNat n)] h (.inl (some (.int (Int32.ofNat (PR (n % 10) 2).length)))) h := by
  refine ⟨Nat.le_of_ble_eq_true rfl, ?_⟩
  show Ev 150 0 [some (.ref 0), some (.int (Int32.ofNat n)), none, none] [] h _
  refine Er_run 2 (pc' := 3) (ls' := [some (.ref 0), some (.int (Int32.ofNat n)), none, none]) (st' := [.int ((10 : Int32)), .int (Int32.ofNat n)]) rfl ?_
  refine Er_irem rfl (by decide) ?_
  refine Er_run 4 (pc' := bif decide ((Int32.ofNat n) < ((10 : Int32))) then 23 else 11) (ls' := [some (.ref 0), some (.int (Int32.ofNat n)), some (.int ((Int32.ofNat n) - (Int32.ofNat n) / ((10 : Int32)) * ((10 : Int32)))), none]) (st' := []) rfl ?_
  refine Er_pc (t := 11) (show (bif decide ((Int32.ofNat n) < ((10 : Int32))) then 23 else 11) = 11 from by rw [show (decide ((Int32.ofNat n) < ((10 : Int32)))) = false from by rw [show (10 : Int32) = Int32.ofNat 10 from rfl, jx_lt (by omega) (by omega)]; exact decide_eq_false (by omega)]; rfl) ?_
  refine Er_run 3 (pc' := bif decide (((50 : Int32)) ≤ (Int32.ofNat n)) then 23 else 17) (ls' := [some (.ref 0), some (.int (Int32.ofNat n)), some (.int ((Int32.ofNat n) - (Int32.ofNat n) / ((10 : Int32)) * ((10 : Int32)))), none]) (st' := []) rfl ?_
  refine Er_pc (t := 17) (show (bif decide (((50 : Int32)) ≤ (Int32.ofNat n)) then 23 else 17) = 17 from by rw [show (decide (((50 : Int32)) ≤ (Int32.ofNat n))) = false from by rw [show (50 : Int32) = Int32.ofNat 50 from rfl, jx_le (by omega) (by omega)]; exact decide_eq_false (by omega)]; rfl) ?_
  refine Er_run 3 (pc' := bif decide (((Int32.ofNat n) - (Int32.ofNat n) / ((10 : Int32)) * ((10 : Int32))) < ((8 : Int32))) then 33 else 23) (ls' := [some (.ref 0), some (.int (Int32.ofNat n)), some (.int ((Int32.ofNat n) - (Int32.ofNat n) / ((10 : Int32)) * ((10 : Int32)))), none]) (st' := []) rfl ?_
  refine Er_pc (t := 33) (show (bif decide (((Int32.ofNat n) - (Int32.ofNat n) / ((10 : Int32)) * ((10 : Int32))) < ((8 : Int32))) then 33 else 23) = 33 from by rw [show (decide (((Int32.ofNat n) - (Int32.ofNat n) / ((10 : Int32)) * ((10 : Int32))) < ((8 : Int32)))) = true from by rw [jx_m10 (by omega), show (8 : Int32) = Int32.ofNat 8 from rfl, jx_lt (by omega) (by omega)]; exact decide_eq_true (by omega)]; rfl) ?_
  refine Er_run 1 (pc' := 34) (ls' := [some (.ref 0), some (.int (Int32.ofNat n)), some (.int ((Int32.ofNat n) - (Int32.ofNat n) / ((10 : Int32)) * ((10 : Int32)))), none]) (st' := [.ref 0]) rfl ?_
  refine Er_getR (x := 1) rfl hx.1 hx.2.1 ?_
  refine Er_run 1 (pc' := 38) (ls' := [some (.ref 0), some (.int (Int32.ofNat n)), some (.int ((Int32.ofNat n) - (Int32.ofNat n) / ((10 : Int32)) * ((10 : Int32)))), none]) (st' := [.int ((Int32.ofNat n) - (Int32.ofNat n) / ((10 : Int32)) * ((10 : Int32))), .ref 1]) rfl ?_
  refine Er_inv1 (q' := 1) (ci := 3) (av := [.int ((Int32.ofNat n) - (Int32.ofNat n) / ((10 : Int32)) * ((10 : Int32)))]) (rest := []) rfl rfl ⟨Nat.le_of_ble_eq_true rfl, Nat.le_of_ble_eq_true rfl⟩ rfl rfl hs.1.1 (by rw [jx_m10 (by omega)]; exact s_Store_jobNumbered hs.1 hj) ?_
  refine Er_run 4 (pc' := bif decide (((20 : Int32)) ≤ (Int32.ofNat n)) then 61 else 48) (ls' := [some (.ref 0), some (.int (Int32.ofNat n)), some (.int ((Int32.ofNat n) - (Int32.ofNat n) / ((10 : Int32)) * ((10 : Int32)))), some (.ref (1 + 52 + 11 * (n % 10)))]) (st' := []) rfl ?_
  refine Er_pc (t := 61) (show (bif decide (((20 : Int32)) ≤ (Int32.ofNat n)) then 61 else 48) = 61 from by rw [show (decide (((20 : Int32)) ≤ (Int32.ofNat n))) = true from by rw [show (20 : Int32) = Int32.ofNat 20 from rfl, jx_le (by omega) (by omega)]; exact decide_eq_true (by omega)]; rfl) ?_
  refine Er_run 3 (pc' := 65) (ls' := [some (.ref 0), some (.int (Int32.ofNat n)), some (.int ((Int32.ofNat n) - (Int32.ofNat n) / ((10 : Int32)) * ((10 : Int32)))), some (.ref (1 + 52 + 11 * (n % 10)))]) (st' := [.int ((10 : Int32)), .int (Int32.ofNat n), .ref (1 + 52 + 11 * (n % 10))]) rfl ?_
  refine Er_idiv rfl (by decide) ?_
  refine Er_run 2 (pc' := 68) (ls' := [some (.ref 0), some (.int (Int32.ofNat n)), some (.int ((Int32.ofNat n) - (Int32.ofNat n) / ((10 : Int32)) * ((10 : Int32)))), some (.ref (1 + 52 + 11 * (n % 10)))]) (st' := [.int (((Int32.ofNat n) / ((10 : Int32))) - ((2 : Int32))), .ref (1 + 52 + 11 * (n % 10))]) rfl ?_
  refine Er_inv1 (q' := 1 + 52 + 11 * (n % 10)) (ci := 2) (av := [.int (((Int32.ofNat n) / ((10 : Int32))) - ((2 : Int32)))]) (rest := []) rfl rfl ⟨Nat.le_of_ble_eq_true rfl, Nat.le_of_ble_eq_true rfl⟩ rfl rfl (hs.2.2.2 (n % 10) hj).1.1 (by rw [jx_d10 (by omega) (by omega), show n / 10 - 2 = 2 from by omega]; exact s_Job_programFor2 (hs.2.2.2 (n % 10) hj).1) ?_
  refine Er_inv1 (q' := 1 + 52 + 11 * (n % 10) + 8) (ci := 1) (av := []) (rest := []) rfl rfl ⟨Nat.le_of_ble_eq_true rfl, Nat.le_of_ble_eq_true rfl⟩ rfl rfl (hs.2.2.2 (n % 10) hj).2.2.2.2.1.1 (s_Program_length (hs.2.2.2 (n % 10) hj).2.2.2.2) ?_
  exact Er_fin rfl rfl ⟨rfl, rfl⟩
theorem s_Mill_coj_x (hf : jn_out x 50) : Run 150 [.ref 0, .int x] h (.inr 1) (hjunk h) := by
  have h1 : ¬ x < 10 → (50 : Int) ≤ x.toInt := by
    intro h0
    rw [Int32.lt_iff_toInt_lt] at h0
    have h0' : ¬ x.toInt < 10 := h0
    rw [jn_out] at hf
    omega
  refine ⟨Nat.le_of_ble_eq_true rfl, ?_⟩
  by_cases h0 : x < 10
  · skip
    show Ev 150 0 [some (.ref 0), some (.int x), none, none] [] h _
    refine Er_run 2 (pc' := 3) (ls' := [some (.ref 0), some (.int x), none, none]) (st' := [.int ((10 : Int32)), .int x]) rfl ?_
    refine Er_irem rfl (by decide) ?_
    refine Er_run 4 (pc' := bif decide (x < ((10 : Int32))) then 23 else 11) (ls' := [some (.ref 0), some (.int x), some (.int (x - x / ((10 : Int32)) * ((10 : Int32)))), none]) (st' := []) rfl ?_
    refine Er_pc (t := 23) (show (bif decide (x < ((10 : Int32))) then 23 else 11) = 23 from by rw [show (decide (x < ((10 : Int32)))) = true from decide_eq_true h0]; rfl) ?_
    exact Er_fin rfl rfl ⟨rfl, rfl⟩
  · have h2 := h1 h0
    show Ev 150 0 [some (.ref 0), some (.int x), none, none] [] h _
    refine Er_run 2 (pc' := 3) (ls' := [some (.ref 0), some (.int x), none, none]) (st' := [.int ((10 : Int32)), .int x]) rfl ?_
    refine Er_irem rfl (by decide) ?_
    refine Er_run 4 (pc' := bif decide (x < ((10 : Int32))) then 23 else 11) (ls' := [some (.ref 0), some (.int x), some (.int (x - x / ((10 : Int32)) * ((10 : Int32)))), none]) (st' := []) rfl ?_
    refine Er_pc (t := 11) (show (bif decide (x < ((10 : Int32))) then 23 else 11) = 11 from by rw [show (decide (x < ((10 : Int32)))) = false from decide_eq_false h0]; rfl) ?_
    refine Er_run 3 (pc' := bif decide (((50 : Int32)) ≤ x) then 23 else 17) (ls' := [some (.ref 0), some (.int x), some (.int (x - x / ((10 : Int32)) * ((10 : Int32)))), none]) (st' := []) rfl ?_
    refine Er_pc (t := 23) (show (bif decide (((50 : Int32)) ≤ x) then 23 else 17) = 23 from by rw [show (decide (((50 : Int32)) ≤ x)) = true from decide_eq_true (by rw [Int32.le_iff_toInt_le]; show (50 : Int) ≤ x.toInt; omega)]; rfl) ?_
    exact Er_fin rfl rfl ⟨rfl, rfl⟩
theorem s_Mill_count_v {v : Int32} (hx : isX h) (h4 : jn_out x 4) (hc : Run 150 [.ref 0, .int x] h (.inl (some (.int v))) h) : Run 148 [.ref 0, .int x] h (.inl (some (.int v))) h := by
  refine ⟨Nat.le_of_ble_eq_true rfl, ?_⟩
  show Ev 148 0 [some (.ref 0), some (.int x)] [] h _
  refine Er_run 2 (pc' := sm_sw 0 [32, 45, 53, 61] 66 x) (ls' := [some (.ref 0), some (.int x)]) (st' := []) rfl ?_
  refine Er_pc (t := 66) (show sm_sw 0 [32, 45, 53, 61] 66 x = 66 from by rw [sm_sw, if_pos (by show x.toInt < 0 ∨ 0 + 4 ≤ x.toInt; rw [jn_out] at h4; omega)]) ?_
  refine Er_run 2 (pc' := 68) (ls' := [some (.ref 0), some (.int x)]) (st' := [.int x, .ref 0]) rfl ?_
  refine Er_inv1 (q' := 0) (ci := 11) (av := [.int x]) (rest := []) rfl rfl ⟨Nat.le_of_ble_eq_true rfl, Nat.le_of_ble_eq_true rfl⟩ rfl rfl hx.1 hc ?_
  exact Er_fin rfl rfl ⟨rfl, rfl⟩
theorem s_Mill_count_t (hx : isX h) (h4 : jn_out x 4) (hc : Run 150 [.ref 0, .int x] h (.inr 1) (hjunk h)) : Run 148 [.ref 0, .int x] h (.inr 1) (hjunk h) := by
  refine ⟨Nat.le_of_ble_eq_true rfl, ?_⟩
  show Ev 148 0 [some (.ref 0), some (.int x)] [] h _
  refine Er_run 2 (pc' := sm_sw 0 [32, 45, 53, 61] 66 x) (ls' := [some (.ref 0), some (.int x)]) (st' := []) rfl ?_
  refine Er_pc (t := 66) (show sm_sw 0 [32, 45, 53, 61] 66 x = 66 from by rw [sm_sw, if_pos (by show x.toInt < 0 ∨ 0 + 4 ≤ x.toInt; rw [jn_out] at h4; omega)]) ?_
  refine Er_run 2 (pc' := 68) (ls' := [some (.ref 0), some (.int x)]) (st' := [.int x, .ref 0]) rfl ?_
  exact Er_invX (q' := 0) (ci := 11) (av := [.int x]) rfl rfl ⟨Nat.le_of_ble_eq_true rfl, Nat.le_of_ble_eq_true rfl⟩ rfl hx.1 hc rfl ⟨rfl, rfl⟩
end MILD
