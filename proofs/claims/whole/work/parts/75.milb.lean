section MILB
variable {h : sm_H} {cl : List Nat} {G : Nat → Nat → Int32} {PR : Nat → Nat → List (Int32 × Int64)} {F : Nat → Jl} {D : List (Int32 × Int64)} {x : Int32} {c : Int64}
theorem jx_cmplt (x y : Int64) : decide (lg_cmp x y < 0) = decide (x < y) := by
  have h1 := jx_cmpge x y
  rw [decide_eq_decide] at h1
  rw [decide_eq_decide, ← Int32.not_le, ← Int64.not_le, h1]
theorem jx_cmple (x y : Int64) : decide (lg_cmp x y ≤ 0) = decide (x ≤ y) := by
  rw [decide_eq_decide, lg_cmp]
  by_cases h1 : x > y
  · rw [if_pos h1]
    exact ⟨fun h => absurd h (by decide), fun h => absurd h (Int64.not_le.2 h1)⟩
  · rw [if_neg h1]
    have h3 : x ≤ y := Int64.not_lt.1 h1
    by_cases h2 : x = y
    · rw [if_pos h2]; exact ⟨fun _ => h3, fun _ => by decide⟩
    · rw [if_neg h2]; exact ⟨fun _ => h3, fun _ => by decide⟩
/-- the A that code lets through -/
def jc_arg (k : Nat) (c : Int64) : Prop := (k = 4 ∨ k = 5 → 0 ≤ c ∧ c < 4) ∧ (k = 15 ∨ k = 16 → 0 ≤ c ∧ c ≤ 40)

theorem s_Mill_code_r {k : Nat} (hk : k < 19) (ha : jc_arg k c) (hx : isX h) (hr : gI h 0 6 = 1) : Run 137 [.ref 0, .int (Int32.ofNat k), .long c] h (.inr 2) (hjunk h) := by
  refine ⟨Nat.le_of_ble_eq_true rfl, ?_⟩
  by_cases h45 : k = 4 ∨ k = 5
  · have hn56 : ¬ (Int32.ofNat k = 15 ∨ Int32.ofNat k = 16) := by rcases h45 with rfl | rfl <;> decide
    have hb0 : ¬ c < 0 := Int64.not_lt.2 (ha.1 h45).1
    have hb4 : c < 4 := (ha.1 h45).2
    show Ev 137 0 [some (.ref 0), some (.int (Int32.ofNat k)), some (.long c), none] [] h _
    refine Er_run 2 (pc' := bif decide ((Int32.ofNat k) < 0) then 10 else 4) (ls' := [some (.ref 0), some (.int (Int32.ofNat k)), some (.long c), none]) (st' := []) rfl ?_
    refine Er_pc (t := 4) (show (bif decide ((Int32.ofNat k) < 0) then 10 else 4) = 4 from by rw [show (decide ((Int32.ofNat k) < 0)) = false from sm_nn (by rw [sm_ofNat_toInt (by omega)]; omega)]; rfl) ?_
    refine Er_run 3 (pc' := bif decide ((Int32.ofNat k) ≤ ((18 : Int32))) then 20 else 10) (ls' := [some (.ref 0), some (.int (Int32.ofNat k)), some (.long c), none]) (st' := []) rfl ?_
    refine Er_pc (t := 20) (show (bif decide ((Int32.ofNat k) ≤ ((18 : Int32))) then 20 else 10) = 20 from by rw [show (decide ((Int32.ofNat k) ≤ ((18 : Int32)))) = true from by rw [show (18 : Int32) = Int32.ofNat 18 from rfl, jx_le (by omega) (by omega)]; exact decide_eq_true (by omega)]; rfl) ?_
    refine Er_run 1 (pc' := 21) (ls' := [some (.ref 0), some (.int (Int32.ofNat k)), some (.long c), none]) (st' := [.int (Int32.ofNat k)]) rfl ?_
    have huc := s_Program_usesCell (h := h) (x := Int32.ofNat k)
    rw [if_pos (h45.elim (fun e => Or.inl (by rw [e]; rfl)) (fun e => Or.inr (by rw [e]; rfl)))] at huc
    refine Er_sta1 (av := [.int (Int32.ofNat k)]) (rest := []) rfl rfl ⟨Nat.le_of_ble_eq_true rfl, Nat.le_of_ble_eq_true rfl⟩ rfl rfl huc ?_
    refine Er_run 1 (pc' := bif decide (((1 : Int32)) = 0) then 51 else 27) (ls' := [some (.ref 0), some (.int (Int32.ofNat k)), some (.long c), none]) (st' := []) rfl ?_
    refine Er_pc (t := 27) (show (bif decide (((1 : Int32)) = 0) then 51 else 27) = 27 from by rw [show (decide (((1 : Int32)) = 0)) = false from by decide]; rfl) ?_
    refine Er_run 4 (pc' := bif decide ((lg_cmp c ((0 : Int64))) < 0) then 41 else 33) (ls' := [some (.ref 0), some (.int (Int32.ofNat k)), some (.long c), none]) (st' := []) rfl ?_
    refine Er_pc (t := 33) (show (bif decide ((lg_cmp c ((0 : Int64))) < 0) then 41 else 33) = 33 from by rw [show (decide ((lg_cmp c ((0 : Int64))) < 0)) = false from by rw [jx_cmplt]; exact decide_eq_false hb0]; rfl) ?_
    refine Er_run 4 (pc' := bif decide ((lg_cmp c ((4 : Int64))) < 0) then 51 else 41) (ls' := [some (.ref 0), some (.int (Int32.ofNat k)), some (.long c), none]) (st' := []) rfl ?_
    refine Er_pc (t := 51) (show (bif decide ((lg_cmp c ((4 : Int64))) < 0) then 51 else 41) = 51 from by rw [show (decide ((lg_cmp c ((4 : Int64))) < 0)) = true from by rw [jx_cmplt]; exact decide_eq_true hb4]; rfl) ?_
    refine Er_run 1 (pc' := 52) (ls' := [some (.ref 0), some (.int (Int32.ofNat k)), some (.long c), none]) (st' := [.int (Int32.ofNat k)]) rfl ?_
    have hlp := s_Program_leaps (h := h) (x := Int32.ofNat k)
    rw [if_neg hn56] at hlp
    refine Er_sta1 (av := [.int (Int32.ofNat k)]) (rest := []) rfl rfl ⟨Nat.le_of_ble_eq_true rfl, Nat.le_of_ble_eq_true rfl⟩ rfl rfl hlp ?_
    refine Er_run 1 (pc' := bif decide (((0 : Int32)) = 0) then 82 else 58) (ls' := [some (.ref 0), some (.int (Int32.ofNat k)), some (.long c), none]) (st' := []) rfl ?_
    refine Er_pc (t := 82) (show (bif decide (((0 : Int32)) = 0) then 82 else 58) = 82 from by rw [show (decide (((0 : Int32)) = 0)) = true from by decide]; rfl) ?_
    refine Er_run 1 (pc' := 83) (ls' := [some (.ref 0), some (.int (Int32.ofNat k)), some (.long c), none]) (st' := [.ref 0]) rfl ?_
    exact Er_invX (q' := 0) (ci := 11) (av := []) rfl rfl ⟨Nat.le_of_ble_eq_true rfl, Nat.le_of_ble_eq_true rfl⟩ rfl hx.1 (s_Mill_needRest0 hx hr) rfl ⟨rfl, rfl⟩
  · have hn45 : ¬ (Int32.ofNat k = 4 ∨ Int32.ofNat k = 5) := by
      have hq : k ≠ 4 ∧ k ≠ 5 := by omega
      exact (fun z => z.elim (fun e => hq.1 (by have := jx_eq (i := k) (j := 4) (by omega) (by omega); rw [decide_eq_true (show Int32.ofNat k = Int32.ofNat 4 from e)] at this; exact of_decide_eq_true this.symm)) (fun e => hq.2 (by have := jx_eq (i := k) (j := 5) (by omega) (by omega); rw [decide_eq_true (show Int32.ofNat k = Int32.ofNat 5 from e)] at this; exact of_decide_eq_true this.symm)))
    by_cases h56 : k = 15 ∨ k = 16
    · have hb0 : ¬ c < 0 := Int64.not_lt.2 (ha.2 h56).1
      have hb4 : c ≤ 40 := (ha.2 h56).2
      show Ev 137 0 [some (.ref 0), some (.int (Int32.ofNat k)), some (.long c), none] [] h _
      refine Er_run 2 (pc' := bif decide ((Int32.ofNat k) < 0) then 10 else 4) (ls' := [some (.ref 0), some (.int (Int32.ofNat k)), some (.long c), none]) (st' := []) rfl ?_
      refine Er_pc (t := 4) (show (bif decide ((Int32.ofNat k) < 0) then 10 else 4) = 4 from by rw [show (decide ((Int32.ofNat k) < 0)) = false from sm_nn (by rw [sm_ofNat_toInt (by omega)]; omega)]; rfl) ?_
      refine Er_run 3 (pc' := bif decide ((Int32.ofNat k) ≤ ((18 : Int32))) then 20 else 10) (ls' := [some (.ref 0), some (.int (Int32.ofNat k)), some (.long c), none]) (st' := []) rfl ?_
      refine Er_pc (t := 20) (show (bif decide ((Int32.ofNat k) ≤ ((18 : Int32))) then 20 else 10) = 20 from by rw [show (decide ((Int32.ofNat k) ≤ ((18 : Int32)))) = true from by rw [show (18 : Int32) = Int32.ofNat 18 from rfl, jx_le (by omega) (by omega)]; exact decide_eq_true (by omega)]; rfl) ?_
      refine Er_run 1 (pc' := 21) (ls' := [some (.ref 0), some (.int (Int32.ofNat k)), some (.long c), none]) (st' := [.int (Int32.ofNat k)]) rfl ?_
      have huc := s_Program_usesCell (h := h) (x := Int32.ofNat k)
      rw [if_neg hn45] at huc
      refine Er_sta1 (av := [.int (Int32.ofNat k)]) (rest := []) rfl rfl ⟨Nat.le_of_ble_eq_true rfl, Nat.le_of_ble_eq_true rfl⟩ rfl rfl huc ?_
      refine Er_run 1 (pc' := bif decide (((0 : Int32)) = 0) then 51 else 27) (ls' := [some (.ref 0), some (.int (Int32.ofNat k)), some (.long c), none]) (st' := []) rfl ?_
      refine Er_pc (t := 51) (show (bif decide (((0 : Int32)) = 0) then 51 else 27) = 51 from by rw [show (decide (((0 : Int32)) = 0)) = true from by decide]; rfl) ?_
      refine Er_run 1 (pc' := 52) (ls' := [some (.ref 0), some (.int (Int32.ofNat k)), some (.long c), none]) (st' := [.int (Int32.ofNat k)]) rfl ?_
      have hlp := s_Program_leaps (h := h) (x := Int32.ofNat k)
      rw [if_pos (h56.elim (fun e => Or.inl (by rw [e]; rfl)) (fun e => Or.inr (by rw [e]; rfl)))] at hlp
      refine Er_sta1 (av := [.int (Int32.ofNat k)]) (rest := []) rfl rfl ⟨Nat.le_of_ble_eq_true rfl, Nat.le_of_ble_eq_true rfl⟩ rfl rfl hlp ?_
      refine Er_run 1 (pc' := bif decide (((1 : Int32)) = 0) then 82 else 58) (ls' := [some (.ref 0), some (.int (Int32.ofNat k)), some (.long c), none]) (st' := []) rfl ?_
      refine Er_pc (t := 58) (show (bif decide (((1 : Int32)) = 0) then 82 else 58) = 58 from by rw [show (decide (((1 : Int32)) = 0)) = false from by decide]; rfl) ?_
      refine Er_run 4 (pc' := bif decide ((lg_cmp c ((0 : Int64))) < 0) then 72 else 64) (ls' := [some (.ref 0), some (.int (Int32.ofNat k)), some (.long c), none]) (st' := []) rfl ?_
      refine Er_pc (t := 64) (show (bif decide ((lg_cmp c ((0 : Int64))) < 0) then 72 else 64) = 64 from by rw [show (decide ((lg_cmp c ((0 : Int64))) < 0)) = false from by rw [jx_cmplt]; exact decide_eq_false hb0]; rfl) ?_
      refine Er_run 4 (pc' := bif decide ((lg_cmp c ((40 : Int64))) ≤ 0) then 82 else 72) (ls' := [some (.ref 0), some (.int (Int32.ofNat k)), some (.long c), none]) (st' := []) rfl ?_
      refine Er_pc (t := 82) (show (bif decide ((lg_cmp c ((40 : Int64))) ≤ 0) then 82 else 72) = 82 from by rw [show (decide ((lg_cmp c ((40 : Int64))) ≤ 0)) = true from by rw [jx_cmple]; exact decide_eq_true hb4]; rfl) ?_
      refine Er_run 1 (pc' := 83) (ls' := [some (.ref 0), some (.int (Int32.ofNat k)), some (.long c), none]) (st' := [.ref 0]) rfl ?_
      exact Er_invX (q' := 0) (ci := 11) (av := []) rfl rfl ⟨Nat.le_of_ble_eq_true rfl, Nat.le_of_ble_eq_true rfl⟩ rfl hx.1 (s_Mill_needRest0 hx hr) rfl ⟨rfl, rfl⟩
    · have hn56 : ¬ (Int32.ofNat k = 15 ∨ Int32.ofNat k = 16) := by
        have hq : k ≠ 15 ∧ k ≠ 16 := by omega
        exact (fun z => z.elim (fun e => hq.1 (by have := jx_eq (i := k) (j := 15) (by omega) (by omega); rw [decide_eq_true (show Int32.ofNat k = Int32.ofNat 15 from e)] at this; exact of_decide_eq_true this.symm)) (fun e => hq.2 (by have := jx_eq (i := k) (j := 16) (by omega) (by omega); rw [decide_eq_true (show Int32.ofNat k = Int32.ofNat 16 from e)] at this; exact of_decide_eq_true this.symm)))
      show Ev 137 0 [some (.ref 0), some (.int (Int32.ofNat k)), some (.long c), none] [] h _
      refine Er_run 2 (pc' := bif decide ((Int32.ofNat k) < 0) then 10 else 4) (ls' := [some (.ref 0), some (.int (Int32.ofNat k)), some (.long c), none]) (st' := []) rfl ?_
      refine Er_pc (t := 4) (show (bif decide ((Int32.ofNat k) < 0) then 10 else 4) = 4 from by rw [show (decide ((Int32.ofNat k) < 0)) = false from sm_nn (by rw [sm_ofNat_toInt (by omega)]; omega)]; rfl) ?_
      refine Er_run 3 (pc' := bif decide ((Int32.ofNat k) ≤ ((18 : Int32))) then 20 else 10) (ls' := [some (.ref 0), some (.int (Int32.ofNat k)), some (.long c), none]) (st' := []) rfl ?_
      refine Er_pc (t := 20) (show (bif decide ((Int32.ofNat k) ≤ ((18 : Int32))) then 20 else 10) = 20 from by rw [show (decide ((Int32.ofNat k) ≤ ((18 : Int32)))) = true from by rw [show (18 : Int32) = Int32.ofNat 18 from rfl, jx_le (by omega) (by omega)]; exact decide_eq_true (by omega)]; rfl) ?_
      refine Er_run 1 (pc' := 21) (ls' := [some (.ref 0), some (.int (Int32.ofNat k)), some (.long c), none]) (st' := [.int (Int32.ofNat k)]) rfl ?_
      have huc := s_Program_usesCell (h := h) (x := Int32.ofNat k)
      rw [if_neg hn45] at huc
      refine Er_sta1 (av := [.int (Int32.ofNat k)]) (rest := []) rfl rfl ⟨Nat.le_of_ble_eq_true rfl, Nat.le_of_ble_eq_true rfl⟩ rfl rfl huc ?_
      refine Er_run 1 (pc' := bif decide (((0 : Int32)) = 0) then 51 else 27) (ls' := [some (.ref 0), some (.int (Int32.ofNat k)), some (.long c), none]) (st' := []) rfl ?_
      refine Er_pc (t := 51) (show (bif decide (((0 : Int32)) = 0) then 51 else 27) = 51 from by rw [show (decide (((0 : Int32)) = 0)) = true from by decide]; rfl) ?_
      refine Er_run 1 (pc' := 52) (ls' := [some (.ref 0), some (.int (Int32.ofNat k)), some (.long c), none]) (st' := [.int (Int32.ofNat k)]) rfl ?_
      have hlp := s_Program_leaps (h := h) (x := Int32.ofNat k)
      rw [if_neg hn56] at hlp
      refine Er_sta1 (av := [.int (Int32.ofNat k)]) (rest := []) rfl rfl ⟨Nat.le_of_ble_eq_true rfl, Nat.le_of_ble_eq_true rfl⟩ rfl rfl hlp ?_
      refine Er_run 1 (pc' := bif decide (((0 : Int32)) = 0) then 82 else 58) (ls' := [some (.ref 0), some (.int (Int32.ofNat k)), some (.long c), none]) (st' := []) rfl ?_
      refine Er_pc (t := 82) (show (bif decide (((0 : Int32)) = 0) then 82 else 58) = 82 from by rw [show (decide (((0 : Int32)) = 0)) = true from by decide]; rfl) ?_
      refine Er_run 1 (pc' := 83) (ls' := [some (.ref 0), some (.int (Int32.ofNat k)), some (.long c), none]) (st' := [.ref 0]) rfl ?_
      exact Er_invX (q' := 0) (ci := 11) (av := []) rfl rfl ⟨Nat.le_of_ble_eq_true rfl, Nat.le_of_ble_eq_true rfl⟩ rfl hx.1 (s_Mill_needRest0 hx hr) rfl ⟨rfl, rfl⟩
theorem s_Mill_code_f {k : Nat} (hk : k < 19) (ha : jc_arg k c) (hx : isX h) (hr : gI h 0 6 = 0) (hd : GL h 141 D) (hl : D.length = 40) : Run 137 [.ref 0, .int (Int32.ofNat k), .long c] h (.inr 2) (hjunk h) := by
  refine ⟨Nat.le_of_ble_eq_true rfl, ?_⟩
  by_cases h45 : k = 4 ∨ k = 5
  · have hn56 : ¬ (Int32.ofNat k = 15 ∨ Int32.ofNat k = 16) := by rcases h45 with rfl | rfl <;> decide
    have hb0 : ¬ c < 0 := Int64.not_lt.2 (ha.1 h45).1
    have hb4 : c < 4 := (ha.1 h45).2
    show Ev 137 0 [some (.ref 0), some (.int (Int32.ofNat k)), some (.long c), none] [] h _
    refine Er_run 2 (pc' := bif decide ((Int32.ofNat k) < 0) then 10 else 4) (ls' := [some (.ref 0), some (.int (Int32.ofNat k)), some (.long c), none]) (st' := []) rfl ?_
    refine Er_pc (t := 4) (show (bif decide ((Int32.ofNat k) < 0) then 10 else 4) = 4 from by rw [show (decide ((Int32.ofNat k) < 0)) = false from sm_nn (by rw [sm_ofNat_toInt (by omega)]; omega)]; rfl) ?_
    refine Er_run 3 (pc' := bif decide ((Int32.ofNat k) ≤ ((18 : Int32))) then 20 else 10) (ls' := [some (.ref 0), some (.int (Int32.ofNat k)), some (.long c), none]) (st' := []) rfl ?_
    refine Er_pc (t := 20) (show (bif decide ((Int32.ofNat k) ≤ ((18 : Int32))) then 20 else 10) = 20 from by rw [show (decide ((Int32.ofNat k) ≤ ((18 : Int32)))) = true from by rw [show (18 : Int32) = Int32.ofNat 18 from rfl, jx_le (by omega) (by omega)]; exact decide_eq_true (by omega)]; rfl) ?_
    refine Er_run 1 (pc' := 21) (ls' := [some (.ref 0), some (.int (Int32.ofNat k)), some (.long c), none]) (st' := [.int (Int32.ofNat k)]) rfl ?_
    have huc := s_Program_usesCell (h := h) (x := Int32.ofNat k)
    rw [if_pos (h45.elim (fun e => Or.inl (by rw [e]; rfl)) (fun e => Or.inr (by rw [e]; rfl)))] at huc
    refine Er_sta1 (av := [.int (Int32.ofNat k)]) (rest := []) rfl rfl ⟨Nat.le_of_ble_eq_true rfl, Nat.le_of_ble_eq_true rfl⟩ rfl rfl huc ?_
    refine Er_run 1 (pc' := bif decide (((1 : Int32)) = 0) then 51 else 27) (ls' := [some (.ref 0), some (.int (Int32.ofNat k)), some (.long c), none]) (st' := []) rfl ?_
    refine Er_pc (t := 27) (show (bif decide (((1 : Int32)) = 0) then 51 else 27) = 27 from by rw [show (decide (((1 : Int32)) = 0)) = false from by decide]; rfl) ?_
    refine Er_run 4 (pc' := bif decide ((lg_cmp c ((0 : Int64))) < 0) then 41 else 33) (ls' := [some (.ref 0), some (.int (Int32.ofNat k)), some (.long c), none]) (st' := []) rfl ?_
    refine Er_pc (t := 33) (show (bif decide ((lg_cmp c ((0 : Int64))) < 0) then 41 else 33) = 33 from by rw [show (decide ((lg_cmp c ((0 : Int64))) < 0)) = false from by rw [jx_cmplt]; exact decide_eq_false hb0]; rfl) ?_
    refine Er_run 4 (pc' := bif decide ((lg_cmp c ((4 : Int64))) < 0) then 51 else 41) (ls' := [some (.ref 0), some (.int (Int32.ofNat k)), some (.long c), none]) (st' := []) rfl ?_
    refine Er_pc (t := 51) (show (bif decide ((lg_cmp c ((4 : Int64))) < 0) then 51 else 41) = 51 from by rw [show (decide ((lg_cmp c ((4 : Int64))) < 0)) = true from by rw [jx_cmplt]; exact decide_eq_true hb4]; rfl) ?_
    refine Er_run 1 (pc' := 52) (ls' := [some (.ref 0), some (.int (Int32.ofNat k)), some (.long c), none]) (st' := [.int (Int32.ofNat k)]) rfl ?_
    have hlp := s_Program_leaps (h := h) (x := Int32.ofNat k)
    rw [if_neg hn56] at hlp
    refine Er_sta1 (av := [.int (Int32.ofNat k)]) (rest := []) rfl rfl ⟨Nat.le_of_ble_eq_true rfl, Nat.le_of_ble_eq_true rfl⟩ rfl rfl hlp ?_
    refine Er_run 1 (pc' := bif decide (((0 : Int32)) = 0) then 82 else 58) (ls' := [some (.ref 0), some (.int (Int32.ofNat k)), some (.long c), none]) (st' := []) rfl ?_
    refine Er_pc (t := 82) (show (bif decide (((0 : Int32)) = 0) then 82 else 58) = 82 from by rw [show (decide (((0 : Int32)) = 0)) = true from by decide]; rfl) ?_
    refine Er_run 1 (pc' := 83) (ls' := [some (.ref 0), some (.int (Int32.ofNat k)), some (.long c), none]) (st' := [.ref 0]) rfl ?_
    refine Er_inv0 (q' := 0) (ci := 11) (av := []) (rest := []) rfl rfl ⟨Nat.le_of_ble_eq_true rfl, Nat.le_of_ble_eq_true rfl⟩ rfl rfl hx.1 (s_Mill_needRest1 hx hr) ?_
    refine Er_run 1 (pc' := 87) (ls' := [some (.ref 0), some (.int (Int32.ofNat k)), some (.long c), none]) (st' := [.ref 0]) rfl ?_
    refine Er_getR (x := 141) rfl hx.1 hx.2.2.1 ?_
    refine Er_run 2 (pc' := 92) (ls' := [some (.ref 0), some (.int (Int32.ofNat k)), some (.long c), none]) (st' := [.long c, .int (Int32.ofNat k), .ref 141]) rfl ?_
    refine Er_inv1 (q' := 141) (ci := 1) (av := [.int (Int32.ofNat k), .long c]) (rest := []) rfl rfl ⟨Nat.le_of_ble_eq_true rfl, Nat.le_of_ble_eq_true rfl⟩ rfl rfl hd.1.1 (s_Program_add0 hd hl) ?_
    refine Er_run 1 (pc' := bif !decide (((0 : Int32)) = 0) then 108 else 98) (ls' := [some (.ref 0), some (.int (Int32.ofNat k)), some (.long c), none]) (st' := []) rfl ?_
    refine Er_pc (t := 98) (show (bif !decide (((0 : Int32)) = 0) then 108 else 98) = 98 from by rw [show (!decide (((0 : Int32)) = 0)) = false from by decide]; rfl) ?_
    exact Er_fin rfl rfl ⟨rfl, rfl⟩
  · have hn45 : ¬ (Int32.ofNat k = 4 ∨ Int32.ofNat k = 5) := by
      have hq : k ≠ 4 ∧ k ≠ 5 := by omega
      exact (fun z => z.elim (fun e => hq.1 (by have := jx_eq (i := k) (j := 4) (by omega) (by omega); rw [decide_eq_true (show Int32.ofNat k = Int32.ofNat 4 from e)] at this; exact of_decide_eq_true this.symm)) (fun e => hq.2 (by have := jx_eq (i := k) (j := 5) (by omega) (by omega); rw [decide_eq_true (show Int32.ofNat k = Int32.ofNat 5 from e)] at this; exact of_decide_eq_true this.symm)))
    by_cases h56 : k = 15 ∨ k = 16
    · have hb0 : ¬ c < 0 := Int64.not_lt.2 (ha.2 h56).1
      have hb4 : c ≤ 40 := (ha.2 h56).2
      show Ev 137 0 [some (.ref 0), some (.int (Int32.ofNat k)), some (.long c), none] [] h _
      refine Er_run 2 (pc' := bif decide ((Int32.ofNat k) < 0) then 10 else 4) (ls' := [some (.ref 0), some (.int (Int32.ofNat k)), some (.long c), none]) (st' := []) rfl ?_
      refine Er_pc (t := 4) (show (bif decide ((Int32.ofNat k) < 0) then 10 else 4) = 4 from by rw [show (decide ((Int32.ofNat k) < 0)) = false from sm_nn (by rw [sm_ofNat_toInt (by omega)]; omega)]; rfl) ?_
      refine Er_run 3 (pc' := bif decide ((Int32.ofNat k) ≤ ((18 : Int32))) then 20 else 10) (ls' := [some (.ref 0), some (.int (Int32.ofNat k)), some (.long c), none]) (st' := []) rfl ?_
      refine Er_pc (t := 20) (show (bif decide ((Int32.ofNat k) ≤ ((18 : Int32))) then 20 else 10) = 20 from by rw [show (decide ((Int32.ofNat k) ≤ ((18 : Int32)))) = true from by rw [show (18 : Int32) = Int32.ofNat 18 from rfl, jx_le (by omega) (by omega)]; exact decide_eq_true (by omega)]; rfl) ?_
      refine Er_run 1 (pc' := 21) (ls' := [some (.ref 0), some (.int (Int32.ofNat k)), some (.long c), none]) (st' := [.int (Int32.ofNat k)]) rfl ?_
      have huc := s_Program_usesCell (h := h) (x := Int32.ofNat k)
      rw [if_neg hn45] at huc
      refine Er_sta1 (av := [.int (Int32.ofNat k)]) (rest := []) rfl rfl ⟨Nat.le_of_ble_eq_true rfl, Nat.le_of_ble_eq_true rfl⟩ rfl rfl huc ?_
      refine Er_run 1 (pc' := bif decide (((0 : Int32)) = 0) then 51 else 27) (ls' := [some (.ref 0), some (.int (Int32.ofNat k)), some (.long c), none]) (st' := []) rfl ?_
      refine Er_pc (t := 51) (show (bif decide (((0 : Int32)) = 0) then 51 else 27) = 51 from by rw [show (decide (((0 : Int32)) = 0)) = true from by decide]; rfl) ?_
      refine Er_run 1 (pc' := 52) (ls' := [some (.ref 0), some (.int (Int32.ofNat k)), some (.long c), none]) (st' := [.int (Int32.ofNat k)]) rfl ?_
      have hlp := s_Program_leaps (h := h) (x := Int32.ofNat k)
      rw [if_pos (h56.elim (fun e => Or.inl (by rw [e]; rfl)) (fun e => Or.inr (by rw [e]; rfl)))] at hlp
      refine Er_sta1 (av := [.int (Int32.ofNat k)]) (rest := []) rfl rfl ⟨Nat.le_of_ble_eq_true rfl, Nat.le_of_ble_eq_true rfl⟩ rfl rfl hlp ?_
      refine Er_run 1 (pc' := bif decide (((1 : Int32)) = 0) then 82 else 58) (ls' := [some (.ref 0), some (.int (Int32.ofNat k)), some (.long c), none]) (st' := []) rfl ?_
      refine Er_pc (t := 58) (show (bif decide (((1 : Int32)) = 0) then 82 else 58) = 58 from by rw [show (decide (((1 : Int32)) = 0)) = false from by decide]; rfl) ?_
      refine Er_run 4 (pc' := bif decide ((lg_cmp c ((0 : Int64))) < 0) then 72 else 64) (ls' := [some (.ref 0), some (.int (Int32.ofNat k)), some (.long c), none]) (st' := []) rfl ?_
      refine Er_pc (t := 64) (show (bif decide ((lg_cmp c ((0 : Int64))) < 0) then 72 else 64) = 64 from by rw [show (decide ((lg_cmp c ((0 : Int64))) < 0)) = false from by rw [jx_cmplt]; exact decide_eq_false hb0]; rfl) ?_
      refine Er_run 4 (pc' := bif decide ((lg_cmp c ((40 : Int64))) ≤ 0) then 82 else 72) (ls' := [some (.ref 0), some (.int (Int32.ofNat k)), some (.long c), none]) (st' := []) rfl ?_
      refine Er_pc (t := 82) (show (bif decide ((lg_cmp c ((40 : Int64))) ≤ 0) then 82 else 72) = 82 from by rw [show (decide ((lg_cmp c ((40 : Int64))) ≤ 0)) = true from by rw [jx_cmple]; exact decide_eq_true hb4]; rfl) ?_
      refine Er_run 1 (pc' := 83) (ls' := [some (.ref 0), some (.int (Int32.ofNat k)), some (.long c), none]) (st' := [.ref 0]) rfl ?_
      refine Er_inv0 (q' := 0) (ci := 11) (av := []) (rest := []) rfl rfl ⟨Nat.le_of_ble_eq_true rfl, Nat.le_of_ble_eq_true rfl⟩ rfl rfl hx.1 (s_Mill_needRest1 hx hr) ?_
      refine Er_run 1 (pc' := 87) (ls' := [some (.ref 0), some (.int (Int32.ofNat k)), some (.long c), none]) (st' := [.ref 0]) rfl ?_
      refine Er_getR (x := 141) rfl hx.1 hx.2.2.1 ?_
      refine Er_run 2 (pc' := 92) (ls' := [some (.ref 0), some (.int (Int32.ofNat k)), some (.long c), none]) (st' := [.long c, .int (Int32.ofNat k), .ref 141]) rfl ?_
      refine Er_inv1 (q' := 141) (ci := 1) (av := [.int (Int32.ofNat k), .long c]) (rest := []) rfl rfl ⟨Nat.le_of_ble_eq_true rfl, Nat.le_of_ble_eq_true rfl⟩ rfl rfl hd.1.1 (s_Program_add0 hd hl) ?_
      refine Er_run 1 (pc' := bif !decide (((0 : Int32)) = 0) then 108 else 98) (ls' := [some (.ref 0), some (.int (Int32.ofNat k)), some (.long c), none]) (st' := []) rfl ?_
      refine Er_pc (t := 98) (show (bif !decide (((0 : Int32)) = 0) then 108 else 98) = 98 from by rw [show (!decide (((0 : Int32)) = 0)) = false from by decide]; rfl) ?_
      exact Er_fin rfl rfl ⟨rfl, rfl⟩
    · have hn56 : ¬ (Int32.ofNat k = 15 ∨ Int32.ofNat k = 16) := by
        have hq : k ≠ 15 ∧ k ≠ 16 := by omega
        exact (fun z => z.elim (fun e => hq.1 (by have := jx_eq (i := k) (j := 15) (by omega) (by omega); rw [decide_eq_true (show Int32.ofNat k = Int32.ofNat 15 from e)] at this; exact of_decide_eq_true this.symm)) (fun e => hq.2 (by have := jx_eq (i := k) (j := 16) (by omega) (by omega); rw [decide_eq_true (show Int32.ofNat k = Int32.ofNat 16 from e)] at this; exact of_decide_eq_true this.symm)))
      show Ev 137 0 [some (.ref 0), some (.int (Int32.ofNat k)), some (.long c), none] [] h _
      refine Er_run 2 (pc' := bif decide ((Int32.ofNat k) < 0) then 10 else 4) (ls' := [some (.ref 0), some (.int (Int32.ofNat k)), some (.long c), none]) (st' := []) rfl ?_
      refine Er_pc (t := 4) (show (bif decide ((Int32.ofNat k) < 0) then 10 else 4) = 4 from by rw [show (decide ((Int32.ofNat k) < 0)) = false from sm_nn (by rw [sm_ofNat_toInt (by omega)]; omega)]; rfl) ?_
      refine Er_run 3 (pc' := bif decide ((Int32.ofNat k) ≤ ((18 : Int32))) then 20 else 10) (ls' := [some (.ref 0), some (.int (Int32.ofNat k)), some (.long c), none]) (st' := []) rfl ?_
      refine Er_pc (t := 20) (show (bif decide ((Int32.ofNat k) ≤ ((18 : Int32))) then 20 else 10) = 20 from by rw [show (decide ((Int32.ofNat k) ≤ ((18 : Int32)))) = true from by rw [show (18 : Int32) = Int32.ofNat 18 from rfl, jx_le (by omega) (by omega)]; exact decide_eq_true (by omega)]; rfl) ?_
      refine Er_run 1 (pc' := 21) (ls' := [some (.ref 0), some (.int (Int32.ofNat k)), some (.long c), none]) (st' := [.int (Int32.ofNat k)]) rfl ?_
      have huc := s_Program_usesCell (h := h) (x := Int32.ofNat k)
      rw [if_neg hn45] at huc
      refine Er_sta1 (av := [.int (Int32.ofNat k)]) (rest := []) rfl rfl ⟨Nat.le_of_ble_eq_true rfl, Nat.le_of_ble_eq_true rfl⟩ rfl rfl huc ?_
      refine Er_run 1 (pc' := bif decide (((0 : Int32)) = 0) then 51 else 27) (ls' := [some (.ref 0), some (.int (Int32.ofNat k)), some (.long c), none]) (st' := []) rfl ?_
      refine Er_pc (t := 51) (show (bif decide (((0 : Int32)) = 0) then 51 else 27) = 51 from by rw [show (decide (((0 : Int32)) = 0)) = true from by decide]; rfl) ?_
      refine Er_run 1 (pc' := 52) (ls' := [some (.ref 0), some (.int (Int32.ofNat k)), some (.long c), none]) (st' := [.int (Int32.ofNat k)]) rfl ?_
      have hlp := s_Program_leaps (h := h) (x := Int32.ofNat k)
      rw [if_neg hn56] at hlp
      refine Er_sta1 (av := [.int (Int32.ofNat k)]) (rest := []) rfl rfl ⟨Nat.le_of_ble_eq_true rfl, Nat.le_of_ble_eq_true rfl⟩ rfl rfl hlp ?_
      refine Er_run 1 (pc' := bif decide (((0 : Int32)) = 0) then 82 else 58) (ls' := [some (.ref 0), some (.int (Int32.ofNat k)), some (.long c), none]) (st' := []) rfl ?_
      refine Er_pc (t := 82) (show (bif decide (((0 : Int32)) = 0) then 82 else 58) = 82 from by rw [show (decide (((0 : Int32)) = 0)) = true from by decide]; rfl) ?_
      refine Er_run 1 (pc' := 83) (ls' := [some (.ref 0), some (.int (Int32.ofNat k)), some (.long c), none]) (st' := [.ref 0]) rfl ?_
      refine Er_inv0 (q' := 0) (ci := 11) (av := []) (rest := []) rfl rfl ⟨Nat.le_of_ble_eq_true rfl, Nat.le_of_ble_eq_true rfl⟩ rfl rfl hx.1 (s_Mill_needRest1 hx hr) ?_
      refine Er_run 1 (pc' := 87) (ls' := [some (.ref 0), some (.int (Int32.ofNat k)), some (.long c), none]) (st' := [.ref 0]) rfl ?_
      refine Er_getR (x := 141) rfl hx.1 hx.2.2.1 ?_
      refine Er_run 2 (pc' := 92) (ls' := [some (.ref 0), some (.int (Int32.ofNat k)), some (.long c), none]) (st' := [.long c, .int (Int32.ofNat k), .ref 141]) rfl ?_
      refine Er_inv1 (q' := 141) (ci := 1) (av := [.int (Int32.ofNat k), .long c]) (rest := []) rfl rfl ⟨Nat.le_of_ble_eq_true rfl, Nat.le_of_ble_eq_true rfl⟩ rfl rfl hd.1.1 (s_Program_add0 hd hl) ?_
      refine Er_run 1 (pc' := bif !decide (((0 : Int32)) = 0) then 108 else 98) (ls' := [some (.ref 0), some (.int (Int32.ofNat k)), some (.long c), none]) (st' := []) rfl ?_
      refine Er_pc (t := 98) (show (bif !decide (((0 : Int32)) = 0) then 108 else 98) = 98 from by rw [show (!decide (((0 : Int32)) = 0)) = false from by decide]; rfl) ?_
      exact Er_fin rfl rfl ⟨rfl, rfl⟩
theorem s_Mill_code {k : Nat} (hk : k < 19) (ha : jc_arg k c) (hx : isX h) (hr : gI h 0 6 = 0) (hd : GL h 141 D) (hl : D.length < 40) : ∃ h', Run 137 [.ref 0, .int (Int32.ofNat k), .long c] h (.inl (some (.int (Int32.ofNat (D.length + 1))))) h' ∧ GL h' 141 (D ++ [(Int32.ofNat k, c)]) ∧ Fr 141 (141 + 3) h h' := by
  have hx : Ev 137 0 (sm_pad (sm_ent [.ref 0, .int (Int32.ofNat k), .long c]) (sm_prog.2.1 137)) [] h (fun r h1 => r = .inl (some (.int (Int32.ofNat (D.length + 1)))) ∧ GL h1 141 (D ++ [(Int32.ofNat k, c)]) ∧ Fr 141 (141 + 3) h h1) := by
    by_cases h45 : k = 4 ∨ k = 5
    · have hn56 : ¬ (Int32.ofNat k = 15 ∨ Int32.ofNat k = 16) := by rcases h45 with rfl | rfl <;> decide
      have hb0 : ¬ c < 0 := Int64.not_lt.2 (ha.1 h45).1
      have hb4 : c < 4 := (ha.1 h45).2
      show Ev 137 0 [some (.ref 0), some (.int (Int32.ofNat k)), some (.long c), none] [] h _
      refine Er_run 2 (pc' := bif decide ((Int32.ofNat k) < 0) then 10 else 4) (ls' := [some (.ref 0), some (.int (Int32.ofNat k)), some (.long c), none]) (st' := []) rfl ?_
      refine Er_pc (t := 4) (show (bif decide ((Int32.ofNat k) < 0) then 10 else 4) = 4 from by rw [show (decide ((Int32.ofNat k) < 0)) = false from sm_nn (by rw [sm_ofNat_toInt (by omega)]; omega)]; rfl) ?_
      refine Er_run 3 (pc' := bif decide ((Int32.ofNat k) ≤ ((18 : Int32))) then 20 else 10) (ls' := [some (.ref 0), some (.int (Int32.ofNat k)), some (.long c), none]) (st' := []) rfl ?_
      refine Er_pc (t := 20) (show (bif decide ((Int32.ofNat k) ≤ ((18 : Int32))) then 20 else 10) = 20 from by rw [show (decide ((Int32.ofNat k) ≤ ((18 : Int32)))) = true from by rw [show (18 : Int32) = Int32.ofNat 18 from rfl, jx_le (by omega) (by omega)]; exact decide_eq_true (by omega)]; rfl) ?_
      refine Er_run 1 (pc' := 21) (ls' := [some (.ref 0), some (.int (Int32.ofNat k)), some (.long c), none]) (st' := [.int (Int32.ofNat k)]) rfl ?_
      have huc := s_Program_usesCell (h := h) (x := Int32.ofNat k)
      rw [if_pos (h45.elim (fun e => Or.inl (by rw [e]; rfl)) (fun e => Or.inr (by rw [e]; rfl)))] at huc
      refine Er_sta1 (av := [.int (Int32.ofNat k)]) (rest := []) rfl rfl ⟨Nat.le_of_ble_eq_true rfl, Nat.le_of_ble_eq_true rfl⟩ rfl rfl huc ?_
      refine Er_run 1 (pc' := bif decide (((1 : Int32)) = 0) then 51 else 27) (ls' := [some (.ref 0), some (.int (Int32.ofNat k)), some (.long c), none]) (st' := []) rfl ?_
      refine Er_pc (t := 27) (show (bif decide (((1 : Int32)) = 0) then 51 else 27) = 27 from by rw [show (decide (((1 : Int32)) = 0)) = false from by decide]; rfl) ?_
      refine Er_run 4 (pc' := bif decide ((lg_cmp c ((0 : Int64))) < 0) then 41 else 33) (ls' := [some (.ref 0), some (.int (Int32.ofNat k)), some (.long c), none]) (st' := []) rfl ?_
      refine Er_pc (t := 33) (show (bif decide ((lg_cmp c ((0 : Int64))) < 0) then 41 else 33) = 33 from by rw [show (decide ((lg_cmp c ((0 : Int64))) < 0)) = false from by rw [jx_cmplt]; exact decide_eq_false hb0]; rfl) ?_
      refine Er_run 4 (pc' := bif decide ((lg_cmp c ((4 : Int64))) < 0) then 51 else 41) (ls' := [some (.ref 0), some (.int (Int32.ofNat k)), some (.long c), none]) (st' := []) rfl ?_
      refine Er_pc (t := 51) (show (bif decide ((lg_cmp c ((4 : Int64))) < 0) then 51 else 41) = 51 from by rw [show (decide ((lg_cmp c ((4 : Int64))) < 0)) = true from by rw [jx_cmplt]; exact decide_eq_true hb4]; rfl) ?_
      refine Er_run 1 (pc' := 52) (ls' := [some (.ref 0), some (.int (Int32.ofNat k)), some (.long c), none]) (st' := [.int (Int32.ofNat k)]) rfl ?_
      have hlp := s_Program_leaps (h := h) (x := Int32.ofNat k)
      rw [if_neg hn56] at hlp
      refine Er_sta1 (av := [.int (Int32.ofNat k)]) (rest := []) rfl rfl ⟨Nat.le_of_ble_eq_true rfl, Nat.le_of_ble_eq_true rfl⟩ rfl rfl hlp ?_
      refine Er_run 1 (pc' := bif decide (((0 : Int32)) = 0) then 82 else 58) (ls' := [some (.ref 0), some (.int (Int32.ofNat k)), some (.long c), none]) (st' := []) rfl ?_
      refine Er_pc (t := 82) (show (bif decide (((0 : Int32)) = 0) then 82 else 58) = 82 from by rw [show (decide (((0 : Int32)) = 0)) = true from by decide]; rfl) ?_
      refine Er_run 1 (pc' := 83) (ls' := [some (.ref 0), some (.int (Int32.ofNat k)), some (.long c), none]) (st' := [.ref 0]) rfl ?_
      refine Er_inv0 (q' := 0) (ci := 11) (av := []) (rest := []) rfl rfl ⟨Nat.le_of_ble_eq_true rfl, Nat.le_of_ble_eq_true rfl⟩ rfl rfl hx.1 (s_Mill_needRest1 hx hr) ?_
      refine Er_run 1 (pc' := 87) (ls' := [some (.ref 0), some (.int (Int32.ofNat k)), some (.long c), none]) (st' := [.ref 0]) rfl ?_
      refine Er_getR (x := 141) rfl hx.1 hx.2.2.1 ?_
      refine Er_run 2 (pc' := 92) (ls' := [some (.ref 0), some (.int (Int32.ofNat k)), some (.long c), none]) (st' := [.long c, .int (Int32.ofNat k), .ref 141]) rfl ?_
      obtain ⟨h1, r1, p1, f1⟩ := s_Program_add1 (x := Int32.ofNat k) (y := c) hd hl
      refine Er_inv1 (q' := 141) (ci := 1) (av := [.int (Int32.ofNat k), .long c]) (rest := []) rfl rfl ⟨Nat.le_of_ble_eq_true rfl, Nat.le_of_ble_eq_true rfl⟩ rfl rfl hd.1.1 r1 ?_
      refine Er_run 1 (pc' := bif !decide (((1 : Int32)) = 0) then 108 else 98) (ls' := [some (.ref 0), some (.int (Int32.ofNat k)), some (.long c), none]) (st' := []) rfl ?_
      refine Er_pc (t := 108) (show (bif !decide (((1 : Int32)) = 0) then 108 else 98) = 108 from by rw [show (!decide (((1 : Int32)) = 0)) = true from by decide]; rfl) ?_
      refine Er_run 1 (pc' := 109) (ls' := [some (.ref 0), some (.int (Int32.ofNat k)), some (.long c), none]) (st' := [.ref 0]) rfl ?_
      refine Er_getR (x := 141) rfl (isX_fr f1 (by omega) (by omega) hx).1 (isX_fr f1 (by omega) (by omega) hx).2.2.1 ?_
      have hle := s_Program_length p1
      rw [List.length_append, List.length_singleton] at hle
      refine Er_inv1 (q' := 141) (ci := 1) (av := []) (rest := []) rfl rfl ⟨Nat.le_of_ble_eq_true rfl, Nat.le_of_ble_eq_true rfl⟩ rfl rfl p1.1.1 hle ?_
      exact Er_fin rfl rfl ⟨rfl, p1, f1⟩
    · have hn45 : ¬ (Int32.ofNat k = 4 ∨ Int32.ofNat k = 5) := by
        have hq : k ≠ 4 ∧ k ≠ 5 := by omega
        exact (fun z => z.elim (fun e => hq.1 (by have := jx_eq (i := k) (j := 4) (by omega) (by omega); rw [decide_eq_true (show Int32.ofNat k = Int32.ofNat 4 from e)] at this; exact of_decide_eq_true this.symm)) (fun e => hq.2 (by have := jx_eq (i := k) (j := 5) (by omega) (by omega); rw [decide_eq_true (show Int32.ofNat k = Int32.ofNat 5 from e)] at this; exact of_decide_eq_true this.symm)))
      by_cases h56 : k = 15 ∨ k = 16
      · have hb0 : ¬ c < 0 := Int64.not_lt.2 (ha.2 h56).1
        have hb4 : c ≤ 40 := (ha.2 h56).2
        show Ev 137 0 [some (.ref 0), some (.int (Int32.ofNat k)), some (.long c), none] [] h _
        refine Er_run 2 (pc' := bif decide ((Int32.ofNat k) < 0) then 10 else 4) (ls' := [some (.ref 0), some (.int (Int32.ofNat k)), some (.long c), none]) (st' := []) rfl ?_
        refine Er_pc (t := 4) (show (bif decide ((Int32.ofNat k) < 0) then 10 else 4) = 4 from by rw [show (decide ((Int32.ofNat k) < 0)) = false from sm_nn (by rw [sm_ofNat_toInt (by omega)]; omega)]; rfl) ?_
        refine Er_run 3 (pc' := bif decide ((Int32.ofNat k) ≤ ((18 : Int32))) then 20 else 10) (ls' := [some (.ref 0), some (.int (Int32.ofNat k)), some (.long c), none]) (st' := []) rfl ?_
        refine Er_pc (t := 20) (show (bif decide ((Int32.ofNat k) ≤ ((18 : Int32))) then 20 else 10) = 20 from by rw [show (decide ((Int32.ofNat k) ≤ ((18 : Int32)))) = true from by rw [show (18 : Int32) = Int32.ofNat 18 from rfl, jx_le (by omega) (by omega)]; exact decide_eq_true (by omega)]; rfl) ?_
        refine Er_run 1 (pc' := 21) (ls' := [some (.ref 0), some (.int (Int32.ofNat k)), some (.long c), none]) (st' := [.int (Int32.ofNat k)]) rfl ?_
        have huc := s_Program_usesCell (h := h) (x := Int32.ofNat k)
        rw [if_neg hn45] at huc
        refine Er_sta1 (av := [.int (Int32.ofNat k)]) (rest := []) rfl rfl ⟨Nat.le_of_ble_eq_true rfl, Nat.le_of_ble_eq_true rfl⟩ rfl rfl huc ?_
        refine Er_run 1 (pc' := bif decide (((0 : Int32)) = 0) then 51 else 27) (ls' := [some (.ref 0), some (.int (Int32.ofNat k)), some (.long c), none]) (st' := []) rfl ?_
        refine Er_pc (t := 51) (show (bif decide (((0 : Int32)) = 0) then 51 else 27) = 51 from by rw [show (decide (((0 : Int32)) = 0)) = true from by decide]; rfl) ?_
        refine Er_run 1 (pc' := 52) (ls' := [some (.ref 0), some (.int (Int32.ofNat k)), some (.long c), none]) (st' := [.int (Int32.ofNat k)]) rfl ?_
        have hlp := s_Program_leaps (h := h) (x := Int32.ofNat k)
        rw [if_pos (h56.elim (fun e => Or.inl (by rw [e]; rfl)) (fun e => Or.inr (by rw [e]; rfl)))] at hlp
        refine Er_sta1 (av := [.int (Int32.ofNat k)]) (rest := []) rfl rfl ⟨Nat.le_of_ble_eq_true rfl, Nat.le_of_ble_eq_true rfl⟩ rfl rfl hlp ?_
        refine Er_run 1 (pc' := bif decide (((1 : Int32)) = 0) then 82 else 58) (ls' := [some (.ref 0), some (.int (Int32.ofNat k)), some (.long c), none]) (st' := []) rfl ?_
        refine Er_pc (t := 58) (show (bif decide (((1 : Int32)) = 0) then 82 else 58) = 58 from by rw [show (decide (((1 : Int32)) = 0)) = false from by decide]; rfl) ?_
        refine Er_run 4 (pc' := bif decide ((lg_cmp c ((0 : Int64))) < 0) then 72 else 64) (ls' := [some (.ref 0), some (.int (Int32.ofNat k)), some (.long c), none]) (st' := []) rfl ?_
        refine Er_pc (t := 64) (show (bif decide ((lg_cmp c ((0 : Int64))) < 0) then 72 else 64) = 64 from by rw [show (decide ((lg_cmp c ((0 : Int64))) < 0)) = false from by rw [jx_cmplt]; exact decide_eq_false hb0]; rfl) ?_
        refine Er_run 4 (pc' := bif decide ((lg_cmp c ((40 : Int64))) ≤ 0) then 82 else 72) (ls' := [some (.ref 0), some (.int (Int32.ofNat k)), some (.long c), none]) (st' := []) rfl ?_
        refine Er_pc (t := 82) (show (bif decide ((lg_cmp c ((40 : Int64))) ≤ 0) then 82 else 72) = 82 from by rw [show (decide ((lg_cmp c ((40 : Int64))) ≤ 0)) = true from by rw [jx_cmple]; exact decide_eq_true hb4]; rfl) ?_
        refine Er_run 1 (pc' := 83) (ls' := [some (.ref 0), some (.int (Int32.ofNat k)), some (.long c), none]) (st' := [.ref 0]) rfl ?_
        refine Er_inv0 (q' := 0) (ci := 11) (av := []) (rest := []) rfl rfl ⟨Nat.le_of_ble_eq_true rfl, Nat.le_of_ble_eq_true rfl⟩ rfl rfl hx.1 (s_Mill_needRest1 hx hr) ?_
        refine Er_run 1 (pc' := 87) (ls' := [some (.ref 0), some (.int (Int32.ofNat k)), some (.long c), none]) (st' := [.ref 0]) rfl ?_
        refine Er_getR (x := 141) rfl hx.1 hx.2.2.1 ?_
        refine Er_run 2 (pc' := 92) (ls' := [some (.ref 0), some (.int (Int32.ofNat k)), some (.long c), none]) (st' := [.long c, .int (Int32.ofNat k), .ref 141]) rfl ?_
        obtain ⟨h1, r1, p1, f1⟩ := s_Program_add1 (x := Int32.ofNat k) (y := c) hd hl
        refine Er_inv1 (q' := 141) (ci := 1) (av := [.int (Int32.ofNat k), .long c]) (rest := []) rfl rfl ⟨Nat.le_of_ble_eq_true rfl, Nat.le_of_ble_eq_true rfl⟩ rfl rfl hd.1.1 r1 ?_
        refine Er_run 1 (pc' := bif !decide (((1 : Int32)) = 0) then 108 else 98) (ls' := [some (.ref 0), some (.int (Int32.ofNat k)), some (.long c), none]) (st' := []) rfl ?_
        refine Er_pc (t := 108) (show (bif !decide (((1 : Int32)) = 0) then 108 else 98) = 108 from by rw [show (!decide (((1 : Int32)) = 0)) = true from by decide]; rfl) ?_
        refine Er_run 1 (pc' := 109) (ls' := [some (.ref 0), some (.int (Int32.ofNat k)), some (.long c), none]) (st' := [.ref 0]) rfl ?_
        refine Er_getR (x := 141) rfl (isX_fr f1 (by omega) (by omega) hx).1 (isX_fr f1 (by omega) (by omega) hx).2.2.1 ?_
        have hle := s_Program_length p1
        rw [List.length_append, List.length_singleton] at hle
        refine Er_inv1 (q' := 141) (ci := 1) (av := []) (rest := []) rfl rfl ⟨Nat.le_of_ble_eq_true rfl, Nat.le_of_ble_eq_true rfl⟩ rfl rfl p1.1.1 hle ?_
        exact Er_fin rfl rfl ⟨rfl, p1, f1⟩
      · have hn56 : ¬ (Int32.ofNat k = 15 ∨ Int32.ofNat k = 16) := by
          have hq : k ≠ 15 ∧ k ≠ 16 := by omega
          exact (fun z => z.elim (fun e => hq.1 (by have := jx_eq (i := k) (j := 15) (by omega) (by omega); rw [decide_eq_true (show Int32.ofNat k = Int32.ofNat 15 from e)] at this; exact of_decide_eq_true this.symm)) (fun e => hq.2 (by have := jx_eq (i := k) (j := 16) (by omega) (by omega); rw [decide_eq_true (show Int32.ofNat k = Int32.ofNat 16 from e)] at this; exact of_decide_eq_true this.symm)))
        show Ev 137 0 [some (.ref 0), some (.int (Int32.ofNat k)), some (.long c), none] [] h _
        refine Er_run 2 (pc' := bif decide ((Int32.ofNat k) < 0) then 10 else 4) (ls' := [some (.ref 0), some (.int (Int32.ofNat k)), some (.long c), none]) (st' := []) rfl ?_
        refine Er_pc (t := 4) (show (bif decide ((Int32.ofNat k) < 0) then 10 else 4) = 4 from by rw [show (decide ((Int32.ofNat k) < 0)) = false from sm_nn (by rw [sm_ofNat_toInt (by omega)]; omega)]; rfl) ?_
        refine Er_run 3 (pc' := bif decide ((Int32.ofNat k) ≤ ((18 : Int32))) then 20 else 10) (ls' := [some (.ref 0), some (.int (Int32.ofNat k)), some (.long c), none]) (st' := []) rfl ?_
        refine Er_pc (t := 20) (show (bif decide ((Int32.ofNat k) ≤ ((18 : Int32))) then 20 else 10) = 20 from by rw [show (decide ((Int32.ofNat k) ≤ ((18 : Int32)))) = true from by rw [show (18 : Int32) = Int32.ofNat 18 from rfl, jx_le (by omega) (by omega)]; exact decide_eq_true (by omega)]; rfl) ?_
        refine Er_run 1 (pc' := 21) (ls' := [some (.ref 0), some (.int (Int32.ofNat k)), some (.long c), none]) (st' := [.int (Int32.ofNat k)]) rfl ?_
        have huc := s_Program_usesCell (h := h) (x := Int32.ofNat k)
        rw [if_neg hn45] at huc
        refine Er_sta1 (av := [.int (Int32.ofNat k)]) (rest := []) rfl rfl ⟨Nat.le_of_ble_eq_true rfl, Nat.le_of_ble_eq_true rfl⟩ rfl rfl huc ?_
        refine Er_run 1 (pc' := bif decide (((0 : Int32)) = 0) then 51 else 27) (ls' := [some (.ref 0), some (.int (Int32.ofNat k)), some (.long c), none]) (st' := []) rfl ?_
        refine Er_pc (t := 51) (show (bif decide (((0 : Int32)) = 0) then 51 else 27) = 51 from by rw [show (decide (((0 : Int32)) = 0)) = true from by decide]; rfl) ?_
        refine Er_run 1 (pc' := 52) (ls' := [some (.ref 0), some (.int (Int32.ofNat k)), some (.long c), none]) (st' := [.int (Int32.ofNat k)]) rfl ?_
        have hlp := s_Program_leaps (h := h) (x := Int32.ofNat k)
        rw [if_neg hn56] at hlp
        refine Er_sta1 (av := [.int (Int32.ofNat k)]) (rest := []) rfl rfl ⟨Nat.le_of_ble_eq_true rfl, Nat.le_of_ble_eq_true rfl⟩ rfl rfl hlp ?_
        refine Er_run 1 (pc' := bif decide (((0 : Int32)) = 0) then 82 else 58) (ls' := [some (.ref 0), some (.int (Int32.ofNat k)), some (.long c), none]) (st' := []) rfl ?_
        refine Er_pc (t := 82) (show (bif decide (((0 : Int32)) = 0) then 82 else 58) = 82 from by rw [show (decide (((0 : Int32)) = 0)) = true from by decide]; rfl) ?_
        refine Er_run 1 (pc' := 83) (ls' := [some (.ref 0), some (.int (Int32.ofNat k)), some (.long c), none]) (st' := [.ref 0]) rfl ?_
        refine Er_inv0 (q' := 0) (ci := 11) (av := []) (rest := []) rfl rfl ⟨Nat.le_of_ble_eq_true rfl, Nat.le_of_ble_eq_true rfl⟩ rfl rfl hx.1 (s_Mill_needRest1 hx hr) ?_
        refine Er_run 1 (pc' := 87) (ls' := [some (.ref 0), some (.int (Int32.ofNat k)), some (.long c), none]) (st' := [.ref 0]) rfl ?_
        refine Er_getR (x := 141) rfl hx.1 hx.2.2.1 ?_
        refine Er_run 2 (pc' := 92) (ls' := [some (.ref 0), some (.int (Int32.ofNat k)), some (.long c), none]) (st' := [.long c, .int (Int32.ofNat k), .ref 141]) rfl ?_
        obtain ⟨h1, r1, p1, f1⟩ := s_Program_add1 (x := Int32.ofNat k) (y := c) hd hl
        refine Er_inv1 (q' := 141) (ci := 1) (av := [.int (Int32.ofNat k), .long c]) (rest := []) rfl rfl ⟨Nat.le_of_ble_eq_true rfl, Nat.le_of_ble_eq_true rfl⟩ rfl rfl hd.1.1 r1 ?_
        refine Er_run 1 (pc' := bif !decide (((1 : Int32)) = 0) then 108 else 98) (ls' := [some (.ref 0), some (.int (Int32.ofNat k)), some (.long c), none]) (st' := []) rfl ?_
        refine Er_pc (t := 108) (show (bif !decide (((1 : Int32)) = 0) then 108 else 98) = 108 from by rw [show (!decide (((1 : Int32)) = 0)) = true from by decide]; rfl) ?_
        refine Er_run 1 (pc' := 109) (ls' := [some (.ref 0), some (.int (Int32.ofNat k)), some (.long c), none]) (st' := [.ref 0]) rfl ?_
        refine Er_getR (x := 141) rfl (isX_fr f1 (by omega) (by omega) hx).1 (isX_fr f1 (by omega) (by omega) hx).2.2.1 ?_
        have hle := s_Program_length p1
        rw [List.length_append, List.length_singleton] at hle
        refine Er_inv1 (q' := 141) (ci := 1) (av := []) (rest := []) rfl rfl ⟨Nat.le_of_ble_eq_true rfl, Nat.le_of_ble_eq_true rfl⟩ rfl rfl p1.1.1 hle ?_
        exact Er_fin rfl rfl ⟨rfl, p1, f1⟩
  obtain ⟨r, h', hr, e, hq⟩ := Run_of (Nat.le_of_ble_eq_true rfl) hx
  subst e
  exact ⟨h', hr, hq⟩
theorem s_Mill_code_x (hf : jn_out x 19) (hx : isX h) : Run 137 [.ref 0, .int x, .long c] h (.inr 1) (hjunk h) := by
  have h1 : ¬ x < 0 → (19 : Int) ≤ x.toInt := by
    intro h0
    rw [Int32.lt_iff_toInt_lt] at h0
    have h0' : ¬ x.toInt < 0 := h0
    rw [jn_out] at hf
    omega
  refine ⟨Nat.le_of_ble_eq_true rfl, ?_⟩
  by_cases h0 : x < 0
  · skip
    show Ev 137 0 [some (.ref 0), some (.int x), some (.long c), none] [] h _
    refine Er_run 2 (pc' := bif decide (x < 0) then 10 else 4) (ls' := [some (.ref 0), some (.int x), some (.long c), none]) (st' := []) rfl ?_
    refine Er_pc (t := 10) (show (bif decide (x < 0) then 10 else 4) = 10 from by rw [show (decide (x < 0)) = true from decide_eq_true h0]; rfl) ?_
    exact Er_fin rfl rfl ⟨rfl, rfl⟩
  · have h2 := h1 h0
    show Ev 137 0 [some (.ref 0), some (.int x), some (.long c), none] [] h _
    refine Er_run 2 (pc' := bif decide (x < 0) then 10 else 4) (ls' := [some (.ref 0), some (.int x), some (.long c), none]) (st' := []) rfl ?_
    refine Er_pc (t := 4) (show (bif decide (x < 0) then 10 else 4) = 4 from by rw [show (decide (x < 0)) = false from decide_eq_false h0]; rfl) ?_
    refine Er_run 3 (pc' := bif decide (x ≤ ((18 : Int32))) then 20 else 10) (ls' := [some (.ref 0), some (.int x), some (.long c), none]) (st' := []) rfl ?_
    refine Er_pc (t := 10) (show (bif decide (x ≤ ((18 : Int32))) then 20 else 10) = 10 from by rw [show (decide (x ≤ ((18 : Int32)))) = false from decide_eq_false (by rw [Int32.le_iff_toInt_le]; show ¬ x.toInt ≤ (18 : Int); omega)]; rfl) ?_
    exact Er_fin rfl rfl ⟨rfl, rfl⟩
theorem s_Mill_code_a {k : Nat} (hk : k < 19) (ha : ¬ jc_arg k c) (hx : isX h) : Run 137 [.ref 0, .int (Int32.ofNat k), .long c] h (.inr 1) (hjunk h) := by
  refine ⟨Nat.le_of_ble_eq_true rfl, ?_⟩
  by_cases h45 : k = 4 ∨ k = 5
  · have hn56 : ¬ (Int32.ofNat k = 15 ∨ Int32.ofNat k = 16) := by rcases h45 with rfl | rfl <;> decide
    by_cases hb : c < 0
    · skip
      show Ev 137 0 [some (.ref 0), some (.int (Int32.ofNat k)), some (.long c), none] [] h _
      refine Er_run 2 (pc' := bif decide ((Int32.ofNat k) < 0) then 10 else 4) (ls' := [some (.ref 0), some (.int (Int32.ofNat k)), some (.long c), none]) (st' := []) rfl ?_
      refine Er_pc (t := 4) (show (bif decide ((Int32.ofNat k) < 0) then 10 else 4) = 4 from by rw [show (decide ((Int32.ofNat k) < 0)) = false from sm_nn (by rw [sm_ofNat_toInt (by omega)]; omega)]; rfl) ?_
      refine Er_run 3 (pc' := bif decide ((Int32.ofNat k) ≤ ((18 : Int32))) then 20 else 10) (ls' := [some (.ref 0), some (.int (Int32.ofNat k)), some (.long c), none]) (st' := []) rfl ?_
      refine Er_pc (t := 20) (show (bif decide ((Int32.ofNat k) ≤ ((18 : Int32))) then 20 else 10) = 20 from by rw [show (decide ((Int32.ofNat k) ≤ ((18 : Int32)))) = true from by rw [show (18 : Int32) = Int32.ofNat 18 from rfl, jx_le (by omega) (by omega)]; exact decide_eq_true (by omega)]; rfl) ?_
      refine Er_run 1 (pc' := 21) (ls' := [some (.ref 0), some (.int (Int32.ofNat k)), some (.long c), none]) (st' := [.int (Int32.ofNat k)]) rfl ?_
      have huc := s_Program_usesCell (h := h) (x := Int32.ofNat k)
      rw [if_pos (h45.elim (fun e => Or.inl (by rw [e]; rfl)) (fun e => Or.inr (by rw [e]; rfl)))] at huc
      refine Er_sta1 (av := [.int (Int32.ofNat k)]) (rest := []) rfl rfl ⟨Nat.le_of_ble_eq_true rfl, Nat.le_of_ble_eq_true rfl⟩ rfl rfl huc ?_
      refine Er_run 1 (pc' := bif decide (((1 : Int32)) = 0) then 51 else 27) (ls' := [some (.ref 0), some (.int (Int32.ofNat k)), some (.long c), none]) (st' := []) rfl ?_
      refine Er_pc (t := 27) (show (bif decide (((1 : Int32)) = 0) then 51 else 27) = 27 from by rw [show (decide (((1 : Int32)) = 0)) = false from by decide]; rfl) ?_
      refine Er_run 4 (pc' := bif decide ((lg_cmp c ((0 : Int64))) < 0) then 41 else 33) (ls' := [some (.ref 0), some (.int (Int32.ofNat k)), some (.long c), none]) (st' := []) rfl ?_
      refine Er_pc (t := 41) (show (bif decide ((lg_cmp c ((0 : Int64))) < 0) then 41 else 33) = 41 from by rw [show (decide ((lg_cmp c ((0 : Int64))) < 0)) = true from by rw [jx_cmplt]; exact decide_eq_true hb]; rfl) ?_
      exact Er_fin rfl rfl ⟨rfl, rfl⟩
    · have hb0 := hb
      by_cases hb : c < 4
      · exfalso; exact ha ⟨fun _ => ⟨Int64.not_lt.1 hb0, hb⟩, fun z => by omega⟩
      · skip
        show Ev 137 0 [some (.ref 0), some (.int (Int32.ofNat k)), some (.long c), none] [] h _
        refine Er_run 2 (pc' := bif decide ((Int32.ofNat k) < 0) then 10 else 4) (ls' := [some (.ref 0), some (.int (Int32.ofNat k)), some (.long c), none]) (st' := []) rfl ?_
        refine Er_pc (t := 4) (show (bif decide ((Int32.ofNat k) < 0) then 10 else 4) = 4 from by rw [show (decide ((Int32.ofNat k) < 0)) = false from sm_nn (by rw [sm_ofNat_toInt (by omega)]; omega)]; rfl) ?_
        refine Er_run 3 (pc' := bif decide ((Int32.ofNat k) ≤ ((18 : Int32))) then 20 else 10) (ls' := [some (.ref 0), some (.int (Int32.ofNat k)), some (.long c), none]) (st' := []) rfl ?_
        refine Er_pc (t := 20) (show (bif decide ((Int32.ofNat k) ≤ ((18 : Int32))) then 20 else 10) = 20 from by rw [show (decide ((Int32.ofNat k) ≤ ((18 : Int32)))) = true from by rw [show (18 : Int32) = Int32.ofNat 18 from rfl, jx_le (by omega) (by omega)]; exact decide_eq_true (by omega)]; rfl) ?_
        refine Er_run 1 (pc' := 21) (ls' := [some (.ref 0), some (.int (Int32.ofNat k)), some (.long c), none]) (st' := [.int (Int32.ofNat k)]) rfl ?_
        have huc := s_Program_usesCell (h := h) (x := Int32.ofNat k)
        rw [if_pos (h45.elim (fun e => Or.inl (by rw [e]; rfl)) (fun e => Or.inr (by rw [e]; rfl)))] at huc
        refine Er_sta1 (av := [.int (Int32.ofNat k)]) (rest := []) rfl rfl ⟨Nat.le_of_ble_eq_true rfl, Nat.le_of_ble_eq_true rfl⟩ rfl rfl huc ?_
        refine Er_run 1 (pc' := bif decide (((1 : Int32)) = 0) then 51 else 27) (ls' := [some (.ref 0), some (.int (Int32.ofNat k)), some (.long c), none]) (st' := []) rfl ?_
        refine Er_pc (t := 27) (show (bif decide (((1 : Int32)) = 0) then 51 else 27) = 27 from by rw [show (decide (((1 : Int32)) = 0)) = false from by decide]; rfl) ?_
        refine Er_run 4 (pc' := bif decide ((lg_cmp c ((0 : Int64))) < 0) then 41 else 33) (ls' := [some (.ref 0), some (.int (Int32.ofNat k)), some (.long c), none]) (st' := []) rfl ?_
        refine Er_pc (t := 33) (show (bif decide ((lg_cmp c ((0 : Int64))) < 0) then 41 else 33) = 33 from by rw [show (decide ((lg_cmp c ((0 : Int64))) < 0)) = false from by rw [jx_cmplt]; exact decide_eq_false hb0]; rfl) ?_
        refine Er_run 4 (pc' := bif decide ((lg_cmp c ((4 : Int64))) < 0) then 51 else 41) (ls' := [some (.ref 0), some (.int (Int32.ofNat k)), some (.long c), none]) (st' := []) rfl ?_
        refine Er_pc (t := 41) (show (bif decide ((lg_cmp c ((4 : Int64))) < 0) then 51 else 41) = 41 from by rw [show (decide ((lg_cmp c ((4 : Int64))) < 0)) = false from by rw [jx_cmplt]; exact decide_eq_false hb]; rfl) ?_
        exact Er_fin rfl rfl ⟨rfl, rfl⟩
  · have hn45 : ¬ (Int32.ofNat k = 4 ∨ Int32.ofNat k = 5) := by
      have hq : k ≠ 4 ∧ k ≠ 5 := by omega
      exact (fun z => z.elim (fun e => hq.1 (by have := jx_eq (i := k) (j := 4) (by omega) (by omega); rw [decide_eq_true (show Int32.ofNat k = Int32.ofNat 4 from e)] at this; exact of_decide_eq_true this.symm)) (fun e => hq.2 (by have := jx_eq (i := k) (j := 5) (by omega) (by omega); rw [decide_eq_true (show Int32.ofNat k = Int32.ofNat 5 from e)] at this; exact of_decide_eq_true this.symm)))
    by_cases h56 : k = 15 ∨ k = 16
    · by_cases hb : c < 0
      · skip
        show Ev 137 0 [some (.ref 0), some (.int (Int32.ofNat k)), some (.long c), none] [] h _
        refine Er_run 2 (pc' := bif decide ((Int32.ofNat k) < 0) then 10 else 4) (ls' := [some (.ref 0), some (.int (Int32.ofNat k)), some (.long c), none]) (st' := []) rfl ?_
        refine Er_pc (t := 4) (show (bif decide ((Int32.ofNat k) < 0) then 10 else 4) = 4 from by rw [show (decide ((Int32.ofNat k) < 0)) = false from sm_nn (by rw [sm_ofNat_toInt (by omega)]; omega)]; rfl) ?_
        refine Er_run 3 (pc' := bif decide ((Int32.ofNat k) ≤ ((18 : Int32))) then 20 else 10) (ls' := [some (.ref 0), some (.int (Int32.ofNat k)), some (.long c), none]) (st' := []) rfl ?_
        refine Er_pc (t := 20) (show (bif decide ((Int32.ofNat k) ≤ ((18 : Int32))) then 20 else 10) = 20 from by rw [show (decide ((Int32.ofNat k) ≤ ((18 : Int32)))) = true from by rw [show (18 : Int32) = Int32.ofNat 18 from rfl, jx_le (by omega) (by omega)]; exact decide_eq_true (by omega)]; rfl) ?_
        refine Er_run 1 (pc' := 21) (ls' := [some (.ref 0), some (.int (Int32.ofNat k)), some (.long c), none]) (st' := [.int (Int32.ofNat k)]) rfl ?_
        have huc := s_Program_usesCell (h := h) (x := Int32.ofNat k)
        rw [if_neg hn45] at huc
        refine Er_sta1 (av := [.int (Int32.ofNat k)]) (rest := []) rfl rfl ⟨Nat.le_of_ble_eq_true rfl, Nat.le_of_ble_eq_true rfl⟩ rfl rfl huc ?_
        refine Er_run 1 (pc' := bif decide (((0 : Int32)) = 0) then 51 else 27) (ls' := [some (.ref 0), some (.int (Int32.ofNat k)), some (.long c), none]) (st' := []) rfl ?_
        refine Er_pc (t := 51) (show (bif decide (((0 : Int32)) = 0) then 51 else 27) = 51 from by rw [show (decide (((0 : Int32)) = 0)) = true from by decide]; rfl) ?_
        refine Er_run 1 (pc' := 52) (ls' := [some (.ref 0), some (.int (Int32.ofNat k)), some (.long c), none]) (st' := [.int (Int32.ofNat k)]) rfl ?_
        have hlp := s_Program_leaps (h := h) (x := Int32.ofNat k)
        rw [if_pos (h56.elim (fun e => Or.inl (by rw [e]; rfl)) (fun e => Or.inr (by rw [e]; rfl)))] at hlp
        refine Er_sta1 (av := [.int (Int32.ofNat k)]) (rest := []) rfl rfl ⟨Nat.le_of_ble_eq_true rfl, Nat.le_of_ble_eq_true rfl⟩ rfl rfl hlp ?_
        refine Er_run 1 (pc' := bif decide (((1 : Int32)) = 0) then 82 else 58) (ls' := [some (.ref 0), some (.int (Int32.ofNat k)), some (.long c), none]) (st' := []) rfl ?_
        refine Er_pc (t := 58) (show (bif decide (((1 : Int32)) = 0) then 82 else 58) = 58 from by rw [show (decide (((1 : Int32)) = 0)) = false from by decide]; rfl) ?_
        refine Er_run 4 (pc' := bif decide ((lg_cmp c ((0 : Int64))) < 0) then 72 else 64) (ls' := [some (.ref 0), some (.int (Int32.ofNat k)), some (.long c), none]) (st' := []) rfl ?_
        refine Er_pc (t := 72) (show (bif decide ((lg_cmp c ((0 : Int64))) < 0) then 72 else 64) = 72 from by rw [show (decide ((lg_cmp c ((0 : Int64))) < 0)) = true from by rw [jx_cmplt]; exact decide_eq_true hb]; rfl) ?_
        exact Er_fin rfl rfl ⟨rfl, rfl⟩
      · have hb0 := hb
        by_cases hb : c ≤ 40
        · exfalso; exact ha ⟨fun z => absurd z h45, fun _ => ⟨Int64.not_lt.1 hb0, hb⟩⟩
        · skip
          show Ev 137 0 [some (.ref 0), some (.int (Int32.ofNat k)), some (.long c), none] [] h _
          refine Er_run 2 (pc' := bif decide ((Int32.ofNat k) < 0) then 10 else 4) (ls' := [some (.ref 0), some (.int (Int32.ofNat k)), some (.long c), none]) (st' := []) rfl ?_
          refine Er_pc (t := 4) (show (bif decide ((Int32.ofNat k) < 0) then 10 else 4) = 4 from by rw [show (decide ((Int32.ofNat k) < 0)) = false from sm_nn (by rw [sm_ofNat_toInt (by omega)]; omega)]; rfl) ?_
          refine Er_run 3 (pc' := bif decide ((Int32.ofNat k) ≤ ((18 : Int32))) then 20 else 10) (ls' := [some (.ref 0), some (.int (Int32.ofNat k)), some (.long c), none]) (st' := []) rfl ?_
          refine Er_pc (t := 20) (show (bif decide ((Int32.ofNat k) ≤ ((18 : Int32))) then 20 else 10) = 20 from by rw [show (decide ((Int32.ofNat k) ≤ ((18 : Int32)))) = true from by rw [show (18 : Int32) = Int32.ofNat 18 from rfl, jx_le (by omega) (by omega)]; exact decide_eq_true (by omega)]; rfl) ?_
          refine Er_run 1 (pc' := 21) (ls' := [some (.ref 0), some (.int (Int32.ofNat k)), some (.long c), none]) (st' := [.int (Int32.ofNat k)]) rfl ?_
          have huc := s_Program_usesCell (h := h) (x := Int32.ofNat k)
          rw [if_neg hn45] at huc
          refine Er_sta1 (av := [.int (Int32.ofNat k)]) (rest := []) rfl rfl ⟨Nat.le_of_ble_eq_true rfl, Nat.le_of_ble_eq_true rfl⟩ rfl rfl huc ?_
          refine Er_run 1 (pc' := bif decide (((0 : Int32)) = 0) then 51 else 27) (ls' := [some (.ref 0), some (.int (Int32.ofNat k)), some (.long c), none]) (st' := []) rfl ?_
          refine Er_pc (t := 51) (show (bif decide (((0 : Int32)) = 0) then 51 else 27) = 51 from by rw [show (decide (((0 : Int32)) = 0)) = true from by decide]; rfl) ?_
          refine Er_run 1 (pc' := 52) (ls' := [some (.ref 0), some (.int (Int32.ofNat k)), some (.long c), none]) (st' := [.int (Int32.ofNat k)]) rfl ?_
          have hlp := s_Program_leaps (h := h) (x := Int32.ofNat k)
          rw [if_pos (h56.elim (fun e => Or.inl (by rw [e]; rfl)) (fun e => Or.inr (by rw [e]; rfl)))] at hlp
          refine Er_sta1 (av := [.int (Int32.ofNat k)]) (rest := []) rfl rfl ⟨Nat.le_of_ble_eq_true rfl, Nat.le_of_ble_eq_true rfl⟩ rfl rfl hlp ?_
          refine Er_run 1 (pc' := bif decide (((1 : Int32)) = 0) then 82 else 58) (ls' := [some (.ref 0), some (.int (Int32.ofNat k)), some (.long c), none]) (st' := []) rfl ?_
          refine Er_pc (t := 58) (show (bif decide (((1 : Int32)) = 0) then 82 else 58) = 58 from by rw [show (decide (((1 : Int32)) = 0)) = false from by decide]; rfl) ?_
          refine Er_run 4 (pc' := bif decide ((lg_cmp c ((0 : Int64))) < 0) then 72 else 64) (ls' := [some (.ref 0), some (.int (Int32.ofNat k)), some (.long c), none]) (st' := []) rfl ?_
          refine Er_pc (t := 64) (show (bif decide ((lg_cmp c ((0 : Int64))) < 0) then 72 else 64) = 64 from by rw [show (decide ((lg_cmp c ((0 : Int64))) < 0)) = false from by rw [jx_cmplt]; exact decide_eq_false hb0]; rfl) ?_
          refine Er_run 4 (pc' := bif decide ((lg_cmp c ((40 : Int64))) ≤ 0) then 82 else 72) (ls' := [some (.ref 0), some (.int (Int32.ofNat k)), some (.long c), none]) (st' := []) rfl ?_
          refine Er_pc (t := 72) (show (bif decide ((lg_cmp c ((40 : Int64))) ≤ 0) then 82 else 72) = 72 from by rw [show (decide ((lg_cmp c ((40 : Int64))) ≤ 0)) = false from by rw [jx_cmple]; exact decide_eq_false hb]; rfl) ?_
          exact Er_fin rfl rfl ⟨rfl, rfl⟩
    · exfalso; exact ha ⟨fun z => absurd z h45, fun z => absurd z h56⟩
end MILB
