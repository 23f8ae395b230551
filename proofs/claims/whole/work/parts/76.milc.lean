section MILC
variable {h h' : sm_H} {cl : List Nat} {G : Nat → Nat → Int32} {PR : Nat → Nat → List (Int32 × Int64)} {F : Nat → Jl} {D : List (Int32 × Int64)} {x : Int32} {j s : Nat}
/-- a JOB's PROGRAM has changed -/
theorem ST_pr {q : Nat} {l : List (Int32 × Int64)} (hj : j < 8) (hq : q < 3) (z : Fr (s + 52 + 11 * j + 2 + 3 * q) (s + 52 + 11 * j + 2 + 3 * q + 3) h h') (hl : GL h' (s + 52 + 11 * j + 2 + 3 * q) l) (hp : ST h s cl G PR F) : ST h' s cl G (jx_up PR j (jx_up (PR j) q l)) F := by
  refine ⟨isS_fr z (by omega) hp.1, CH_fr0 z (by omega) hp.2.1, fun f hf => PL_fr z (by omega) (hp.2.2.1 f hf), fun i hi => ?_⟩
  obtain ⟨a1, a2, a3, a4, a5⟩ := hp.2.2.2 i hi
  have hij : i < j ∨ i = j ∨ j < i := by omega
  refine ⟨isJ_fr z (by omega) a1, fun k h1 h2 => by rw [(z.2.2.2.2 (s + 52 + 11 * i) (by omega)).1]; exact a2 k h1 h2, ?_⟩
  by_cases e : i = j
  · subst e
    rw [up_eq]
    have hq3 : q = 0 ∨ q = 1 ∨ q = 2 := by omega
    rcases hq3 with rfl | rfl | rfl
    · exact ⟨hl, GL_fr z (by omega) a4, GL_fr z (by omega) a5⟩
    · exact ⟨GL_fr z (by omega) a3, hl, GL_fr z (by omega) a5⟩
    · exact ⟨GL_fr z (by omega) a3, GL_fr z (by omega) a4, hl⟩
  · rw [up_ne _ _ e]
    exact ⟨GL_fr z (by omega) a3, GL_fr z (by omega) a4, GL_fr z (by omega) a5⟩
/-- a JOB's ints have changed -/
theorem ST_job {g : Nat → Int32} (hj : j < 8) (z : Fr (s + 52 + 11 * j) (s + 52 + 11 * j + 1) h h') (hr : gR h' (s + 52 + 11 * j) = gR h (s + 52 + 11 * j)) (h01 : g 1 = 0 ∨ g 1 = 1) (hg : ∀ i, 1 ≤ i → i ≤ 5 → gI h' (s + 52 + 11 * j) i = g i) (hp : ST h s cl G PR F) : ST h' s cl (jx_up G j g) PR F := by
  refine ⟨isS_fr z (by omega) hp.1, CH_fr0 z (by omega) hp.2.1, fun f hf => PL_fr z (by omega) (hp.2.2.1 f hf), fun i hi => ?_⟩
  obtain ⟨a1, a2, a3, a4, a5⟩ := hp.2.2.2 i hi
  by_cases e : i = j
  · subst e
    obtain ⟨b1, b2, b3, b4, b5, b6, b7, b8⟩ := a1
    refine ⟨⟨by rw [z.at]; exact b1, by rw [hr]; exact b2, by rw [z.at]; exact b3, by rw [z.2.1]; exact b4, by rw [(z.2.2.2.2 (s + 52 + 11 * i + 1) (by omega)).2.2]; exact b5, by rw [(z.2.2.2.2 (s + 52 + 11 * i + 1) (by omega)).2.2]; exact b6, by rw [(z.2.2.2.2 (s + 52 + 11 * i + 1) (by omega)).2.2]; exact b7, by rw [hg 1 (by omega) (by omega)]; exact h01⟩, fun k h1 h2 => by rw [up_eq]; exact hg k h1 h2, GL_fr z (by omega) a3, GL_fr z (by omega) a4, GL_fr z (by omega) a5⟩
  · exact ⟨isJ_fr z (by omega) a1, fun k h1 h2 => by rw [up_ne _ _ e, (z.2.2.2.2 (s + 52 + 11 * i) (by omega)).1]; exact a2 k h1 h2, GL_fr z (by omega) a3, GL_fr z (by omega) a4, GL_fr z (by omega) a5⟩

theorem s_Mill_program_x {b : Int32} (hf : jn_out x 8) : Run 138 [.ref 0, .int x, .int b] h (.inr 0) (hjunk h) := by
  refine ⟨Nat.le_of_ble_eq_true rfl, ?_⟩
  show Ev 138 0 [some (.ref 0), some (.int x), some (.int b), none] [] h _
  refine Er_run 1 (pc' := 1) (ls' := [some (.ref 0), some (.int x), some (.int b), none]) (st' := [.int x]) rfl ?_
  exact Er_staX (av := [.int x]) rfl rfl ⟨Nat.le_of_ble_eq_true rfl, Nat.le_of_ble_eq_true rfl⟩ rfl (s_Mill_needJobNumber0 hf) rfl ⟨rfl, rfl⟩
theorem s_Mill_job_x {a b c d : Int32} (hf : jn_out x 8) : Run 139 [.ref 0, .int x, .int a, .int b, .int c, .int d] h (.inr 0) (hjunk h) := by
  refine ⟨Nat.le_of_ble_eq_true rfl, ?_⟩
  show Ev 139 0 [some (.ref 0), some (.int x), some (.int a), some (.int b), some (.int c), some (.int d), none] [] h _
  refine Er_run 1 (pc' := 1) (ls' := [some (.ref 0), some (.int x), some (.int a), some (.int b), some (.int c), some (.int d), none]) (st' := [.int x]) rfl ?_
  exact Er_staX (av := [.int x]) rfl rfl ⟨Nat.le_of_ble_eq_true rfl, Nat.le_of_ble_eq_true rfl⟩ rfl (s_Mill_needJobNumber0 hf) rfl ⟨rfl, rfl⟩
theorem s_Mill_drop_x (hf : jn_out x 8) : Run 140 [.ref 0, .int x] h (.inr 0) (hjunk h) := by
  refine ⟨Nat.le_of_ble_eq_true rfl, ?_⟩
  show Ev 140 0 [some (.ref 0), some (.int x)] [] h _
  refine Er_run 1 (pc' := 1) (ls' := [some (.ref 0), some (.int x)]) (st' := [.int x]) rfl ?_
  exact Er_staX (av := [.int x]) rfl rfl ⟨Nat.le_of_ble_eq_true rfl, Nat.le_of_ble_eq_true rfl⟩ rfl (s_Mill_needJobNumber0 hf) rfl ⟨rfl, rfl⟩
theorem s_Mill_program_w (hj : j < 8) (hf : jn_out x 3) : Run 138 [.ref 0, .int (Int32.ofNat j), .int x] h (.inr 1) (hjunk h) := by
  have h1 : ¬ x < 0 → (3 : Int) ≤ x.toInt := by
    intro h0
    rw [Int32.lt_iff_toInt_lt] at h0
    have h0' : ¬ x.toInt < 0 := h0
    rw [jn_out] at hf
    omega
  refine ⟨Nat.le_of_ble_eq_true rfl, ?_⟩
  by_cases h0 : x < 0
  · skip
    show Ev 138 0 [some (.ref 0), some (.int (Int32.ofNat j)), some (.int x), none] [] h _
    refine Er_run 1 (pc' := 1) (ls' := [some (.ref 0), some (.int (Int32.ofNat j)), some (.int x), none]) (st' := [.int (Int32.ofNat j)]) rfl ?_
    refine Er_sta0 (av := [.int (Int32.ofNat j)]) (rest := []) rfl rfl ⟨Nat.le_of_ble_eq_true rfl, Nat.le_of_ble_eq_true rfl⟩ rfl rfl (s_Mill_needJobNumber1 hj) ?_
    refine Er_run 2 (pc' := bif decide (x < 0) then 13 else 8) (ls' := [some (.ref 0), some (.int (Int32.ofNat j)), some (.int x), none]) (st' := []) rfl ?_
    refine Er_pc (t := 13) (show (bif decide (x < 0) then 13 else 8) = 13 from by rw [show (decide (x < 0)) = true from decide_eq_true h0]; rfl) ?_
    exact Er_fin rfl rfl ⟨rfl, rfl⟩
  · have h2 := h1 h0
    show Ev 138 0 [some (.ref 0), some (.int (Int32.ofNat j)), some (.int x), none] [] h _
    refine Er_run 1 (pc' := 1) (ls' := [some (.ref 0), some (.int (Int32.ofNat j)), some (.int x), none]) (st' := [.int (Int32.ofNat j)]) rfl ?_
    refine Er_sta0 (av := [.int (Int32.ofNat j)]) (rest := []) rfl rfl ⟨Nat.le_of_ble_eq_true rfl, Nat.le_of_ble_eq_true rfl⟩ rfl rfl (s_Mill_needJobNumber1 hj) ?_
    refine Er_run 2 (pc' := bif decide (x < 0) then 13 else 8) (ls' := [some (.ref 0), some (.int (Int32.ofNat j)), some (.int x), none]) (st' := []) rfl ?_
    refine Er_pc (t := 8) (show (bif decide (x < 0) then 13 else 8) = 8 from by rw [show (decide (x < 0)) = false from decide_eq_false h0]; rfl) ?_
    refine Er_run 3 (pc' := bif decide (x ≤ ((2 : Int32))) then 23 else 13) (ls' := [some (.ref 0), some (.int (Int32.ofNat j)), some (.int x), none]) (st' := []) rfl ?_
    refine Er_pc (t := 13) (show (bif decide (x ≤ ((2 : Int32))) then 23 else 13) = 13 from by rw [show (decide (x ≤ ((2 : Int32)))) = false from decide_eq_false (by rw [Int32.le_iff_toInt_le]; show ¬ x.toInt ≤ (2 : Int); omega)]; rfl) ?_
    exact Er_fin rfl rfl ⟨rfl, rfl⟩
theorem s_Mill_program0_e (hj : j < 8) (hx : isX h) (hd : GL h 141 D) (hD : D.length = 0) : Run 138 [.ref 0, .int (Int32.ofNat j), .int ((0 : Int32))] h (.inr 1) (hjunk h) := by
  refine ⟨Nat.le_of_ble_eq_true rfl, ?_⟩
  show Ev 138 0 [some (.ref 0), some (.int (Int32.ofNat j)), some (.int ((0 : Int32))), none] [] h _
  refine Er_run 1 (pc' := 1) (ls' := [some (.ref 0), some (.int (Int32.ofNat j)), some (.int ((0 : Int32))), none]) (st' := [.int (Int32.ofNat j)]) rfl ?_
  refine Er_sta0 (av := [.int (Int32.ofNat j)]) (rest := []) rfl rfl ⟨Nat.le_of_ble_eq_true rfl, Nat.le_of_ble_eq_true rfl⟩ rfl rfl (s_Mill_needJobNumber1 hj) ?_
  refine Er_run 2 (pc' := bif decide (((0 : Int32)) < 0) then 13 else 8) (ls' := [some (.ref 0), some (.int (Int32.ofNat j)), some (.int ((0 : Int32))), none]) (st' := []) rfl ?_
  refine Er_pc (t := 8) (show (bif decide (((0 : Int32)) < 0) then 13 else 8) = 8 from by rw [show (decide (((0 : Int32)) < 0)) = false from by decide]; rfl) ?_
  refine Er_run 3 (pc' := bif decide (((0 : Int32)) ≤ ((2 : Int32))) then 23 else 13) (ls' := [some (.ref 0), some (.int (Int32.ofNat j)), some (.int ((0 : Int32))), none]) (st' := []) rfl ?_
  refine Er_pc (t := 23) (show (bif decide (((0 : Int32)) ≤ ((2 : Int32))) then 23 else 13) = 23 from by rw [show (decide (((0 : Int32)) ≤ ((2 : Int32)))) = true from by decide]; rfl) ?_
  refine Er_run 3 (pc' := bif decide (((0 : Int32)) = ((1 : Int32))) then 48 else 28) (ls' := [some (.ref 0), some (.int (Int32.ofNat j)), some (.int ((0 : Int32))), none]) (st' := []) rfl ?_
  refine Er_pc (t := 28) (show (bif decide (((0 : Int32)) = ((1 : Int32))) then 48 else 28) = 28 from by rw [show (decide (((0 : Int32)) = ((1 : Int32)))) = false from by decide]; rfl) ?_
  refine Er_run 1 (pc' := 29) (ls' := [some (.ref 0), some (.int (Int32.ofNat j)), some (.int ((0 : Int32))), none]) (st' := [.ref 0]) rfl ?_
  refine Er_getR (x := 141) rfl hx.1 hx.2.2.1 ?_
  refine Er_inv1 (q' := 141) (ci := 1) (av := []) (rest := []) rfl rfl ⟨Nat.le_of_ble_eq_true rfl, Nat.le_of_ble_eq_true rfl⟩ rfl rfl hd.1.1 (s_Program_length hd) ?_
  refine Er_run 1 (pc' := bif !decide ((Int32.ofNat D.length) = 0) then 48 else 38) (ls' := [some (.ref 0), some (.int (Int32.ofNat j)), some (.int ((0 : Int32))), none]) (st' := []) rfl ?_
  refine Er_pc (t := 38) (show (bif !decide ((Int32.ofNat D.length) = 0) then 48 else 38) = 38 from by rw [show (!decide ((Int32.ofNat D.length) = 0)) = false from by rw [hD]; rfl]; rfl) ?_
  exact Er_fin rfl rfl ⟨rfl, rfl⟩
theorem s_Mill_program2_e (hj : j < 8) (hx : isX h) (hd : GL h 141 D) (hD : D.length = 0) : Run 138 [.ref 0, .int (Int32.ofNat j), .int ((2 : Int32))] h (.inr 1) (hjunk h) := by
  refine ⟨Nat.le_of_ble_eq_true rfl, ?_⟩
  show Ev 138 0 [some (.ref 0), some (.int (Int32.ofNat j)), some (.int ((2 : Int32))), none] [] h _
  refine Er_run 1 (pc' := 1) (ls' := [some (.ref 0), some (.int (Int32.ofNat j)), some (.int ((2 : Int32))), none]) (st' := [.int (Int32.ofNat j)]) rfl ?_
  refine Er_sta0 (av := [.int (Int32.ofNat j)]) (rest := []) rfl rfl ⟨Nat.le_of_ble_eq_true rfl, Nat.le_of_ble_eq_true rfl⟩ rfl rfl (s_Mill_needJobNumber1 hj) ?_
  refine Er_run 2 (pc' := bif decide (((2 : Int32)) < 0) then 13 else 8) (ls' := [some (.ref 0), some (.int (Int32.ofNat j)), some (.int ((2 : Int32))), none]) (st' := []) rfl ?_
  refine Er_pc (t := 8) (show (bif decide (((2 : Int32)) < 0) then 13 else 8) = 8 from by rw [show (decide (((2 : Int32)) < 0)) = false from by decide]; rfl) ?_
  refine Er_run 3 (pc' := bif decide (((2 : Int32)) ≤ ((2 : Int32))) then 23 else 13) (ls' := [some (.ref 0), some (.int (Int32.ofNat j)), some (.int ((2 : Int32))), none]) (st' := []) rfl ?_
  refine Er_pc (t := 23) (show (bif decide (((2 : Int32)) ≤ ((2 : Int32))) then 23 else 13) = 23 from by rw [show (decide (((2 : Int32)) ≤ ((2 : Int32)))) = true from by decide]; rfl) ?_
  refine Er_run 3 (pc' := bif decide (((2 : Int32)) = ((1 : Int32))) then 48 else 28) (ls' := [some (.ref 0), some (.int (Int32.ofNat j)), some (.int ((2 : Int32))), none]) (st' := []) rfl ?_
  refine Er_pc (t := 28) (show (bif decide (((2 : Int32)) = ((1 : Int32))) then 48 else 28) = 28 from by rw [show (decide (((2 : Int32)) = ((1 : Int32)))) = false from by decide]; rfl) ?_
  refine Er_run 1 (pc' := 29) (ls' := [some (.ref 0), some (.int (Int32.ofNat j)), some (.int ((2 : Int32))), none]) (st' := [.ref 0]) rfl ?_
  refine Er_getR (x := 141) rfl hx.1 hx.2.2.1 ?_
  refine Er_inv1 (q' := 141) (ci := 1) (av := []) (rest := []) rfl rfl ⟨Nat.le_of_ble_eq_true rfl, Nat.le_of_ble_eq_true rfl⟩ rfl rfl hd.1.1 (s_Program_length hd) ?_
  refine Er_run 1 (pc' := bif !decide ((Int32.ofNat D.length) = 0) then 48 else 38) (ls' := [some (.ref 0), some (.int (Int32.ofNat j)), some (.int ((2 : Int32))), none]) (st' := []) rfl ?_
  refine Er_pc (t := 38) (show (bif !decide ((Int32.ofNat D.length) = 0) then 48 else 38) = 38 from by rw [show (!decide ((Int32.ofNat D.length) = 0)) = false from by rw [hD]; rfl]; rfl) ?_
  exact Er_fin rfl rfl ⟨rfl, rfl⟩
theorem s_Mill_program0_l (hj : j < 8) (hx : isX h) (hd : GL h 141 D) (hD : ¬ D.length = 0) (hL : D.any (jx_lb D.length) = true) : Run 138 [.ref 0, .int (Int32.ofNat j), .int ((0 : Int32))] h (.inr 1) (hjunk h) := by
  refine ⟨Nat.le_of_ble_eq_true rfl, ?_⟩
  show Ev 138 0 [some (.ref 0), some (.int (Int32.ofNat j)), some (.int ((0 : Int32))), none] [] h _
  refine Er_run 1 (pc' := 1) (ls' := [some (.ref 0), some (.int (Int32.ofNat j)), some (.int ((0 : Int32))), none]) (st' := [.int (Int32.ofNat j)]) rfl ?_
  refine Er_sta0 (av := [.int (Int32.ofNat j)]) (rest := []) rfl rfl ⟨Nat.le_of_ble_eq_true rfl, Nat.le_of_ble_eq_true rfl⟩ rfl rfl (s_Mill_needJobNumber1 hj) ?_
  refine Er_run 2 (pc' := bif decide (((0 : Int32)) < 0) then 13 else 8) (ls' := [some (.ref 0), some (.int (Int32.ofNat j)), some (.int ((0 : Int32))), none]) (st' := []) rfl ?_
  refine Er_pc (t := 8) (show (bif decide (((0 : Int32)) < 0) then 13 else 8) = 8 from by rw [show (decide (((0 : Int32)) < 0)) = false from by decide]; rfl) ?_
  refine Er_run 3 (pc' := bif decide (((0 : Int32)) ≤ ((2 : Int32))) then 23 else 13) (ls' := [some (.ref 0), some (.int (Int32.ofNat j)), some (.int ((0 : Int32))), none]) (st' := []) rfl ?_
  refine Er_pc (t := 23) (show (bif decide (((0 : Int32)) ≤ ((2 : Int32))) then 23 else 13) = 23 from by rw [show (decide (((0 : Int32)) ≤ ((2 : Int32)))) = true from by decide]; rfl) ?_
  refine Er_run 3 (pc' := bif decide (((0 : Int32)) = ((1 : Int32))) then 48 else 28) (ls' := [some (.ref 0), some (.int (Int32.ofNat j)), some (.int ((0 : Int32))), none]) (st' := []) rfl ?_
  refine Er_pc (t := 28) (show (bif decide (((0 : Int32)) = ((1 : Int32))) then 48 else 28) = 28 from by rw [show (decide (((0 : Int32)) = ((1 : Int32)))) = false from by decide]; rfl) ?_
  refine Er_run 1 (pc' := 29) (ls' := [some (.ref 0), some (.int (Int32.ofNat j)), some (.int ((0 : Int32))), none]) (st' := [.ref 0]) rfl ?_
  refine Er_getR (x := 141) rfl hx.1 hx.2.2.1 ?_
  refine Er_inv1 (q' := 141) (ci := 1) (av := []) (rest := []) rfl rfl ⟨Nat.le_of_ble_eq_true rfl, Nat.le_of_ble_eq_true rfl⟩ rfl rfl hd.1.1 (s_Program_length hd) ?_
  refine Er_run 1 (pc' := bif !decide ((Int32.ofNat D.length) = 0) then 48 else 38) (ls' := [some (.ref 0), some (.int (Int32.ofNat j)), some (.int ((0 : Int32))), none]) (st' := []) rfl ?_
  refine Er_pc (t := 48) (show (bif !decide ((Int32.ofNat D.length) = 0) then 48 else 38) = 48 from by rw [show (!decide ((Int32.ofNat D.length) = 0)) = true from by rw [show (0 : Int32) = Int32.ofNat 0 from rfl, jx_eq (by have := hd.2.1; omega) (by omega), decide_eq_false hD]; rfl]; rfl) ?_
  refine Er_run 1 (pc' := 49) (ls' := [some (.ref 0), some (.int (Int32.ofNat j)), some (.int ((0 : Int32))), none]) (st' := [.ref 0]) rfl ?_
  refine Er_getR (x := 141) rfl hx.1 hx.2.2.1 ?_
  have hlb := s_Program_leapsBehindEnd hd
  rw [if_pos hL] at hlb
  refine Er_inv1 (q' := 141) (ci := 1) (av := []) (rest := []) rfl rfl ⟨Nat.le_of_ble_eq_true rfl, Nat.le_of_ble_eq_true rfl⟩ rfl rfl hd.1.1 hlb ?_
  refine Er_run 1 (pc' := bif decide (((1 : Int32)) = 0) then 68 else 58) (ls' := [some (.ref 0), some (.int (Int32.ofNat j)), some (.int ((0 : Int32))), none]) (st' := []) rfl ?_
  refine Er_pc (t := 58) (show (bif decide (((1 : Int32)) = 0) then 68 else 58) = 58 from by rw [show (decide (((1 : Int32)) = 0)) = false from by decide]; rfl) ?_
  exact Er_fin rfl rfl ⟨rfl, rfl⟩
theorem s_Mill_program0_r (hj : j < 8) (hx : isX h) (hd : GL h 141 D) (hD : ¬ D.length = 0) (hL : ¬ D.any (jx_lb D.length) = true) (hr : gI h 0 6 = 1) : Run 138 [.ref 0, .int (Int32.ofNat j), .int ((0 : Int32))] h (.inr 2) (hjunk h) := by
  refine ⟨Nat.le_of_ble_eq_true rfl, ?_⟩
  show Ev 138 0 [some (.ref 0), some (.int (Int32.ofNat j)), some (.int ((0 : Int32))), none] [] h _
  refine Er_run 1 (pc' := 1) (ls' := [some (.ref 0), some (.int (Int32.ofNat j)), some (.int ((0 : Int32))), none]) (st' := [.int (Int32.ofNat j)]) rfl ?_
  refine Er_sta0 (av := [.int (Int32.ofNat j)]) (rest := []) rfl rfl ⟨Nat.le_of_ble_eq_true rfl, Nat.le_of_ble_eq_true rfl⟩ rfl rfl (s_Mill_needJobNumber1 hj) ?_
  refine Er_run 2 (pc' := bif decide (((0 : Int32)) < 0) then 13 else 8) (ls' := [some (.ref 0), some (.int (Int32.ofNat j)), some (.int ((0 : Int32))), none]) (st' := []) rfl ?_
  refine Er_pc (t := 8) (show (bif decide (((0 : Int32)) < 0) then 13 else 8) = 8 from by rw [show (decide (((0 : Int32)) < 0)) = false from by decide]; rfl) ?_
  refine Er_run 3 (pc' := bif decide (((0 : Int32)) ≤ ((2 : Int32))) then 23 else 13) (ls' := [some (.ref 0), some (.int (Int32.ofNat j)), some (.int ((0 : Int32))), none]) (st' := []) rfl ?_
  refine Er_pc (t := 23) (show (bif decide (((0 : Int32)) ≤ ((2 : Int32))) then 23 else 13) = 23 from by rw [show (decide (((0 : Int32)) ≤ ((2 : Int32)))) = true from by decide]; rfl) ?_
  refine Er_run 3 (pc' := bif decide (((0 : Int32)) = ((1 : Int32))) then 48 else 28) (ls' := [some (.ref 0), some (.int (Int32.ofNat j)), some (.int ((0 : Int32))), none]) (st' := []) rfl ?_
  refine Er_pc (t := 28) (show (bif decide (((0 : Int32)) = ((1 : Int32))) then 48 else 28) = 28 from by rw [show (decide (((0 : Int32)) = ((1 : Int32)))) = false from by decide]; rfl) ?_
  refine Er_run 1 (pc' := 29) (ls' := [some (.ref 0), some (.int (Int32.ofNat j)), some (.int ((0 : Int32))), none]) (st' := [.ref 0]) rfl ?_
  refine Er_getR (x := 141) rfl hx.1 hx.2.2.1 ?_
  refine Er_inv1 (q' := 141) (ci := 1) (av := []) (rest := []) rfl rfl ⟨Nat.le_of_ble_eq_true rfl, Nat.le_of_ble_eq_true rfl⟩ rfl rfl hd.1.1 (s_Program_length hd) ?_
  refine Er_run 1 (pc' := bif !decide ((Int32.ofNat D.length) = 0) then 48 else 38) (ls' := [some (.ref 0), some (.int (Int32.ofNat j)), some (.int ((0 : Int32))), none]) (st' := []) rfl ?_
  refine Er_pc (t := 48) (show (bif !decide ((Int32.ofNat D.length) = 0) then 48 else 38) = 48 from by rw [show (!decide ((Int32.ofNat D.length) = 0)) = true from by rw [show (0 : Int32) = Int32.ofNat 0 from rfl, jx_eq (by have := hd.2.1; omega) (by omega), decide_eq_false hD]; rfl]; rfl) ?_
  refine Er_run 1 (pc' := 49) (ls' := [some (.ref 0), some (.int (Int32.ofNat j)), some (.int ((0 : Int32))), none]) (st' := [.ref 0]) rfl ?_
  refine Er_getR (x := 141) rfl hx.1 hx.2.2.1 ?_
  have hlb := s_Program_leapsBehindEnd hd
  rw [if_neg hL] at hlb
  refine Er_inv1 (q' := 141) (ci := 1) (av := []) (rest := []) rfl rfl ⟨Nat.le_of_ble_eq_true rfl, Nat.le_of_ble_eq_true rfl⟩ rfl rfl hd.1.1 hlb ?_
  refine Er_run 1 (pc' := bif decide (((0 : Int32)) = 0) then 68 else 58) (ls' := [some (.ref 0), some (.int (Int32.ofNat j)), some (.int ((0 : Int32))), none]) (st' := []) rfl ?_
  refine Er_pc (t := 68) (show (bif decide (((0 : Int32)) = 0) then 68 else 58) = 68 from by rw [show (decide (((0 : Int32)) = 0)) = true from by decide]; rfl) ?_
  refine Er_run 1 (pc' := 69) (ls' := [some (.ref 0), some (.int (Int32.ofNat j)), some (.int ((0 : Int32))), none]) (st' := [.ref 0]) rfl ?_
  exact Er_invX (q' := 0) (ci := 11) (av := []) rfl rfl ⟨Nat.le_of_ble_eq_true rfl, Nat.le_of_ble_eq_true rfl⟩ rfl hx.1 (s_Mill_needRest0 hx hr) rfl ⟨rfl, rfl⟩
theorem s_Mill_program0 (hj : j < 8) (hx : isX h) (hd : GL h 141 D) (hD : ¬ D.length = 0) (hs : ST h 1 cl G PR F) (hL : ¬ D.any (jx_lb D.length) = true) (hr : gI h 0 6 = 0) : ∃ h', Run 138 [.ref 0, .int (Int32.ofNat j), .int ((0 : Int32))] h (.inl (some (.int (Int32.ofNat D.length)))) h' ∧ ST h' 1 cl G (jx_up PR j (jx_up (PR j) 0 D)) F ∧ GL h' 141 [] ∧ isX h' ∧ (∀ c, (c < 53 ∨ 141 ≤ c) → (c < 141 ∨ 144 ≤ c) → gI h' c = gI h c ∧ gL h' c = gL h c ∧ gR h' c = gR h c) ∧ gN h' = gN h ∧ gS h' = gS h ∧ gJ h' = gJ h ∧ gD h' = gD h := by
  have hx : Ev 138 0 (sm_pad (sm_ent [.ref 0, .int (Int32.ofNat j), .int ((0 : Int32))]) (sm_prog.2.1 138)) [] h (fun r h1 => r = .inl (some (.int (Int32.ofNat D.length))) ∧ ST h1 1 cl G (jx_up PR j (jx_up (PR j) 0 D)) F ∧ GL h1 141 [] ∧ isX h1 ∧ (∀ c, (c < 53 ∨ 141 ≤ c) → (c < 141 ∨ 144 ≤ c) → gI h1 c = gI h c ∧ gL h1 c = gL h c ∧ gR h1 c = gR h c) ∧ gN h1 = gN h ∧ gS h1 = gS h ∧ gJ h1 = gJ h ∧ gD h1 = gD h) := by
    show Ev 138 0 [some (.ref 0), some (.int (Int32.ofNat j)), some (.int ((0 : Int32))), none] [] h _
    refine Er_run 1 (pc' := 1) (ls' := [some (.ref 0), some (.int (Int32.ofNat j)), some (.int ((0 : Int32))), none]) (st' := [.int (Int32.ofNat j)]) rfl ?_
    refine Er_sta0 (av := [.int (Int32.ofNat j)]) (rest := []) rfl rfl ⟨Nat.le_of_ble_eq_true rfl, Nat.le_of_ble_eq_true rfl⟩ rfl rfl (s_Mill_needJobNumber1 hj) ?_
    refine Er_run 2 (pc' := bif decide (((0 : Int32)) < 0) then 13 else 8) (ls' := [some (.ref 0), some (.int (Int32.ofNat j)), some (.int ((0 : Int32))), none]) (st' := []) rfl ?_
    refine Er_pc (t := 8) (show (bif decide (((0 : Int32)) < 0) then 13 else 8) = 8 from by rw [show (decide (((0 : Int32)) < 0)) = false from by decide]; rfl) ?_
    refine Er_run 3 (pc' := bif decide (((0 : Int32)) ≤ ((2 : Int32))) then 23 else 13) (ls' := [some (.ref 0), some (.int (Int32.ofNat j)), some (.int ((0 : Int32))), none]) (st' := []) rfl ?_
    refine Er_pc (t := 23) (show (bif decide (((0 : Int32)) ≤ ((2 : Int32))) then 23 else 13) = 23 from by rw [show (decide (((0 : Int32)) ≤ ((2 : Int32)))) = true from by decide]; rfl) ?_
    refine Er_run 3 (pc' := bif decide (((0 : Int32)) = ((1 : Int32))) then 48 else 28) (ls' := [some (.ref 0), some (.int (Int32.ofNat j)), some (.int ((0 : Int32))), none]) (st' := []) rfl ?_
    refine Er_pc (t := 28) (show (bif decide (((0 : Int32)) = ((1 : Int32))) then 48 else 28) = 28 from by rw [show (decide (((0 : Int32)) = ((1 : Int32)))) = false from by decide]; rfl) ?_
    refine Er_run 1 (pc' := 29) (ls' := [some (.ref 0), some (.int (Int32.ofNat j)), some (.int ((0 : Int32))), none]) (st' := [.ref 0]) rfl ?_
    refine Er_getR (x := 141) rfl hx.1 hx.2.2.1 ?_
    refine Er_inv1 (q' := 141) (ci := 1) (av := []) (rest := []) rfl rfl ⟨Nat.le_of_ble_eq_true rfl, Nat.le_of_ble_eq_true rfl⟩ rfl rfl hd.1.1 (s_Program_length hd) ?_
    refine Er_run 1 (pc' := bif !decide ((Int32.ofNat D.length) = 0) then 48 else 38) (ls' := [some (.ref 0), some (.int (Int32.ofNat j)), some (.int ((0 : Int32))), none]) (st' := []) rfl ?_
    refine Er_pc (t := 48) (show (bif !decide ((Int32.ofNat D.length) = 0) then 48 else 38) = 48 from by rw [show (!decide ((Int32.ofNat D.length) = 0)) = true from by rw [show (0 : Int32) = Int32.ofNat 0 from rfl, jx_eq (by have := hd.2.1; omega) (by omega), decide_eq_false hD]; rfl]; rfl) ?_
    refine Er_run 1 (pc' := 49) (ls' := [some (.ref 0), some (.int (Int32.ofNat j)), some (.int ((0 : Int32))), none]) (st' := [.ref 0]) rfl ?_
    refine Er_getR (x := 141) rfl hx.1 hx.2.2.1 ?_
    have hlb := s_Program_leapsBehindEnd hd
    rw [if_neg hL] at hlb
    refine Er_inv1 (q' := 141) (ci := 1) (av := []) (rest := []) rfl rfl ⟨Nat.le_of_ble_eq_true rfl, Nat.le_of_ble_eq_true rfl⟩ rfl rfl hd.1.1 hlb ?_
    refine Er_run 1 (pc' := bif decide (((0 : Int32)) = 0) then 68 else 58) (ls' := [some (.ref 0), some (.int (Int32.ofNat j)), some (.int ((0 : Int32))), none]) (st' := []) rfl ?_
    refine Er_pc (t := 68) (show (bif decide (((0 : Int32)) = 0) then 68 else 58) = 68 from by rw [show (decide (((0 : Int32)) = 0)) = true from by decide]; rfl) ?_
    refine Er_run 1 (pc' := 69) (ls' := [some (.ref 0), some (.int (Int32.ofNat j)), some (.int ((0 : Int32))), none]) (st' := [.ref 0]) rfl ?_
    refine Er_inv0 (q' := 0) (ci := 11) (av := []) (rest := []) rfl rfl ⟨Nat.le_of_ble_eq_true rfl, Nat.le_of_ble_eq_true rfl⟩ rfl rfl hx.1 (s_Mill_needRest1 hx hr) ?_
    refine Er_run 1 (pc' := 73) (ls' := [some (.ref 0), some (.int (Int32.ofNat j)), some (.int ((0 : Int32))), none]) (st' := [.ref 0]) rfl ?_
    refine Er_getR (x := 1) rfl hx.1 hx.2.1 ?_
    refine Er_run 1 (pc' := 77) (ls' := [some (.ref 0), some (.int (Int32.ofNat j)), some (.int ((0 : Int32))), none]) (st' := [.int (Int32.ofNat j), .ref 1]) rfl ?_
    refine Er_inv1 (q' := 1) (ci := 3) (av := [.int (Int32.ofNat j)]) (rest := []) rfl rfl ⟨Nat.le_of_ble_eq_true rfl, Nat.le_of_ble_eq_true rfl⟩ rfl rfl hs.1.1 (s_Store_jobNumbered hs.1 hj) ?_
    refine Er_run 1 (pc' := 81) (ls' := [some (.ref 0), some (.int (Int32.ofNat j)), some (.int ((0 : Int32))), none]) (st' := [.int ((0 : Int32)), .ref (1 + 52 + 11 * j)]) rfl ?_
    refine Er_inv1 (q' := 1 + 52 + 11 * j) (ci := 2) (av := [.int ((0 : Int32))]) (rest := []) rfl rfl ⟨Nat.le_of_ble_eq_true rfl, Nat.le_of_ble_eq_true rfl⟩ rfl rfl (hs.2.2.2 j hj).1.1 (s_Job_programFor0 (hs.2.2.2 j hj).1) ?_
    refine Er_run 3 (pc' := 87) (ls' := [some (.ref 0), some (.int (Int32.ofNat j)), some (.int ((0 : Int32))), some (.ref (1 + 52 + 11 * j + 2))]) (st' := [.ref 0, .ref (1 + 52 + 11 * j + 2)]) rfl ?_
    refine Er_getR (x := 141) rfl hx.1 hx.2.2.1 ?_
    obtain ⟨h1, r1, p1, f1⟩ := s_Program_take (hs.2.2.2 j hj).2.2.1 hd (by omega)
    have x1 := isX_fr f1 (by omega) (by omega) hx
    have d1 := GL_fr f1 (by omega) hd
    refine Er_inv0 (q' := 1 + 52 + 11 * j + 2) (ci := 1) (av := [.ref 141]) (rest := []) rfl rfl ⟨Nat.le_of_ble_eq_true rfl, Nat.le_of_ble_eq_true rfl⟩ rfl rfl (hs.2.2.2 j hj).2.2.1.1.1 r1 ?_
    refine Er_run 1 (pc' := 94) (ls' := [some (.ref 0), some (.int (Int32.ofNat j)), some (.int ((0 : Int32))), some (.ref (1 + 52 + 11 * j + 2))]) (st' := [.ref 0]) rfl ?_
    refine Er_getR (x := 141) rfl x1.1 x1.2.2.1 ?_
    obtain ⟨h2, r2, p2, f2⟩ := s_Program_empty d1
    have q2 := GL_fr f2 (by omega) p1
    refine Er_inv0 (q' := 141) (ci := 1) (av := []) (rest := []) rfl rfl ⟨Nat.le_of_ble_eq_true rfl, Nat.le_of_ble_eq_true rfl⟩ rfl rfl d1.1.1 r2 ?_
    refine Er_run 1 (pc' := 101) (ls' := [some (.ref 0), some (.int (Int32.ofNat j)), some (.int ((0 : Int32))), some (.ref (1 + 52 + 11 * j + 2))]) (st' := [.ref (1 + 52 + 11 * j + 2)]) rfl ?_
    refine Er_inv1 (q' := 1 + 52 + 11 * j + 2) (ci := 1) (av := []) (rest := []) rfl rfl ⟨Nat.le_of_ble_eq_true rfl, Nat.le_of_ble_eq_true rfl⟩ rfl rfl q2.1.1 (s_Program_length q2) ?_
    exact Er_fin rfl rfl ⟨rfl, ST_fr f2 (by omega) (ST_pr hj (by omega) f1 p1 hs), p2, isX_fr f2 (by omega) (by omega) x1, fun c hc1 hc2 => ⟨(f2.2.2.2.2 c (by omega)).1.trans (f1.2.2.2.2 c (by omega)).1, (f2.2.2.2.2 c (by omega)).2.1.trans (f1.2.2.2.2 c (by omega)).2.1, (f2.2.2.2.2 c (by omega)).2.2.trans (f1.2.2.2.2 c (by omega)).2.2⟩, f2.1.trans f1.1, f2.2.1.trans f1.2.1, f2.2.2.1.trans f1.2.2.1, f2.2.2.2.1.trans f1.2.2.2.1⟩
  obtain ⟨r, h', hr, e, hq⟩ := Run_of (Nat.le_of_ble_eq_true rfl) hx
  subst e
  exact ⟨h', hr, hq⟩
theorem s_Mill_program1_l (hj : j < 8) (hx : isX h) (hd : GL h 141 D) (hL : D.any (jx_lb D.length) = true) : Run 138 [.ref 0, .int (Int32.ofNat j), .int ((1 : Int32))] h (.inr 1) (hjunk h) := by
  refine ⟨Nat.le_of_ble_eq_true rfl, ?_⟩
  show Ev 138 0 [some (.ref 0), some (.int (Int32.ofNat j)), some (.int ((1 : Int32))), none] [] h _
  refine Er_run 1 (pc' := 1) (ls' := [some (.ref 0), some (.int (Int32.ofNat j)), some (.int ((1 : Int32))), none]) (st' := [.int (Int32.ofNat j)]) rfl ?_
  refine Er_sta0 (av := [.int (Int32.ofNat j)]) (rest := []) rfl rfl ⟨Nat.le_of_ble_eq_true rfl, Nat.le_of_ble_eq_true rfl⟩ rfl rfl (s_Mill_needJobNumber1 hj) ?_
  refine Er_run 2 (pc' := bif decide (((1 : Int32)) < 0) then 13 else 8) (ls' := [some (.ref 0), some (.int (Int32.ofNat j)), some (.int ((1 : Int32))), none]) (st' := []) rfl ?_
  refine Er_pc (t := 8) (show (bif decide (((1 : Int32)) < 0) then 13 else 8) = 8 from by rw [show (decide (((1 : Int32)) < 0)) = false from by decide]; rfl) ?_
  refine Er_run 3 (pc' := bif decide (((1 : Int32)) ≤ ((2 : Int32))) then 23 else 13) (ls' := [some (.ref 0), some (.int (Int32.ofNat j)), some (.int ((1 : Int32))), none]) (st' := []) rfl ?_
  refine Er_pc (t := 23) (show (bif decide (((1 : Int32)) ≤ ((2 : Int32))) then 23 else 13) = 23 from by rw [show (decide (((1 : Int32)) ≤ ((2 : Int32)))) = true from by decide]; rfl) ?_
  refine Er_run 3 (pc' := bif decide (((1 : Int32)) = ((1 : Int32))) then 48 else 28) (ls' := [some (.ref 0), some (.int (Int32.ofNat j)), some (.int ((1 : Int32))), none]) (st' := []) rfl ?_
  refine Er_pc (t := 48) (show (bif decide (((1 : Int32)) = ((1 : Int32))) then 48 else 28) = 48 from by rw [show (decide (((1 : Int32)) = ((1 : Int32)))) = true from by decide]; rfl) ?_
  refine Er_run 1 (pc' := 49) (ls' := [some (.ref 0), some (.int (Int32.ofNat j)), some (.int ((1 : Int32))), none]) (st' := [.ref 0]) rfl ?_
  refine Er_getR (x := 141) rfl hx.1 hx.2.2.1 ?_
  have hlb := s_Program_leapsBehindEnd hd
  rw [if_pos hL] at hlb
  refine Er_inv1 (q' := 141) (ci := 1) (av := []) (rest := []) rfl rfl ⟨Nat.le_of_ble_eq_true rfl, Nat.le_of_ble_eq_true rfl⟩ rfl rfl hd.1.1 hlb ?_
  refine Er_run 1 (pc' := bif decide (((1 : Int32)) = 0) then 68 else 58) (ls' := [some (.ref 0), some (.int (Int32.ofNat j)), some (.int ((1 : Int32))), none]) (st' := []) rfl ?_
  refine Er_pc (t := 58) (show (bif decide (((1 : Int32)) = 0) then 68 else 58) = 58 from by rw [show (decide (((1 : Int32)) = 0)) = false from by decide]; rfl) ?_
  exact Er_fin rfl rfl ⟨rfl, rfl⟩
theorem s_Mill_program1_r (hj : j < 8) (hx : isX h) (hd : GL h 141 D) (hL : ¬ D.any (jx_lb D.length) = true) (hr : gI h 0 6 = 1) : Run 138 [.ref 0, .int (Int32.ofNat j), .int ((1 : Int32))] h (.inr 2) (hjunk h) := by
  refine ⟨Nat.le_of_ble_eq_true rfl, ?_⟩
  show Ev 138 0 [some (.ref 0), some (.int (Int32.ofNat j)), some (.int ((1 : Int32))), none] [] h _
  refine Er_run 1 (pc' := 1) (ls' := [some (.ref 0), some (.int (Int32.ofNat j)), some (.int ((1 : Int32))), none]) (st' := [.int (Int32.ofNat j)]) rfl ?_
  refine Er_sta0 (av := [.int (Int32.ofNat j)]) (rest := []) rfl rfl ⟨Nat.le_of_ble_eq_true rfl, Nat.le_of_ble_eq_true rfl⟩ rfl rfl (s_Mill_needJobNumber1 hj) ?_
  refine Er_run 2 (pc' := bif decide (((1 : Int32)) < 0) then 13 else 8) (ls' := [some (.ref 0), some (.int (Int32.ofNat j)), some (.int ((1 : Int32))), none]) (st' := []) rfl ?_
  refine Er_pc (t := 8) (show (bif decide (((1 : Int32)) < 0) then 13 else 8) = 8 from by rw [show (decide (((1 : Int32)) < 0)) = false from by decide]; rfl) ?_
  refine Er_run 3 (pc' := bif decide (((1 : Int32)) ≤ ((2 : Int32))) then 23 else 13) (ls' := [some (.ref 0), some (.int (Int32.ofNat j)), some (.int ((1 : Int32))), none]) (st' := []) rfl ?_
  refine Er_pc (t := 23) (show (bif decide (((1 : Int32)) ≤ ((2 : Int32))) then 23 else 13) = 23 from by rw [show (decide (((1 : Int32)) ≤ ((2 : Int32)))) = true from by decide]; rfl) ?_
  refine Er_run 3 (pc' := bif decide (((1 : Int32)) = ((1 : Int32))) then 48 else 28) (ls' := [some (.ref 0), some (.int (Int32.ofNat j)), some (.int ((1 : Int32))), none]) (st' := []) rfl ?_
  refine Er_pc (t := 48) (show (bif decide (((1 : Int32)) = ((1 : Int32))) then 48 else 28) = 48 from by rw [show (decide (((1 : Int32)) = ((1 : Int32)))) = true from by decide]; rfl) ?_
  refine Er_run 1 (pc' := 49) (ls' := [some (.ref 0), some (.int (Int32.ofNat j)), some (.int ((1 : Int32))), none]) (st' := [.ref 0]) rfl ?_
  refine Er_getR (x := 141) rfl hx.1 hx.2.2.1 ?_
  have hlb := s_Program_leapsBehindEnd hd
  rw [if_neg hL] at hlb
  refine Er_inv1 (q' := 141) (ci := 1) (av := []) (rest := []) rfl rfl ⟨Nat.le_of_ble_eq_true rfl, Nat.le_of_ble_eq_true rfl⟩ rfl rfl hd.1.1 hlb ?_
  refine Er_run 1 (pc' := bif decide (((0 : Int32)) = 0) then 68 else 58) (ls' := [some (.ref 0), some (.int (Int32.ofNat j)), some (.int ((1 : Int32))), none]) (st' := []) rfl ?_
  refine Er_pc (t := 68) (show (bif decide (((0 : Int32)) = 0) then 68 else 58) = 68 from by rw [show (decide (((0 : Int32)) = 0)) = true from by decide]; rfl) ?_
  refine Er_run 1 (pc' := 69) (ls' := [some (.ref 0), some (.int (Int32.ofNat j)), some (.int ((1 : Int32))), none]) (st' := [.ref 0]) rfl ?_
  exact Er_invX (q' := 0) (ci := 11) (av := []) rfl rfl ⟨Nat.le_of_ble_eq_true rfl, Nat.le_of_ble_eq_true rfl⟩ rfl hx.1 (s_Mill_needRest0 hx hr) rfl ⟨rfl, rfl⟩
theorem s_Mill_program1 (hj : j < 8) (hx : isX h) (hd : GL h 141 D) (hs : ST h 1 cl G PR F) (hL : ¬ D.any (jx_lb D.length) = true) (hr : gI h 0 6 = 0) : ∃ h', Run 138 [.ref 0, .int (Int32.ofNat j), .int ((1 : Int32))] h (.inl (some (.int (Int32.ofNat D.length)))) h' ∧ ST h' 1 cl G (jx_up PR j (jx_up (PR j) 1 D)) F ∧ GL h' 141 [] ∧ isX h' ∧ (∀ c, (c < 53 ∨ 141 ≤ c) → (c < 141 ∨ 144 ≤ c) → gI h' c = gI h c ∧ gL h' c = gL h c ∧ gR h' c = gR h c) ∧ gN h' = gN h ∧ gS h' = gS h ∧ gJ h' = gJ h ∧ gD h' = gD h := by
  have hx : Ev 138 0 (sm_pad (sm_ent [.ref 0, .int (Int32.ofNat j), .int ((1 : Int32))]) (sm_prog.2.1 138)) [] h (fun r h1 => r = .inl (some (.int (Int32.ofNat D.length))) ∧ ST h1 1 cl G (jx_up PR j (jx_up (PR j) 1 D)) F ∧ GL h1 141 [] ∧ isX h1 ∧ (∀ c, (c < 53 ∨ 141 ≤ c) → (c < 141 ∨ 144 ≤ c) → gI h1 c = gI h c ∧ gL h1 c = gL h c ∧ gR h1 c = gR h c) ∧ gN h1 = gN h ∧ gS h1 = gS h ∧ gJ h1 = gJ h ∧ gD h1 = gD h) := by
    show Ev 138 0 [some (.ref 0), some (.int (Int32.ofNat j)), some (.int ((1 : Int32))), none] [] h _
    refine Er_run 1 (pc' := 1) (ls' := [some (.ref 0), some (.int (Int32.ofNat j)), some (.int ((1 : Int32))), none]) (st' := [.int (Int32.ofNat j)]) rfl ?_
    refine Er_sta0 (av := [.int (Int32.ofNat j)]) (rest := []) rfl rfl ⟨Nat.le_of_ble_eq_true rfl, Nat.le_of_ble_eq_true rfl⟩ rfl rfl (s_Mill_needJobNumber1 hj) ?_
    refine Er_run 2 (pc' := bif decide (((1 : Int32)) < 0) then 13 else 8) (ls' := [some (.ref 0), some (.int (Int32.ofNat j)), some (.int ((1 : Int32))), none]) (st' := []) rfl ?_
    refine Er_pc (t := 8) (show (bif decide (((1 : Int32)) < 0) then 13 else 8) = 8 from by rw [show (decide (((1 : Int32)) < 0)) = false from by decide]; rfl) ?_
    refine Er_run 3 (pc' := bif decide (((1 : Int32)) ≤ ((2 : Int32))) then 23 else 13) (ls' := [some (.ref 0), some (.int (Int32.ofNat j)), some (.int ((1 : Int32))), none]) (st' := []) rfl ?_
    refine Er_pc (t := 23) (show (bif decide (((1 : Int32)) ≤ ((2 : Int32))) then 23 else 13) = 23 from by rw [show (decide (((1 : Int32)) ≤ ((2 : Int32)))) = true from by decide]; rfl) ?_
    refine Er_run 3 (pc' := bif decide (((1 : Int32)) = ((1 : Int32))) then 48 else 28) (ls' := [some (.ref 0), some (.int (Int32.ofNat j)), some (.int ((1 : Int32))), none]) (st' := []) rfl ?_
    refine Er_pc (t := 48) (show (bif decide (((1 : Int32)) = ((1 : Int32))) then 48 else 28) = 48 from by rw [show (decide (((1 : Int32)) = ((1 : Int32)))) = true from by decide]; rfl) ?_
    refine Er_run 1 (pc' := 49) (ls' := [some (.ref 0), some (.int (Int32.ofNat j)), some (.int ((1 : Int32))), none]) (st' := [.ref 0]) rfl ?_
    refine Er_getR (x := 141) rfl hx.1 hx.2.2.1 ?_
    have hlb := s_Program_leapsBehindEnd hd
    rw [if_neg hL] at hlb
    refine Er_inv1 (q' := 141) (ci := 1) (av := []) (rest := []) rfl rfl ⟨Nat.le_of_ble_eq_true rfl, Nat.le_of_ble_eq_true rfl⟩ rfl rfl hd.1.1 hlb ?_
    refine Er_run 1 (pc' := bif decide (((0 : Int32)) = 0) then 68 else 58) (ls' := [some (.ref 0), some (.int (Int32.ofNat j)), some (.int ((1 : Int32))), none]) (st' := []) rfl ?_
    refine Er_pc (t := 68) (show (bif decide (((0 : Int32)) = 0) then 68 else 58) = 68 from by rw [show (decide (((0 : Int32)) = 0)) = true from by decide]; rfl) ?_
    refine Er_run 1 (pc' := 69) (ls' := [some (.ref 0), some (.int (Int32.ofNat j)), some (.int ((1 : Int32))), none]) (st' := [.ref 0]) rfl ?_
    refine Er_inv0 (q' := 0) (ci := 11) (av := []) (rest := []) rfl rfl ⟨Nat.le_of_ble_eq_true rfl, Nat.le_of_ble_eq_true rfl⟩ rfl rfl hx.1 (s_Mill_needRest1 hx hr) ?_
    refine Er_run 1 (pc' := 73) (ls' := [some (.ref 0), some (.int (Int32.ofNat j)), some (.int ((1 : Int32))), none]) (st' := [.ref 0]) rfl ?_
    refine Er_getR (x := 1) rfl hx.1 hx.2.1 ?_
    refine Er_run 1 (pc' := 77) (ls' := [some (.ref 0), some (.int (Int32.ofNat j)), some (.int ((1 : Int32))), none]) (st' := [.int (Int32.ofNat j), .ref 1]) rfl ?_
    refine Er_inv1 (q' := 1) (ci := 3) (av := [.int (Int32.ofNat j)]) (rest := []) rfl rfl ⟨Nat.le_of_ble_eq_true rfl, Nat.le_of_ble_eq_true rfl⟩ rfl rfl hs.1.1 (s_Store_jobNumbered hs.1 hj) ?_
    refine Er_run 1 (pc' := 81) (ls' := [some (.ref 0), some (.int (Int32.ofNat j)), some (.int ((1 : Int32))), none]) (st' := [.int ((1 : Int32)), .ref (1 + 52 + 11 * j)]) rfl ?_
    refine Er_inv1 (q' := 1 + 52 + 11 * j) (ci := 2) (av := [.int ((1 : Int32))]) (rest := []) rfl rfl ⟨Nat.le_of_ble_eq_true rfl, Nat.le_of_ble_eq_true rfl⟩ rfl rfl (hs.2.2.2 j hj).1.1 (s_Job_programFor1 (hs.2.2.2 j hj).1) ?_
    refine Er_run 3 (pc' := 87) (ls' := [some (.ref 0), some (.int (Int32.ofNat j)), some (.int ((1 : Int32))), some (.ref (1 + 52 + 11 * j + 5))]) (st' := [.ref 0, .ref (1 + 52 + 11 * j + 5)]) rfl ?_
    refine Er_getR (x := 141) rfl hx.1 hx.2.2.1 ?_
    obtain ⟨h1, r1, p1, f1⟩ := s_Program_take (hs.2.2.2 j hj).2.2.2.1 hd (by omega)
    have x1 := isX_fr f1 (by omega) (by omega) hx
    have d1 := GL_fr f1 (by omega) hd
    refine Er_inv0 (q' := 1 + 52 + 11 * j + 5) (ci := 1) (av := [.ref 141]) (rest := []) rfl rfl ⟨Nat.le_of_ble_eq_true rfl, Nat.le_of_ble_eq_true rfl⟩ rfl rfl (hs.2.2.2 j hj).2.2.2.1.1.1 r1 ?_
    refine Er_run 1 (pc' := 94) (ls' := [some (.ref 0), some (.int (Int32.ofNat j)), some (.int ((1 : Int32))), some (.ref (1 + 52 + 11 * j + 5))]) (st' := [.ref 0]) rfl ?_
    refine Er_getR (x := 141) rfl x1.1 x1.2.2.1 ?_
    obtain ⟨h2, r2, p2, f2⟩ := s_Program_empty d1
    have q2 := GL_fr f2 (by omega) p1
    refine Er_inv0 (q' := 141) (ci := 1) (av := []) (rest := []) rfl rfl ⟨Nat.le_of_ble_eq_true rfl, Nat.le_of_ble_eq_true rfl⟩ rfl rfl d1.1.1 r2 ?_
    refine Er_run 1 (pc' := 101) (ls' := [some (.ref 0), some (.int (Int32.ofNat j)), some (.int ((1 : Int32))), some (.ref (1 + 52 + 11 * j + 5))]) (st' := [.ref (1 + 52 + 11 * j + 5)]) rfl ?_
    refine Er_inv1 (q' := 1 + 52 + 11 * j + 5) (ci := 1) (av := []) (rest := []) rfl rfl ⟨Nat.le_of_ble_eq_true rfl, Nat.le_of_ble_eq_true rfl⟩ rfl rfl q2.1.1 (s_Program_length q2) ?_
    exact Er_fin rfl rfl ⟨rfl, ST_fr f2 (by omega) (ST_pr hj (by omega) f1 p1 hs), p2, isX_fr f2 (by omega) (by omega) x1, fun c hc1 hc2 => ⟨(f2.2.2.2.2 c (by omega)).1.trans (f1.2.2.2.2 c (by omega)).1, (f2.2.2.2.2 c (by omega)).2.1.trans (f1.2.2.2.2 c (by omega)).2.1, (f2.2.2.2.2 c (by omega)).2.2.trans (f1.2.2.2.2 c (by omega)).2.2⟩, f2.1.trans f1.1, f2.2.1.trans f1.2.1, f2.2.2.1.trans f1.2.2.1, f2.2.2.2.1.trans f1.2.2.2.1⟩
  obtain ⟨r, h', hr, e, hq⟩ := Run_of (Nat.le_of_ble_eq_true rfl) hx
  subst e
  exact ⟨h', hr, hq⟩
theorem s_Mill_program2_l (hj : j < 8) (hx : isX h) (hd : GL h 141 D) (hD : ¬ D.length = 0) (hL : D.any (jx_lb D.length) = true) : Run 138 [.ref 0, .int (Int32.ofNat j), .int ((2 : Int32))] h (.inr 1) (hjunk h) := by
  refine ⟨Nat.le_of_ble_eq_true rfl, ?_⟩
  show Ev 138 0 [some (.ref 0), some (.int (Int32.ofNat j)), some (.int ((2 : Int32))), none] [] h _
  refine Er_run 1 (pc' := 1) (ls' := [some (.ref 0), some (.int (Int32.ofNat j)), some (.int ((2 : Int32))), none]) (st' := [.int (Int32.ofNat j)]) rfl ?_
  refine Er_sta0 (av := [.int (Int32.ofNat j)]) (rest := []) rfl rfl ⟨Nat.le_of_ble_eq_true rfl, Nat.le_of_ble_eq_true rfl⟩ rfl rfl (s_Mill_needJobNumber1 hj) ?_
  refine Er_run 2 (pc' := bif decide (((2 : Int32)) < 0) then 13 else 8) (ls' := [some (.ref 0), some (.int (Int32.ofNat j)), some (.int ((2 : Int32))), none]) (st' := []) rfl ?_
  refine Er_pc (t := 8) (show (bif decide (((2 : Int32)) < 0) then 13 else 8) = 8 from by rw [show (decide (((2 : Int32)) < 0)) = false from by decide]; rfl) ?_
  refine Er_run 3 (pc' := bif decide (((2 : Int32)) ≤ ((2 : Int32))) then 23 else 13) (ls' := [some (.ref 0), some (.int (Int32.ofNat j)), some (.int ((2 : Int32))), none]) (st' := []) rfl ?_
  refine Er_pc (t := 23) (show (bif decide (((2 : Int32)) ≤ ((2 : Int32))) then 23 else 13) = 23 from by rw [show (decide (((2 : Int32)) ≤ ((2 : Int32)))) = true from by decide]; rfl) ?_
  refine Er_run 3 (pc' := bif decide (((2 : Int32)) = ((1 : Int32))) then 48 else 28) (ls' := [some (.ref 0), some (.int (Int32.ofNat j)), some (.int ((2 : Int32))), none]) (st' := []) rfl ?_
  refine Er_pc (t := 28) (show (bif decide (((2 : Int32)) = ((1 : Int32))) then 48 else 28) = 28 from by rw [show (decide (((2 : Int32)) = ((1 : Int32)))) = false from by decide]; rfl) ?_
  refine Er_run 1 (pc' := 29) (ls' := [some (.ref 0), some (.int (Int32.ofNat j)), some (.int ((2 : Int32))), none]) (st' := [.ref 0]) rfl ?_
  refine Er_getR (x := 141) rfl hx.1 hx.2.2.1 ?_
  refine Er_inv1 (q' := 141) (ci := 1) (av := []) (rest := []) rfl rfl ⟨Nat.le_of_ble_eq_true rfl, Nat.le_of_ble_eq_true rfl⟩ rfl rfl hd.1.1 (s_Program_length hd) ?_
  refine Er_run 1 (pc' := bif !decide ((Int32.ofNat D.length) = 0) then 48 else 38) (ls' := [some (.ref 0), some (.int (Int32.ofNat j)), some (.int ((2 : Int32))), none]) (st' := []) rfl ?_
  refine Er_pc (t := 48) (show (bif !decide ((Int32.ofNat D.length) = 0) then 48 else 38) = 48 from by rw [show (!decide ((Int32.ofNat D.length) = 0)) = true from by rw [show (0 : Int32) = Int32.ofNat 0 from rfl, jx_eq (by have := hd.2.1; omega) (by omega), decide_eq_false hD]; rfl]; rfl) ?_
  refine Er_run 1 (pc' := 49) (ls' := [some (.ref 0), some (.int (Int32.ofNat j)), some (.int ((2 : Int32))), none]) (st' := [.ref 0]) rfl ?_
  refine Er_getR (x := 141) rfl hx.1 hx.2.2.1 ?_
  have hlb := s_Program_leapsBehindEnd hd
  rw [if_pos hL] at hlb
  refine Er_inv1 (q' := 141) (ci := 1) (av := []) (rest := []) rfl rfl ⟨Nat.le_of_ble_eq_true rfl, Nat.le_of_ble_eq_true rfl⟩ rfl rfl hd.1.1 hlb ?_
  refine Er_run 1 (pc' := bif decide (((1 : Int32)) = 0) then 68 else 58) (ls' := [some (.ref 0), some (.int (Int32.ofNat j)), some (.int ((2 : Int32))), none]) (st' := []) rfl ?_
  refine Er_pc (t := 58) (show (bif decide (((1 : Int32)) = 0) then 68 else 58) = 58 from by rw [show (decide (((1 : Int32)) = 0)) = false from by decide]; rfl) ?_
  exact Er_fin rfl rfl ⟨rfl, rfl⟩
theorem s_Mill_program2_r (hj : j < 8) (hx : isX h) (hd : GL h 141 D) (hD : ¬ D.length = 0) (hL : ¬ D.any (jx_lb D.length) = true) (hr : gI h 0 6 = 1) : Run 138 [.ref 0, .int (Int32.ofNat j), .int ((2 : Int32))] h (.inr 2) (hjunk h) := by
  refine ⟨Nat.le_of_ble_eq_true rfl, ?_⟩
  show Ev 138 0 [some (.ref 0), some (.int (Int32.ofNat j)), some (.int ((2 : Int32))), none] [] h _
  refine Er_run 1 (pc' := 1) (ls' := [some (.ref 0), some (.int (Int32.ofNat j)), some (.int ((2 : Int32))), none]) (st' := [.int (Int32.ofNat j)]) rfl ?_
  refine Er_sta0 (av := [.int (Int32.ofNat j)]) (rest := []) rfl rfl ⟨Nat.le_of_ble_eq_true rfl, Nat.le_of_ble_eq_true rfl⟩ rfl rfl (s_Mill_needJobNumber1 hj) ?_
  refine Er_run 2 (pc' := bif decide (((2 : Int32)) < 0) then 13 else 8) (ls' := [some (.ref 0), some (.int (Int32.ofNat j)), some (.int ((2 : Int32))), none]) (st' := []) rfl ?_
  refine Er_pc (t := 8) (show (bif decide (((2 : Int32)) < 0) then 13 else 8) = 8 from by rw [show (decide (((2 : Int32)) < 0)) = false from by decide]; rfl) ?_
  refine Er_run 3 (pc' := bif decide (((2 : Int32)) ≤ ((2 : Int32))) then 23 else 13) (ls' := [some (.ref 0), some (.int (Int32.ofNat j)), some (.int ((2 : Int32))), none]) (st' := []) rfl ?_
  refine Er_pc (t := 23) (show (bif decide (((2 : Int32)) ≤ ((2 : Int32))) then 23 else 13) = 23 from by rw [show (decide (((2 : Int32)) ≤ ((2 : Int32)))) = true from by decide]; rfl) ?_
  refine Er_run 3 (pc' := bif decide (((2 : Int32)) = ((1 : Int32))) then 48 else 28) (ls' := [some (.ref 0), some (.int (Int32.ofNat j)), some (.int ((2 : Int32))), none]) (st' := []) rfl ?_
  refine Er_pc (t := 28) (show (bif decide (((2 : Int32)) = ((1 : Int32))) then 48 else 28) = 28 from by rw [show (decide (((2 : Int32)) = ((1 : Int32)))) = false from by decide]; rfl) ?_
  refine Er_run 1 (pc' := 29) (ls' := [some (.ref 0), some (.int (Int32.ofNat j)), some (.int ((2 : Int32))), none]) (st' := [.ref 0]) rfl ?_
  refine Er_getR (x := 141) rfl hx.1 hx.2.2.1 ?_
  refine Er_inv1 (q' := 141) (ci := 1) (av := []) (rest := []) rfl rfl ⟨Nat.le_of_ble_eq_true rfl, Nat.le_of_ble_eq_true rfl⟩ rfl rfl hd.1.1 (s_Program_length hd) ?_
  refine Er_run 1 (pc' := bif !decide ((Int32.ofNat D.length) = 0) then 48 else 38) (ls' := [some (.ref 0), some (.int (Int32.ofNat j)), some (.int ((2 : Int32))), none]) (st' := []) rfl ?_
  refine Er_pc (t := 48) (show (bif !decide ((Int32.ofNat D.length) = 0) then 48 else 38) = 48 from by rw [show (!decide ((Int32.ofNat D.length) = 0)) = true from by rw [show (0 : Int32) = Int32.ofNat 0 from rfl, jx_eq (by have := hd.2.1; omega) (by omega), decide_eq_false hD]; rfl]; rfl) ?_
  refine Er_run 1 (pc' := 49) (ls' := [some (.ref 0), some (.int (Int32.ofNat j)), some (.int ((2 : Int32))), none]) (st' := [.ref 0]) rfl ?_
  refine Er_getR (x := 141) rfl hx.1 hx.2.2.1 ?_
  have hlb := s_Program_leapsBehindEnd hd
  rw [if_neg hL] at hlb
  refine Er_inv1 (q' := 141) (ci := 1) (av := []) (rest := []) rfl rfl ⟨Nat.le_of_ble_eq_true rfl, Nat.le_of_ble_eq_true rfl⟩ rfl rfl hd.1.1 hlb ?_
  refine Er_run 1 (pc' := bif decide (((0 : Int32)) = 0) then 68 else 58) (ls' := [some (.ref 0), some (.int (Int32.ofNat j)), some (.int ((2 : Int32))), none]) (st' := []) rfl ?_
  refine Er_pc (t := 68) (show (bif decide (((0 : Int32)) = 0) then 68 else 58) = 68 from by rw [show (decide (((0 : Int32)) = 0)) = true from by decide]; rfl) ?_
  refine Er_run 1 (pc' := 69) (ls' := [some (.ref 0), some (.int (Int32.ofNat j)), some (.int ((2 : Int32))), none]) (st' := [.ref 0]) rfl ?_
  exact Er_invX (q' := 0) (ci := 11) (av := []) rfl rfl ⟨Nat.le_of_ble_eq_true rfl, Nat.le_of_ble_eq_true rfl⟩ rfl hx.1 (s_Mill_needRest0 hx hr) rfl ⟨rfl, rfl⟩
theorem s_Mill_program2 (hj : j < 8) (hx : isX h) (hd : GL h 141 D) (hD : ¬ D.length = 0) (hs : ST h 1 cl G PR F) (hL : ¬ D.any (jx_lb D.length) = true) (hr : gI h 0 6 = 0) : ∃ h', Run 138 [.ref 0, .int (Int32.ofNat j), .int ((2 : Int32))] h (.inl (some (.int (Int32.ofNat D.length)))) h' ∧ ST h' 1 cl G (jx_up PR j (jx_up (PR j) 2 D)) F ∧ GL h' 141 [] ∧ isX h' ∧ (∀ c, (c < 53 ∨ 141 ≤ c) → (c < 141 ∨ 144 ≤ c) → gI h' c = gI h c ∧ gL h' c = gL h c ∧ gR h' c = gR h c) ∧ gN h' = gN h ∧ gS h' = gS h ∧ gJ h' = gJ h ∧ gD h' = gD h := by
  have hx : Ev 138 0 (sm_pad (sm_ent [.ref 0, .int (Int32.ofNat j), .int ((2 : Int32))]) (sm_prog.2.1 138)) [] h (fun r h1 => r = .inl (some (.int (Int32.ofNat D.length))) ∧ ST h1 1 cl G (jx_up PR j (jx_up (PR j) 2 D)) F ∧ GL h1 141 [] ∧ isX h1 ∧ (∀ c, (c < 53 ∨ 141 ≤ c) → (c < 141 ∨ 144 ≤ c) → gI h1 c = gI h c ∧ gL h1 c = gL h c ∧ gR h1 c = gR h c) ∧ gN h1 = gN h ∧ gS h1 = gS h ∧ gJ h1 = gJ h ∧ gD h1 = gD h) := by
    show Ev 138 0 [some (.ref 0), some (.int (Int32.ofNat j)), some (.int ((2 : Int32))), none] [] h _
    refine Er_run 1 (pc' := 1) (ls' := [some (.ref 0), some (.int (Int32.ofNat j)), some (.int ((2 : Int32))), none]) (st' := [.int (Int32.ofNat j)]) rfl ?_
    refine Er_sta0 (av := [.int (Int32.ofNat j)]) (rest := []) rfl rfl ⟨Nat.le_of_ble_eq_true rfl, Nat.le_of_ble_eq_true rfl⟩ rfl rfl (s_Mill_needJobNumber1 hj) ?_
    refine Er_run 2 (pc' := bif decide (((2 : Int32)) < 0) then 13 else 8) (ls' := [some (.ref 0), some (.int (Int32.ofNat j)), some (.int ((2 : Int32))), none]) (st' := []) rfl ?_
    refine Er_pc (t := 8) (show (bif decide (((2 : Int32)) < 0) then 13 else 8) = 8 from by rw [show (decide (((2 : Int32)) < 0)) = false from by decide]; rfl) ?_
    refine Er_run 3 (pc' := bif decide (((2 : Int32)) ≤ ((2 : Int32))) then 23 else 13) (ls' := [some (.ref 0), some (.int (Int32.ofNat j)), some (.int ((2 : Int32))), none]) (st' := []) rfl ?_
    refine Er_pc (t := 23) (show (bif decide (((2 : Int32)) ≤ ((2 : Int32))) then 23 else 13) = 23 from by rw [show (decide (((2 : Int32)) ≤ ((2 : Int32)))) = true from by decide]; rfl) ?_
    refine Er_run 3 (pc' := bif decide (((2 : Int32)) = ((1 : Int32))) then 48 else 28) (ls' := [some (.ref 0), some (.int (Int32.ofNat j)), some (.int ((2 : Int32))), none]) (st' := []) rfl ?_
    refine Er_pc (t := 28) (show (bif decide (((2 : Int32)) = ((1 : Int32))) then 48 else 28) = 28 from by rw [show (decide (((2 : Int32)) = ((1 : Int32)))) = false from by decide]; rfl) ?_
    refine Er_run 1 (pc' := 29) (ls' := [some (.ref 0), some (.int (Int32.ofNat j)), some (.int ((2 : Int32))), none]) (st' := [.ref 0]) rfl ?_
    refine Er_getR (x := 141) rfl hx.1 hx.2.2.1 ?_
    refine Er_inv1 (q' := 141) (ci := 1) (av := []) (rest := []) rfl rfl ⟨Nat.le_of_ble_eq_true rfl, Nat.le_of_ble_eq_true rfl⟩ rfl rfl hd.1.1 (s_Program_length hd) ?_
    refine Er_run 1 (pc' := bif !decide ((Int32.ofNat D.length) = 0) then 48 else 38) (ls' := [some (.ref 0), some (.int (Int32.ofNat j)), some (.int ((2 : Int32))), none]) (st' := []) rfl ?_
    refine Er_pc (t := 48) (show (bif !decide ((Int32.ofNat D.length) = 0) then 48 else 38) = 48 from by rw [show (!decide ((Int32.ofNat D.length) = 0)) = true from by rw [show (0 : Int32) = Int32.ofNat 0 from rfl, jx_eq (by have := hd.2.1; omega) (by omega), decide_eq_false hD]; rfl]; rfl) ?_
    refine Er_run 1 (pc' := 49) (ls' := [some (.ref 0), some (.int (Int32.ofNat j)), some (.int ((2 : Int32))), none]) (st' := [.ref 0]) rfl ?_
    refine Er_getR (x := 141) rfl hx.1 hx.2.2.1 ?_
    have hlb := s_Program_leapsBehindEnd hd
    rw [if_neg hL] at hlb
    refine Er_inv1 (q' := 141) (ci := 1) (av := []) (rest := []) rfl rfl ⟨Nat.le_of_ble_eq_true rfl, Nat.le_of_ble_eq_true rfl⟩ rfl rfl hd.1.1 hlb ?_
    refine Er_run 1 (pc' := bif decide (((0 : Int32)) = 0) then 68 else 58) (ls' := [some (.ref 0), some (.int (Int32.ofNat j)), some (.int ((2 : Int32))), none]) (st' := []) rfl ?_
    refine Er_pc (t := 68) (show (bif decide (((0 : Int32)) = 0) then 68 else 58) = 68 from by rw [show (decide (((0 : Int32)) = 0)) = true from by decide]; rfl) ?_
    refine Er_run 1 (pc' := 69) (ls' := [some (.ref 0), some (.int (Int32.ofNat j)), some (.int ((2 : Int32))), none]) (st' := [.ref 0]) rfl ?_
    refine Er_inv0 (q' := 0) (ci := 11) (av := []) (rest := []) rfl rfl ⟨Nat.le_of_ble_eq_true rfl, Nat.le_of_ble_eq_true rfl⟩ rfl rfl hx.1 (s_Mill_needRest1 hx hr) ?_
    refine Er_run 1 (pc' := 73) (ls' := [some (.ref 0), some (.int (Int32.ofNat j)), some (.int ((2 : Int32))), none]) (st' := [.ref 0]) rfl ?_
    refine Er_getR (x := 1) rfl hx.1 hx.2.1 ?_
    refine Er_run 1 (pc' := 77) (ls' := [some (.ref 0), some (.int (Int32.ofNat j)), some (.int ((2 : Int32))), none]) (st' := [.int (Int32.ofNat j), .ref 1]) rfl ?_
    refine Er_inv1 (q' := 1) (ci := 3) (av := [.int (Int32.ofNat j)]) (rest := []) rfl rfl ⟨Nat.le_of_ble_eq_true rfl, Nat.le_of_ble_eq_true rfl⟩ rfl rfl hs.1.1 (s_Store_jobNumbered hs.1 hj) ?_
    refine Er_run 1 (pc' := 81) (ls' := [some (.ref 0), some (.int (Int32.ofNat j)), some (.int ((2 : Int32))), none]) (st' := [.int ((2 : Int32)), .ref (1 + 52 + 11 * j)]) rfl ?_
    refine Er_inv1 (q' := 1 + 52 + 11 * j) (ci := 2) (av := [.int ((2 : Int32))]) (rest := []) rfl rfl ⟨Nat.le_of_ble_eq_true rfl, Nat.le_of_ble_eq_true rfl⟩ rfl rfl (hs.2.2.2 j hj).1.1 (s_Job_programFor2 (hs.2.2.2 j hj).1) ?_
    refine Er_run 3 (pc' := 87) (ls' := [some (.ref 0), some (.int (Int32.ofNat j)), some (.int ((2 : Int32))), some (.ref (1 + 52 + 11 * j + 8))]) (st' := [.ref 0, .ref (1 + 52 + 11 * j + 8)]) rfl ?_
    refine Er_getR (x := 141) rfl hx.1 hx.2.2.1 ?_
    obtain ⟨h1, r1, p1, f1⟩ := s_Program_take (hs.2.2.2 j hj).2.2.2.2 hd (by omega)
    have x1 := isX_fr f1 (by omega) (by omega) hx
    have d1 := GL_fr f1 (by omega) hd
    refine Er_inv0 (q' := 1 + 52 + 11 * j + 8) (ci := 1) (av := [.ref 141]) (rest := []) rfl rfl ⟨Nat.le_of_ble_eq_true rfl, Nat.le_of_ble_eq_true rfl⟩ rfl rfl (hs.2.2.2 j hj).2.2.2.2.1.1 r1 ?_
    refine Er_run 1 (pc' := 94) (ls' := [some (.ref 0), some (.int (Int32.ofNat j)), some (.int ((2 : Int32))), some (.ref (1 + 52 + 11 * j + 8))]) (st' := [.ref 0]) rfl ?_
    refine Er_getR (x := 141) rfl x1.1 x1.2.2.1 ?_
    obtain ⟨h2, r2, p2, f2⟩ := s_Program_empty d1
    have q2 := GL_fr f2 (by omega) p1
    refine Er_inv0 (q' := 141) (ci := 1) (av := []) (rest := []) rfl rfl ⟨Nat.le_of_ble_eq_true rfl, Nat.le_of_ble_eq_true rfl⟩ rfl rfl d1.1.1 r2 ?_
    refine Er_run 1 (pc' := 101) (ls' := [some (.ref 0), some (.int (Int32.ofNat j)), some (.int ((2 : Int32))), some (.ref (1 + 52 + 11 * j + 8))]) (st' := [.ref (1 + 52 + 11 * j + 8)]) rfl ?_
    refine Er_inv1 (q' := 1 + 52 + 11 * j + 8) (ci := 1) (av := []) (rest := []) rfl rfl ⟨Nat.le_of_ble_eq_true rfl, Nat.le_of_ble_eq_true rfl⟩ rfl rfl q2.1.1 (s_Program_length q2) ?_
    exact Er_fin rfl rfl ⟨rfl, ST_fr f2 (by omega) (ST_pr hj (by omega) f1 p1 hs), p2, isX_fr f2 (by omega) (by omega) x1, fun c hc1 hc2 => ⟨(f2.2.2.2.2 c (by omega)).1.trans (f1.2.2.2.2 c (by omega)).1, (f2.2.2.2.2 c (by omega)).2.1.trans (f1.2.2.2.2 c (by omega)).2.1, (f2.2.2.2.2 c (by omega)).2.2.trans (f1.2.2.2.2 c (by omega)).2.2⟩, f2.1.trans f1.1, f2.2.1.trans f1.2.1, f2.2.2.1.trans f1.2.2.1, f2.2.2.2.1.trans f1.2.2.2.1⟩
  obtain ⟨r, h', hr, e, hq⟩ := Run_of (Nat.le_of_ble_eq_true rfl) hx
  subst e
  exact ⟨h', hr, hq⟩
theorem s_Mill_drop_r (hj : j < 8) (hx : isX h) (hr : gI h 0 6 = 1) : Run 140 [.ref 0, .int (Int32.ofNat j)] h (.inr 2) (hjunk h) := by
  refine ⟨Nat.le_of_ble_eq_true rfl, ?_⟩
  show Ev 140 0 [some (.ref 0), some (.int (Int32.ofNat j))] [] h _
  refine Er_run 1 (pc' := 1) (ls' := [some (.ref 0), some (.int (Int32.ofNat j))]) (st' := [.int (Int32.ofNat j)]) rfl ?_
  refine Er_sta0 (av := [.int (Int32.ofNat j)]) (rest := []) rfl rfl ⟨Nat.le_of_ble_eq_true rfl, Nat.le_of_ble_eq_true rfl⟩ rfl rfl (s_Mill_needJobNumber1 hj) ?_
  refine Er_run 1 (pc' := 5) (ls' := [some (.ref 0), some (.int (Int32.ofNat j))]) (st' := [.ref 0]) rfl ?_
  exact Er_invX (q' := 0) (ci := 11) (av := []) rfl rfl ⟨Nat.le_of_ble_eq_true rfl, Nat.le_of_ble_eq_true rfl⟩ rfl hx.1 (s_Mill_needRest0 hx hr) rfl ⟨rfl, rfl⟩
theorem s_Mill_drop (hj : j < 8) (hx : isX h) (hs : ST h 1 cl G PR F) (hr : gI h 0 6 = 0) : ∃ h', Run 140 [.ref 0, .int (Int32.ofNat j)] h (.inl (some (.int (G j 1)))) h' ∧ ST h' 1 cl (jx_up G j (jx_up (G j) 1 0)) PR F ∧ Fr (1 + 52 + 11 * j) (1 + 52 + 11 * j + 1) h h' := by
  have hx : Ev 140 0 (sm_pad (sm_ent [.ref 0, .int (Int32.ofNat j)]) (sm_prog.2.1 140)) [] h (fun r h1 => r = .inl (some (.int (G j 1))) ∧ ST h1 1 cl (jx_up G j (jx_up (G j) 1 0)) PR F ∧ Fr (1 + 52 + 11 * j) (1 + 52 + 11 * j + 1) h h1) := by
    show Ev 140 0 [some (.ref 0), some (.int (Int32.ofNat j))] [] h _
    refine Er_run 1 (pc' := 1) (ls' := [some (.ref 0), some (.int (Int32.ofNat j))]) (st' := [.int (Int32.ofNat j)]) rfl ?_
    refine Er_sta0 (av := [.int (Int32.ofNat j)]) (rest := []) rfl rfl ⟨Nat.le_of_ble_eq_true rfl, Nat.le_of_ble_eq_true rfl⟩ rfl rfl (s_Mill_needJobNumber1 hj) ?_
    refine Er_run 1 (pc' := 5) (ls' := [some (.ref 0), some (.int (Int32.ofNat j))]) (st' := [.ref 0]) rfl ?_
    refine Er_inv0 (q' := 0) (ci := 11) (av := []) (rest := []) rfl rfl ⟨Nat.le_of_ble_eq_true rfl, Nat.le_of_ble_eq_true rfl⟩ rfl rfl hx.1 (s_Mill_needRest1 hx hr) ?_
    refine Er_run 1 (pc' := 9) (ls' := [some (.ref 0), some (.int (Int32.ofNat j))]) (st' := [.ref 0]) rfl ?_
    refine Er_getR (x := 1) rfl hx.1 hx.2.1 ?_
    refine Er_run 1 (pc' := 13) (ls' := [some (.ref 0), some (.int (Int32.ofNat j))]) (st' := [.int (Int32.ofNat j), .ref 1]) rfl ?_
    refine Er_inv1 (q' := 1) (ci := 3) (av := [.int (Int32.ofNat j)]) (rest := []) rfl rfl ⟨Nat.le_of_ble_eq_true rfl, Nat.le_of_ble_eq_true rfl⟩ rfl rfl hs.1.1 (s_Store_jobNumbered hs.1 hj) ?_
    have hum := s_Job_unmake (hs.2.2.2 j hj).1
    rw [(hs.2.2.2 j hj).2.1 1 (by omega) (by omega)] at hum
    have z1 : Fr (1 + 52 + 11 * j) (1 + 52 + 11 * j + 1) h (setI h (1 + 52 + 11 * j) 1 0) := Fr.setI (by omega) (by omega)
    have s1 : ST (setI h (1 + 52 + 11 * j) 1 0) 1 cl (jx_up G j (jx_up (G j) 1 0)) PR F := by
      refine ST_job hj z1 rfl (Or.inl rfl) (fun i h1 h2 => ?_) hs
      rw [gI_set, jx_up]
      by_cases e : i = 1
      · rw [if_pos ⟨rfl, e⟩, if_pos e]
      · rw [if_neg (fun t => e t.2), if_neg e]; exact (hs.2.2.2 j hj).2.1 i h1 h2
    generalize setI h (1 + 52 + 11 * j) 1 0 = h1 at hum z1 s1
    refine Er_inv1 (q' := 1 + 52 + 11 * j) (ci := 2) (av := []) (rest := []) rfl rfl ⟨Nat.le_of_ble_eq_true rfl, Nat.le_of_ble_eq_true rfl⟩ rfl rfl (hs.2.2.2 j hj).1.1 hum ?_
    refine Er_retZ rfl ?_ ⟨rfl, s1, z1⟩
    have := (hs.2.2.2 j hj).1.2.2.2.2.2.2.2
    rw [(hs.2.2.2 j hj).2.1 1 (by omega) (by omega)] at this
    exact this
  obtain ⟨r, h', hr, e, hq⟩ := Run_of (Nat.le_of_ble_eq_true rfl) hx
  subst e
  exact ⟨h', hr, hq⟩
end MILC
