/-! the reference: ShuffleMillModel at cell a; its arrays are a + 1 to a + 25 -/
def mr_a : List (Nat × Nat × Nat × Nat) := [(0, 1, 1, 4800), (1, 2, 1, 4800), (2, 3, 0, 16), (3, 4, 0, 960), (4, 5, 0, 24), (5, 6, 0, 40), (6, 7, 1, 960), (7, 8, 1, 40), (8, 9, 0, 8), (9, 10, 0, 8), (10, 11, 0, 8), (11, 12, 0, 8), (12, 13, 0, 8), (13, 14, 2, 8), (14, 15, 2, 8), (20, 16, 1, 200), (21, 17, 1, 200), (22, 18, 1, 4000), (23, 19, 1, 4000), (24, 20, 1, 4000), (25, 21, 1, 4000), (26, 22, 1, 12), (27, 23, 1, 4), (28, 24, 1, 4), (29, 25, 1, 4)]
def mrO (h : sm_H) (a : Nat) : Prop := sm_at h a 22 = true ∧ ∀ x, x ∈ mr_a → gR h a x.1 = some (a + x.2.1) ∧ sm_at h (a + x.2.1) x.2.2.1 = true ∧ (gS h (a + x.2.1)).2 = x.2.2.2
section REF
variable {h h' : sm_H} {a : Nat} {x y z : Int32}
theorem mrO_fr {lo hi : Nat} (z : Fr lo hi h h') (hd : a + 1 ≤ lo ∨ hi ≤ a) (hp : mrO h a) : mrO h' a := by
  have e := (z.2.2.2.2 a (by omega)).2.2
  refine ⟨by rw [z.at]; exact hp.1, fun x hx => ?_⟩
  obtain ⟨a1, a2, a3⟩ := hp.2 x hx
  exact ⟨by rw [e]; exact a1, by rw [z.at]; exact a2, by rw [z.2.1]; exact a3⟩
theorem mrO_setI {q i : Nat} {v : Int32} (hp : mrO h a) : mrO (setI h q i v) a := hp

def jm_in (x y z : Int32) : Bool := decide (y ≤ x) && decide (x ≤ z)
theorem s_Ref_in : Run 167 [.int x, .int y, .int z] h (.inl (some (.int (if jm_in x y z then 1 else 0)))) h := by
  refine ⟨Nat.le_of_ble_eq_true rfl, ?_⟩
  rw [jm_in]
  by_cases h1 : x < y
  · rw [decide_eq_false (Int32.not_le.2 h1), Bool.false_and, if_neg (by decide)]
    show Ev 167 0 [some (.int x), some (.int y), some (.int z)] [] h _
    refine Er_run 3 (pc' := bif decide (x < y) then 14 else 5) (ls' := [some (.int x), some (.int y), some (.int z)]) (st' := []) rfl ?_
    refine Er_pc (t := 14) (show (bif decide (x < y) then 14 else 5) = 14 from by rw [show (decide (x < y)) = true from decide_eq_true h1]; rfl) ?_
    refine Er_run 1 (pc' := 15) (ls' := [some (.int x), some (.int y), some (.int z)]) (st' := [.int ((0 : Int32))]) rfl ?_
    exact Er_fin rfl rfl ⟨rfl, rfl⟩
  · rw [decide_eq_true (Int32.not_lt.1 h1), Bool.true_and]
    by_cases h2 : z < x
    · rw [decide_eq_false (Int32.not_le.2 h2), if_neg (by decide)]
      show Ev 167 0 [some (.int x), some (.int y), some (.int z)] [] h _
      refine Er_run 3 (pc' := bif decide (x < y) then 14 else 5) (ls' := [some (.int x), some (.int y), some (.int z)]) (st' := []) rfl ?_
      refine Er_pc (t := 5) (show (bif decide (x < y) then 14 else 5) = 5 from by rw [show (decide (x < y)) = false from decide_eq_false h1]; rfl) ?_
      refine Er_run 3 (pc' := bif decide (z < x) then 14 else 10) (ls' := [some (.int x), some (.int y), some (.int z)]) (st' := []) rfl ?_
      refine Er_pc (t := 14) (show (bif decide (z < x) then 14 else 10) = 14 from by rw [show (decide (z < x)) = true from decide_eq_true h2]; rfl) ?_
      refine Er_run 1 (pc' := 15) (ls' := [some (.int x), some (.int y), some (.int z)]) (st' := [.int ((0 : Int32))]) rfl ?_
      exact Er_fin rfl rfl ⟨rfl, rfl⟩
    · rw [decide_eq_true (Int32.not_lt.1 h2), if_pos rfl]
      show Ev 167 0 [some (.int x), some (.int y), some (.int z)] [] h _
      refine Er_run 3 (pc' := bif decide (x < y) then 14 else 5) (ls' := [some (.int x), some (.int y), some (.int z)]) (st' := []) rfl ?_
      refine Er_pc (t := 5) (show (bif decide (x < y) then 14 else 5) = 5 from by rw [show (decide (x < y)) = false from decide_eq_false h1]; rfl) ?_
      refine Er_run 3 (pc' := bif decide (z < x) then 14 else 10) (ls' := [some (.int x), some (.int y), some (.int z)]) (st' := []) rfl ?_
      refine Er_pc (t := 10) (show (bif decide (z < x) then 14 else 10) = 10 from by rw [show (decide (z < x)) = false from decide_eq_false h2]; rfl) ?_
      refine Er_run 2 (pc' := 15) (ls' := [some (.int x), some (.int y), some (.int z)]) (st' := [.int ((1 : Int32))]) rfl ?_
      exact Er_fin rfl rfl ⟨rfl, rfl⟩
theorem s_Ref_in1 (hi : jm_in x y z = true) : Run 167 [.int x, .int y, .int z] h (.inl (some (.int 1))) h := by have := s_Ref_in (h := h) (x := x) (y := y) (z := z); rw [hi] at this; exact this
theorem s_Ref_in0 (hi : jm_in x y z = false) : Run 167 [.int x, .int y, .int z] h (.inl (some (.int 0))) h := by have := s_Ref_in (h := h) (x := x) (y := y) (z := z); rw [hi] at this; exact this
theorem s_Ref_thrown (hm : mrO h a) (ho : gI h a 18 = x) : Run 159 [.ref a] h (.inl (some (.int x))) h := by
  refine ⟨Nat.le_of_ble_eq_true rfl, ?_⟩
  show Ev 159 0 [some (.ref a)] [] h _
  refine Er_run 1 (pc' := 1) (ls' := [some (.ref a)]) (st' := [.ref a]) rfl ?_
  refine Er_getI (v := x) rfl hm.1 ho ?_
  exact Er_fin rfl rfl ⟨rfl, rfl⟩
theorem s_Ref_check (hm : mrO h a) : Run 182 [.ref a] h (.inl (some (.int ((0 : Int32))))) (setI h a 18 0) := by
  refine ⟨Nat.le_of_ble_eq_true rfl, ?_⟩
  show Ev 182 0 [some (.ref a)] [] h _
  refine Er_run 2 (pc' := 2) (ls' := [some (.ref a)]) (st' := [.int ((0 : Int32)), .ref a]) rfl ?_
  refine Er_putI rfl hm.1 ?_
  refine Er_run 1 (pc' := 6) (ls' := [some (.ref a)]) (st' := [.int ((0 : Int32))]) rfl ?_
  exact Er_fin rfl rfl ⟨rfl, rfl⟩
theorem s_Ref_line0 (hm : mrO h a) (ho : gI h a 19 = 1) : Run 177 [.ref a, .int x, .int y] h (.inl none) (setI h a 18 0) := by
  refine ⟨Nat.le_of_ble_eq_true rfl, ?_⟩
  show Ev 177 0 [some (.ref a), some (.int x), some (.int y)] [] h _
  refine Er_run 2 (pc' := 2) (ls' := [some (.ref a), some (.int x), some (.int y)]) (st' := [.ref a, .ref a]) rfl ?_
  refine Er_getI (v := (1 : Int32)) rfl hm.1 ho ?_
  refine Er_run 1 (pc' := bif decide (((1 : Int32)) = 0) then 12 else 8) (ls' := [some (.ref a), some (.int x), some (.int y)]) (st' := [.ref a]) rfl ?_
  refine Er_pc (t := 8) (show (bif decide (((1 : Int32)) = 0) then 12 else 8) = 8 from by rw [show (decide (((1 : Int32)) = 0)) = false from by decide]; rfl) ?_
  refine Er_run 2 (pc' := 13) (ls' := [some (.ref a), some (.int x), some (.int y)]) (st' := [.int ((0 : Int32)), .ref a]) rfl ?_
  refine Er_putI rfl hm.1 ?_
  exact Er_fin rfl rfl ⟨rfl, rfl⟩
theorem s_Ref_line1 (hm : mrO h a) (ho : gI h a 19 = 0) : Run 177 [.ref a, .int x, .int y] h (.inl none) (setI h a 18 1) := by
  refine ⟨Nat.le_of_ble_eq_true rfl, ?_⟩
  show Ev 177 0 [some (.ref a), some (.int x), some (.int y)] [] h _
  refine Er_run 2 (pc' := 2) (ls' := [some (.ref a), some (.int x), some (.int y)]) (st' := [.ref a, .ref a]) rfl ?_
  refine Er_getI (v := (0 : Int32)) rfl hm.1 ho ?_
  refine Er_run 1 (pc' := bif decide (((0 : Int32)) = 0) then 12 else 8) (ls' := [some (.ref a), some (.int x), some (.int y)]) (st' := [.ref a]) rfl ?_
  refine Er_pc (t := 12) (show (bif decide (((0 : Int32)) = 0) then 12 else 8) = 12 from by rw [show (decide (((0 : Int32)) = 0)) = true from by decide]; rfl) ?_
  refine Er_run 1 (pc' := 13) (ls' := [some (.ref a), some (.int x), some (.int y)]) (st' := [.int ((1 : Int32)), .ref a]) rfl ?_
  refine Er_putI rfl hm.1 ?_
  exact Er_fin rfl rfl ⟨rfl, rfl⟩
theorem s_Ref_crash1 (hm : mrO h a) (hi : jm_in x 0 6 = false) : Run 176 [.ref a, .int x] h (.inl none) (setI h a 18 1) := by
  refine ⟨Nat.le_of_ble_eq_true rfl, ?_⟩
  show Ev 176 0 [some (.ref a), some (.int x)] [] h _
  refine Er_run 4 (pc' := 5) (ls' := [some (.ref a), some (.int x)]) (st' := [.int ((6 : Int32)), .int ((0 : Int32)), .int x, .ref a]) rfl ?_
  refine Er_sta1 (av := [.int x, .int ((0 : Int32)), .int ((6 : Int32))]) (rest := [.ref a]) rfl rfl ⟨Nat.le_of_ble_eq_true rfl, Nat.le_of_ble_eq_true rfl⟩ rfl rfl (s_Ref_in0 hi) ?_
  refine Er_run 1 (pc' := bif !decide (((0 : Int32)) = 0) then 15 else 11) (ls' := [some (.ref a), some (.int x)]) (st' := [.ref a]) rfl ?_
  refine Er_pc (t := 11) (show (bif !decide (((0 : Int32)) = 0) then 15 else 11) = 11 from by rw [show (!decide (((0 : Int32)) = 0)) = false from by decide]; rfl) ?_
  refine Er_run 2 (pc' := 27) (ls' := [some (.ref a), some (.int x)]) (st' := [.int ((1 : Int32)), .ref a]) rfl ?_
  refine Er_putI rfl hm.1 ?_
  exact Er_fin rfl rfl ⟨rfl, rfl⟩
theorem s_Ref_crash2 (hm : mrO h a) (hi : jm_in x 0 6 = true) (ho : gI h a 19 = 0) : Run 176 [.ref a, .int x] h (.inl none) (setI h a 18 2) := by
  refine ⟨Nat.le_of_ble_eq_true rfl, ?_⟩
  show Ev 176 0 [some (.ref a), some (.int x)] [] h _
  refine Er_run 4 (pc' := 5) (ls' := [some (.ref a), some (.int x)]) (st' := [.int ((6 : Int32)), .int ((0 : Int32)), .int x, .ref a]) rfl ?_
  refine Er_sta1 (av := [.int x, .int ((0 : Int32)), .int ((6 : Int32))]) (rest := [.ref a]) rfl rfl ⟨Nat.le_of_ble_eq_true rfl, Nat.le_of_ble_eq_true rfl⟩ rfl rfl (s_Ref_in1 hi) ?_
  refine Er_run 1 (pc' := bif !decide (((1 : Int32)) = 0) then 15 else 11) (ls' := [some (.ref a), some (.int x)]) (st' := [.ref a]) rfl ?_
  refine Er_pc (t := 15) (show (bif !decide (((1 : Int32)) = 0) then 15 else 11) = 15 from by rw [show (!decide (((1 : Int32)) = 0)) = true from by decide]; rfl) ?_
  refine Er_run 1 (pc' := 16) (ls' := [some (.ref a), some (.int x)]) (st' := [.ref a, .ref a]) rfl ?_
  refine Er_getI (v := (0 : Int32)) rfl hm.1 ho ?_
  refine Er_run 1 (pc' := bif !decide (((0 : Int32)) = 0) then 26 else 22) (ls' := [some (.ref a), some (.int x)]) (st' := [.ref a]) rfl ?_
  refine Er_pc (t := 22) (show (bif !decide (((0 : Int32)) = 0) then 26 else 22) = 22 from by rw [show (!decide (((0 : Int32)) = 0)) = false from by decide]; rfl) ?_
  refine Er_run 2 (pc' := 27) (ls' := [some (.ref a), some (.int x)]) (st' := [.int ((2 : Int32)), .ref a]) rfl ?_
  refine Er_putI rfl hm.1 ?_
  exact Er_fin rfl rfl ⟨rfl, rfl⟩
theorem s_Ref_crash0 (hm : mrO h a) (hi : jm_in x 0 6 = true) (ho : gI h a 19 = 1) : Run 176 [.ref a, .int x] h (.inl none) (setI h a 18 0) := by
  refine ⟨Nat.le_of_ble_eq_true rfl, ?_⟩
  show Ev 176 0 [some (.ref a), some (.int x)] [] h _
  refine Er_run 4 (pc' := 5) (ls' := [some (.ref a), some (.int x)]) (st' := [.int ((6 : Int32)), .int ((0 : Int32)), .int x, .ref a]) rfl ?_
  refine Er_sta1 (av := [.int x, .int ((0 : Int32)), .int ((6 : Int32))]) (rest := [.ref a]) rfl rfl ⟨Nat.le_of_ble_eq_true rfl, Nat.le_of_ble_eq_true rfl⟩ rfl rfl (s_Ref_in1 hi) ?_
  refine Er_run 1 (pc' := bif !decide (((1 : Int32)) = 0) then 15 else 11) (ls' := [some (.ref a), some (.int x)]) (st' := [.ref a]) rfl ?_
  refine Er_pc (t := 15) (show (bif !decide (((1 : Int32)) = 0) then 15 else 11) = 15 from by rw [show (!decide (((1 : Int32)) = 0)) = true from by decide]; rfl) ?_
  refine Er_run 1 (pc' := 16) (ls' := [some (.ref a), some (.int x)]) (st' := [.ref a, .ref a]) rfl ?_
  refine Er_getI (v := (1 : Int32)) rfl hm.1 ho ?_
  refine Er_run 1 (pc' := bif !decide (((1 : Int32)) = 0) then 26 else 22) (ls' := [some (.ref a), some (.int x)]) (st' := [.ref a]) rfl ?_
  refine Er_pc (t := 26) (show (bif !decide (((1 : Int32)) = 0) then 26 else 22) = 26 from by rw [show (!decide (((1 : Int32)) = 0)) = true from by decide]; rfl) ?_
  refine Er_run 1 (pc' := 27) (ls' := [some (.ref a), some (.int x)]) (st' := [.int ((0 : Int32)), .ref a]) rfl ?_
  refine Er_putI rfl hm.1 ?_
  exact Er_fin rfl rfl ⟨rfl, rfl⟩
theorem s_Ref_tick1 (hm : mrO h a) (hi : jm_in x 0 6 = false) : Run 175 [.ref a, .int x, .int y] h (.inl none) (setI h a 18 1) := by
  refine ⟨Nat.le_of_ble_eq_true rfl, ?_⟩
  show Ev 175 0 [some (.ref a), some (.int x), some (.int y)] [] h _
  refine Er_run 4 (pc' := 5) (ls' := [some (.ref a), some (.int x), some (.int y)]) (st' := [.int ((6 : Int32)), .int ((0 : Int32)), .int x, .ref a]) rfl ?_
  refine Er_sta1 (av := [.int x, .int ((0 : Int32)), .int ((6 : Int32))]) (rest := [.ref a]) rfl rfl ⟨Nat.le_of_ble_eq_true rfl, Nat.le_of_ble_eq_true rfl⟩ rfl rfl (s_Ref_in0 hi) ?_
  refine Er_run 1 (pc' := bif !decide (((0 : Int32)) = 0) then 15 else 11) (ls' := [some (.ref a), some (.int x), some (.int y)]) (st' := [.ref a]) rfl ?_
  refine Er_pc (t := 11) (show (bif !decide (((0 : Int32)) = 0) then 15 else 11) = 11 from by rw [show (!decide (((0 : Int32)) = 0)) = false from by decide]; rfl) ?_
  refine Er_run 2 (pc' := 42) (ls' := [some (.ref a), some (.int x), some (.int y)]) (st' := [.int ((1 : Int32)), .ref a]) rfl ?_
  refine Er_putI rfl hm.1 ?_
  exact Er_fin rfl rfl ⟨rfl, rfl⟩
theorem s_Ref_tick2 (hm : mrO h a) (hi : jm_in x 0 6 = true) (hn : jm_in y 1 200 = false) : Run 175 [.ref a, .int x, .int y] h (.inl none) (setI h a 18 2) := by
  refine ⟨Nat.le_of_ble_eq_true rfl, ?_⟩
  show Ev 175 0 [some (.ref a), some (.int x), some (.int y)] [] h _
  refine Er_run 4 (pc' := 5) (ls' := [some (.ref a), some (.int x), some (.int y)]) (st' := [.int ((6 : Int32)), .int ((0 : Int32)), .int x, .ref a]) rfl ?_
  refine Er_sta1 (av := [.int x, .int ((0 : Int32)), .int ((6 : Int32))]) (rest := [.ref a]) rfl rfl ⟨Nat.le_of_ble_eq_true rfl, Nat.le_of_ble_eq_true rfl⟩ rfl rfl (s_Ref_in1 hi) ?_
  refine Er_run 1 (pc' := bif !decide (((1 : Int32)) = 0) then 15 else 11) (ls' := [some (.ref a), some (.int x), some (.int y)]) (st' := [.ref a]) rfl ?_
  refine Er_pc (t := 15) (show (bif !decide (((1 : Int32)) = 0) then 15 else 11) = 15 from by rw [show (!decide (((1 : Int32)) = 0)) = true from by decide]; rfl) ?_
  refine Er_run 3 (pc' := 20) (ls' := [some (.ref a), some (.int x), some (.int y)]) (st' := [.int ((200 : Int32)), .int ((1 : Int32)), .int y, .ref a]) rfl ?_
  refine Er_sta1 (av := [.int y, .int ((1 : Int32)), .int ((200 : Int32))]) (rest := [.ref a]) rfl rfl ⟨Nat.le_of_ble_eq_true rfl, Nat.le_of_ble_eq_true rfl⟩ rfl rfl (s_Ref_in0 hn) ?_
  refine Er_run 1 (pc' := bif !decide (((0 : Int32)) = 0) then 30 else 26) (ls' := [some (.ref a), some (.int x), some (.int y)]) (st' := [.ref a]) rfl ?_
  refine Er_pc (t := 26) (show (bif !decide (((0 : Int32)) = 0) then 30 else 26) = 26 from by rw [show (!decide (((0 : Int32)) = 0)) = false from by decide]; rfl) ?_
  refine Er_run 2 (pc' := 42) (ls' := [some (.ref a), some (.int x), some (.int y)]) (st' := [.int ((2 : Int32)), .ref a]) rfl ?_
  refine Er_putI rfl hm.1 ?_
  exact Er_fin rfl rfl ⟨rfl, rfl⟩
theorem s_Ref_tick3 (hm : mrO h a) (hi : jm_in x 0 6 = true) (hn : jm_in y 1 200 = true) (ho : gI h a 19 = 0) : Run 175 [.ref a, .int x, .int y] h (.inl none) (setI h a 18 3) := by
  refine ⟨Nat.le_of_ble_eq_true rfl, ?_⟩
  show Ev 175 0 [some (.ref a), some (.int x), some (.int y)] [] h _
  refine Er_run 4 (pc' := 5) (ls' := [some (.ref a), some (.int x), some (.int y)]) (st' := [.int ((6 : Int32)), .int ((0 : Int32)), .int x, .ref a]) rfl ?_
  refine Er_sta1 (av := [.int x, .int ((0 : Int32)), .int ((6 : Int32))]) (rest := [.ref a]) rfl rfl ⟨Nat.le_of_ble_eq_true rfl, Nat.le_of_ble_eq_true rfl⟩ rfl rfl (s_Ref_in1 hi) ?_
  refine Er_run 1 (pc' := bif !decide (((1 : Int32)) = 0) then 15 else 11) (ls' := [some (.ref a), some (.int x), some (.int y)]) (st' := [.ref a]) rfl ?_
  refine Er_pc (t := 15) (show (bif !decide (((1 : Int32)) = 0) then 15 else 11) = 15 from by rw [show (!decide (((1 : Int32)) = 0)) = true from by decide]; rfl) ?_
  refine Er_run 3 (pc' := 20) (ls' := [some (.ref a), some (.int x), some (.int y)]) (st' := [.int ((200 : Int32)), .int ((1 : Int32)), .int y, .ref a]) rfl ?_
  refine Er_sta1 (av := [.int y, .int ((1 : Int32)), .int ((200 : Int32))]) (rest := [.ref a]) rfl rfl ⟨Nat.le_of_ble_eq_true rfl, Nat.le_of_ble_eq_true rfl⟩ rfl rfl (s_Ref_in1 hn) ?_
  refine Er_run 1 (pc' := bif !decide (((1 : Int32)) = 0) then 30 else 26) (ls' := [some (.ref a), some (.int x), some (.int y)]) (st' := [.ref a]) rfl ?_
  refine Er_pc (t := 30) (show (bif !decide (((1 : Int32)) = 0) then 30 else 26) = 30 from by rw [show (!decide (((1 : Int32)) = 0)) = true from by decide]; rfl) ?_
  refine Er_run 1 (pc' := 31) (ls' := [some (.ref a), some (.int x), some (.int y)]) (st' := [.ref a, .ref a]) rfl ?_
  refine Er_getI (v := (0 : Int32)) rfl hm.1 ho ?_
  refine Er_run 1 (pc' := bif !decide (((0 : Int32)) = 0) then 41 else 37) (ls' := [some (.ref a), some (.int x), some (.int y)]) (st' := [.ref a]) rfl ?_
  refine Er_pc (t := 37) (show (bif !decide (((0 : Int32)) = 0) then 41 else 37) = 37 from by rw [show (!decide (((0 : Int32)) = 0)) = false from by decide]; rfl) ?_
  refine Er_run 2 (pc' := 42) (ls' := [some (.ref a), some (.int x), some (.int y)]) (st' := [.int ((3 : Int32)), .ref a]) rfl ?_
  refine Er_putI rfl hm.1 ?_
  exact Er_fin rfl rfl ⟨rfl, rfl⟩
theorem s_Ref_tick0 (hm : mrO h a) (hi : jm_in x 0 6 = true) (hn : jm_in y 1 200 = true) (ho : gI h a 19 = 1) : Run 175 [.ref a, .int x, .int y] h (.inl none) (setI h a 18 0) := by
  refine ⟨Nat.le_of_ble_eq_true rfl, ?_⟩
  show Ev 175 0 [some (.ref a), some (.int x), some (.int y)] [] h _
  refine Er_run 4 (pc' := 5) (ls' := [some (.ref a), some (.int x), some (.int y)]) (st' := [.int ((6 : Int32)), .int ((0 : Int32)), .int x, .ref a]) rfl ?_
  refine Er_sta1 (av := [.int x, .int ((0 : Int32)), .int ((6 : Int32))]) (rest := [.ref a]) rfl rfl ⟨Nat.le_of_ble_eq_true rfl, Nat.le_of_ble_eq_true rfl⟩ rfl rfl (s_Ref_in1 hi) ?_
  refine Er_run 1 (pc' := bif !decide (((1 : Int32)) = 0) then 15 else 11) (ls' := [some (.ref a), some (.int x), some (.int y)]) (st' := [.ref a]) rfl ?_
  refine Er_pc (t := 15) (show (bif !decide (((1 : Int32)) = 0) then 15 else 11) = 15 from by rw [show (!decide (((1 : Int32)) = 0)) = true from by decide]; rfl) ?_
  refine Er_run 3 (pc' := 20) (ls' := [some (.ref a), some (.int x), some (.int y)]) (st' := [.int ((200 : Int32)), .int ((1 : Int32)), .int y, .ref a]) rfl ?_
  refine Er_sta1 (av := [.int y, .int ((1 : Int32)), .int ((200 : Int32))]) (rest := [.ref a]) rfl rfl ⟨Nat.le_of_ble_eq_true rfl, Nat.le_of_ble_eq_true rfl⟩ rfl rfl (s_Ref_in1 hn) ?_
  refine Er_run 1 (pc' := bif !decide (((1 : Int32)) = 0) then 30 else 26) (ls' := [some (.ref a), some (.int x), some (.int y)]) (st' := [.ref a]) rfl ?_
  refine Er_pc (t := 30) (show (bif !decide (((1 : Int32)) = 0) then 30 else 26) = 30 from by rw [show (!decide (((1 : Int32)) = 0)) = true from by decide]; rfl) ?_
  refine Er_run 1 (pc' := 31) (ls' := [some (.ref a), some (.int x), some (.int y)]) (st' := [.ref a, .ref a]) rfl ?_
  refine Er_getI (v := (1 : Int32)) rfl hm.1 ho ?_
  refine Er_run 1 (pc' := bif !decide (((1 : Int32)) = 0) then 41 else 37) (ls' := [some (.ref a), some (.int x), some (.int y)]) (st' := [.ref a]) rfl ?_
  refine Er_pc (t := 41) (show (bif !decide (((1 : Int32)) = 0) then 41 else 37) = 41 from by rw [show (!decide (((1 : Int32)) = 0)) = true from by decide]; rfl) ?_
  refine Er_run 1 (pc' := 42) (ls' := [some (.ref a), some (.int x), some (.int y)]) (st' := [.int ((0 : Int32)), .ref a]) rfl ?_
  refine Er_putI rfl hm.1 ?_
  exact Er_fin rfl rfl ⟨rfl, rfl⟩
end REF
