/-! class Job at cell a: the row of programs at a + 1, the programs at a + 2, a + 5, a + 8 -/
def isJ (h : sm_H) (a : Nat) : Prop := sm_at h a 12 = true ∧ gR h a 0 = some (a + 1) ∧ sm_at h (a + 1) 5 = true ∧ (gS h (a + 1)).2 = 3 ∧ gR h (a + 1) 0 = some (a + 2) ∧ gR h (a + 1) 1 = some (a + 5) ∧ gR h (a + 1) 2 = some (a + 8) ∧ (gI h a 1 = 0 ∨ gI h a 1 = 1)
section JOB
variable {h : sm_H} {a : Nat}
theorem Er_retZ {M pc b : Nat} {ls : sm_L} {x : Int32} {cx : Int} {l : List Nat} {Q : sm_R → sm_H → Prop} (ho : sm_code M pc = some (46, 1, b, cx, l)) (h01 : x = 0 ∨ x = 1) (hq : Q (.inl (some (.int x))) h) : Ev M pc ls [.int x] h Q :=
  Ev_end ho (by show (if 1 = 0 ∨ x = 0 ∨ x = 1 then sm_fin (.inl (some (.int x))) h else none) = _; rw [if_pos (Or.inr h01)]; rfl) hq
theorem isJ_fr {lo hi : Nat} {h' : sm_H} (x : Fr lo hi h h') (hd : a + 2 ≤ lo ∨ hi ≤ a) (hp : isJ h a) : isJ h' a := by
  have x0 := x.2.2.2.2 a (by omega)
  have x1 := x.2.2.2.2 (a + 1) (by omega)
  refine ⟨by rw [x.at]; exact hp.1, by rw [x0.2.2]; exact hp.2.1, by rw [x.at]; exact hp.2.2.1, by rw [x.2.1]; exact hp.2.2.2.1, ?_, ?_, ?_, by rw [x0.1]; exact hp.2.2.2.2.2.2.2⟩
  · rw [x1.2.2]; exact hp.2.2.2.2.1
  · rw [x1.2.2]; exact hp.2.2.2.2.2.1
  · rw [x1.2.2]; exact hp.2.2.2.2.2.2.1

theorem s_Job_first (hp : isJ h a) : Run 28 [.ref a] h (.inl (some (.int (gI h a 2)))) h := by
  refine ⟨Nat.le_of_ble_eq_true rfl, ?_⟩
  show Ev 28 0 [some (.ref a)] [] h _
  refine Er_run 1 (pc' := 1) (ls' := [some (.ref a)]) (st' := [.ref a]) rfl ?_
  refine Er_getI (v := gI h a 2) rfl hp.1 rfl ?_
  exact Er_fin rfl rfl ⟨rfl, rfl⟩
theorem s_Job_second (hp : isJ h a) : Run 29 [.ref a] h (.inl (some (.int (gI h a 3)))) h := by
  refine ⟨Nat.le_of_ble_eq_true rfl, ?_⟩
  show Ev 29 0 [some (.ref a)] [] h _
  refine Er_run 1 (pc' := 1) (ls' := [some (.ref a)]) (st' := [.ref a]) rfl ?_
  refine Er_getI (v := gI h a 3) rfl hp.1 rfl ?_
  exact Er_fin rfl rfl ⟨rfl, rfl⟩
theorem s_Job_output (hp : isJ h a) : Run 30 [.ref a] h (.inl (some (.int (gI h a 4)))) h := by
  refine ⟨Nat.le_of_ble_eq_true rfl, ?_⟩
  show Ev 30 0 [some (.ref a)] [] h _
  refine Er_run 1 (pc' := 1) (ls' := [some (.ref a)]) (st' := [.ref a]) rfl ?_
  refine Er_getI (v := gI h a 4) rfl hp.1 rfl ?_
  exact Er_fin rfl rfl ⟨rfl, rfl⟩
theorem s_Job_parts (hp : isJ h a) : Run 31 [.ref a] h (.inl (some (.int (gI h a 5)))) h := by
  refine ⟨Nat.le_of_ble_eq_true rfl, ?_⟩
  show Ev 31 0 [some (.ref a)] [] h _
  refine Er_run 1 (pc' := 1) (ls' := [some (.ref a)]) (st' := [.ref a]) rfl ?_
  refine Er_getI (v := gI h a 5) rfl hp.1 rfl ?_
  exact Er_fin rfl rfl ⟨rfl, rfl⟩
theorem s_Job_isMade (hp : isJ h a) : Run 24 [.ref a] h (.inl (some (.int (gI h a 1)))) h := by
  refine ⟨Nat.le_of_ble_eq_true rfl, ?_⟩
  show Ev 24 0 [some (.ref a)] [] h _
  refine Er_run 1 (pc' := 1) (ls' := [some (.ref a)]) (st' := [.ref a]) rfl ?_
  refine Er_getI (v := gI h a 1) rfl hp.1 rfl ?_
  exact Er_retZ rfl hp.2.2.2.2.2.2.2 ⟨rfl, rfl⟩
theorem s_Job_unmake (hp : isJ h a) : Run 26 [.ref a] h (.inl (some (.int (gI h a 1)))) (setI h a 1 0) := by
  refine ⟨Nat.le_of_ble_eq_true rfl, ?_⟩
  show Ev 26 0 [some (.ref a), none] [] h _
  refine Er_run 1 (pc' := 1) (ls' := [some (.ref a), none]) (st' := [.ref a]) rfl ?_
  refine Er_getI (v := gI h a 1) rfl hp.1 rfl ?_
  refine Er_run 3 (pc' := 7) (ls' := [some (.ref a), some (.int (gI h a 1))]) (st' := [.int ((0 : Int32)), .ref a]) rfl ?_
  refine Er_putZ rfl hp.1 (by decide) ?_
  refine Er_run 1 (pc' := 11) (ls' := [some (.ref a), some (.int (gI h a 1))]) (st' := [.int (gI h a 1)]) rfl ?_
  exact Er_retZ rfl hp.2.2.2.2.2.2.2 ⟨rfl, rfl⟩
theorem s_Job_make {x y z w : Int32} (hp : isJ h a) : Run 25 [.ref a, .int x, .int y, .int z, .int w] h (.inl none) (setI (setI (setI (setI (setI h a 1 1) a 2 x) a 3 y) a 4 z) a 5 w) := by
  refine ⟨Nat.le_of_ble_eq_true rfl, ?_⟩
  show Ev 25 0 [some (.ref a), some (.int x), some (.int y), some (.int z), some (.int w)] [] h _
  refine Er_run 2 (pc' := 2) (ls' := [some (.ref a), some (.int x), some (.int y), some (.int z), some (.int w)]) (st' := [.int ((1 : Int32)), .ref a]) rfl ?_
  refine Er_putZ rfl hp.1 (by decide) ?_
  refine Er_run 2 (pc' := 7) (ls' := [some (.ref a), some (.int x), some (.int y), some (.int z), some (.int w)]) (st' := [.int x, .ref a]) rfl ?_
  refine Er_putI rfl hp.1 ?_
  refine Er_run 2 (pc' := 12) (ls' := [some (.ref a), some (.int x), some (.int y), some (.int z), some (.int w)]) (st' := [.int y, .ref a]) rfl ?_
  refine Er_putI rfl hp.1 ?_
  refine Er_run 2 (pc' := 17) (ls' := [some (.ref a), some (.int x), some (.int y), some (.int z), some (.int w)]) (st' := [.int z, .ref a]) rfl ?_
  refine Er_putI rfl hp.1 ?_
  refine Er_run 2 (pc' := 23) (ls' := [some (.ref a), some (.int x), some (.int y), some (.int z), some (.int w)]) (st' := [.int w, .ref a]) rfl ?_
  refine Er_putI rfl hp.1 ?_
  exact Er_fin rfl rfl ⟨rfl, rfl⟩
theorem s_Job_reads {x : Int32} (hp : isJ h a) : Run 27 [.ref a, .int x] h (.inl (some (.int (if gI h a 2 = x ∨ gI h a 3 = x then 1 else 0)))) h := by
  refine ⟨Nat.le_of_ble_eq_true rfl, ?_⟩
  show Ev 27 0 [some (.ref a), some (.int x)] [] h _
  refine Er_run 1 (pc' := 1) (ls' := [some (.ref a), some (.int x)]) (st' := [.ref a]) rfl ?_
  refine Er_getI (v := gI h a 2) rfl hp.1 rfl ?_
  refine Er_run 2 (pc' := bif decide ((gI h a 2) = x) then 16 else 8) (ls' := [some (.ref a), some (.int x)]) (st' := []) rfl ?_
  refine Er_if (fun hc1 => ?_) (fun hc1 => ?_)
  · skip
    refine Er_run 2 (pc' := 21) (ls' := [some (.ref a), some (.int x)]) (st' := [.int ((1 : Int32))]) rfl ?_
    exact Er_fin rfl rfl ⟨by simp_all, rfl⟩
  · skip
    refine Er_run 1 (pc' := 9) (ls' := [some (.ref a), some (.int x)]) (st' := [.ref a]) rfl ?_
    refine Er_getI (v := gI h a 3) rfl hp.1 rfl ?_
    refine Er_run 2 (pc' := bif !decide ((gI h a 3) = x) then 20 else 16) (ls' := [some (.ref a), some (.int x)]) (st' := []) rfl ?_
    refine Er_if (fun hc2 => ?_) (fun hc2 => ?_)
    · skip
      refine Er_run 1 (pc' := 21) (ls' := [some (.ref a), some (.int x)]) (st' := [.int ((0 : Int32))]) rfl ?_
      exact Er_fin rfl rfl ⟨by simp_all, rfl⟩
    · skip
      refine Er_run 2 (pc' := 21) (ls' := [some (.ref a), some (.int x)]) (st' := [.int ((1 : Int32))]) rfl ?_
      exact Er_fin rfl rfl ⟨by simp_all, rfl⟩
theorem s_Job_programFor0 (hp : isJ h a) : Run 23 [.ref a, .int ((0 : Int32))] h (.inl (some (.ref (a + 2)))) h := by
  refine ⟨Nat.le_of_ble_eq_true rfl, ?_⟩
  show Ev 23 0 [some (.ref a), some (.int ((0 : Int32)))] [] h _
  refine Er_run 1 (pc' := 1) (ls' := [some (.ref a), some (.int ((0 : Int32)))]) (st' := [.ref a]) rfl ?_
  refine Er_getR (x := a + 1) rfl hp.1 hp.2.1 ?_
  refine Er_run 2 (pc' := bif decide (((0 : Int32)) = 0) then 13 else 8) (ls' := [some (.ref a), some (.int ((0 : Int32)))]) (st' := [.ref (a + 1)]) rfl ?_
  refine Er_pc (t := 13) (show (bif decide (((0 : Int32)) = 0) then 13 else 8) = 13 from by rw [show (decide (((0 : Int32)) = 0)) = true from by decide]; rfl) ?_
  refine Er_run 2 (pc' := 18) (ls' := [some (.ref a), some (.int ((0 : Int32)))]) (st' := [.int ((0 : Int32)), .ref (a + 1)]) rfl ?_
  refine Er_aald (x := a + 2) rfl hp.2.2.1 (by show sm_in _ (gS h (a + 1)).2 = true; rw [hp.2.2.2.1]; decide) hp.2.2.2.2.1 ?_
  exact Er_fin rfl rfl ⟨rfl, rfl⟩
theorem s_Job_programFor1 (hp : isJ h a) : Run 23 [.ref a, .int ((1 : Int32))] h (.inl (some (.ref (a + 5)))) h := by
  refine ⟨Nat.le_of_ble_eq_true rfl, ?_⟩
  show Ev 23 0 [some (.ref a), some (.int ((1 : Int32)))] [] h _
  refine Er_run 1 (pc' := 1) (ls' := [some (.ref a), some (.int ((1 : Int32)))]) (st' := [.ref a]) rfl ?_
  refine Er_getR (x := a + 1) rfl hp.1 hp.2.1 ?_
  refine Er_run 2 (pc' := bif decide (((1 : Int32)) = 0) then 13 else 8) (ls' := [some (.ref a), some (.int ((1 : Int32)))]) (st' := [.ref (a + 1)]) rfl ?_
  refine Er_pc (t := 8) (show (bif decide (((1 : Int32)) = 0) then 13 else 8) = 8 from by rw [show (decide (((1 : Int32)) = 0)) = false from by decide]; rfl) ?_
  refine Er_run 3 (pc' := bif !decide (((1 : Int32)) = ((1 : Int32))) then 17 else 13) (ls' := [some (.ref a), some (.int ((1 : Int32)))]) (st' := [.ref (a + 1)]) rfl ?_
  refine Er_pc (t := 13) (show (bif !decide (((1 : Int32)) = ((1 : Int32))) then 17 else 13) = 13 from by rw [show (!decide (((1 : Int32)) = ((1 : Int32)))) = false from by decide]; rfl) ?_
  refine Er_run 2 (pc' := 18) (ls' := [some (.ref a), some (.int ((1 : Int32)))]) (st' := [.int ((1 : Int32)), .ref (a + 1)]) rfl ?_
  refine Er_aald (x := a + 5) rfl hp.2.2.1 (by show sm_in _ (gS h (a + 1)).2 = true; rw [hp.2.2.2.1]; decide) hp.2.2.2.2.2.1 ?_
  exact Er_fin rfl rfl ⟨rfl, rfl⟩
theorem s_Job_programFor2 (hp : isJ h a) : Run 23 [.ref a, .int ((2 : Int32))] h (.inl (some (.ref (a + 8)))) h := by
  refine ⟨Nat.le_of_ble_eq_true rfl, ?_⟩
  show Ev 23 0 [some (.ref a), some (.int ((2 : Int32)))] [] h _
  refine Er_run 1 (pc' := 1) (ls' := [some (.ref a), some (.int ((2 : Int32)))]) (st' := [.ref a]) rfl ?_
  refine Er_getR (x := a + 1) rfl hp.1 hp.2.1 ?_
  refine Er_run 2 (pc' := bif decide (((2 : Int32)) = 0) then 13 else 8) (ls' := [some (.ref a), some (.int ((2 : Int32)))]) (st' := [.ref (a + 1)]) rfl ?_
  refine Er_pc (t := 8) (show (bif decide (((2 : Int32)) = 0) then 13 else 8) = 8 from by rw [show (decide (((2 : Int32)) = 0)) = false from by decide]; rfl) ?_
  refine Er_run 3 (pc' := bif !decide (((2 : Int32)) = ((1 : Int32))) then 17 else 13) (ls' := [some (.ref a), some (.int ((2 : Int32)))]) (st' := [.ref (a + 1)]) rfl ?_
  refine Er_pc (t := 17) (show (bif !decide (((2 : Int32)) = ((1 : Int32))) then 17 else 13) = 17 from by rw [show (!decide (((2 : Int32)) = ((1 : Int32)))) = true from by decide]; rfl) ?_
  refine Er_run 1 (pc' := 18) (ls' := [some (.ref a), some (.int ((2 : Int32)))]) (st' := [.int ((2 : Int32)), .ref (a + 1)]) rfl ?_
  refine Er_aald (x := a + 8) rfl hp.2.2.1 (by show sm_in _ (gS h (a + 1)).2 = true; rw [hp.2.2.2.1]; decide) hp.2.2.2.2.2.2.1 ?_
  exact Er_fin rfl rfl ⟨rfl, rfl⟩
end JOB
