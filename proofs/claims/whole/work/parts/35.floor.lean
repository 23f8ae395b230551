section FLOOR
theorem Er_lrem {M pc a b : Nat} {ls : sm_L} {r : List Value} {h : sm_H} {cx : Int} {l : List Nat} {Q : sm_R → sm_H → Prop} {x y : Int64} (ho : sm_code M pc = some (75, a, b, cx, l)) (hy : y ≠ 0) (kk : Ev M (pc + 1) ls (.long (x - x / y * y) :: r) h Q) : Ev M pc ls (.long y :: .long x :: r) h Q :=
  Ev_next ho (by show (if y = 0 then none else nx (pc + 1) ls (.long (x - x / y * y) :: r) h) = _; rw [if_neg hy]; rfl) kk
/-- Math.floorMod as its code computes it -/
def jx_fm (x y : Int64) : Int64 := if decide (0 ≤ lg_cmp (x ^^^ y) 0) = true then x - x / y * y else if decide (lg_cmp (x - x / y * y) 0 = 0) = true then x - x / y * y else (x - x / y * y) + y
variable {h : sm_H} {a : Nat}

theorem s_floorMod {x y : Int64} (hy : y ≠ 0) : Run 198 [.long x, .long y] h (.inl (some (.long (jx_fm x y)))) h := by
  refine ⟨Nat.le_of_ble_eq_true rfl, ?_⟩
  show Ev 198 0 [some (.long x), none, some (.long y), none, none, none] [] h _
  refine Er_run 2 (pc' := 2) (ls' := [some (.long x), none, some (.long y), none, none, none]) (st' := [.long y, .long x]) rfl ?_
  refine Er_lrem rfl hy ?_
  refine Er_run 7 (pc' := bif decide (0 ≤ (lg_cmp (x ^^^ y) ((0 : Int64)))) then 25 else 13) (ls' := [some (.long x), none, some (.long y), none, some (.long (x - x / y * y)), none]) (st' := []) rfl ?_
  refine Er_if (fun hc1 => ?_) (fun hc1 => ?_)
  · skip
    refine Er_run 1 (pc' := 27) (ls' := [some (.long x), none, some (.long y), none, some (.long (x - x / y * y)), none]) (st' := [.long (x - x / y * y)]) rfl ?_
    exact Er_fin rfl rfl ⟨by rw [jx_fm]; first | rw [if_pos hc1] | rw [if_neg (by rw [hc1]; decide), if_pos hc2] | rw [if_neg (by rw [hc1]; decide), if_neg (by rw [hc2]; decide)], rfl⟩
  · skip
    refine Er_run 4 (pc' := bif decide ((lg_cmp (x - x / y * y) ((0 : Int64))) = 0) then 25 else 20) (ls' := [some (.long x), none, some (.long y), none, some (.long (x - x / y * y)), none]) (st' := []) rfl ?_
    refine Er_if (fun hc2 => ?_) (fun hc2 => ?_)
    · skip
      refine Er_run 1 (pc' := 27) (ls' := [some (.long x), none, some (.long y), none, some (.long (x - x / y * y)), none]) (st' := [.long (x - x / y * y)]) rfl ?_
      exact Er_fin rfl rfl ⟨by rw [jx_fm]; first | rw [if_pos hc1] | rw [if_neg (by rw [hc1]; decide), if_pos hc2] | rw [if_neg (by rw [hc1]; decide), if_neg (by rw [hc2]; decide)], rfl⟩
    · skip
      refine Er_run 3 (pc' := 24) (ls' := [some (.long x), none, some (.long y), none, some (.long (x - x / y * y)), none]) (st' := [.long ((x - x / y * y) + y)]) rfl ?_
      exact Er_fin rfl rfl ⟨by rw [jx_fm]; first | rw [if_pos hc1] | rw [if_neg (by rw [hc1]; decide), if_pos hc2] | rw [if_neg (by rw [hc1]; decide), if_neg (by rw [hc2]; decide)], rfl⟩
theorem s_Job_partOf {x : Int64} (hp : isJ h a) (h0 : ¬ gI h a 5 ≤ 0) (hy : Int32.toInt64 (gI h a 5) ≠ 0) : Run 32 [.ref a, .long x] h (.inl (some (.int (jx_fm x (Int32.toInt64 (gI h a 5))).toInt32))) h := by
  refine ⟨Nat.le_of_ble_eq_true rfl, ?_⟩
  show Ev 32 0 [some (.ref a), some (.long x), none] [] h _
  refine Er_run 1 (pc' := 1) (ls' := [some (.ref a), some (.long x), none]) (st' := [.ref a]) rfl ?_
  refine Er_getI (v := gI h a 5) rfl hp.1 rfl ?_
  refine Er_run 1 (pc' := bif decide ((gI h a 5) ≤ 0) then 20 else 7) (ls' := [some (.ref a), some (.long x), none]) (st' := []) rfl ?_
  refine Er_pc (t := 7) (show (bif decide ((gI h a 5) ≤ 0) then 20 else 7) = 7 from by rw [show (decide ((gI h a 5) ≤ 0)) = false from decide_eq_false h0]; rfl) ?_
  refine Er_run 2 (pc' := 9) (ls' := [some (.ref a), some (.long x), none]) (st' := [.ref a, .long x]) rfl ?_
  refine Er_getI (v := gI h a 5) rfl hp.1 rfl ?_
  refine Er_run 1 (pc' := 13) (ls' := [some (.ref a), some (.long x), none]) (st' := [.long (Int32.toInt64 (gI h a 5)), .long x]) rfl ?_
  refine Er_sta1 (av := [.long x, .long (Int32.toInt64 (gI h a 5))]) (rest := []) rfl rfl ⟨Nat.le_of_ble_eq_true rfl, Nat.le_of_ble_eq_true rfl⟩ rfl rfl (s_floorMod hy) ?_
  refine Er_run 2 (pc' := 21) (ls' := [some (.ref a), some (.long x), none]) (st' := [.int (Int64.toInt32 (jx_fm x (Int32.toInt64 (gI h a 5))))]) rfl ?_
  exact Er_fin rfl rfl ⟨rfl, rfl⟩
end FLOOR
