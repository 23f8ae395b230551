/-- THE CHAIN as a list of numbers of JOBS -/
def CH (h : sm_H) (s : Nat) (cl : List Nat) : Prop := cl.length ≤ 8 ∧ gI h s 3 = Int32.ofNat cl.length ∧ (∀ j ∈ cl, j < 8) ∧ ∀ i j, cl[i]? = some j → gI h (s + 3) i = Int32.ofNat j
section CHAIN
variable {h : sm_H} {s : Nat} {cl : List Nat}
theorem jx_eq {i j : Nat} (hi : i < 2147483648) (hj : j < 2147483648) : decide (Int32.ofNat i = Int32.ofNat j) = decide (i = j) := by
  rw [decide_eq_decide]
  refine ⟨fun e => ?_, fun e => by rw [e]⟩
  have := congrArg Int32.toInt e
  rw [sm_ofNat_toInt hi, sm_ofNat_toInt hj] at this
  omega

theorem l_isChained {j : Nat} (hp : isS h s) (hc : CH h s cl) (hj : j < 2147483648) : ∀ (k i : Nat), i + k = cl.length → Ev 44 2 [some (.ref s), some (.int (Int32.ofNat j)), some (.int (Int32.ofNat i))] [] h (fun r h1 => r = .inl (some (.int (if j ∈ cl.drop i then 1 else 0))) ∧ h1 = h) := by
  have hl := hc.1
  intro k
  induction k with
  | zero =>
    intro i hk
    rw [List.drop_eq_nil_of_le (by omega), if_neg (by simp)]
    refine Er_run 2 (pc' := 4) (ls' := [some (.ref s), some (.int (Int32.ofNat j)), some (.int (Int32.ofNat i))]) (st' := [.ref s, .int (Int32.ofNat i)]) rfl ?_
    refine Er_getI (v := Int32.ofNat cl.length) rfl hp.1 hc.2.1 ?_
    refine Er_run 1 (pc' := bif decide ((Int32.ofNat cl.length) ≤ (Int32.ofNat i)) then 28 else 10) (ls' := [some (.ref s), some (.int (Int32.ofNat j)), some (.int (Int32.ofNat i))]) (st' := []) rfl ?_
    refine Er_pc (t := 28) (show (bif decide ((Int32.ofNat cl.length) ≤ (Int32.ofNat i)) then 28 else 10) = 28 from by rw [show (decide ((Int32.ofNat cl.length) ≤ (Int32.ofNat i))) = true from by rw [jx_le (by omega) (by omega)]; exact decide_eq_true (by omega)]; rfl) ?_
    refine Er_run 1 (pc' := 29) (ls' := [some (.ref s), some (.int (Int32.ofNat j)), some (.int (Int32.ofNat i))]) (st' := [.int ((0 : Int32))]) rfl ?_
    exact Er_fin rfl rfl ⟨rfl, rfl⟩
  | succ k ih =>
    intro i hk
    have hi : i < cl.length := by omega
    have e : cl[i]? = some cl[i] := List.getElem?_eq_getElem hi
    have hq := hc.2.2.1 _ (List.getElem_mem hi)
    rw [List.drop_eq_getElem_cons hi]
    generalize cl[i] = q at e hq ⊢
    by_cases hqj : q = j
    · rw [if_pos (by rw [hqj]; exact List.mem_cons_self)]
      refine Er_run 2 (pc' := 4) (ls' := [some (.ref s), some (.int (Int32.ofNat j)), some (.int (Int32.ofNat i))]) (st' := [.ref s, .int (Int32.ofNat i)]) rfl ?_
      refine Er_getI (v := Int32.ofNat cl.length) rfl hp.1 hc.2.1 ?_
      refine Er_run 1 (pc' := bif decide ((Int32.ofNat cl.length) ≤ (Int32.ofNat i)) then 28 else 10) (ls' := [some (.ref s), some (.int (Int32.ofNat j)), some (.int (Int32.ofNat i))]) (st' := []) rfl ?_
      refine Er_pc (t := 10) (show (bif decide ((Int32.ofNat cl.length) ≤ (Int32.ofNat i)) then 28 else 10) = 10 from by rw [show (decide ((Int32.ofNat cl.length) ≤ (Int32.ofNat i))) = false from by rw [jx_le (by omega) (by omega)]; exact decide_eq_false (by omega)]; rfl) ?_
      refine Er_run 1 (pc' := 11) (ls' := [some (.ref s), some (.int (Int32.ofNat j)), some (.int (Int32.ofNat i))]) (st' := [.ref s]) rfl ?_
      refine Er_getR (x := s + 3) rfl hp.1 hp.2.2.2.1 ?_
      refine Er_run 1 (pc' := 15) (ls' := [some (.ref s), some (.int (Int32.ofNat j)), some (.int (Int32.ofNat i))]) (st' := [.int (Int32.ofNat i), .ref (s + 3)]) rfl ?_
      refine Er_iald (v := Int32.ofNat q) rfl hp.2.2.2.2.2.2.2.2.1 (by rw [hp.2.2.2.2.2.2.2.2.2.1]; exact sm_in_of (by rw [sm_ofNat_toInt (by omega)]; omega) (by rw [sm_ofNat_toInt (by omega)]; omega)) (by rw [jx_cn (by omega)]; exact hc.2.2.2 i q e) ?_
      refine Er_run 2 (pc' := bif !decide ((Int32.ofNat q) = (Int32.ofNat j)) then 22 else 20) (ls' := [some (.ref s), some (.int (Int32.ofNat j)), some (.int (Int32.ofNat i))]) (st' := []) rfl ?_
      refine Er_pc (t := 20) (show (bif !decide ((Int32.ofNat q) = (Int32.ofNat j)) then 22 else 20) = 20 from by rw [show (!decide ((Int32.ofNat q) = (Int32.ofNat j))) = false from by rw [jx_eq (by omega) (by omega), decide_eq_true hqj]; rfl]; rfl) ?_
      refine Er_run 1 (pc' := 21) (ls' := [some (.ref s), some (.int (Int32.ofNat j)), some (.int (Int32.ofNat i))]) (st' := [.int ((1 : Int32))]) rfl ?_
      exact Er_fin rfl rfl ⟨rfl, rfl⟩
    · rw [show (if j ∈ q :: List.drop (i + 1) cl then (1 : Int32) else 0) = if j ∈ List.drop (i + 1) cl then 1 else 0 from by simp [List.mem_cons, Ne.symm hqj]]
      refine Er_run 2 (pc' := 4) (ls' := [some (.ref s), some (.int (Int32.ofNat j)), some (.int (Int32.ofNat i))]) (st' := [.ref s, .int (Int32.ofNat i)]) rfl ?_
      refine Er_getI (v := Int32.ofNat cl.length) rfl hp.1 hc.2.1 ?_
      refine Er_run 1 (pc' := bif decide ((Int32.ofNat cl.length) ≤ (Int32.ofNat i)) then 28 else 10) (ls' := [some (.ref s), some (.int (Int32.ofNat j)), some (.int (Int32.ofNat i))]) (st' := []) rfl ?_
      refine Er_pc (t := 10) (show (bif decide ((Int32.ofNat cl.length) ≤ (Int32.ofNat i)) then 28 else 10) = 10 from by rw [show (decide ((Int32.ofNat cl.length) ≤ (Int32.ofNat i))) = false from by rw [jx_le (by omega) (by omega)]; exact decide_eq_false (by omega)]; rfl) ?_
      refine Er_run 1 (pc' := 11) (ls' := [some (.ref s), some (.int (Int32.ofNat j)), some (.int (Int32.ofNat i))]) (st' := [.ref s]) rfl ?_
      refine Er_getR (x := s + 3) rfl hp.1 hp.2.2.2.1 ?_
      refine Er_run 1 (pc' := 15) (ls' := [some (.ref s), some (.int (Int32.ofNat j)), some (.int (Int32.ofNat i))]) (st' := [.int (Int32.ofNat i), .ref (s + 3)]) rfl ?_
      refine Er_iald (v := Int32.ofNat q) rfl hp.2.2.2.2.2.2.2.2.1 (by rw [hp.2.2.2.2.2.2.2.2.2.1]; exact sm_in_of (by rw [sm_ofNat_toInt (by omega)]; omega) (by rw [sm_ofNat_toInt (by omega)]; omega)) (by rw [jx_cn (by omega)]; exact hc.2.2.2 i q e) ?_
      refine Er_run 2 (pc' := bif !decide ((Int32.ofNat q) = (Int32.ofNat j)) then 22 else 20) (ls' := [some (.ref s), some (.int (Int32.ofNat j)), some (.int (Int32.ofNat i))]) (st' := []) rfl ?_
      refine Er_pc (t := 22) (show (bif !decide ((Int32.ofNat q) = (Int32.ofNat j)) then 22 else 20) = 22 from by rw [show (!decide ((Int32.ofNat q) = (Int32.ofNat j))) = true from by rw [jx_eq (by omega) (by omega), decide_eq_false hqj]; rfl]; rfl) ?_
      refine Er_run 2 (pc' := 2) (ls' := [some (.ref s), some (.int (Int32.ofNat j)), some (.int ((Int32.ofNat i) + (1 : Int32)))]) (st' := []) rfl ?_
      rw [jx_s1]
      exact ih (i + 1) (by omega)
theorem s_Store_isChained {j : Nat} (hp : isS h s) (hc : CH h s cl) (hj : j < 2147483648) : Run 44 [.ref s, .int (Int32.ofNat j)] h (.inl (some (.int (if j ∈ cl then 1 else 0)))) h := by
  refine ⟨Nat.le_of_ble_eq_true rfl, ?_⟩
  show Ev 44 0 [some (.ref s), some (.int (Int32.ofNat j)), none] [] h _
  refine Er_run 2 (pc' := 2) (ls' := [some (.ref s), some (.int (Int32.ofNat j)), some (.int ((0 : Int32)))]) (st' := []) rfl ?_
  exact l_isChained hp hc hj cl.length 0 (by omega)
end CHAIN
