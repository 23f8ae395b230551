section LEAPS
variable {h : sm_H} {a : Nat} {l : List (Int32 × Int64)}
/-- an instruction that leaps behind the end of a program of n -/
def jx_lb (n : Nat) (p : Int32 × Int64) : Bool := decide (p.1 = 15 ∨ p.1 = 16) && !decide (lg_cmp p.2 (Int32.toInt64 (Int32.ofNat n)) ≤ 0)

theorem l_leaps (hp : GL h a l) : ∀ (k i : Nat), i + k = l.length → Ev 21 2 [some (.ref a), some (.int (Int32.ofNat i))] [] h (fun r h1 => r = .inl (some (.int (if (l.drop i).any (jx_lb l.length) then 1 else 0))) ∧ h1 = h) := by
  have hl := hp.2.1
  intro k
  induction k with
  | zero =>
    intro i hk
    rw [List.drop_eq_nil_of_le (by omega)]
    refine Er_run 2 (pc' := 4) (ls' := [some (.ref a), some (.int (Int32.ofNat i))]) (st' := [.ref a, .int (Int32.ofNat i)]) rfl ?_
    refine Er_getI (v := Int32.ofNat l.length) rfl hp.1.1 hp.2.2.1 ?_
    refine Er_run 1 (pc' := bif decide ((Int32.ofNat l.length) ≤ (Int32.ofNat i)) then 45 else 10) (ls' := [some (.ref a), some (.int (Int32.ofNat i))]) (st' := []) rfl ?_
    refine Er_pc (t := 45) (show (bif decide ((Int32.ofNat l.length) ≤ (Int32.ofNat i)) then 45 else 10) = 45 from by rw [show (decide ((Int32.ofNat l.length) ≤ (Int32.ofNat i))) = true from by rw [jx_le (by omega) (by omega)]; exact decide_eq_true (by omega)]; rfl) ?_
    refine Er_run 1 (pc' := 46) (ls' := [some (.ref a), some (.int (Int32.ofNat i))]) (st' := [.int ((0 : Int32))]) rfl ?_
    exact Er_fin rfl rfl ⟨rfl, rfl⟩
  | succ k ih =>
    intro i hk
    have hi : i < l.length := by omega
    have e : l[i]? = some l[i] := List.getElem?_eq_getElem hi
    rw [List.drop_eq_getElem_cons hi, List.any_cons]
    generalize l[i] = p at e ⊢
    by_cases h1 : p.1 = 15 ∨ p.1 = 16
    · by_cases h2 : lg_cmp p.2 (Int32.toInt64 (Int32.ofNat l.length)) ≤ 0
      · rw [show jx_lb l.length p = false from by rw [jx_lb, decide_eq_true h2]; simp, Bool.false_or]
        refine Er_run 2 (pc' := 4) (ls' := [some (.ref a), some (.int (Int32.ofNat i))]) (st' := [.ref a, .int (Int32.ofNat i)]) rfl ?_
        refine Er_getI (v := Int32.ofNat l.length) rfl hp.1.1 hp.2.2.1 ?_
        refine Er_run 1 (pc' := bif decide ((Int32.ofNat l.length) ≤ (Int32.ofNat i)) then 45 else 10) (ls' := [some (.ref a), some (.int (Int32.ofNat i))]) (st' := []) rfl ?_
        refine Er_pc (t := 10) (show (bif decide ((Int32.ofNat l.length) ≤ (Int32.ofNat i)) then 45 else 10) = 10 from by rw [show (decide ((Int32.ofNat l.length) ≤ (Int32.ofNat i))) = false from by rw [jx_le (by omega) (by omega)]; exact decide_eq_false (by omega)]; rfl) ?_
        refine Er_run 1 (pc' := 11) (ls' := [some (.ref a), some (.int (Int32.ofNat i))]) (st' := [.ref a]) rfl ?_
        refine Er_getR (x := a + 1) rfl hp.1.1 hp.1.2.1 ?_
        refine Er_run 1 (pc' := 15) (ls' := [some (.ref a), some (.int (Int32.ofNat i))]) (st' := [.int (Int32.ofNat i), .ref (a + 1)]) rfl ?_
        refine Er_iald (v := p.1) rfl hp.1.2.2.2.1 (by rw [hp.1.2.2.2.2.1]; exact sm_in_of (by rw [sm_ofNat_toInt (by omega)]; omega) (by rw [sm_ofNat_toInt (by omega)]; omega)) (by rw [jx_cn (by omega)]; exact (hp.2.2.2 i p e).1) ?_
        refine Er_sta1 (av := [.int (p.1)]) (rest := []) rfl rfl ⟨Nat.le_of_ble_eq_true rfl, Nat.le_of_ble_eq_true rfl⟩ rfl rfl s_Program_leaps ?_
        refine Er_run 1 (pc' := bif decide ((if p.1 = 15 ∨ p.1 = 16 then (1 : Int32) else 0) = 0) then 39 else 22) (ls' := [some (.ref a), some (.int (Int32.ofNat i))]) (st' := []) rfl ?_
        refine Er_pc (t := 22) (show (bif decide ((if p.1 = 15 ∨ p.1 = 16 then (1 : Int32) else 0) = 0) then 39 else 22) = 22 from by rw [show (decide ((if p.1 = 15 ∨ p.1 = 16 then (1 : Int32) else 0) = 0)) = false from by rw [if_pos h1]; rfl]; rfl) ?_
        refine Er_run 1 (pc' := 23) (ls' := [some (.ref a), some (.int (Int32.ofNat i))]) (st' := [.ref a]) rfl ?_
        refine Er_getR (x := a + 2) rfl hp.1.1 hp.1.2.2.1 ?_
        refine Er_run 1 (pc' := 27) (ls' := [some (.ref a), some (.int (Int32.ofNat i))]) (st' := [.int (Int32.ofNat i), .ref (a + 2)]) rfl ?_
        refine Er_lald (v := p.2) rfl hp.1.2.2.2.2.2.1 (by rw [hp.1.2.2.2.2.2.2]; exact sm_in_of (by rw [sm_ofNat_toInt (by omega)]; omega) (by rw [sm_ofNat_toInt (by omega)]; omega)) (by rw [jx_cn (by omega)]; exact (hp.2.2.2 i p e).2) ?_
        refine Er_run 1 (pc' := 29) (ls' := [some (.ref a), some (.int (Int32.ofNat i))]) (st' := [.ref a, .long (p.2)]) rfl ?_
        refine Er_getI (v := Int32.ofNat l.length) rfl hp.1.1 hp.2.2.1 ?_
        refine Er_run 3 (pc' := bif decide ((lg_cmp p.2 (Int32.toInt64 (Int32.ofNat l.length))) ≤ 0) then 39 else 37) (ls' := [some (.ref a), some (.int (Int32.ofNat i))]) (st' := []) rfl ?_
        refine Er_pc (t := 39) (show (bif decide ((lg_cmp p.2 (Int32.toInt64 (Int32.ofNat l.length))) ≤ 0) then 39 else 37) = 39 from by rw [show (decide ((lg_cmp p.2 (Int32.toInt64 (Int32.ofNat l.length))) ≤ 0)) = true from decide_eq_true h2]; rfl) ?_
        refine Er_run 2 (pc' := 2) (ls' := [some (.ref a), some (.int ((Int32.ofNat i) + (1 : Int32)))]) (st' := []) rfl ?_
        rw [jx_s1]
        exact ih (i + 1) (by omega)
      · rw [show jx_lb l.length p = true from by rw [jx_lb, decide_eq_true h1, decide_eq_false h2]; rfl, Bool.true_or]
        refine Er_run 2 (pc' := 4) (ls' := [some (.ref a), some (.int (Int32.ofNat i))]) (st' := [.ref a, .int (Int32.ofNat i)]) rfl ?_
        refine Er_getI (v := Int32.ofNat l.length) rfl hp.1.1 hp.2.2.1 ?_
        refine Er_run 1 (pc' := bif decide ((Int32.ofNat l.length) ≤ (Int32.ofNat i)) then 45 else 10) (ls' := [some (.ref a), some (.int (Int32.ofNat i))]) (st' := []) rfl ?_
        refine Er_pc (t := 10) (show (bif decide ((Int32.ofNat l.length) ≤ (Int32.ofNat i)) then 45 else 10) = 10 from by rw [show (decide ((Int32.ofNat l.length) ≤ (Int32.ofNat i))) = false from by rw [jx_le (by omega) (by omega)]; exact decide_eq_false (by omega)]; rfl) ?_
        refine Er_run 1 (pc' := 11) (ls' := [some (.ref a), some (.int (Int32.ofNat i))]) (st' := [.ref a]) rfl ?_
        refine Er_getR (x := a + 1) rfl hp.1.1 hp.1.2.1 ?_
        refine Er_run 1 (pc' := 15) (ls' := [some (.ref a), some (.int (Int32.ofNat i))]) (st' := [.int (Int32.ofNat i), .ref (a + 1)]) rfl ?_
        refine Er_iald (v := p.1) rfl hp.1.2.2.2.1 (by rw [hp.1.2.2.2.2.1]; exact sm_in_of (by rw [sm_ofNat_toInt (by omega)]; omega) (by rw [sm_ofNat_toInt (by omega)]; omega)) (by rw [jx_cn (by omega)]; exact (hp.2.2.2 i p e).1) ?_
        refine Er_sta1 (av := [.int (p.1)]) (rest := []) rfl rfl ⟨Nat.le_of_ble_eq_true rfl, Nat.le_of_ble_eq_true rfl⟩ rfl rfl s_Program_leaps ?_
        refine Er_run 1 (pc' := bif decide ((if p.1 = 15 ∨ p.1 = 16 then (1 : Int32) else 0) = 0) then 39 else 22) (ls' := [some (.ref a), some (.int (Int32.ofNat i))]) (st' := []) rfl ?_
        refine Er_pc (t := 22) (show (bif decide ((if p.1 = 15 ∨ p.1 = 16 then (1 : Int32) else 0) = 0) then 39 else 22) = 22 from by rw [show (decide ((if p.1 = 15 ∨ p.1 = 16 then (1 : Int32) else 0) = 0)) = false from by rw [if_pos h1]; rfl]; rfl) ?_
        refine Er_run 1 (pc' := 23) (ls' := [some (.ref a), some (.int (Int32.ofNat i))]) (st' := [.ref a]) rfl ?_
        refine Er_getR (x := a + 2) rfl hp.1.1 hp.1.2.2.1 ?_
        refine Er_run 1 (pc' := 27) (ls' := [some (.ref a), some (.int (Int32.ofNat i))]) (st' := [.int (Int32.ofNat i), .ref (a + 2)]) rfl ?_
        refine Er_lald (v := p.2) rfl hp.1.2.2.2.2.2.1 (by rw [hp.1.2.2.2.2.2.2]; exact sm_in_of (by rw [sm_ofNat_toInt (by omega)]; omega) (by rw [sm_ofNat_toInt (by omega)]; omega)) (by rw [jx_cn (by omega)]; exact (hp.2.2.2 i p e).2) ?_
        refine Er_run 1 (pc' := 29) (ls' := [some (.ref a), some (.int (Int32.ofNat i))]) (st' := [.ref a, .long (p.2)]) rfl ?_
        refine Er_getI (v := Int32.ofNat l.length) rfl hp.1.1 hp.2.2.1 ?_
        refine Er_run 3 (pc' := bif decide ((lg_cmp p.2 (Int32.toInt64 (Int32.ofNat l.length))) ≤ 0) then 39 else 37) (ls' := [some (.ref a), some (.int (Int32.ofNat i))]) (st' := []) rfl ?_
        refine Er_pc (t := 37) (show (bif decide ((lg_cmp p.2 (Int32.toInt64 (Int32.ofNat l.length))) ≤ 0) then 39 else 37) = 37 from by rw [show (decide ((lg_cmp p.2 (Int32.toInt64 (Int32.ofNat l.length))) ≤ 0)) = false from decide_eq_false h2]; rfl) ?_
        refine Er_run 1 (pc' := 38) (ls' := [some (.ref a), some (.int (Int32.ofNat i))]) (st' := [.int ((1 : Int32))]) rfl ?_
        exact Er_fin rfl rfl ⟨rfl, rfl⟩
    · rw [show jx_lb l.length p = false from by rw [jx_lb, decide_eq_false h1]; rfl, Bool.false_or]
      refine Er_run 2 (pc' := 4) (ls' := [some (.ref a), some (.int (Int32.ofNat i))]) (st' := [.ref a, .int (Int32.ofNat i)]) rfl ?_
      refine Er_getI (v := Int32.ofNat l.length) rfl hp.1.1 hp.2.2.1 ?_
      refine Er_run 1 (pc' := bif decide ((Int32.ofNat l.length) ≤ (Int32.ofNat i)) then 45 else 10) (ls' := [some (.ref a), some (.int (Int32.ofNat i))]) (st' := []) rfl ?_
      refine Er_pc (t := 10) (show (bif decide ((Int32.ofNat l.length) ≤ (Int32.ofNat i)) then 45 else 10) = 10 from by rw [show (decide ((Int32.ofNat l.length) ≤ (Int32.ofNat i))) = false from by rw [jx_le (by omega) (by omega)]; exact decide_eq_false (by omega)]; rfl) ?_
      refine Er_run 1 (pc' := 11) (ls' := [some (.ref a), some (.int (Int32.ofNat i))]) (st' := [.ref a]) rfl ?_
      refine Er_getR (x := a + 1) rfl hp.1.1 hp.1.2.1 ?_
      refine Er_run 1 (pc' := 15) (ls' := [some (.ref a), some (.int (Int32.ofNat i))]) (st' := [.int (Int32.ofNat i), .ref (a + 1)]) rfl ?_
      refine Er_iald (v := p.1) rfl hp.1.2.2.2.1 (by rw [hp.1.2.2.2.2.1]; exact sm_in_of (by rw [sm_ofNat_toInt (by omega)]; omega) (by rw [sm_ofNat_toInt (by omega)]; omega)) (by rw [jx_cn (by omega)]; exact (hp.2.2.2 i p e).1) ?_
      refine Er_sta1 (av := [.int (p.1)]) (rest := []) rfl rfl ⟨Nat.le_of_ble_eq_true rfl, Nat.le_of_ble_eq_true rfl⟩ rfl rfl s_Program_leaps ?_
      refine Er_run 1 (pc' := bif decide ((if p.1 = 15 ∨ p.1 = 16 then (1 : Int32) else 0) = 0) then 39 else 22) (ls' := [some (.ref a), some (.int (Int32.ofNat i))]) (st' := []) rfl ?_
      refine Er_pc (t := 39) (show (bif decide ((if p.1 = 15 ∨ p.1 = 16 then (1 : Int32) else 0) = 0) then 39 else 22) = 39 from by rw [show (decide ((if p.1 = 15 ∨ p.1 = 16 then (1 : Int32) else 0) = 0)) = true from by rw [if_neg h1]; rfl]; rfl) ?_
      refine Er_run 2 (pc' := 2) (ls' := [some (.ref a), some (.int ((Int32.ofNat i) + (1 : Int32)))]) (st' := []) rfl ?_
      rw [jx_s1]
      exact ih (i + 1) (by omega)
theorem s_Program_leapsBehindEnd (hp : GL h a l) : Run 21 [.ref a] h (.inl (some (.int (if l.any (jx_lb l.length) then 1 else 0)))) h := by
  refine ⟨Nat.le_of_ble_eq_true rfl, ?_⟩
  show Ev 21 0 [some (.ref a), none] [] h _
  refine Er_run 2 (pc' := 2) (ls' := [some (.ref a), some (.int ((0 : Int32)))]) (st' := []) rfl ?_
  exact l_leaps hp l.length 0 (by omega)
end LEAPS
