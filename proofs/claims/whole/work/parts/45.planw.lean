section PLANW
variable {h : sm_H} {s : Nat} {cl : List Nat}
theorem CH_add {j : Nat} (hc : CH h s cl) (hl : cl.length < 8) (hj : j < 8) : CH (setI (setI h (s + 3) cl.length (Int32.ofNat j)) s 3 (Int32.ofNat (cl.length + 1))) s (cl ++ [j]) := by
  refine ⟨by simp; omega, ?_, ?_, ?_⟩
  · show (if s = s ∧ 3 = 3 then _ else _) = _
    rw [if_pos ⟨rfl, rfl⟩]; simp
  · intro q hq
    rcases List.mem_append.1 hq with hq | hq
    · exact hc.2.2.1 q hq
    · rw [List.mem_singleton.1 hq]; exact hj
  · intro i q e
    show (if s + 3 = s ∧ i = 3 then _ else if s + 3 = s + 3 ∧ i = cl.length then Int32.ofNat j else gI h (s + 3) i) = _
    rw [if_neg (by omega)]
    by_cases hi : i = cl.length
    · subst hi
      simp at e
      subst e
      simp
    · have hlt : i < cl.length := by
        have := (List.getElem?_eq_some_iff.1 e).1
        simp at this
        omega
      rw [List.getElem?_append_left hlt] at e
      rw [if_neg (by omega)]
      exact hc.2.2.2 i q e

theorem l_plan {c : Nat} (hc8 : c ≤ 8) : ∀ (k i : Nat) (cl : List Nat) (h : sm_H) (x3 : Option Value), isS h s → isJs h s → CH h s cl → cl.length = i → i + k = c → Ev 40 12 [some (.ref s), some (.int (Int32.ofNat c)), some (.int (Int32.ofNat i)), x3] [] h (fun r h1 => r = .inl (some (.int (if (jx_plan h s k cl).1 then 1 else 0))) ∧ CH h1 s (jx_plan h s k cl).2 ∧ Fr s (s + 4) h h1 ∧ isS h1 s) := by
  intro k
  induction k with
  | zero =>
    intro i cl h x3 hp hjs hc hi hk
    rw [jx_plan]
    refine Er_run 3 (pc' := bif decide ((Int32.ofNat c) ≤ (Int32.ofNat i)) then 63 else 17) (ls' := [some (.ref s), some (.int (Int32.ofNat c)), some (.int (Int32.ofNat i)), x3]) (st' := []) rfl ?_
    refine Er_pc (t := 63) (show (bif decide ((Int32.ofNat c) ≤ (Int32.ofNat i)) then 63 else 17) = 63 from by rw [show (decide ((Int32.ofNat c) ≤ (Int32.ofNat i))) = true from by rw [jx_le (by omega) (by omega)]; exact decide_eq_true (by omega)]; rfl) ?_
    refine Er_run 1 (pc' := 64) (ls' := [some (.ref s), some (.int (Int32.ofNat c)), some (.int (Int32.ofNat i)), x3]) (st' := [.int ((1 : Int32))]) rfl ?_
    exact Er_fin rfl rfl ⟨rfl, hc, Fr.refl _ _ _, hp⟩
  | succ k ih =>
    intro i cl h x3 hp hjs hc hi hk
    cases hfd : (List.range' 0 8).find? (jx_nc h s cl) with
    | none =>
      have ep : jx_plan h s (k + 1) cl = (false, cl) := by rw [jx_plan, hfd]
      simp only [ep]
      refine Er_run 3 (pc' := bif decide ((Int32.ofNat c) ≤ (Int32.ofNat i)) then 63 else 17) (ls' := [some (.ref s), some (.int (Int32.ofNat c)), some (.int (Int32.ofNat i)), x3]) (st' := []) rfl ?_
      refine Er_pc (t := 17) (show (bif decide ((Int32.ofNat c) ≤ (Int32.ofNat i)) then 63 else 17) = 17 from by rw [show (decide ((Int32.ofNat c) ≤ (Int32.ofNat i))) = false from by rw [jx_le (by omega) (by omega)]; exact decide_eq_false (by omega)]; rfl) ?_
      refine Er_run 1 (pc' := 18) (ls' := [some (.ref s), some (.int (Int32.ofNat c)), some (.int (Int32.ofNat i)), x3]) (st' := [.ref s]) rfl ?_
      have rn := s_Store_nextForChain hp hjs hc
      rw [hfd, show jx_op none = (-1 : Int32) from rfl] at rn
      refine Er_inv1 (q' := s) (ci := 3) (av := []) (rest := []) rfl rfl ⟨Nat.le_of_ble_eq_true rfl, Nat.le_of_ble_eq_true rfl⟩ rfl rfl hp.1 rn ?_
      refine Er_run 4 (pc' := bif decide (((-1 : Int32)) = ((-1 : Int32))) then 35 else 27) (ls' := [some (.ref s), some (.int (Int32.ofNat c)), some (.int (Int32.ofNat i)), some (.int ((-1 : Int32)))]) (st' := []) rfl ?_
      refine Er_pc (t := 35) (show (bif decide (((-1 : Int32)) = ((-1 : Int32))) then 35 else 27) = 35 from by rw [show (decide (((-1 : Int32)) = ((-1 : Int32)))) = true from by decide]; rfl) ?_
      refine Er_run 1 (pc' := 36) (ls' := [some (.ref s), some (.int (Int32.ofNat c)), some (.int (Int32.ofNat i)), some (.int ((-1 : Int32)))]) (st' := [.int ((0 : Int32))]) rfl ?_
      exact Er_fin rfl rfl ⟨rfl, hc, Fr.refl _ _ _, hp⟩
    | some j =>
      have hj : j < 8 := by
        have := List.mem_range'_1.1 (List.mem_of_find?_eq_some hfd)
        omega
      by_cases hsh : (List.range' 0 8).any (jx_sh h s j) = true
      · have ep : jx_plan h s (k + 1) cl = (false, cl) := by rw [jx_plan, hfd]; exact if_pos hsh
        simp only [ep]
        refine Er_run 3 (pc' := bif decide ((Int32.ofNat c) ≤ (Int32.ofNat i)) then 63 else 17) (ls' := [some (.ref s), some (.int (Int32.ofNat c)), some (.int (Int32.ofNat i)), x3]) (st' := []) rfl ?_
        refine Er_pc (t := 17) (show (bif decide ((Int32.ofNat c) ≤ (Int32.ofNat i)) then 63 else 17) = 17 from by rw [show (decide ((Int32.ofNat c) ≤ (Int32.ofNat i))) = false from by rw [jx_le (by omega) (by omega)]; exact decide_eq_false (by omega)]; rfl) ?_
        refine Er_run 1 (pc' := 18) (ls' := [some (.ref s), some (.int (Int32.ofNat c)), some (.int (Int32.ofNat i)), x3]) (st' := [.ref s]) rfl ?_
        have rn := s_Store_nextForChain hp hjs hc
        rw [hfd, show jx_op (some j) = Int32.ofNat j from rfl] at rn
        refine Er_inv1 (q' := s) (ci := 3) (av := []) (rest := []) rfl rfl ⟨Nat.le_of_ble_eq_true rfl, Nat.le_of_ble_eq_true rfl⟩ rfl rfl hp.1 rn ?_
        refine Er_run 4 (pc' := bif decide ((Int32.ofNat j) = ((-1 : Int32))) then 35 else 27) (ls' := [some (.ref s), some (.int (Int32.ofNat c)), some (.int (Int32.ofNat i)), some (.int (Int32.ofNat j))]) (st' := []) rfl ?_
        refine Er_pc (t := 27) (show (bif decide ((Int32.ofNat j) = ((-1 : Int32))) then 35 else 27) = 27 from by rw [show (decide ((Int32.ofNat j) = ((-1 : Int32)))) = false from decide_eq_false (jx_ne1 (by omega))]; rfl) ?_
        refine Er_run 2 (pc' := 29) (ls' := [some (.ref s), some (.int (Int32.ofNat c)), some (.int (Int32.ofNat i)), some (.int (Int32.ofNat j))]) (st' := [.int (Int32.ofNat j), .ref s]) rfl ?_
        have rs := s_Store_sharesOutput hp hjs hj
        rw [if_pos hsh] at rs
        refine Er_inv1 (q' := s) (ci := 3) (av := [.int (Int32.ofNat j)]) (rest := []) rfl rfl ⟨Nat.le_of_ble_eq_true rfl, Nat.le_of_ble_eq_true rfl⟩ rfl rfl hp.1 rs ?_
        refine Er_run 1 (pc' := bif decide (((1 : Int32)) = 0) then 37 else 35) (ls' := [some (.ref s), some (.int (Int32.ofNat c)), some (.int (Int32.ofNat i)), some (.int (Int32.ofNat j))]) (st' := []) rfl ?_
        refine Er_pc (t := 35) (show (bif decide (((1 : Int32)) = 0) then 37 else 35) = 35 from by rw [show (decide (((1 : Int32)) = 0)) = false from by decide]; rfl) ?_
        refine Er_run 1 (pc' := 36) (ls' := [some (.ref s), some (.int (Int32.ofNat c)), some (.int (Int32.ofNat i)), some (.int (Int32.ofNat j))]) (st' := [.int ((0 : Int32))]) rfl ?_
        exact Er_fin rfl rfl ⟨rfl, hc, Fr.refl _ _ _, hp⟩
      · have ep : jx_plan h s (k + 1) cl = jx_plan h s k (cl ++ [j]) := by rw [jx_plan, hfd]; exact if_neg hsh
        simp only [ep]
        refine Er_run 3 (pc' := bif decide ((Int32.ofNat c) ≤ (Int32.ofNat i)) then 63 else 17) (ls' := [some (.ref s), some (.int (Int32.ofNat c)), some (.int (Int32.ofNat i)), x3]) (st' := []) rfl ?_
        refine Er_pc (t := 17) (show (bif decide ((Int32.ofNat c) ≤ (Int32.ofNat i)) then 63 else 17) = 17 from by rw [show (decide ((Int32.ofNat c) ≤ (Int32.ofNat i))) = false from by rw [jx_le (by omega) (by omega)]; exact decide_eq_false (by omega)]; rfl) ?_
        refine Er_run 1 (pc' := 18) (ls' := [some (.ref s), some (.int (Int32.ofNat c)), some (.int (Int32.ofNat i)), x3]) (st' := [.ref s]) rfl ?_
        have rn := s_Store_nextForChain hp hjs hc
        rw [hfd, show jx_op (some j) = Int32.ofNat j from rfl] at rn
        refine Er_inv1 (q' := s) (ci := 3) (av := []) (rest := []) rfl rfl ⟨Nat.le_of_ble_eq_true rfl, Nat.le_of_ble_eq_true rfl⟩ rfl rfl hp.1 rn ?_
        refine Er_run 4 (pc' := bif decide ((Int32.ofNat j) = ((-1 : Int32))) then 35 else 27) (ls' := [some (.ref s), some (.int (Int32.ofNat c)), some (.int (Int32.ofNat i)), some (.int (Int32.ofNat j))]) (st' := []) rfl ?_
        refine Er_pc (t := 27) (show (bif decide ((Int32.ofNat j) = ((-1 : Int32))) then 35 else 27) = 27 from by rw [show (decide ((Int32.ofNat j) = ((-1 : Int32)))) = false from decide_eq_false (jx_ne1 (by omega))]; rfl) ?_
        refine Er_run 2 (pc' := 29) (ls' := [some (.ref s), some (.int (Int32.ofNat c)), some (.int (Int32.ofNat i)), some (.int (Int32.ofNat j))]) (st' := [.int (Int32.ofNat j), .ref s]) rfl ?_
        have rs := s_Store_sharesOutput hp hjs hj
        rw [if_neg hsh] at rs
        refine Er_inv1 (q' := s) (ci := 3) (av := [.int (Int32.ofNat j)]) (rest := []) rfl rfl ⟨Nat.le_of_ble_eq_true rfl, Nat.le_of_ble_eq_true rfl⟩ rfl rfl hp.1 rs ?_
        refine Er_run 1 (pc' := bif decide (((0 : Int32)) = 0) then 37 else 35) (ls' := [some (.ref s), some (.int (Int32.ofNat c)), some (.int (Int32.ofNat i)), some (.int (Int32.ofNat j))]) (st' := []) rfl ?_
        refine Er_pc (t := 37) (show (bif decide (((0 : Int32)) = 0) then 37 else 35) = 37 from by rw [show (decide (((0 : Int32)) = 0)) = true from by decide]; rfl) ?_
        refine Er_run 1 (pc' := 38) (ls' := [some (.ref s), some (.int (Int32.ofNat c)), some (.int (Int32.ofNat i)), some (.int (Int32.ofNat j))]) (st' := [.ref s]) rfl ?_
        refine Er_getR (x := s + 3) rfl hp.1 hp.2.2.2.1 ?_
        refine Er_run 1 (pc' := 42) (ls' := [some (.ref s), some (.int (Int32.ofNat c)), some (.int (Int32.ofNat i)), some (.int (Int32.ofNat j))]) (st' := [.ref s, .ref (s + 3)]) rfl ?_
        refine Er_getI (v := Int32.ofNat cl.length) rfl hp.1 hc.2.1 ?_
        refine Er_run 1 (pc' := 46) (ls' := [some (.ref s), some (.int (Int32.ofNat c)), some (.int (Int32.ofNat i)), some (.int (Int32.ofNat j))]) (st' := [.int (Int32.ofNat j), .int (Int32.ofNat cl.length), .ref (s + 3)]) rfl ?_
        refine Er_iast rfl hp.2.2.2.2.2.2.2.2.1 (by show sm_in _ (gS h (s + 3)).2 = true; rw [hp.2.2.2.2.2.2.2.2.2.1]; exact sm_in_of (by rw [sm_ofNat_toInt (by omega)]; omega) (by rw [sm_ofNat_toInt (by omega)]; omega)) ?_
        refine Er_run 2 (pc' := 49) (ls' := [some (.ref s), some (.int (Int32.ofNat c)), some (.int (Int32.ofNat i)), some (.int (Int32.ofNat j))]) (st' := [.ref s, .ref s]) rfl ?_
        refine Er_getI (v := Int32.ofNat cl.length) rfl hp.1 (by show (if s = s + 3 ∧ _ then _ else gI h s 3) = _; rw [if_neg (by omega)]; exact hc.2.1) ?_
        refine Er_run 2 (pc' := 54) (ls' := [some (.ref s), some (.int (Int32.ofNat c)), some (.int (Int32.ofNat i)), some (.int (Int32.ofNat j))]) (st' := [.int ((Int32.ofNat cl.length) + ((1 : Int32))), .ref s]) rfl ?_
        refine Er_putI rfl hp.1 ?_
        refine Er_run 2 (pc' := 12) (ls' := [some (.ref s), some (.int (Int32.ofNat c)), some (.int ((Int32.ofNat i) + (1 : Int32))), some (.int (Int32.ofNat j))]) (st' := []) rfl ?_
        rw [jx_s1, jx_s1, jx_cn (i := cl.length) (by omega)]
        have fr : Fr s (s + 4) h (setI (setI h (s + 3) cl.length (Int32.ofNat j)) s 3 (Int32.ofNat (cl.length + 1))) := (Fr.setI (by omega) (by omega)).trans (Fr.setI (by omega) (by omega))
        have ik := ih (i + 1) (cl ++ [j]) (setI (setI h (s + 3) cl.length (Int32.ofNat j)) s 3 (Int32.ofNat (cl.length + 1))) (some (.int (Int32.ofNat j))) hp (isJs_fr fr (by omega) hjs) (CH_add hc (by omega) hj) (by simp; omega) (by omega)
        rw [jx_plan_fr fr (by omega)] at ik
        exact ik.mono (fun r h5 hq => ⟨hq.1, hq.2.1, fr.trans hq.2.2.1, hq.2.2.2⟩)
end PLANW
