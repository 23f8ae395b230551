theorem ck_l_app {M : Nat} : ∀ (l1 l2 : List (Option sm_O)) (k : Nat), ck_l M k l1 = true → ck_l M (k + l1.length) l2 = true → ck_l M k (l1 ++ l2) = true
  | [], l2, k, _, h => h
  | none :: r, l2, k, h1, h2 => ck_l_app r l2 (k + 1) h1 (by rw [List.length_cons, show k + (r.length + 1) = k + 1 + r.length by omega] at h2; exact h2)
  | some o :: r, l2, k, h1, h2 => by
    simp only [ck_l, Bool.and_eq_true, List.cons_append] at h1 ⊢
    exact ⟨h1.1, ck_l_app r l2 (k + 1) h1.2 (by rw [List.length_cons, show k + (r.length + 1) = k + 1 + r.length by omega] at h2; exact h2)⟩
theorem ck_l_cut {M k n : Nat} {l : List (Option sm_O)} (h1 : ck_l M k (l.take n) = true) (h2 : ck_l M (k + n) (l.drop n) = true) (hn : n ≤ l.length) : ck_l M k l = true := by
  rw [← List.take_append_drop n l]
  exact ck_l_app _ _ _ h1 (by rw [List.length_take, Nat.min_eq_left hn]; exact h2)
set_option maxRecDepth 100000 in
theorem ck_197_n : 800 ≤ t_Law_law.length ∧ t_Law_law.length ≤ 1200 := by decide +kernel
theorem ck_197 : sm_ckm 197 = true := by
  show ck_l 197 0 t_Law_law = true
  have hn := ck_197_n
  refine ck_l_cut (n := 200) ck_197_0 ?_ (by omega)
  refine ck_l_cut (n := 200) ck_197_1 ?_ (by rw [List.length_drop]; omega)
  rw [List.drop_drop]
  refine ck_l_cut (n := 200) ck_197_2 ?_ (by rw [List.length_drop]; omega)
  rw [List.drop_drop]
  refine ck_l_cut (n := 200) ck_197_3 ?_ (by rw [List.length_drop]; omega)
  rw [List.drop_drop]
  have h := ck_197_4
  rw [List.take_of_length_le (by rw [List.length_drop]; omega)] at h
  exact h
