section REPL
variable {h : sm_H} {s b n f : Nat} {l l2 : List (Int64 × Int64)}

theorem s_Store_replace (hp : isS h s) (hf : f < 16) (hl : PL h (s + 4 + 3 * f) 300 l) (hm : PL h b n l2) (hd : s + 4 + 3 * f + 3 ≤ b ∨ b + 3 ≤ s + 4 + 3 * f) (hn : l2.length ≤ 300) : ∃ h', Run 48 [.ref s, .int (Int32.ofNat f), .ref b] h (.inl none) h' ∧ PL h' (s + 4 + 3 * f) 300 l2 ∧ Fr (s + 4 + 3 * f) (s + 4 + 3 * f + 3) h h' := by
  have hx : Ev 48 0 (sm_pad (sm_ent [.ref s, .int (Int32.ofNat f), .ref b]) (sm_prog.2.1 48)) [] h (fun r h1 => r = .inl none ∧ PL h1 (s + 4 + 3 * f) 300 l2 ∧ Fr (s + 4 + 3 * f) (s + 4 + 3 * f + 3) h h1) := by
    show Ev 48 0 [some (.ref s), some (.int (Int32.ofNat f)), some (.ref b), none] [] h _
    refine Er_run 2 (pc' := 2) (ls' := [some (.ref s), some (.int (Int32.ofNat f)), some (.ref b), none]) (st' := [.int (Int32.ofNat f), .ref s]) rfl ?_
    refine Er_inv1 (q' := s) (ci := 3) (av := [.int (Int32.ofNat f)]) (rest := []) rfl rfl ⟨Nat.le_of_ble_eq_true rfl, Nat.le_of_ble_eq_true rfl⟩ rfl rfl hp.1 (s_Store_file hp hf) ?_
    refine Er_run 2 (pc' := 7) (ls' := [some (.ref s), some (.int (Int32.ofNat f)), some (.ref b), some (.ref (s + 4 + 3 * f))]) (st' := [.ref (s + 4 + 3 * f)]) rfl ?_
    obtain ⟨h1, r1, p1, f1⟩ := s_Pairs_empty hl
    refine Er_inv0 (q' := s + 4 + 3 * f) (ci := 0) (av := []) (rest := []) rfl rfl ⟨Nat.le_of_ble_eq_true rfl, Nat.le_of_ble_eq_true rfl⟩ rfl rfl hl.1.1 r1 ?_
    refine Er_run 2 (pc' := 12) (ls' := [some (.ref s), some (.int (Int32.ofNat f)), some (.ref b), some (.ref (s + 4 + 3 * f))]) (st' := [.ref b, .ref (s + 4 + 3 * f)]) rfl ?_
    obtain ⟨h2, r2, p2, f2⟩ := s_Pairs_addAll1 p1 (PL_fr f1 (by omega) hm) (by omega) (by simpa using hn)
    refine Er_inv1 (q' := s + 4 + 3 * f) (ci := 0) (av := [.ref b]) (rest := []) rfl rfl ⟨Nat.le_of_ble_eq_true rfl, Nat.le_of_ble_eq_true rfl⟩ rfl rfl p1.1.1 r2 ?_
    refine Er_run 1 (pc' := 16) (ls' := [some (.ref s), some (.int (Int32.ofNat f)), some (.ref b), some (.ref (s + 4 + 3 * f))]) (st' := []) rfl ?_
    exact Er_fin rfl rfl ⟨rfl, by rw [List.nil_append] at p2; exact p2, f1.trans f2⟩
  obtain ⟨r, h', hr, e, hq⟩ := Run_of (Nat.le_of_ble_eq_true rfl) hx
  subst e
  exact ⟨h', hr, hq⟩
end REPL
