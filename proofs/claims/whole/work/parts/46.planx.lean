section PLANX
variable {h : sm_H} {s : Nat}

theorem s_Store_plan (hp : isS h s) (hjs : isJs h s) : ∃ h', Run 40 [.ref s] h (.inl (some (.int (if (jx_plan h s ((List.range' 0 8).countP (jx_md h s)) []).1 then 1 else 0)))) h' ∧ CH h' s (jx_plan h s ((List.range' 0 8).countP (jx_md h s)) []).2 ∧ Fr s (s + 4) h h' ∧ isS h' s := by
  have fr : Fr s (s + 4) h (setI h s 3 0) := Fr.setI (by omega) (by omega)
  have hc0 : CH (setI h s 3 0) s [] := ⟨Nat.zero_le _, by show (if s = s ∧ 3 = 3 then (0 : Int32) else _) = _; rw [if_pos ⟨rfl, rfl⟩]; rfl, fun j hj => by simp at hj, fun i j e => by simp at e⟩
  have hx : Ev 40 0 (sm_pad (sm_ent [.ref s]) (sm_prog.2.1 40)) [] h (fun r h1 => r = .inl (some (.int (if (jx_plan h s ((List.range' 0 8).countP (jx_md h s)) []).1 then 1 else 0))) ∧ CH h1 s (jx_plan h s ((List.range' 0 8).countP (jx_md h s)) []).2 ∧ Fr s (s + 4) h h1 ∧ isS h1 s) := by
    show Ev 40 0 [some (.ref s), none, none, none] [] h _
    refine Er_run 2 (pc' := 2) (ls' := [some (.ref s), none, none, none]) (st' := [.int ((0 : Int32)), .ref s]) rfl ?_
    refine Er_putI rfl hp.1 ?_
    refine Er_run 1 (pc' := 6) (ls' := [some (.ref s), none, none, none]) (st' := [.ref s]) rfl ?_
    refine Er_inv1 (q' := s) (ci := 3) (av := []) (rest := []) rfl rfl ⟨Nat.le_of_ble_eq_true rfl, Nat.le_of_ble_eq_true rfl⟩ rfl rfl hp.1 (s_Store_madeJobs (h := setI h s 3 0) hp (isJs_fr fr (by omega) hjs)) ?_
    refine Er_run 3 (pc' := 12) (ls' := [some (.ref s), some (.int (Int32.ofNat ((List.range' 0 8).countP (jx_md (setI h s 3 0) s)))), some (.int ((0 : Int32))), none]) (st' := []) rfl ?_
    have ik := l_plan (c := (List.range' 0 8).countP (jx_md (setI h s 3 0) s)) (Nat.le_trans List.countP_le_length (by simp)) _ 0 [] (setI h s 3 0) none hp (isJs_fr fr (by omega) hjs) hc0 rfl (Nat.zero_add _)
    rw [jx_plan_fr fr (by omega), jx_md_fr fr (by omega)] at ik
    rw [jx_md_fr fr (by omega)]
    exact ik.mono (fun r h5 hq => ⟨hq.1, hq.2.1, fr.trans hq.2.2.1, hq.2.2.2⟩)
  obtain ⟨r, h', hr, e, hq⟩ := Run_of (Nat.le_of_ble_eq_true rfl) hx
  subst e
  exact ⟨h', hr, hq⟩
end PLANX
