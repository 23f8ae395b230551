section DISKB
variable {h h' : sm_H} {d t b n : Nat} {dp : Int32} {sp pa re l : Jl} {ta : Nat → Option Jl}
theorem jd_app {row : Jl} {x : Option Jl} (l : Jl) (hp : jd_t h d t row x) : jd_t h d t (row ++ l) x := by
  cases x with
  | none => exact hp
  | some k =>
    obtain ⟨p1, p2, s, p3, p4, p5⟩ := hp
    refine ⟨p1, p2, s, p3, by rw [List.length_append]; omega, ?_⟩
    rw [List.drop_append_of_le_length (by omega), List.take_append_of_le_length (by rw [List.length_drop]; omega)]
    exact p5
theorem jd_ne {u : Nat} {a b : Int32} {c : Int64} {row : Jl} {x : Option Jl} (hu : u ≠ t) (hp : jd_t h d u row x) : jd_t (setL (setI (setI h (d + 10) t a) (d + 11) t b) (d + 12) t c) d u row x := by
  have e1 : gI (setL (setI (setI h (d + 10) t a) (d + 11) t b) (d + 12) t c) (d + 10) u = gI h (d + 10) u := by
    show gI (setI (setI h (d + 10) t a) (d + 11) t b) (d + 10) u = _
    rw [gI_ne (by omega), gI_ne (by omega)]
  have e2 : gI (setL (setI (setI h (d + 10) t a) (d + 11) t b) (d + 12) t c) (d + 11) u = gI h (d + 11) u := by
    show gI (setI (setI h (d + 10) t a) (d + 11) t b) (d + 11) u = _
    rw [gI_ne (by omega), gI_ne (by omega)]
  have e3 : gL (setL (setI (setI h (d + 10) t a) (d + 11) t b) (d + 12) t c) (d + 12) u = gL h (d + 12) u := by
    rw [gL_ne (by omega)]; rfl
  cases x with
  | none => show gI _ (d + 11) u = -1; rw [e2]; exact hp
  | some k =>
    obtain ⟨p1, p2, s, p3, p4⟩ := hp
    exact ⟨by rw [e2]; exact p1, by rw [e3]; exact p2, s, by rw [e1]; exact p3, p4⟩

theorem s_Disk_keepM (hp : DK h d dp sp pa re ta) (ht : t < 44) (hl : t < 38) (he : ta t = none) (hb : PL h b n l) (hbd : b + 3 ≤ d ∨ d + 13 ≤ b) (hr : pa.length + l.length ≤ 1000) : ∃ h', Run 84 [.ref d, .int (Int32.ofNat t), .ref b] h (.inl (some (.int ((1 : Int32))))) h' ∧ DK h' d dp sp (pa ++ l) re (jx_up ta t (some l)) ∧ Fr d (d + 13) h h' := by
  have hq := hp.2.2.2.2.2 t ht
  rw [he] at hq
  have hw : PL h (d + 4) 1000 pa := hp.2.2.2.1
  have hx : Ev 84 0 (sm_pad (sm_ent [.ref d, .int (Int32.ofNat t), .ref b]) (sm_prog.2.1 84)) [] h (fun r h1 => r = .inl (some (.int ((1 : Int32)))) ∧ DK h1 d dp sp (pa ++ l) re (jx_up ta t (some l)) ∧ Fr d (d + 13) h h1) := by
    show Ev 84 0 [some (.ref d), some (.int (Int32.ofNat t)), some (.ref b), none, none] [] h _
    refine Er_run 2 (pc' := bif decide ((Int32.ofNat t) < 0) then 20 else 4) (ls' := [some (.ref d), some (.int (Int32.ofNat t)), some (.ref b), none, none]) (st' := []) rfl ?_
    refine Er_pc (t := 4) (show (bif decide ((Int32.ofNat t) < 0) then 20 else 4) = 4 from by rw [show (decide ((Int32.ofNat t) < 0)) = false from sm_nn (by rw [sm_ofNat_toInt (by omega)]; omega)]; rfl) ?_
    refine Er_run 3 (pc' := bif decide (((44 : Int32)) ≤ (Int32.ofNat t)) then 20 else 10) (ls' := [some (.ref d), some (.int (Int32.ofNat t)), some (.ref b), none, none]) (st' := []) rfl ?_
    refine Er_pc (t := 10) (show (bif decide (((44 : Int32)) ≤ (Int32.ofNat t)) then 20 else 10) = 10 from by rw [show (decide (((44 : Int32)) ≤ (Int32.ofNat t))) = false from by rw [show (44 : Int32) = Int32.ofNat 44 from rfl, jx_le (by omega) (by omega)]; exact decide_eq_false (by omega)]; rfl) ?_
    refine Er_run 1 (pc' := 11) (ls' := [some (.ref d), some (.int (Int32.ofNat t)), some (.ref b), none, none]) (st' := [.ref d]) rfl ?_
    refine Er_getR (x := d + 11) rfl hp.1.1 hp.1.2.2.2.2.2.1 ?_
    refine Er_run 1 (pc' := 15) (ls' := [some (.ref d), some (.int (Int32.ofNat t)), some (.ref b), none, none]) (st' := [.int (Int32.ofNat t), .ref (d + 11)]) rfl ?_
    refine Er_iald (v := (-1 : Int32)) rfl hp.1.2.2.2.2.2.2.2.2.2.1 (by show sm_in _ (gS h (d + 11)).2 = true; rw [hp.1.2.2.2.2.2.2.2.2.2.2.1]; exact sm_in_of (by rw [sm_ofNat_toInt (by omega)]; omega) (by rw [sm_ofNat_toInt (by omega)]; omega)) (by rw [jx_cn (by omega)]; exact hq) ?_
    refine Er_run 2 (pc' := bif decide (((-1 : Int32)) = ((-1 : Int32))) then 22 else 20) (ls' := [some (.ref d), some (.int (Int32.ofNat t)), some (.ref b), none, none]) (st' := []) rfl ?_
    refine Er_pc (t := 22) (show (bif decide (((-1 : Int32)) = ((-1 : Int32))) then 22 else 20) = 22 from by rw [show (decide (((-1 : Int32)) = ((-1 : Int32)))) = true from by decide]; rfl) ?_
    refine Er_run 2 (pc' := 24) (ls' := [some (.ref d), some (.int (Int32.ofNat t)), some (.ref b), none, none]) (st' := [.int (Int32.ofNat t), .ref d]) rfl ?_
    have hro := s_Disk_rowOf hp.1 ht
    rw [if_pos hl] at hro
    refine Er_inv1 (q' := d) (ci := 7) (av := [.int (Int32.ofNat t)]) (rest := []) rfl rfl ⟨Nat.le_of_ble_eq_true rfl, Nat.le_of_ble_eq_true rfl⟩ rfl rfl hp.1.1 hro ?_
    refine Er_run 2 (pc' := 29) (ls' := [some (.ref d), some (.int (Int32.ofNat t)), some (.ref b), some (.ref (d + 4)), none]) (st' := [.ref (d + 4)]) rfl ?_
    refine Er_inv1 (q' := d + 4) (ci := 0) (av := []) (rest := []) rfl rfl ⟨Nat.le_of_ble_eq_true rfl, Nat.le_of_ble_eq_true rfl⟩ rfl rfl hw.1.1 (s_Pairs_length hw) ?_
    refine Er_run 3 (pc' := 36) (ls' := [some (.ref d), some (.int (Int32.ofNat t)), some (.ref b), some (.ref (d + 4)), some (.int (Int32.ofNat pa.length))]) (st' := [.ref b, .ref (d + 4)]) rfl ?_
    obtain ⟨h1, r1, p1, f1⟩ := s_Pairs_addAll1 hw hb (by omega) hr
    have i1 : isD h1 d := isD_fr f1 (by omega) hp.1
    have hb1 : PL h1 b n l := PL_fr f1 (by omega) hb
    refine Er_inv1 (q' := d + 4) (ci := 0) (av := [.ref b]) (rest := []) rfl rfl ⟨Nat.le_of_ble_eq_true rfl, Nat.le_of_ble_eq_true rfl⟩ rfl rfl hw.1.1 r1 ?_
    refine Er_run 1 (pc' := bif !decide (((1 : Int32)) = 0) then 44 else 42) (ls' := [some (.ref d), some (.int (Int32.ofNat t)), some (.ref b), some (.ref (d + 4)), some (.int (Int32.ofNat pa.length))]) (st' := []) rfl ?_
    refine Er_pc (t := 44) (show (bif !decide (((1 : Int32)) = 0) then 44 else 42) = 44 from by rw [show (!decide (((1 : Int32)) = 0)) = true from by decide]; rfl) ?_
    refine Er_run 1 (pc' := 45) (ls' := [some (.ref d), some (.int (Int32.ofNat t)), some (.ref b), some (.ref (d + 4)), some (.int (Int32.ofNat pa.length))]) (st' := [.ref d]) rfl ?_
    refine Er_getR (x := d + 10) rfl i1.1 i1.2.2.2.2.1 ?_
    refine Er_run 2 (pc' := 51) (ls' := [some (.ref d), some (.int (Int32.ofNat t)), some (.ref b), some (.ref (d + 4)), some (.int (Int32.ofNat pa.length))]) (st' := [.int (Int32.ofNat pa.length), .int (Int32.ofNat t), .ref (d + 10)]) rfl ?_
    refine Er_iast rfl i1.2.2.2.2.2.2.2.1 (by show sm_in _ (gS h1 (d + 10)).2 = true; rw [i1.2.2.2.2.2.2.2.2.1]; exact sm_in_of (by rw [sm_ofNat_toInt (by omega)]; omega) (by rw [sm_ofNat_toInt (by omega)]; omega)) ?_
    refine Er_run 1 (pc' := 53) (ls' := [some (.ref d), some (.int (Int32.ofNat t)), some (.ref b), some (.ref (d + 4)), some (.int (Int32.ofNat pa.length))]) (st' := [.ref d]) rfl ?_
    refine Er_getR (x := d + 11) rfl i1.1 i1.2.2.2.2.2.1 ?_
    refine Er_run 2 (pc' := 58) (ls' := [some (.ref d), some (.int (Int32.ofNat t)), some (.ref b), some (.ref (d + 4)), some (.int (Int32.ofNat pa.length))]) (st' := [.ref b, .int (Int32.ofNat t), .ref (d + 11)]) rfl ?_
    refine Er_inv1 (q' := b) (ci := 0) (av := []) (rest := [.int (Int32.ofNat t), .ref (d + 11)]) rfl rfl ⟨Nat.le_of_ble_eq_true rfl, Nat.le_of_ble_eq_true rfl⟩ rfl rfl hb1.1.1 (s_Pairs_length (PL_fr (Fr.setI (lo := d + 10) (hi := d + 11) (by omega) (by omega)) (by omega) hb1)) ?_
    refine Er_iast rfl i1.2.2.2.2.2.2.2.2.2.1 (by show sm_in _ (gS h1 (d + 11)).2 = true; rw [i1.2.2.2.2.2.2.2.2.2.2.1]; exact sm_in_of (by rw [sm_ofNat_toInt (by omega)]; omega) (by rw [sm_ofNat_toInt (by omega)]; omega)) ?_
    refine Er_run 1 (pc' := 63) (ls' := [some (.ref d), some (.int (Int32.ofNat t)), some (.ref b), some (.ref (d + 4)), some (.int (Int32.ofNat pa.length))]) (st' := [.ref d]) rfl ?_
    refine Er_getR (x := d + 12) rfl i1.1 i1.2.2.2.2.2.2.1 ?_
    refine Er_run 4 (pc' := 71) (ls' := [some (.ref d), some (.int (Int32.ofNat t)), some (.ref b), some (.ref (d + 4)), some (.int (Int32.ofNat pa.length))]) (st' := [.ref b, .int (Int32.ofNat pa.length), .ref (d + 4), .int (Int32.ofNat t), .ref (d + 12)]) rfl ?_
    refine Er_inv1 (q' := b) (ci := 0) (av := []) (rest := [.int (Int32.ofNat pa.length), .ref (d + 4), .int (Int32.ofNat t), .ref (d + 12)]) rfl rfl ⟨Nat.le_of_ble_eq_true rfl, Nat.le_of_ble_eq_true rfl⟩ rfl rfl hb1.1.1 (s_Pairs_length (PL_fr (lo := d + 10) (hi := d + 12) ((Fr.setI (by omega) (by omega)).trans (Fr.setI (by omega) (by omega))) (by omega) hb1)) ?_
    have hsu := s_Pairs_sumOf (f := pa.length) (m := l.length) (PL_fr (lo := d + 10) (hi := d + 12) ((Fr.setI (by omega) (by omega)).trans (Fr.setI (by omega) (by omega))) (by omega) p1 : PL (setI (setI h1 (d + 10) (Int32.ofNat t).toNatClampNeg (Int32.ofNat pa.length)) (d + 11) (Int32.ofNat t).toNatClampNeg (Int32.ofNat l.length)) (d + 4) 1000 (pa ++ l)) (by rw [List.length_append]; omega)
    rw [List.drop_left, List.take_length] at hsu
    refine Er_inv1 (q' := d + 4) (ci := 0) (av := [.int (Int32.ofNat pa.length), .int (Int32.ofNat l.length)]) (rest := [.int (Int32.ofNat t), .ref (d + 12)]) rfl rfl ⟨Nat.le_of_ble_eq_true rfl, Nat.le_of_ble_eq_true rfl⟩ rfl rfl p1.1.1 hsu ?_
    refine Er_last rfl i1.2.2.2.2.2.2.2.2.2.2.2.1 (by show sm_in _ (gS h1 (d + 12)).2 = true; rw [i1.2.2.2.2.2.2.2.2.2.2.2.2]; exact sm_in_of (by rw [sm_ofNat_toInt (by omega)]; omega) (by rw [sm_ofNat_toInt (by omega)]; omega)) ?_
    refine Er_run 1 (pc' := 79) (ls' := [some (.ref d), some (.int (Int32.ofNat t)), some (.ref b), some (.ref (d + 4)), some (.int (Int32.ofNat pa.length))]) (st' := [.int ((1 : Int32))]) rfl ?_
    refine Er_fin rfl rfl ⟨rfl, ?_, (f1.mono (by omega) (by omega)).trans (((Fr.setI (by omega) (by omega)).trans (Fr.setI (by omega) (by omega))).trans (Fr.setL (by omega) (by omega)))⟩
    rw [jx_cn (by omega)]
    have z : Fr (d + 10) (d + 13) h1 (setL (setI (setI h1 (d + 10) t (Int32.ofNat pa.length)) (d + 11) t (Int32.ofNat l.length)) (d + 12) t (jx_sum l (Int32.ofNat l.length).toInt64)) := ((Fr.setI (by omega) (by omega)).trans (Fr.setI (by omega) (by omega))).trans (Fr.setL (by omega) (by omega))
    refine ⟨isD_fr z (by omega) i1, ?_, PL_fr z (by omega) (PL_fr f1 (by omega) hp.2.2.1), PL_fr z (by omega) p1, PL_fr z (by omega) (PL_fr f1 (by omega) hp.2.2.2.2.1), fun u hu => ?_⟩
    · rw [(z.2.2.2.2 d (by omega)).1, (f1.2.2.2.2 d (by omega)).1]; exact hp.2.1
    · by_cases e : u = t
      · subst e
        rw [up_eq, if_pos hl]
        refine ⟨?_, gL_eq, pa.length, ?_, by rw [List.length_append]; omega, by rw [List.drop_left, List.take_length]⟩
        · show gI (setI _ (d + 11) u _) (d + 11) u = _; exact gI_eq
        · show gI (setI (setI h1 (d + 10) u _) (d + 11) u _) (d + 10) u = _
          rw [gI_ne (by omega)]; exact gI_eq
      · rw [up_ne _ _ e]
        refine jd_ne e ?_
        have hu1 := jd_fr f1 (by omega) (hp.2.2.2.2.2 u hu)
        by_cases hu3 : u < 38
        · rw [if_pos hu3] at hu1 ⊢; exact jd_app l hu1
        · rw [if_neg hu3] at hu1 ⊢; exact hu1
  obtain ⟨r, h', hr, e, hq⟩ := Run_of (Nat.le_of_ble_eq_true rfl) hx
  subst e
  exact ⟨h', hr, hq⟩
theorem s_Disk_keepM0 (hp : DK h d dp sp pa re ta) (ht : t < 44) (hl : t < 38) (he : ta t = none) (hb : PL h b n l) (hbd : b + 3 ≤ d ∨ d + 13 ≤ b) (hr : 1000 < pa.length + l.length) : Run 84 [.ref d, .int (Int32.ofNat t), .ref b] h (.inl (some (.int 0))) h := by
  have hq := hp.2.2.2.2.2 t ht
  rw [he] at hq
  have hw : PL h (d + 4) 1000 pa := hp.2.2.2.1
  have hb1 := hb
  refine ⟨Nat.le_of_ble_eq_true rfl, ?_⟩
  show Ev 84 0 [some (.ref d), some (.int (Int32.ofNat t)), some (.ref b), none, none] [] h _
  refine Er_run 2 (pc' := bif decide ((Int32.ofNat t) < 0) then 20 else 4) (ls' := [some (.ref d), some (.int (Int32.ofNat t)), some (.ref b), none, none]) (st' := []) rfl ?_
  refine Er_pc (t := 4) (show (bif decide ((Int32.ofNat t) < 0) then 20 else 4) = 4 from by rw [show (decide ((Int32.ofNat t) < 0)) = false from sm_nn (by rw [sm_ofNat_toInt (by omega)]; omega)]; rfl) ?_
  refine Er_run 3 (pc' := bif decide (((44 : Int32)) ≤ (Int32.ofNat t)) then 20 else 10) (ls' := [some (.ref d), some (.int (Int32.ofNat t)), some (.ref b), none, none]) (st' := []) rfl ?_
  refine Er_pc (t := 10) (show (bif decide (((44 : Int32)) ≤ (Int32.ofNat t)) then 20 else 10) = 10 from by rw [show (decide (((44 : Int32)) ≤ (Int32.ofNat t))) = false from by rw [show (44 : Int32) = Int32.ofNat 44 from rfl, jx_le (by omega) (by omega)]; exact decide_eq_false (by omega)]; rfl) ?_
  refine Er_run 1 (pc' := 11) (ls' := [some (.ref d), some (.int (Int32.ofNat t)), some (.ref b), none, none]) (st' := [.ref d]) rfl ?_
  refine Er_getR (x := d + 11) rfl hp.1.1 hp.1.2.2.2.2.2.1 ?_
  refine Er_run 1 (pc' := 15) (ls' := [some (.ref d), some (.int (Int32.ofNat t)), some (.ref b), none, none]) (st' := [.int (Int32.ofNat t), .ref (d + 11)]) rfl ?_
  refine Er_iald (v := (-1 : Int32)) rfl hp.1.2.2.2.2.2.2.2.2.2.1 (by show sm_in _ (gS h (d + 11)).2 = true; rw [hp.1.2.2.2.2.2.2.2.2.2.2.1]; exact sm_in_of (by rw [sm_ofNat_toInt (by omega)]; omega) (by rw [sm_ofNat_toInt (by omega)]; omega)) (by rw [jx_cn (by omega)]; exact hq) ?_
  refine Er_run 2 (pc' := bif decide (((-1 : Int32)) = ((-1 : Int32))) then 22 else 20) (ls' := [some (.ref d), some (.int (Int32.ofNat t)), some (.ref b), none, none]) (st' := []) rfl ?_
  refine Er_pc (t := 22) (show (bif decide (((-1 : Int32)) = ((-1 : Int32))) then 22 else 20) = 22 from by rw [show (decide (((-1 : Int32)) = ((-1 : Int32)))) = true from by decide]; rfl) ?_
  refine Er_run 2 (pc' := 24) (ls' := [some (.ref d), some (.int (Int32.ofNat t)), some (.ref b), none, none]) (st' := [.int (Int32.ofNat t), .ref d]) rfl ?_
  have hro := s_Disk_rowOf hp.1 ht
  rw [if_pos hl] at hro
  refine Er_inv1 (q' := d) (ci := 7) (av := [.int (Int32.ofNat t)]) (rest := []) rfl rfl ⟨Nat.le_of_ble_eq_true rfl, Nat.le_of_ble_eq_true rfl⟩ rfl rfl hp.1.1 hro ?_
  refine Er_run 2 (pc' := 29) (ls' := [some (.ref d), some (.int (Int32.ofNat t)), some (.ref b), some (.ref (d + 4)), none]) (st' := [.ref (d + 4)]) rfl ?_
  refine Er_inv1 (q' := d + 4) (ci := 0) (av := []) (rest := []) rfl rfl ⟨Nat.le_of_ble_eq_true rfl, Nat.le_of_ble_eq_true rfl⟩ rfl rfl hw.1.1 (s_Pairs_length hw) ?_
  refine Er_run 3 (pc' := 36) (ls' := [some (.ref d), some (.int (Int32.ofNat t)), some (.ref b), some (.ref (d + 4)), some (.int (Int32.ofNat pa.length))]) (st' := [.ref b, .ref (d + 4)]) rfl ?_
  refine Er_inv1 (q' := d + 4) (ci := 0) (av := [.ref b]) (rest := []) rfl rfl ⟨Nat.le_of_ble_eq_true rfl, Nat.le_of_ble_eq_true rfl⟩ rfl rfl hw.1.1 (s_Pairs_addAll0 hw hb (by omega)) ?_
  refine Er_run 1 (pc' := bif !decide (((0 : Int32)) = 0) then 44 else 42) (ls' := [some (.ref d), some (.int (Int32.ofNat t)), some (.ref b), some (.ref (d + 4)), some (.int (Int32.ofNat pa.length))]) (st' := []) rfl ?_
  refine Er_pc (t := 42) (show (bif !decide (((0 : Int32)) = 0) then 44 else 42) = 42 from by rw [show (!decide (((0 : Int32)) = 0)) = false from by decide]; rfl) ?_
  refine Er_run 1 (pc' := 43) (ls' := [some (.ref d), some (.int (Int32.ofNat t)), some (.ref b), some (.ref (d + 4)), some (.int (Int32.ofNat pa.length))]) (st' := [.int ((0 : Int32))]) rfl ?_
  exact Er_fin rfl rfl ⟨rfl, rfl⟩
theorem s_Disk_keepR (hp : DK h d dp sp pa re ta) (ht : t < 44) (hl : ¬ t < 38) (he : ta t = none) (hb : PL h b n l) (hbd : b + 3 ≤ d ∨ d + 13 ≤ b) (hr : re.length + l.length ≤ 300) : ∃ h', Run 84 [.ref d, .int (Int32.ofNat t), .ref b] h (.inl (some (.int ((1 : Int32))))) h' ∧ DK h' d dp sp pa (re ++ l) (jx_up ta t (some l)) ∧ Fr d (d + 13) h h' := by
  have hq := hp.2.2.2.2.2 t ht
  rw [he] at hq
  have hw : PL h (d + 7) 300 re := hp.2.2.2.2.1
  have hx : Ev 84 0 (sm_pad (sm_ent [.ref d, .int (Int32.ofNat t), .ref b]) (sm_prog.2.1 84)) [] h (fun r h1 => r = .inl (some (.int ((1 : Int32)))) ∧ DK h1 d dp sp pa (re ++ l) (jx_up ta t (some l)) ∧ Fr d (d + 13) h h1) := by
    show Ev 84 0 [some (.ref d), some (.int (Int32.ofNat t)), some (.ref b), none, none] [] h _
    refine Er_run 2 (pc' := bif decide ((Int32.ofNat t) < 0) then 20 else 4) (ls' := [some (.ref d), some (.int (Int32.ofNat t)), some (.ref b), none, none]) (st' := []) rfl ?_
    refine Er_pc (t := 4) (show (bif decide ((Int32.ofNat t) < 0) then 20 else 4) = 4 from by rw [show (decide ((Int32.ofNat t) < 0)) = false from sm_nn (by rw [sm_ofNat_toInt (by omega)]; omega)]; rfl) ?_
    refine Er_run 3 (pc' := bif decide (((44 : Int32)) ≤ (Int32.ofNat t)) then 20 else 10) (ls' := [some (.ref d), some (.int (Int32.ofNat t)), some (.ref b), none, none]) (st' := []) rfl ?_
    refine Er_pc (t := 10) (show (bif decide (((44 : Int32)) ≤ (Int32.ofNat t)) then 20 else 10) = 10 from by rw [show (decide (((44 : Int32)) ≤ (Int32.ofNat t))) = false from by rw [show (44 : Int32) = Int32.ofNat 44 from rfl, jx_le (by omega) (by omega)]; exact decide_eq_false (by omega)]; rfl) ?_
    refine Er_run 1 (pc' := 11) (ls' := [some (.ref d), some (.int (Int32.ofNat t)), some (.ref b), none, none]) (st' := [.ref d]) rfl ?_
    refine Er_getR (x := d + 11) rfl hp.1.1 hp.1.2.2.2.2.2.1 ?_
    refine Er_run 1 (pc' := 15) (ls' := [some (.ref d), some (.int (Int32.ofNat t)), some (.ref b), none, none]) (st' := [.int (Int32.ofNat t), .ref (d + 11)]) rfl ?_
    refine Er_iald (v := (-1 : Int32)) rfl hp.1.2.2.2.2.2.2.2.2.2.1 (by show sm_in _ (gS h (d + 11)).2 = true; rw [hp.1.2.2.2.2.2.2.2.2.2.2.1]; exact sm_in_of (by rw [sm_ofNat_toInt (by omega)]; omega) (by rw [sm_ofNat_toInt (by omega)]; omega)) (by rw [jx_cn (by omega)]; exact hq) ?_
    refine Er_run 2 (pc' := bif decide (((-1 : Int32)) = ((-1 : Int32))) then 22 else 20) (ls' := [some (.ref d), some (.int (Int32.ofNat t)), some (.ref b), none, none]) (st' := []) rfl ?_
    refine Er_pc (t := 22) (show (bif decide (((-1 : Int32)) = ((-1 : Int32))) then 22 else 20) = 22 from by rw [show (decide (((-1 : Int32)) = ((-1 : Int32)))) = true from by decide]; rfl) ?_
    refine Er_run 2 (pc' := 24) (ls' := [some (.ref d), some (.int (Int32.ofNat t)), some (.ref b), none, none]) (st' := [.int (Int32.ofNat t), .ref d]) rfl ?_
    have hro := s_Disk_rowOf hp.1 ht
    rw [if_neg hl] at hro
    refine Er_inv1 (q' := d) (ci := 7) (av := [.int (Int32.ofNat t)]) (rest := []) rfl rfl ⟨Nat.le_of_ble_eq_true rfl, Nat.le_of_ble_eq_true rfl⟩ rfl rfl hp.1.1 hro ?_
    refine Er_run 2 (pc' := 29) (ls' := [some (.ref d), some (.int (Int32.ofNat t)), some (.ref b), some (.ref (d + 7)), none]) (st' := [.ref (d + 7)]) rfl ?_
    refine Er_inv1 (q' := d + 7) (ci := 0) (av := []) (rest := []) rfl rfl ⟨Nat.le_of_ble_eq_true rfl, Nat.le_of_ble_eq_true rfl⟩ rfl rfl hw.1.1 (s_Pairs_length hw) ?_
    refine Er_run 3 (pc' := 36) (ls' := [some (.ref d), some (.int (Int32.ofNat t)), some (.ref b), some (.ref (d + 7)), some (.int (Int32.ofNat re.length))]) (st' := [.ref b, .ref (d + 7)]) rfl ?_
    obtain ⟨h1, r1, p1, f1⟩ := s_Pairs_addAll1 hw hb (by omega) hr
    have i1 : isD h1 d := isD_fr f1 (by omega) hp.1
    have hb1 : PL h1 b n l := PL_fr f1 (by omega) hb
    refine Er_inv1 (q' := d + 7) (ci := 0) (av := [.ref b]) (rest := []) rfl rfl ⟨Nat.le_of_ble_eq_true rfl, Nat.le_of_ble_eq_true rfl⟩ rfl rfl hw.1.1 r1 ?_
    refine Er_run 1 (pc' := bif !decide (((1 : Int32)) = 0) then 44 else 42) (ls' := [some (.ref d), some (.int (Int32.ofNat t)), some (.ref b), some (.ref (d + 7)), some (.int (Int32.ofNat re.length))]) (st' := []) rfl ?_
    refine Er_pc (t := 44) (show (bif !decide (((1 : Int32)) = 0) then 44 else 42) = 44 from by rw [show (!decide (((1 : Int32)) = 0)) = true from by decide]; rfl) ?_
    refine Er_run 1 (pc' := 45) (ls' := [some (.ref d), some (.int (Int32.ofNat t)), some (.ref b), some (.ref (d + 7)), some (.int (Int32.ofNat re.length))]) (st' := [.ref d]) rfl ?_
    refine Er_getR (x := d + 10) rfl i1.1 i1.2.2.2.2.1 ?_
    refine Er_run 2 (pc' := 51) (ls' := [some (.ref d), some (.int (Int32.ofNat t)), some (.ref b), some (.ref (d + 7)), some (.int (Int32.ofNat re.length))]) (st' := [.int (Int32.ofNat re.length), .int (Int32.ofNat t), .ref (d + 10)]) rfl ?_
    refine Er_iast rfl i1.2.2.2.2.2.2.2.1 (by show sm_in _ (gS h1 (d + 10)).2 = true; rw [i1.2.2.2.2.2.2.2.2.1]; exact sm_in_of (by rw [sm_ofNat_toInt (by omega)]; omega) (by rw [sm_ofNat_toInt (by omega)]; omega)) ?_
    refine Er_run 1 (pc' := 53) (ls' := [some (.ref d), some (.int (Int32.ofNat t)), some (.ref b), some (.ref (d + 7)), some (.int (Int32.ofNat re.length))]) (st' := [.ref d]) rfl ?_
    refine Er_getR (x := d + 11) rfl i1.1 i1.2.2.2.2.2.1 ?_
    refine Er_run 2 (pc' := 58) (ls' := [some (.ref d), some (.int (Int32.ofNat t)), some (.ref b), some (.ref (d + 7)), some (.int (Int32.ofNat re.length))]) (st' := [.ref b, .int (Int32.ofNat t), .ref (d + 11)]) rfl ?_
    refine Er_inv1 (q' := b) (ci := 0) (av := []) (rest := [.int (Int32.ofNat t), .ref (d + 11)]) rfl rfl ⟨Nat.le_of_ble_eq_true rfl, Nat.le_of_ble_eq_true rfl⟩ rfl rfl hb1.1.1 (s_Pairs_length (PL_fr (Fr.setI (lo := d + 10) (hi := d + 11) (by omega) (by omega)) (by omega) hb1)) ?_
    refine Er_iast rfl i1.2.2.2.2.2.2.2.2.2.1 (by show sm_in _ (gS h1 (d + 11)).2 = true; rw [i1.2.2.2.2.2.2.2.2.2.2.1]; exact sm_in_of (by rw [sm_ofNat_toInt (by omega)]; omega) (by rw [sm_ofNat_toInt (by omega)]; omega)) ?_
    refine Er_run 1 (pc' := 63) (ls' := [some (.ref d), some (.int (Int32.ofNat t)), some (.ref b), some (.ref (d + 7)), some (.int (Int32.ofNat re.length))]) (st' := [.ref d]) rfl ?_
    refine Er_getR (x := d + 12) rfl i1.1 i1.2.2.2.2.2.2.1 ?_
    refine Er_run 4 (pc' := 71) (ls' := [some (.ref d), some (.int (Int32.ofNat t)), some (.ref b), some (.ref (d + 7)), some (.int (Int32.ofNat re.length))]) (st' := [.ref b, .int (Int32.ofNat re.length), .ref (d + 7), .int (Int32.ofNat t), .ref (d + 12)]) rfl ?_
    refine Er_inv1 (q' := b) (ci := 0) (av := []) (rest := [.int (Int32.ofNat re.length), .ref (d + 7), .int (Int32.ofNat t), .ref (d + 12)]) rfl rfl ⟨Nat.le_of_ble_eq_true rfl, Nat.le_of_ble_eq_true rfl⟩ rfl rfl hb1.1.1 (s_Pairs_length (PL_fr (lo := d + 10) (hi := d + 12) ((Fr.setI (by omega) (by omega)).trans (Fr.setI (by omega) (by omega))) (by omega) hb1)) ?_
    have hsu := s_Pairs_sumOf (f := re.length) (m := l.length) (PL_fr (lo := d + 10) (hi := d + 12) ((Fr.setI (by omega) (by omega)).trans (Fr.setI (by omega) (by omega))) (by omega) p1 : PL (setI (setI h1 (d + 10) (Int32.ofNat t).toNatClampNeg (Int32.ofNat re.length)) (d + 11) (Int32.ofNat t).toNatClampNeg (Int32.ofNat l.length)) (d + 7) 300 (re ++ l)) (by rw [List.length_append]; omega)
    rw [List.drop_left, List.take_length] at hsu
    refine Er_inv1 (q' := d + 7) (ci := 0) (av := [.int (Int32.ofNat re.length), .int (Int32.ofNat l.length)]) (rest := [.int (Int32.ofNat t), .ref (d + 12)]) rfl rfl ⟨Nat.le_of_ble_eq_true rfl, Nat.le_of_ble_eq_true rfl⟩ rfl rfl p1.1.1 hsu ?_
    refine Er_last rfl i1.2.2.2.2.2.2.2.2.2.2.2.1 (by show sm_in _ (gS h1 (d + 12)).2 = true; rw [i1.2.2.2.2.2.2.2.2.2.2.2.2]; exact sm_in_of (by rw [sm_ofNat_toInt (by omega)]; omega) (by rw [sm_ofNat_toInt (by omega)]; omega)) ?_
    refine Er_run 1 (pc' := 79) (ls' := [some (.ref d), some (.int (Int32.ofNat t)), some (.ref b), some (.ref (d + 7)), some (.int (Int32.ofNat re.length))]) (st' := [.int ((1 : Int32))]) rfl ?_
    refine Er_fin rfl rfl ⟨rfl, ?_, (f1.mono (by omega) (by omega)).trans (((Fr.setI (by omega) (by omega)).trans (Fr.setI (by omega) (by omega))).trans (Fr.setL (by omega) (by omega)))⟩
    rw [jx_cn (by omega)]
    have z : Fr (d + 10) (d + 13) h1 (setL (setI (setI h1 (d + 10) t (Int32.ofNat re.length)) (d + 11) t (Int32.ofNat l.length)) (d + 12) t (jx_sum l (Int32.ofNat l.length).toInt64)) := ((Fr.setI (by omega) (by omega)).trans (Fr.setI (by omega) (by omega))).trans (Fr.setL (by omega) (by omega))
    refine ⟨isD_fr z (by omega) i1, ?_, PL_fr z (by omega) (PL_fr f1 (by omega) hp.2.2.1), PL_fr z (by omega) (PL_fr f1 (by omega) hp.2.2.2.1), PL_fr z (by omega) p1, fun u hu => ?_⟩
    · rw [(z.2.2.2.2 d (by omega)).1, (f1.2.2.2.2 d (by omega)).1]; exact hp.2.1
    · by_cases e : u = t
      · subst e
        rw [up_eq, if_neg hl]
        refine ⟨?_, gL_eq, re.length, ?_, by rw [List.length_append]; omega, by rw [List.drop_left, List.take_length]⟩
        · show gI (setI _ (d + 11) u _) (d + 11) u = _; exact gI_eq
        · show gI (setI (setI h1 (d + 10) u _) (d + 11) u _) (d + 10) u = _
          rw [gI_ne (by omega)]; exact gI_eq
      · rw [up_ne _ _ e]
        refine jd_ne e ?_
        have hu1 := jd_fr f1 (by omega) (hp.2.2.2.2.2 u hu)
        by_cases hu3 : u < 38
        · rw [if_pos hu3] at hu1 ⊢; exact hu1
        · rw [if_neg hu3] at hu1 ⊢; exact jd_app l hu1
  obtain ⟨r, h', hr, e, hq⟩ := Run_of (Nat.le_of_ble_eq_true rfl) hx
  subst e
  exact ⟨h', hr, hq⟩
theorem s_Disk_keepR0 (hp : DK h d dp sp pa re ta) (ht : t < 44) (hl : ¬ t < 38) (he : ta t = none) (hb : PL h b n l) (hbd : b + 3 ≤ d ∨ d + 13 ≤ b) (hr : 300 < re.length + l.length) : Run 84 [.ref d, .int (Int32.ofNat t), .ref b] h (.inl (some (.int 0))) h := by
  have hq := hp.2.2.2.2.2 t ht
  rw [he] at hq
  have hw : PL h (d + 7) 300 re := hp.2.2.2.2.1
  have hb1 := hb
  refine ⟨Nat.le_of_ble_eq_true rfl, ?_⟩
  show Ev 84 0 [some (.ref d), some (.int (Int32.ofNat t)), some (.ref b), none, none] [] h _
  refine Er_run 2 (pc' := bif decide ((Int32.ofNat t) < 0) then 20 else 4) (ls' := [some (.ref d), some (.int (Int32.ofNat t)), some (.ref b), none, none]) (st' := []) rfl ?_
  refine Er_pc (t := 4) (show (bif decide ((Int32.ofNat t) < 0) then 20 else 4) = 4 from by rw [show (decide ((Int32.ofNat t) < 0)) = false from sm_nn (by rw [sm_ofNat_toInt (by omega)]; omega)]; rfl) ?_
  refine Er_run 3 (pc' := bif decide (((44 : Int32)) ≤ (Int32.ofNat t)) then 20 else 10) (ls' := [some (.ref d), some (.int (Int32.ofNat t)), some (.ref b), none, none]) (st' := []) rfl ?_
  refine Er_pc (t := 10) (show (bif decide (((44 : Int32)) ≤ (Int32.ofNat t)) then 20 else 10) = 10 from by rw [show (decide (((44 : Int32)) ≤ (Int32.ofNat t))) = false from by rw [show (44 : Int32) = Int32.ofNat 44 from rfl, jx_le (by omega) (by omega)]; exact decide_eq_false (by omega)]; rfl) ?_
  refine Er_run 1 (pc' := 11) (ls' := [some (.ref d), some (.int (Int32.ofNat t)), some (.ref b), none, none]) (st' := [.ref d]) rfl ?_
  refine Er_getR (x := d + 11) rfl hp.1.1 hp.1.2.2.2.2.2.1 ?_
  refine Er_run 1 (pc' := 15) (ls' := [some (.ref d), some (.int (Int32.ofNat t)), some (.ref b), none, none]) (st' := [.int (Int32.ofNat t), .ref (d + 11)]) rfl ?_
  refine Er_iald (v := (-1 : Int32)) rfl hp.1.2.2.2.2.2.2.2.2.2.1 (by show sm_in _ (gS h (d + 11)).2 = true; rw [hp.1.2.2.2.2.2.2.2.2.2.2.1]; exact sm_in_of (by rw [sm_ofNat_toInt (by omega)]; omega) (by rw [sm_ofNat_toInt (by omega)]; omega)) (by rw [jx_cn (by omega)]; exact hq) ?_
  refine Er_run 2 (pc' := bif decide (((-1 : Int32)) = ((-1 : Int32))) then 22 else 20) (ls' := [some (.ref d), some (.int (Int32.ofNat t)), some (.ref b), none, none]) (st' := []) rfl ?_
  refine Er_pc (t := 22) (show (bif decide (((-1 : Int32)) = ((-1 : Int32))) then 22 else 20) = 22 from by rw [show (decide (((-1 : Int32)) = ((-1 : Int32)))) = true from by decide]; rfl) ?_
  refine Er_run 2 (pc' := 24) (ls' := [some (.ref d), some (.int (Int32.ofNat t)), some (.ref b), none, none]) (st' := [.int (Int32.ofNat t), .ref d]) rfl ?_
  have hro := s_Disk_rowOf hp.1 ht
  rw [if_neg hl] at hro
  refine Er_inv1 (q' := d) (ci := 7) (av := [.int (Int32.ofNat t)]) (rest := []) rfl rfl ⟨Nat.le_of_ble_eq_true rfl, Nat.le_of_ble_eq_true rfl⟩ rfl rfl hp.1.1 hro ?_
  refine Er_run 2 (pc' := 29) (ls' := [some (.ref d), some (.int (Int32.ofNat t)), some (.ref b), some (.ref (d + 7)), none]) (st' := [.ref (d + 7)]) rfl ?_
  refine Er_inv1 (q' := d + 7) (ci := 0) (av := []) (rest := []) rfl rfl ⟨Nat.le_of_ble_eq_true rfl, Nat.le_of_ble_eq_true rfl⟩ rfl rfl hw.1.1 (s_Pairs_length hw) ?_
  refine Er_run 3 (pc' := 36) (ls' := [some (.ref d), some (.int (Int32.ofNat t)), some (.ref b), some (.ref (d + 7)), some (.int (Int32.ofNat re.length))]) (st' := [.ref b, .ref (d + 7)]) rfl ?_
  refine Er_inv1 (q' := d + 7) (ci := 0) (av := [.ref b]) (rest := []) rfl rfl ⟨Nat.le_of_ble_eq_true rfl, Nat.le_of_ble_eq_true rfl⟩ rfl rfl hw.1.1 (s_Pairs_addAll0 hw hb (by omega)) ?_
  refine Er_run 1 (pc' := bif !decide (((0 : Int32)) = 0) then 44 else 42) (ls' := [some (.ref d), some (.int (Int32.ofNat t)), some (.ref b), some (.ref (d + 7)), some (.int (Int32.ofNat re.length))]) (st' := []) rfl ?_
  refine Er_pc (t := 42) (show (bif !decide (((0 : Int32)) = 0) then 44 else 42) = 42 from by rw [show (!decide (((0 : Int32)) = 0)) = false from by decide]; rfl) ?_
  refine Er_run 1 (pc' := 43) (ls' := [some (.ref d), some (.int (Int32.ofNat t)), some (.ref b), some (.ref (d + 7)), some (.int (Int32.ofNat re.length))]) (st' := [.int ((0 : Int32))]) rfl ?_
  exact Er_fin rfl rfl ⟨rfl, rfl⟩
theorem l_wrongSums (hp : DK h d dp sp pa re ta) : ∀ (f t : Nat), t + f = 44 → Ev 86 4 [some (.ref d), some (.int ((0 : Int32))), some (.int (Int32.ofNat t))] [] h (fun r h1 => r = .inl (some (.int 0)) ∧ h1 = h) := by
  intro f
  induction f with
  | zero =>
    intro t hf
    have e : t = 44 := by omega
    subst e
    refine Er_run 3 (pc' := bif decide (((44 : Int32)) ≤ (Int32.ofNat 44)) then 57 else 10) (ls' := [some (.ref d), some (.int ((0 : Int32))), some (.int (Int32.ofNat 44))]) (st' := []) rfl ?_
    refine Er_pc (t := 57) (show (bif decide (((44 : Int32)) ≤ (Int32.ofNat 44)) then 57 else 10) = 57 from by rw [show (decide (((44 : Int32)) ≤ (Int32.ofNat 44))) = true from by rw [show (44 : Int32) = Int32.ofNat 44 from rfl, jx_le (by omega) (by omega)]; exact decide_eq_true (by omega)]; rfl) ?_
    refine Er_run 1 (pc' := 58) (ls' := [some (.ref d), some (.int ((0 : Int32))), some (.int (Int32.ofNat 44))]) (st' := [.int ((0 : Int32))]) rfl ?_
    exact Er_fin rfl rfl ⟨rfl, rfl⟩
  | succ f ih =>
    intro t hf
    have hq := hp.2.2.2.2.2 t (by omega)
    cases e : ta t with
    | none =>
      refine Er_run 3 (pc' := bif decide (((44 : Int32)) ≤ (Int32.ofNat t)) then 57 else 10) (ls' := [some (.ref d), some (.int ((0 : Int32))), some (.int (Int32.ofNat t))]) (st' := []) rfl ?_
      refine Er_pc (t := 10) (show (bif decide (((44 : Int32)) ≤ (Int32.ofNat t)) then 57 else 10) = 10 from by rw [show (decide (((44 : Int32)) ≤ (Int32.ofNat t))) = false from by rw [show (44 : Int32) = Int32.ofNat 44 from rfl, jx_le (by omega) (by omega)]; exact decide_eq_false (by omega)]; rfl) ?_
      refine Er_run 2 (pc' := 12) (ls' := [some (.ref d), some (.int ((0 : Int32))), some (.int (Int32.ofNat t))]) (st' := [.int (Int32.ofNat t), .ref d]) rfl ?_
      have hh := s_Disk_holds hp (show t < 44 by omega)
      rw [e] at hh
      refine Er_inv1 (q' := d) (ci := 7) (av := [.int (Int32.ofNat t)]) (rest := []) rfl rfl ⟨Nat.le_of_ble_eq_true rfl, Nat.le_of_ble_eq_true rfl⟩ rfl rfl hp.1.1 hh ?_
      refine Er_run 1 (pc' := bif decide (((0 : Int32)) = 0) then 51 else 18) (ls' := [some (.ref d), some (.int ((0 : Int32))), some (.int (Int32.ofNat t))]) (st' := []) rfl ?_
      refine Er_pc (t := 51) (show (bif decide (((0 : Int32)) = 0) then 51 else 18) = 51 from by rw [show (decide (((0 : Int32)) = 0)) = true from by decide]; rfl) ?_
      refine Er_run 2 (pc' := 4) (ls' := [some (.ref d), some (.int ((0 : Int32))), some (.int ((Int32.ofNat t) + (1 : Int32)))]) (st' := []) rfl ?_
      rw [jx_s1]
      exact ih (t + 1) (by omega)
    | some l =>
      rw [e] at hq
      obtain ⟨p1, p2, s, p3, p4, p5⟩ := hq
      have hll := jd_len hp (show t < 44 by omega) e
      by_cases hl : t < 38
      · rw [if_pos hl] at p4 p5
        refine Er_run 3 (pc' := bif decide (((44 : Int32)) ≤ (Int32.ofNat t)) then 57 else 10) (ls' := [some (.ref d), some (.int ((0 : Int32))), some (.int (Int32.ofNat t))]) (st' := []) rfl ?_
        refine Er_pc (t := 10) (show (bif decide (((44 : Int32)) ≤ (Int32.ofNat t)) then 57 else 10) = 10 from by rw [show (decide (((44 : Int32)) ≤ (Int32.ofNat t))) = false from by rw [show (44 : Int32) = Int32.ofNat 44 from rfl, jx_le (by omega) (by omega)]; exact decide_eq_false (by omega)]; rfl) ?_
        refine Er_run 2 (pc' := 12) (ls' := [some (.ref d), some (.int ((0 : Int32))), some (.int (Int32.ofNat t))]) (st' := [.int (Int32.ofNat t), .ref d]) rfl ?_
        have hh := s_Disk_holds hp (show t < 44 by omega)
        rw [e] at hh
        refine Er_inv1 (q' := d) (ci := 7) (av := [.int (Int32.ofNat t)]) (rest := []) rfl rfl ⟨Nat.le_of_ble_eq_true rfl, Nat.le_of_ble_eq_true rfl⟩ rfl rfl hp.1.1 hh ?_
        refine Er_run 1 (pc' := bif decide (((1 : Int32)) = 0) then 51 else 18) (ls' := [some (.ref d), some (.int ((0 : Int32))), some (.int (Int32.ofNat t))]) (st' := []) rfl ?_
        refine Er_pc (t := 18) (show (bif decide (((1 : Int32)) = 0) then 51 else 18) = 18 from by rw [show (decide (((1 : Int32)) = 0)) = false from by decide]; rfl) ?_
        refine Er_run 2 (pc' := 20) (ls' := [some (.ref d), some (.int ((0 : Int32))), some (.int (Int32.ofNat t))]) (st' := [.int (Int32.ofNat t), .ref d]) rfl ?_
        have hro := s_Disk_rowOf hp.1 (show t < 44 by omega)
        rw [if_pos hl] at hro
        refine Er_inv1 (q' := d) (ci := 7) (av := [.int (Int32.ofNat t)]) (rest := []) rfl rfl ⟨Nat.le_of_ble_eq_true rfl, Nat.le_of_ble_eq_true rfl⟩ rfl rfl hp.1.1 hro ?_
        refine Er_run 1 (pc' := 24) (ls' := [some (.ref d), some (.int ((0 : Int32))), some (.int (Int32.ofNat t))]) (st' := [.ref d, .ref (d + 4)]) rfl ?_
        refine Er_getR (x := d + 10) rfl hp.1.1 hp.1.2.2.2.2.1 ?_
        refine Er_run 1 (pc' := 28) (ls' := [some (.ref d), some (.int ((0 : Int32))), some (.int (Int32.ofNat t))]) (st' := [.int (Int32.ofNat t), .ref (d + 10), .ref (d + 4)]) rfl ?_
        refine Er_iald (v := Int32.ofNat s) rfl hp.1.2.2.2.2.2.2.2.1 (by show sm_in _ (gS h (d + 10)).2 = true; rw [hp.1.2.2.2.2.2.2.2.2.1]; exact sm_in_of (by rw [sm_ofNat_toInt (by omega)]; omega) (by rw [sm_ofNat_toInt (by omega)]; omega)) (by rw [jx_cn (by omega)]; exact p3) ?_
        refine Er_run 1 (pc' := 30) (ls' := [some (.ref d), some (.int ((0 : Int32))), some (.int (Int32.ofNat t))]) (st' := [.ref d, .int (Int32.ofNat s), .ref (d + 4)]) rfl ?_
        refine Er_getR (x := d + 11) rfl hp.1.1 hp.1.2.2.2.2.2.1 ?_
        refine Er_run 1 (pc' := 34) (ls' := [some (.ref d), some (.int ((0 : Int32))), some (.int (Int32.ofNat t))]) (st' := [.int (Int32.ofNat t), .ref (d + 11), .int (Int32.ofNat s), .ref (d + 4)]) rfl ?_
        refine Er_iald (v := Int32.ofNat l.length) rfl hp.1.2.2.2.2.2.2.2.2.2.1 (by show sm_in _ (gS h (d + 11)).2 = true; rw [hp.1.2.2.2.2.2.2.2.2.2.2.1]; exact sm_in_of (by rw [sm_ofNat_toInt (by omega)]; omega) (by rw [sm_ofNat_toInt (by omega)]; omega)) (by rw [jx_cn (by omega)]; exact p1) ?_
        have hsu := s_Pairs_sumOf (f := s) (m := l.length) hp.2.2.2.1 p4
        rw [p5] at hsu
        refine Er_inv1 (q' := d + 4) (ci := 0) (av := [.int (Int32.ofNat s), .int (Int32.ofNat l.length)]) (rest := []) rfl rfl ⟨Nat.le_of_ble_eq_true rfl, Nat.le_of_ble_eq_true rfl⟩ rfl rfl hp.2.2.2.1.1.1 hsu ?_
        refine Er_run 1 (pc' := 39) (ls' := [some (.ref d), some (.int ((0 : Int32))), some (.int (Int32.ofNat t))]) (st' := [.ref d, .long (jx_sum l (Int32.ofNat l.length).toInt64)]) rfl ?_
        refine Er_getR (x := d + 12) rfl hp.1.1 hp.1.2.2.2.2.2.2.1 ?_
        refine Er_run 1 (pc' := 43) (ls' := [some (.ref d), some (.int ((0 : Int32))), some (.int (Int32.ofNat t))]) (st' := [.int (Int32.ofNat t), .ref (d + 12), .long (jx_sum l (Int32.ofNat l.length).toInt64)]) rfl ?_
        refine Er_lald (v := jx_sum l (Int32.ofNat l.length).toInt64) rfl hp.1.2.2.2.2.2.2.2.2.2.2.2.1 (by show sm_in _ (gS h (d + 12)).2 = true; rw [hp.1.2.2.2.2.2.2.2.2.2.2.2.2]; exact sm_in_of (by rw [sm_ofNat_toInt (by omega)]; omega) (by rw [sm_ofNat_toInt (by omega)]; omega)) (by rw [jx_cn (by omega)]; exact p2) ?_
        refine Er_run 2 (pc' := bif decide ((lg_cmp (jx_sum l (Int32.ofNat l.length).toInt64) (jx_sum l (Int32.ofNat l.length).toInt64)) = 0) then 51 else 48) (ls' := [some (.ref d), some (.int ((0 : Int32))), some (.int (Int32.ofNat t))]) (st' := []) rfl ?_
        refine Er_pc (t := 51) (show (bif decide ((lg_cmp (jx_sum l (Int32.ofNat l.length).toInt64) (jx_sum l (Int32.ofNat l.length).toInt64)) = 0) then 51 else 48) = 51 from by rw [show (decide ((lg_cmp (jx_sum l (Int32.ofNat l.length).toInt64) (jx_sum l (Int32.ofNat l.length).toInt64)) = 0)) = true from by rw [jx_cmp0]; exact decide_eq_true rfl]; rfl) ?_
        refine Er_run 2 (pc' := 4) (ls' := [some (.ref d), some (.int ((0 : Int32))), some (.int ((Int32.ofNat t) + (1 : Int32)))]) (st' := []) rfl ?_
        rw [jx_s1]
        exact ih (t + 1) (by omega)
      · rw [if_neg hl] at p4 p5
        refine Er_run 3 (pc' := bif decide (((44 : Int32)) ≤ (Int32.ofNat t)) then 57 else 10) (ls' := [some (.ref d), some (.int ((0 : Int32))), some (.int (Int32.ofNat t))]) (st' := []) rfl ?_
        refine Er_pc (t := 10) (show (bif decide (((44 : Int32)) ≤ (Int32.ofNat t)) then 57 else 10) = 10 from by rw [show (decide (((44 : Int32)) ≤ (Int32.ofNat t))) = false from by rw [show (44 : Int32) = Int32.ofNat 44 from rfl, jx_le (by omega) (by omega)]; exact decide_eq_false (by omega)]; rfl) ?_
        refine Er_run 2 (pc' := 12) (ls' := [some (.ref d), some (.int ((0 : Int32))), some (.int (Int32.ofNat t))]) (st' := [.int (Int32.ofNat t), .ref d]) rfl ?_
        have hh := s_Disk_holds hp (show t < 44 by omega)
        rw [e] at hh
        refine Er_inv1 (q' := d) (ci := 7) (av := [.int (Int32.ofNat t)]) (rest := []) rfl rfl ⟨Nat.le_of_ble_eq_true rfl, Nat.le_of_ble_eq_true rfl⟩ rfl rfl hp.1.1 hh ?_
        refine Er_run 1 (pc' := bif decide (((1 : Int32)) = 0) then 51 else 18) (ls' := [some (.ref d), some (.int ((0 : Int32))), some (.int (Int32.ofNat t))]) (st' := []) rfl ?_
        refine Er_pc (t := 18) (show (bif decide (((1 : Int32)) = 0) then 51 else 18) = 18 from by rw [show (decide (((1 : Int32)) = 0)) = false from by decide]; rfl) ?_
        refine Er_run 2 (pc' := 20) (ls' := [some (.ref d), some (.int ((0 : Int32))), some (.int (Int32.ofNat t))]) (st' := [.int (Int32.ofNat t), .ref d]) rfl ?_
        have hro := s_Disk_rowOf hp.1 (show t < 44 by omega)
        rw [if_neg hl] at hro
        refine Er_inv1 (q' := d) (ci := 7) (av := [.int (Int32.ofNat t)]) (rest := []) rfl rfl ⟨Nat.le_of_ble_eq_true rfl, Nat.le_of_ble_eq_true rfl⟩ rfl rfl hp.1.1 hro ?_
        refine Er_run 1 (pc' := 24) (ls' := [some (.ref d), some (.int ((0 : Int32))), some (.int (Int32.ofNat t))]) (st' := [.ref d, .ref (d + 7)]) rfl ?_
        refine Er_getR (x := d + 10) rfl hp.1.1 hp.1.2.2.2.2.1 ?_
        refine Er_run 1 (pc' := 28) (ls' := [some (.ref d), some (.int ((0 : Int32))), some (.int (Int32.ofNat t))]) (st' := [.int (Int32.ofNat t), .ref (d + 10), .ref (d + 7)]) rfl ?_
        refine Er_iald (v := Int32.ofNat s) rfl hp.1.2.2.2.2.2.2.2.1 (by show sm_in _ (gS h (d + 10)).2 = true; rw [hp.1.2.2.2.2.2.2.2.2.1]; exact sm_in_of (by rw [sm_ofNat_toInt (by omega)]; omega) (by rw [sm_ofNat_toInt (by omega)]; omega)) (by rw [jx_cn (by omega)]; exact p3) ?_
        refine Er_run 1 (pc' := 30) (ls' := [some (.ref d), some (.int ((0 : Int32))), some (.int (Int32.ofNat t))]) (st' := [.ref d, .int (Int32.ofNat s), .ref (d + 7)]) rfl ?_
        refine Er_getR (x := d + 11) rfl hp.1.1 hp.1.2.2.2.2.2.1 ?_
        refine Er_run 1 (pc' := 34) (ls' := [some (.ref d), some (.int ((0 : Int32))), some (.int (Int32.ofNat t))]) (st' := [.int (Int32.ofNat t), .ref (d + 11), .int (Int32.ofNat s), .ref (d + 7)]) rfl ?_
        refine Er_iald (v := Int32.ofNat l.length) rfl hp.1.2.2.2.2.2.2.2.2.2.1 (by show sm_in _ (gS h (d + 11)).2 = true; rw [hp.1.2.2.2.2.2.2.2.2.2.2.1]; exact sm_in_of (by rw [sm_ofNat_toInt (by omega)]; omega) (by rw [sm_ofNat_toInt (by omega)]; omega)) (by rw [jx_cn (by omega)]; exact p1) ?_
        have hsu := s_Pairs_sumOf (f := s) (m := l.length) hp.2.2.2.2.1 p4
        rw [p5] at hsu
        refine Er_inv1 (q' := d + 7) (ci := 0) (av := [.int (Int32.ofNat s), .int (Int32.ofNat l.length)]) (rest := []) rfl rfl ⟨Nat.le_of_ble_eq_true rfl, Nat.le_of_ble_eq_true rfl⟩ rfl rfl hp.2.2.2.2.1.1.1 hsu ?_
        refine Er_run 1 (pc' := 39) (ls' := [some (.ref d), some (.int ((0 : Int32))), some (.int (Int32.ofNat t))]) (st' := [.ref d, .long (jx_sum l (Int32.ofNat l.length).toInt64)]) rfl ?_
        refine Er_getR (x := d + 12) rfl hp.1.1 hp.1.2.2.2.2.2.2.1 ?_
        refine Er_run 1 (pc' := 43) (ls' := [some (.ref d), some (.int ((0 : Int32))), some (.int (Int32.ofNat t))]) (st' := [.int (Int32.ofNat t), .ref (d + 12), .long (jx_sum l (Int32.ofNat l.length).toInt64)]) rfl ?_
        refine Er_lald (v := jx_sum l (Int32.ofNat l.length).toInt64) rfl hp.1.2.2.2.2.2.2.2.2.2.2.2.1 (by show sm_in _ (gS h (d + 12)).2 = true; rw [hp.1.2.2.2.2.2.2.2.2.2.2.2.2]; exact sm_in_of (by rw [sm_ofNat_toInt (by omega)]; omega) (by rw [sm_ofNat_toInt (by omega)]; omega)) (by rw [jx_cn (by omega)]; exact p2) ?_
        refine Er_run 2 (pc' := bif decide ((lg_cmp (jx_sum l (Int32.ofNat l.length).toInt64) (jx_sum l (Int32.ofNat l.length).toInt64)) = 0) then 51 else 48) (ls' := [some (.ref d), some (.int ((0 : Int32))), some (.int (Int32.ofNat t))]) (st' := []) rfl ?_
        refine Er_pc (t := 51) (show (bif decide ((lg_cmp (jx_sum l (Int32.ofNat l.length).toInt64) (jx_sum l (Int32.ofNat l.length).toInt64)) = 0) then 51 else 48) = 51 from by rw [show (decide ((lg_cmp (jx_sum l (Int32.ofNat l.length).toInt64) (jx_sum l (Int32.ofNat l.length).toInt64)) = 0)) = true from by rw [jx_cmp0]; exact decide_eq_true rfl]; rfl) ?_
        refine Er_run 2 (pc' := 4) (ls' := [some (.ref d), some (.int ((0 : Int32))), some (.int ((Int32.ofNat t) + (1 : Int32)))]) (st' := []) rfl ?_
        rw [jx_s1]
        exact ih (t + 1) (by omega)
theorem s_Disk_wrongSums (hp : DK h d dp sp pa re ta) : Run 86 [.ref d] h (.inl (some (.int 0))) h := by
  refine ⟨Nat.le_of_ble_eq_true rfl, ?_⟩
  show Ev 86 0 [some (.ref d), none, none] [] h _
  refine Er_run 4 (pc' := 4) (ls' := [some (.ref d), some (.int ((0 : Int32))), some (.int ((0 : Int32)))]) (st' := []) rfl ?_
  exact l_wrongSums hp 44 0 rfl
end DISKB
