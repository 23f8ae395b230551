/-! class Disk at cell d: spilled d + 1, pairs d + 4, records d + 7, starts d + 10, amounts d + 11, sums d + 12 -/
abbrev Jl := List (Int64 × Int64)
def isD (h : sm_H) (d : Nat) : Prop := sm_at h d 17 = true ∧ gR h d 0 = some (d + 1) ∧ gR h d 1 = some (d + 4) ∧ gR h d 2 = some (d + 7) ∧ gR h d 3 = some (d + 10) ∧ gR h d 4 = some (d + 11) ∧ gR h d 5 = some (d + 12) ∧ sm_at h (d + 10) 0 = true ∧ (gS h (d + 10)).2 = 44 ∧ sm_at h (d + 11) 0 = true ∧ (gS h (d + 11)).2 = 44 ∧ sm_at h (d + 12) 1 = true ∧ (gS h (d + 12)).2 = 44
/-- what task t left on the disk; row: the row in which it lies -/
def jd_t (h : sm_H) (d t : Nat) (row : Jl) (x : Option Jl) : Prop := match x with
  | none => gI h (d + 11) t = -1
  | some l => gI h (d + 11) t = Int32.ofNat l.length ∧ gL h (d + 12) t = jx_sum l (Int32.ofNat l.length).toInt64 ∧ ∃ s, gI h (d + 10) t = Int32.ofNat s ∧ s + l.length ≤ row.length ∧ (row.drop s).take l.length = l
def DK (h : sm_H) (d : Nat) (dp : Int32) (sp pa re : Jl) (ta : Nat → Option Jl) : Prop := isD h d ∧ gI h d 6 = dp ∧ PL h (d + 1) 64 sp ∧ PL h (d + 4) 1000 pa ∧ PL h (d + 7) 300 re ∧ ∀ t, t < 44 → jd_t h d t (if t < 38 then pa else re) (ta t)
section DISK
variable {h h' : sm_H} {d t : Nat} {dp : Int32} {sp pa re : Jl} {ta : Nat → Option Jl}
theorem isD_fr {lo hi : Nat} (z : Fr lo hi h h') (hd : d < lo ∨ hi ≤ d) (hp : isD h d) : isD h' d := by
  obtain ⟨a1, a2, a3, a4, a5, a6, a7, a8, a9, a10, a11, a12, a13⟩ := hp
  have e := (z.2.2.2.2 d (by omega)).2.2
  exact ⟨by rw [z.at]; exact a1, by rw [e]; exact a2, by rw [e]; exact a3, by rw [e]; exact a4, by rw [e]; exact a5, by rw [e]; exact a6, by rw [e]; exact a7, by rw [z.at]; exact a8, by rw [z.2.1]; exact a9, by rw [z.at]; exact a10, by rw [z.2.1]; exact a11, by rw [z.at]; exact a12, by rw [z.2.1]; exact a13⟩
theorem jd_fr {lo hi : Nat} {row : Jl} {x : Option Jl} (z : Fr lo hi h h') (hd : d + 13 ≤ lo ∨ hi ≤ d + 10) (hp : jd_t h d t row x) : jd_t h' d t row x := by
  have e1 := (z.2.2.2.2 (d + 10) (by omega)).1
  have e2 := (z.2.2.2.2 (d + 11) (by omega)).1
  have e3 := (z.2.2.2.2 (d + 12) (by omega)).2.1
  cases x with
  | none => show gI h' (d + 11) t = -1; rw [e2]; exact hp
  | some l =>
    obtain ⟨p1, p2, s, p3, p4⟩ := hp
    exact ⟨by rw [e2]; exact p1, by rw [e3]; exact p2, s, by rw [e1]; exact p3, p4⟩
theorem DK_fr {lo hi : Nat} (z : Fr lo hi h h') (hd : d + 13 ≤ lo ∨ hi ≤ d) (hp : DK h d dp sp pa re ta) : DK h' d dp sp pa re ta :=
  ⟨isD_fr z (by omega) hp.1, by rw [(z.2.2.2.2 d (by omega)).1]; exact hp.2.1, PL_fr z (by omega) hp.2.2.1, PL_fr z (by omega) hp.2.2.2.1, PL_fr z (by omega) hp.2.2.2.2.1, fun t ht => jd_fr z (by omega) (hp.2.2.2.2.2 t ht)⟩
/-- what is spilled has changed alone -/
theorem DK_sp {sp' : Jl} (z : Fr (d + 1) (d + 4) h h') (hl : PL h' (d + 1) 64 sp') (hp : DK h d dp sp pa re ta) : DK h' d dp sp' pa re ta :=
  ⟨isD_fr z (by omega) hp.1, by rw [(z.2.2.2.2 d (by omega)).1]; exact hp.2.1, hl, PL_fr z (by omega) hp.2.2.2.1, PL_fr z (by omega) hp.2.2.2.2.1, fun t ht => jd_fr z (by omega) (hp.2.2.2.2.2 t ht)⟩

theorem s_Disk_position (hp : DK h d dp sp pa re ta) : Run 78 [.ref d] h (.inl (some (.int dp))) h := by
  refine ⟨Nat.le_of_ble_eq_true rfl, ?_⟩
  show Ev 78 0 [some (.ref d)] [] h _
  refine Er_run 1 (pc' := 1) (ls' := [some (.ref d)]) (st' := [.ref d]) rfl ?_
  refine Er_getI (v := dp) rfl hp.1.1 hp.2.1 ?_
  exact Er_fin rfl rfl ⟨rfl, rfl⟩
theorem s_Disk_spilled (hp : DK h d dp sp pa re ta) : Run 79 [.ref d] h (.inl (some (.ref (d + 1)))) h := by
  refine ⟨Nat.le_of_ble_eq_true rfl, ?_⟩
  show Ev 79 0 [some (.ref d)] [] h _
  refine Er_run 1 (pc' := 1) (ls' := [some (.ref d)]) (st' := [.ref d]) rfl ?_
  refine Er_getR (x := d + 1) rfl hp.1.1 hp.1.2.1 ?_
  exact Er_fin rfl rfl ⟨rfl, rfl⟩
theorem s_Disk_rowOf (hp : isD h d) (ht : t < 44) : Run 83 [.ref d, .int (Int32.ofNat t)] h (.inl (some (.ref (if t < 38 then d + 4 else d + 7)))) h := by
  by_cases hl : t < 38
  · rw [if_pos hl]
    refine ⟨Nat.le_of_ble_eq_true rfl, ?_⟩
    show Ev 83 0 [some (.ref d), some (.int (Int32.ofNat t))] [] h _
    refine Er_run 3 (pc' := bif decide (((38 : Int32)) ≤ (Int32.ofNat t)) then 13 else 6) (ls' := [some (.ref d), some (.int (Int32.ofNat t))]) (st' := []) rfl ?_
    refine Er_pc (t := 6) (show (bif decide (((38 : Int32)) ≤ (Int32.ofNat t)) then 13 else 6) = 6 from by rw [show (decide (((38 : Int32)) ≤ (Int32.ofNat t))) = false from by rw [show (38 : Int32) = Int32.ofNat 38 from rfl, jx_le (by omega) (by omega)]; exact decide_eq_false (by omega)]; rfl) ?_
    refine Er_run 1 (pc' := 7) (ls' := [some (.ref d), some (.int (Int32.ofNat t))]) (st' := [.ref d]) rfl ?_
    refine Er_getR (x := d + 4) rfl hp.1 hp.2.2.1 ?_
    refine Er_run 1 (pc' := 17) (ls' := [some (.ref d), some (.int (Int32.ofNat t))]) (st' := [.ref (d + 4)]) rfl ?_
    exact Er_fin rfl rfl ⟨rfl, rfl⟩
  · rw [if_neg hl]
    refine ⟨Nat.le_of_ble_eq_true rfl, ?_⟩
    show Ev 83 0 [some (.ref d), some (.int (Int32.ofNat t))] [] h _
    refine Er_run 3 (pc' := bif decide (((38 : Int32)) ≤ (Int32.ofNat t)) then 13 else 6) (ls' := [some (.ref d), some (.int (Int32.ofNat t))]) (st' := []) rfl ?_
    refine Er_pc (t := 13) (show (bif decide (((38 : Int32)) ≤ (Int32.ofNat t)) then 13 else 6) = 13 from by rw [show (decide (((38 : Int32)) ≤ (Int32.ofNat t))) = true from by rw [show (38 : Int32) = Int32.ofNat 38 from rfl, jx_le (by omega) (by omega)]; exact decide_eq_true (by omega)]; rfl) ?_
    refine Er_run 1 (pc' := 14) (ls' := [some (.ref d), some (.int (Int32.ofNat t))]) (st' := [.ref d]) rfl ?_
    refine Er_getR (x := d + 7) rfl hp.1 hp.2.2.2.1 ?_
    exact Er_fin rfl rfl ⟨rfl, rfl⟩
theorem jx_m1 {n : Nat} (hn : n < 2147483648) : Int32.ofNat n ≠ -1 := by
  intro e
  have := congrArg Int32.toInt e
  rw [sm_ofNat_toInt hn] at this
  have h2 : (-1 : Int32).toInt = -1 := by decide
  omega
theorem jd_len (hp : DK h d dp sp pa re ta) (ht : t < 44) {l : Jl} (e : ta t = some l) : l.length ≤ 1000 := by
  have h1 := hp.2.2.2.2.2 t ht
  rw [e] at h1
  obtain ⟨p1, p2, s, p3, p4, p5⟩ := h1
  have := hp.2.2.2.1.2.2.1
  have := hp.2.2.2.2.1.2.2.1
  split at p4 <;> omega

theorem s_Disk_holds (hp : DK h d dp sp pa re ta) (ht : t < 44) : Run 81 [.ref d, .int (Int32.ofNat t)] h (.inl (some (.int (if (ta t).isSome then 1 else 0)))) h := by
  have hq := hp.2.2.2.2.2 t ht
  cases e : ta t with
  | none =>
    rw [e] at hq
    refine ⟨Nat.le_of_ble_eq_true rfl, ?_⟩
    show Ev 81 0 [some (.ref d), some (.int (Int32.ofNat t))] [] h _
    refine Er_run 2 (pc' := bif decide ((Int32.ofNat t) < 0) then 24 else 4) (ls' := [some (.ref d), some (.int (Int32.ofNat t))]) (st' := []) rfl ?_
    refine Er_pc (t := 4) (show (bif decide ((Int32.ofNat t) < 0) then 24 else 4) = 4 from by rw [show (decide ((Int32.ofNat t) < 0)) = false from sm_nn (by rw [sm_ofNat_toInt (by omega)]; omega)]; rfl) ?_
    refine Er_run 3 (pc' := bif decide (((44 : Int32)) ≤ (Int32.ofNat t)) then 24 else 10) (ls' := [some (.ref d), some (.int (Int32.ofNat t))]) (st' := []) rfl ?_
    refine Er_pc (t := 10) (show (bif decide (((44 : Int32)) ≤ (Int32.ofNat t)) then 24 else 10) = 10 from by rw [show (decide (((44 : Int32)) ≤ (Int32.ofNat t))) = false from by rw [show (44 : Int32) = Int32.ofNat 44 from rfl, jx_le (by omega) (by omega)]; exact decide_eq_false (by omega)]; rfl) ?_
    refine Er_run 1 (pc' := 11) (ls' := [some (.ref d), some (.int (Int32.ofNat t))]) (st' := [.ref d]) rfl ?_
    refine Er_getR (x := d + 11) rfl hp.1.1 hp.1.2.2.2.2.2.1 ?_
    refine Er_run 1 (pc' := 15) (ls' := [some (.ref d), some (.int (Int32.ofNat t))]) (st' := [.int (Int32.ofNat t), .ref (d + 11)]) rfl ?_
    refine Er_iald (v := (-1 : Int32)) rfl hp.1.2.2.2.2.2.2.2.2.2.1 (by show sm_in _ (gS h (d + 11)).2 = true; rw [hp.1.2.2.2.2.2.2.2.2.2.2.1]; exact sm_in_of (by rw [sm_ofNat_toInt (by omega)]; omega) (by rw [sm_ofNat_toInt (by omega)]; omega)) (by rw [jx_cn (by omega)]; exact hq) ?_
    refine Er_run 2 (pc' := bif decide (((-1 : Int32)) = ((-1 : Int32))) then 24 else 20) (ls' := [some (.ref d), some (.int (Int32.ofNat t))]) (st' := []) rfl ?_
    refine Er_pc (t := 24) (show (bif decide (((-1 : Int32)) = ((-1 : Int32))) then 24 else 20) = 24 from by rw [show (decide (((-1 : Int32)) = ((-1 : Int32)))) = true from by decide]; rfl) ?_
    refine Er_run 1 (pc' := 25) (ls' := [some (.ref d), some (.int (Int32.ofNat t))]) (st' := [.int ((0 : Int32))]) rfl ?_
    exact Er_fin rfl rfl ⟨rfl, rfl⟩
  | some l =>
    rw [e] at hq
    have hl := jd_len hp ht e
    refine ⟨Nat.le_of_ble_eq_true rfl, ?_⟩
    show Ev 81 0 [some (.ref d), some (.int (Int32.ofNat t))] [] h _
    refine Er_run 2 (pc' := bif decide ((Int32.ofNat t) < 0) then 24 else 4) (ls' := [some (.ref d), some (.int (Int32.ofNat t))]) (st' := []) rfl ?_
    refine Er_pc (t := 4) (show (bif decide ((Int32.ofNat t) < 0) then 24 else 4) = 4 from by rw [show (decide ((Int32.ofNat t) < 0)) = false from sm_nn (by rw [sm_ofNat_toInt (by omega)]; omega)]; rfl) ?_
    refine Er_run 3 (pc' := bif decide (((44 : Int32)) ≤ (Int32.ofNat t)) then 24 else 10) (ls' := [some (.ref d), some (.int (Int32.ofNat t))]) (st' := []) rfl ?_
    refine Er_pc (t := 10) (show (bif decide (((44 : Int32)) ≤ (Int32.ofNat t)) then 24 else 10) = 10 from by rw [show (decide (((44 : Int32)) ≤ (Int32.ofNat t))) = false from by rw [show (44 : Int32) = Int32.ofNat 44 from rfl, jx_le (by omega) (by omega)]; exact decide_eq_false (by omega)]; rfl) ?_
    refine Er_run 1 (pc' := 11) (ls' := [some (.ref d), some (.int (Int32.ofNat t))]) (st' := [.ref d]) rfl ?_
    refine Er_getR (x := d + 11) rfl hp.1.1 hp.1.2.2.2.2.2.1 ?_
    refine Er_run 1 (pc' := 15) (ls' := [some (.ref d), some (.int (Int32.ofNat t))]) (st' := [.int (Int32.ofNat t), .ref (d + 11)]) rfl ?_
    refine Er_iald (v := Int32.ofNat l.length) rfl hp.1.2.2.2.2.2.2.2.2.2.1 (by show sm_in _ (gS h (d + 11)).2 = true; rw [hp.1.2.2.2.2.2.2.2.2.2.2.1]; exact sm_in_of (by rw [sm_ofNat_toInt (by omega)]; omega) (by rw [sm_ofNat_toInt (by omega)]; omega)) (by rw [jx_cn (by omega)]; exact hq.1) ?_
    refine Er_run 2 (pc' := bif decide ((Int32.ofNat l.length) = ((-1 : Int32))) then 24 else 20) (ls' := [some (.ref d), some (.int (Int32.ofNat t))]) (st' := []) rfl ?_
    refine Er_pc (t := 20) (show (bif decide ((Int32.ofNat l.length) = ((-1 : Int32))) then 24 else 20) = 20 from by rw [show (decide ((Int32.ofNat l.length) = ((-1 : Int32)))) = false from decide_eq_false (jx_m1 (by omega))]; rfl) ?_
    refine Er_run 2 (pc' := 25) (ls' := [some (.ref d), some (.int (Int32.ofNat t))]) (st' := [.int ((1 : Int32))]) rfl ?_
    exact Er_fin rfl rfl ⟨rfl, rfl⟩
def jd_am (x : Option Jl) : Nat := match x with
  | none => 0
  | some l => l.length
theorem s_Disk_amount (hp : DK h d dp sp pa re ta) (ht : t < 44) : Run 82 [.ref d, .int (Int32.ofNat t)] h (.inl (some (.int (Int32.ofNat (jd_am (ta t)))))) h := by
  have hq := hp.2.2.2.2.2 t ht
  cases e : ta t with
  | none =>
    refine ⟨Nat.le_of_ble_eq_true rfl, ?_⟩
    show Ev 82 0 [some (.ref d), some (.int (Int32.ofNat t))] [] h _
    refine Er_run 2 (pc' := 2) (ls' := [some (.ref d), some (.int (Int32.ofNat t))]) (st' := [.int (Int32.ofNat t), .ref d]) rfl ?_
    have hh := s_Disk_holds hp ht
    rw [e] at hh
    refine Er_inv1 (q' := d) (ci := 7) (av := [.int (Int32.ofNat t)]) (rest := []) rfl rfl ⟨Nat.le_of_ble_eq_true rfl, Nat.le_of_ble_eq_true rfl⟩ rfl rfl hp.1.1 hh ?_
    refine Er_run 1 (pc' := bif decide (((0 : Int32)) = 0) then 17 else 8) (ls' := [some (.ref d), some (.int (Int32.ofNat t))]) (st' := []) rfl ?_
    refine Er_pc (t := 17) (show (bif decide (((0 : Int32)) = 0) then 17 else 8) = 17 from by rw [show (decide (((0 : Int32)) = 0)) = true from by decide]; rfl) ?_
    refine Er_run 1 (pc' := 18) (ls' := [some (.ref d), some (.int (Int32.ofNat t))]) (st' := [.int ((0 : Int32))]) rfl ?_
    exact Er_fin rfl rfl ⟨rfl, rfl⟩
  | some l =>
    rw [e] at hq
    refine ⟨Nat.le_of_ble_eq_true rfl, ?_⟩
    show Ev 82 0 [some (.ref d), some (.int (Int32.ofNat t))] [] h _
    refine Er_run 2 (pc' := 2) (ls' := [some (.ref d), some (.int (Int32.ofNat t))]) (st' := [.int (Int32.ofNat t), .ref d]) rfl ?_
    have hh := s_Disk_holds hp ht
    rw [e] at hh
    refine Er_inv1 (q' := d) (ci := 7) (av := [.int (Int32.ofNat t)]) (rest := []) rfl rfl ⟨Nat.le_of_ble_eq_true rfl, Nat.le_of_ble_eq_true rfl⟩ rfl rfl hp.1.1 hh ?_
    refine Er_run 1 (pc' := bif decide (((1 : Int32)) = 0) then 17 else 8) (ls' := [some (.ref d), some (.int (Int32.ofNat t))]) (st' := []) rfl ?_
    refine Er_pc (t := 8) (show (bif decide (((1 : Int32)) = 0) then 17 else 8) = 8 from by rw [show (decide (((1 : Int32)) = 0)) = false from by decide]; rfl) ?_
    refine Er_run 1 (pc' := 9) (ls' := [some (.ref d), some (.int (Int32.ofNat t))]) (st' := [.ref d]) rfl ?_
    refine Er_getR (x := d + 11) rfl hp.1.1 hp.1.2.2.2.2.2.1 ?_
    refine Er_run 1 (pc' := 13) (ls' := [some (.ref d), some (.int (Int32.ofNat t))]) (st' := [.int (Int32.ofNat t), .ref (d + 11)]) rfl ?_
    refine Er_iald (v := Int32.ofNat l.length) rfl hp.1.2.2.2.2.2.2.2.2.2.1 (by show sm_in _ (gS h (d + 11)).2 = true; rw [hp.1.2.2.2.2.2.2.2.2.2.2.1]; exact sm_in_of (by rw [sm_ofNat_toInt (by omega)]; omega) (by rw [sm_ofNat_toInt (by omega)]; omega)) (by rw [jx_cn (by omega)]; exact hq.1) ?_
    refine Er_run 1 (pc' := 18) (ls' := [some (.ref d), some (.int (Int32.ofNat t))]) (st' := [.int (Int32.ofNat l.length)]) rfl ?_
    exact Er_fin rfl rfl ⟨rfl, rfl⟩
theorem s_Disk_wipe {x : Int32} (hp : DK h d dp sp pa re ta) : ∃ h', Run 80 [.ref d, .int x] h (.inl none) h' ∧ DK h' d x [] [] [] (fun _ => none) ∧ Fr d (d + 13) h h' := by
  have hx : Ev 80 0 (sm_pad (sm_ent [.ref d, .int x]) (sm_prog.2.1 80)) [] h (fun r h1 => r = .inl none ∧ DK h1 d x [] [] [] (fun _ => none) ∧ Fr d (d + 13) h h1) := by
    show Ev 80 0 [some (.ref d), some (.int x)] [] h _
    refine Er_run 2 (pc' := 2) (ls' := [some (.ref d), some (.int x)]) (st' := [.int x, .ref d]) rfl ?_
    refine Er_putI rfl hp.1.1 ?_
    refine Er_run 1 (pc' := 6) (ls' := [some (.ref d), some (.int x)]) (st' := [.ref d]) rfl ?_
    refine Er_getR (x := d + 1) rfl hp.1.1 hp.1.2.1 ?_
    have q0 : PL (setI h d 6 x) (d + 1) 64 sp := PL_setI (by omega) hp.2.2.1
    obtain ⟨h1, r1, p1, f1⟩ := s_Pairs_empty q0
    have i1 : isD h1 d := isD_fr f1 (by omega) (show isD (setI h d 6 x) d from hp.1)
    have F1 : Fr d (d + 4) h h1 := (Fr.setI (by omega) (by omega)).trans (f1.mono (by omega) (by omega))
    refine Er_inv0 (q' := d + 1) (ci := 0) (av := []) (rest := []) rfl rfl ⟨Nat.le_of_ble_eq_true rfl, Nat.le_of_ble_eq_true rfl⟩ rfl rfl q0.1.1 r1 ?_
    refine Er_run 1 (pc' := 13) (ls' := [some (.ref d), some (.int x)]) (st' := [.ref d]) rfl ?_
    refine Er_getR (x := d + 4) rfl i1.1 i1.2.2.1 ?_
    have q1 : PL h1 (d + 4) 1000 pa := PL_fr F1 (by omega) hp.2.2.2.1
    obtain ⟨h2, r2, p2, f2⟩ := s_Pairs_empty q1
    have i2 : isD h2 d := isD_fr f2 (by omega) i1
    have F2 : Fr d (d + 7) h h2 := (F1.mono (by omega) (by omega)).trans (f2.mono (by omega) (by omega))
    refine Er_inv0 (q' := d + 4) (ci := 0) (av := []) (rest := []) rfl rfl ⟨Nat.le_of_ble_eq_true rfl, Nat.le_of_ble_eq_true rfl⟩ rfl rfl q1.1.1 r2 ?_
    refine Er_run 1 (pc' := 20) (ls' := [some (.ref d), some (.int x)]) (st' := [.ref d]) rfl ?_
    refine Er_getR (x := d + 7) rfl i2.1 i2.2.2.2.1 ?_
    have q2 : PL h2 (d + 7) 300 re := PL_fr F2 (by omega) hp.2.2.2.2.1
    obtain ⟨h3, r3, p3, f3⟩ := s_Pairs_empty q2
    have i3 : isD h3 d := isD_fr f3 (by omega) i2
    have F3 : Fr d (d + 10) h h3 := (F2.mono (by omega) (by omega)).trans (f3.mono (by omega) (by omega))
    refine Er_inv0 (q' := d + 7) (ci := 0) (av := []) (rest := []) rfl rfl ⟨Nat.le_of_ble_eq_true rfl, Nat.le_of_ble_eq_true rfl⟩ rfl rfl q2.1.1 r3 ?_
    refine Er_run 1 (pc' := 27) (ls' := [some (.ref d), some (.int x)]) (st' := [.ref d]) rfl ?_
    refine Er_getR (x := d + 11) rfl i3.1 i3.2.2.2.2.2.1 ?_
    refine Er_run 1 (pc' := 31) (ls' := [some (.ref d), some (.int x)]) (st' := [.int ((-1 : Int32)), .ref (d + 11)]) rfl ?_
    obtain ⟨h4, r4, z4, f4⟩ := s_fillI (x := -1) (n := 44) (by omega) i3.2.2.2.2.2.2.2.2.2.1 i3.2.2.2.2.2.2.2.2.2.2.1
    refine Er_sta0 (av := [.ref (d + 11), .int ((-1 : Int32))]) (rest := []) rfl rfl ⟨Nat.le_of_ble_eq_true rfl, Nat.le_of_ble_eq_true rfl⟩ rfl rfl r4 ?_
    refine Er_fin rfl rfl ⟨rfl, ⟨isD_fr f4 (by omega) i3, ?_, PL_fr f4 (by omega) (PL_fr f3 (by omega) (PL_fr f2 (by omega) p1)), PL_fr f4 (by omega) (PL_fr f3 (by omega) p2), PL_fr f4 (by omega) p3, fun t ht => z4 t ht⟩, (F3.mono (by omega) (by omega)).trans (f4.mono (by omega) (by omega))⟩
    rw [(f4.2.2.2.2 d (by omega)).1, (f3.2.2.2.2 d (by omega)).1, (f2.2.2.2.2 d (by omega)).1, (f1.2.2.2.2 d (by omega)).1]
    exact gI_eq
  obtain ⟨r, h', hr, e, hq⟩ := Run_of (Nat.le_of_ble_eq_true rfl) hx
  subst e
  exact ⟨h', hr, hq⟩
end DISK
