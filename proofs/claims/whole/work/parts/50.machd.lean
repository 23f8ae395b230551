section MACHD
variable {h : sm_H} {a : Nat} {kd : Int32} {ky : Int64} {rw en : Nat} {q : JQ} {n : Nat} {l : List (Int64 × Int64)}
/-- one INSTRUCTION k with its A c, at place t -/
def jq_obey (kd : Int32) (ky : Int64) (l : List (Int64 × Int64)) (en : Nat) (k : Nat) (c : Int64) (t : Nat) (q : JQ) : Nat × JQ := match k with
  | 0 => (t + 1, jq_push c q)
  | 1 => (t + 1, jq_push ky q)
  | 2 => (t + 1, jq_push (jq_rv kd l en q).1 (jq_rv kd l en q).2)
  | 3 => (t + 1, jq_push (jq_rm kd en q) q)
  | 4 => (t + 1, jq_push (q.2.2.1 c.toInt32.toNatClampNeg) q)
  | 5 => (t + 1, jq_put c (jq_pop q).1 (jq_pop q).2)
  | 6 => (t + 1, jq_bin (fun x y => x + y) q)
  | 7 => (t + 1, jq_bin (fun x y => x - y) q)
  | 8 => (t + 1, jq_bin (fun x y => x * y) q)
  | 9 => (t + 1, jq_quo q)
  | 10 => (t + 1, jq_bin (fun x y => if x < y then 1 else 0) q)
  | 11 => (t + 1, jq_bin (fun x y => if x = y then 1 else 0) q)
  | 12 => (t + 1, jq_dbl q)
  | 13 => (t + 1, (jq_pop q).2)
  | 14 => (t + 1, jq_swp q)
  | 15 => (c.toInt32.toNatClampNeg, q)
  | 16 => (if (jq_pop q).1 = 0 then c.toInt32.toNatClampNeg else t + 1, (jq_pop q).2)
  | _ => (t + 1, jq_emit kd ky q)
/-- the A of an INSTRUCTION k that code lets through -/
def jq_arg (k : Nat) (c : Int64) : Prop := (k = 4 ∨ k = 5 → c = 0 ∨ c = 1 ∨ c = 2 ∨ c = 3) ∧ (k = 15 ∨ k = 16 → ∃ m, m ≤ 40 ∧ c.toInt32 = Int32.ofNat m)

theorem s_Machine_obey {k t : Nat} {c : Int64} (hk : k < 18) (hc : jq_arg k c) (hr : PL h rw n l) (hn : q.2.2.2.2 ≤ en) (he : en < 2147483647) (hm : QM h a kd ky rw en q) : ∃ h', Run 52 [.ref a, .int (Int32.ofNat k), .long c, .int (Int32.ofNat t)] h (.inl (some (.int (Int32.ofNat (jq_obey kd ky l en k c t q).1)))) h' ∧ QM h' a kd ky rw en (jq_obey kd ky l en k c t q).2 ∧ Fr a (a + 6) h h' := by
  have hx : Ev 52 0 (sm_pad (sm_ent [.ref a, .int (Int32.ofNat k), .long c, .int (Int32.ofNat t)]) (sm_prog.2.1 52)) [] h (fun r h1 => r = .inl (some (.int (Int32.ofNat (jq_obey kd ky l en k c t q).1))) ∧ QM h1 a kd ky rw en (jq_obey kd ky l en k c t q).2 ∧ Fr a (a + 6) h h1) := by
    have hk' : k = 0 ∨ k = 1 ∨ k = 2 ∨ k = 3 ∨ k = 4 ∨ k = 5 ∨ k = 6 ∨ k = 7 ∨ k = 8 ∨ k = 9 ∨ k = 10 ∨ k = 11 ∨ k = 12 ∨ k = 13 ∨ k = 14 ∨ k = 15 ∨ k = 16 ∨ k = 17 := by omega
    rcases hk' with rfl | rfl | rfl | rfl | rfl | rfl | rfl | rfl | rfl | rfl | rfl | rfl | rfl | rfl | rfl | rfl | rfl | rfl
    · skip
      show Ev 52 0 [some (.ref a), some (.int (Int32.ofNat 0)), some (.long c), none, some (.int (Int32.ofNat t))] [] h _
      refine Er_run 6 (pc' := 147) (ls' := [some (.ref a), some (.int (Int32.ofNat 0)), some (.long c), none, some (.int (Int32.ofNat t))]) (st' := [.long c, .int (Int32.ofNat 0), .ref a, .ref a]) rfl ?_
      obtain ⟨h1, r1, p1, f1⟩ := s_Machine_read0 hm
      refine Er_inv1 (q' := a) (ci := 4) (av := [.int (Int32.ofNat 0), .long c]) (rest := [.ref a]) rfl rfl ⟨Nat.le_of_ble_eq_true rfl, Nat.le_of_ble_eq_true rfl⟩ rfl rfl (QM_is hm).1 r1 ?_
      obtain ⟨h2, r2, p2, f2⟩ := s_Machine_push (x := c) p1
      refine Er_inv0 (q' := a) (ci := 4) (av := [.long c]) (rest := []) rfl rfl ⟨Nat.le_of_ble_eq_true rfl, Nat.le_of_ble_eq_true rfl⟩ rfl rfl (QM_is p1).1 r2 ?_
      refine Er_run 3 (pc' := 157) (ls' := [some (.ref a), some (.int (Int32.ofNat 0)), some (.long c), none, some (.int (Int32.ofNat t))]) (st' := [.int ((Int32.ofNat t) + ((1 : Int32)))]) rfl ?_
      refine Er_fin rfl rfl ?_
      rw [jx_s1]
      exact ⟨rfl, p2, (f1.trans f2)⟩
    · skip
      show Ev 52 0 [some (.ref a), some (.int (Int32.ofNat 1)), some (.long c), none, some (.int (Int32.ofNat t))] [] h _
      refine Er_run 6 (pc' := 147) (ls' := [some (.ref a), some (.int (Int32.ofNat 1)), some (.long c), none, some (.int (Int32.ofNat t))]) (st' := [.long c, .int (Int32.ofNat 1), .ref a, .ref a]) rfl ?_
      obtain ⟨h1, r1, p1, f1⟩ := s_Machine_read1 hm
      refine Er_inv1 (q' := a) (ci := 4) (av := [.int (Int32.ofNat 1), .long c]) (rest := [.ref a]) rfl rfl ⟨Nat.le_of_ble_eq_true rfl, Nat.le_of_ble_eq_true rfl⟩ rfl rfl (QM_is hm).1 r1 ?_
      obtain ⟨h2, r2, p2, f2⟩ := s_Machine_push (x := ky) p1
      refine Er_inv0 (q' := a) (ci := 4) (av := [.long ky]) (rest := []) rfl rfl ⟨Nat.le_of_ble_eq_true rfl, Nat.le_of_ble_eq_true rfl⟩ rfl rfl (QM_is p1).1 r2 ?_
      refine Er_run 3 (pc' := 157) (ls' := [some (.ref a), some (.int (Int32.ofNat 1)), some (.long c), none, some (.int (Int32.ofNat t))]) (st' := [.int ((Int32.ofNat t) + ((1 : Int32)))]) rfl ?_
      refine Er_fin rfl rfl ?_
      rw [jx_s1]
      exact ⟨rfl, p2, (f1.trans f2)⟩
    · skip
      show Ev 52 0 [some (.ref a), some (.int (Int32.ofNat 2)), some (.long c), none, some (.int (Int32.ofNat t))] [] h _
      refine Er_run 6 (pc' := 147) (ls' := [some (.ref a), some (.int (Int32.ofNat 2)), some (.long c), none, some (.int (Int32.ofNat t))]) (st' := [.long c, .int (Int32.ofNat 2), .ref a, .ref a]) rfl ?_
      obtain ⟨h1, r1, p1, f1⟩ := s_Machine_read2 hr hn he hm
      refine Er_inv1 (q' := a) (ci := 4) (av := [.int (Int32.ofNat 2), .long c]) (rest := [.ref a]) rfl rfl ⟨Nat.le_of_ble_eq_true rfl, Nat.le_of_ble_eq_true rfl⟩ rfl rfl (QM_is hm).1 r1 ?_
      obtain ⟨h2, r2, p2, f2⟩ := s_Machine_push (x := (jq_rv kd l en q).1) p1
      refine Er_inv0 (q' := a) (ci := 4) (av := [.long ((jq_rv kd l en q).1)]) (rest := []) rfl rfl ⟨Nat.le_of_ble_eq_true rfl, Nat.le_of_ble_eq_true rfl⟩ rfl rfl (QM_is p1).1 r2 ?_
      refine Er_run 3 (pc' := 157) (ls' := [some (.ref a), some (.int (Int32.ofNat 2)), some (.long c), none, some (.int (Int32.ofNat t))]) (st' := [.int ((Int32.ofNat t) + ((1 : Int32)))]) rfl ?_
      refine Er_fin rfl rfl ?_
      rw [jx_s1]
      exact ⟨rfl, p2, (f1.trans f2)⟩
    · skip
      show Ev 52 0 [some (.ref a), some (.int (Int32.ofNat 3)), some (.long c), none, some (.int (Int32.ofNat t))] [] h _
      refine Er_run 6 (pc' := 147) (ls' := [some (.ref a), some (.int (Int32.ofNat 3)), some (.long c), none, some (.int (Int32.ofNat t))]) (st' := [.long c, .int (Int32.ofNat 3), .ref a, .ref a]) rfl ?_
      obtain ⟨h1, r1, p1, f1⟩ := s_Machine_read3 hn he hm
      refine Er_inv1 (q' := a) (ci := 4) (av := [.int (Int32.ofNat 3), .long c]) (rest := [.ref a]) rfl rfl ⟨Nat.le_of_ble_eq_true rfl, Nat.le_of_ble_eq_true rfl⟩ rfl rfl (QM_is hm).1 r1 ?_
      obtain ⟨h2, r2, p2, f2⟩ := s_Machine_push (x := jq_rm kd en q) p1
      refine Er_inv0 (q' := a) (ci := 4) (av := [.long (jq_rm kd en q)]) (rest := []) rfl rfl ⟨Nat.le_of_ble_eq_true rfl, Nat.le_of_ble_eq_true rfl⟩ rfl rfl (QM_is p1).1 r2 ?_
      refine Er_run 3 (pc' := 157) (ls' := [some (.ref a), some (.int (Int32.ofNat 3)), some (.long c), none, some (.int (Int32.ofNat t))]) (st' := [.int ((Int32.ofNat t) + ((1 : Int32)))]) rfl ?_
      refine Er_fin rfl rfl ?_
      rw [jx_s1]
      exact ⟨rfl, p2, (f1.trans f2)⟩
    · skip
      show Ev 52 0 [some (.ref a), some (.int (Int32.ofNat 4)), some (.long c), none, some (.int (Int32.ofNat t))] [] h _
      refine Er_run 6 (pc' := 147) (ls' := [some (.ref a), some (.int (Int32.ofNat 4)), some (.long c), none, some (.int (Int32.ofNat t))]) (st' := [.long c, .int (Int32.ofNat 4), .ref a, .ref a]) rfl ?_
      obtain ⟨h1, r1, p1, f1⟩ := s_Machine_read4 (hc.1 (Or.inl rfl)) hm
      refine Er_inv1 (q' := a) (ci := 4) (av := [.int (Int32.ofNat 4), .long c]) (rest := [.ref a]) rfl rfl ⟨Nat.le_of_ble_eq_true rfl, Nat.le_of_ble_eq_true rfl⟩ rfl rfl (QM_is hm).1 r1 ?_
      obtain ⟨h2, r2, p2, f2⟩ := s_Machine_push (x := q.2.2.1 c.toInt32.toNatClampNeg) p1
      refine Er_inv0 (q' := a) (ci := 4) (av := [.long (q.2.2.1 c.toInt32.toNatClampNeg)]) (rest := []) rfl rfl ⟨Nat.le_of_ble_eq_true rfl, Nat.le_of_ble_eq_true rfl⟩ rfl rfl (QM_is p1).1 r2 ?_
      refine Er_run 3 (pc' := 157) (ls' := [some (.ref a), some (.int (Int32.ofNat 4)), some (.long c), none, some (.int (Int32.ofNat t))]) (st' := [.int ((Int32.ofNat t) + ((1 : Int32)))]) rfl ?_
      refine Er_fin rfl rfl ?_
      rw [jx_s1]
      exact ⟨rfl, p2, (f1.trans f2)⟩
    · skip
      show Ev 52 0 [some (.ref a), some (.int (Int32.ofNat 5)), some (.long c), none, some (.int (Int32.ofNat t))] [] h _
      refine Er_run 5 (pc' := 122) (ls' := [some (.ref a), some (.int (Int32.ofNat 5)), some (.long c), none, some (.int (Int32.ofNat t))]) (st' := [.ref a, .long c, .ref a]) rfl ?_
      obtain ⟨h1, r1, p1, f1⟩ := s_Machine_pop hm
      refine Er_inv1 (q' := a) (ci := 4) (av := []) (rest := [.long c, .ref a]) rfl rfl ⟨Nat.le_of_ble_eq_true rfl, Nat.le_of_ble_eq_true rfl⟩ rfl rfl (QM_is hm).1 r1 ?_
      obtain ⟨h2, r2, p2, f2⟩ := s_Machine_putCell (c := c) (x := (jq_pop q).1) (hc.1 (Or.inr rfl)) p1
      refine Er_inv0 (q' := a) (ci := 4) (av := [.long c, .long ((jq_pop q).1)]) (rest := []) rfl rfl ⟨Nat.le_of_ble_eq_true rfl, Nat.le_of_ble_eq_true rfl⟩ rfl rfl (QM_is p1).1 r2 ?_
      refine Er_run 3 (pc' := 132) (ls' := [some (.ref a), some (.int (Int32.ofNat 5)), some (.long c), none, some (.int (Int32.ofNat t))]) (st' := [.int ((Int32.ofNat t) + ((1 : Int32)))]) rfl ?_
      refine Er_fin rfl rfl ?_
      rw [jx_s1]
      exact ⟨rfl, p2, (f1.trans f2)⟩
    · skip
      show Ev 52 0 [some (.ref a), some (.int (Int32.ofNat 6)), some (.long c), none, some (.int (Int32.ofNat t))] [] h _
      refine Er_run 4 (pc' := 160) (ls' := [some (.ref a), some (.int (Int32.ofNat 6)), some (.long c), none, some (.int (Int32.ofNat t))]) (st' := [.int (Int32.ofNat 6), .ref a]) rfl ?_
      obtain ⟨h1, r1, p1, f1⟩ := s_Machine_calculate6 hm
      refine Er_inv0 (q' := a) (ci := 4) (av := [.int (Int32.ofNat 6)]) (rest := []) rfl rfl ⟨Nat.le_of_ble_eq_true rfl, Nat.le_of_ble_eq_true rfl⟩ rfl rfl (QM_is hm).1 r1 ?_
      refine Er_run 3 (pc' := 167) (ls' := [some (.ref a), some (.int (Int32.ofNat 6)), some (.long c), none, some (.int (Int32.ofNat t))]) (st' := [.int ((Int32.ofNat t) + ((1 : Int32)))]) rfl ?_
      refine Er_fin rfl rfl ?_
      rw [jx_s1]
      exact ⟨rfl, p1, f1⟩
    · skip
      show Ev 52 0 [some (.ref a), some (.int (Int32.ofNat 7)), some (.long c), none, some (.int (Int32.ofNat t))] [] h _
      refine Er_run 4 (pc' := 160) (ls' := [some (.ref a), some (.int (Int32.ofNat 7)), some (.long c), none, some (.int (Int32.ofNat t))]) (st' := [.int (Int32.ofNat 7), .ref a]) rfl ?_
      obtain ⟨h1, r1, p1, f1⟩ := s_Machine_calculate7 hm
      refine Er_inv0 (q' := a) (ci := 4) (av := [.int (Int32.ofNat 7)]) (rest := []) rfl rfl ⟨Nat.le_of_ble_eq_true rfl, Nat.le_of_ble_eq_true rfl⟩ rfl rfl (QM_is hm).1 r1 ?_
      refine Er_run 3 (pc' := 167) (ls' := [some (.ref a), some (.int (Int32.ofNat 7)), some (.long c), none, some (.int (Int32.ofNat t))]) (st' := [.int ((Int32.ofNat t) + ((1 : Int32)))]) rfl ?_
      refine Er_fin rfl rfl ?_
      rw [jx_s1]
      exact ⟨rfl, p1, f1⟩
    · skip
      show Ev 52 0 [some (.ref a), some (.int (Int32.ofNat 8)), some (.long c), none, some (.int (Int32.ofNat t))] [] h _
      refine Er_run 4 (pc' := 160) (ls' := [some (.ref a), some (.int (Int32.ofNat 8)), some (.long c), none, some (.int (Int32.ofNat t))]) (st' := [.int (Int32.ofNat 8), .ref a]) rfl ?_
      obtain ⟨h1, r1, p1, f1⟩ := s_Machine_calculate8 hm
      refine Er_inv0 (q' := a) (ci := 4) (av := [.int (Int32.ofNat 8)]) (rest := []) rfl rfl ⟨Nat.le_of_ble_eq_true rfl, Nat.le_of_ble_eq_true rfl⟩ rfl rfl (QM_is hm).1 r1 ?_
      refine Er_run 3 (pc' := 167) (ls' := [some (.ref a), some (.int (Int32.ofNat 8)), some (.long c), none, some (.int (Int32.ofNat t))]) (st' := [.int ((Int32.ofNat t) + ((1 : Int32)))]) rfl ?_
      refine Er_fin rfl rfl ?_
      rw [jx_s1]
      exact ⟨rfl, p1, f1⟩
    · skip
      show Ev 52 0 [some (.ref a), some (.int (Int32.ofNat 9)), some (.long c), none, some (.int (Int32.ofNat t))] [] h _
      refine Er_run 4 (pc' := 160) (ls' := [some (.ref a), some (.int (Int32.ofNat 9)), some (.long c), none, some (.int (Int32.ofNat t))]) (st' := [.int (Int32.ofNat 9), .ref a]) rfl ?_
      obtain ⟨h1, r1, p1, f1⟩ := s_Machine_calculate9 hm
      refine Er_inv0 (q' := a) (ci := 4) (av := [.int (Int32.ofNat 9)]) (rest := []) rfl rfl ⟨Nat.le_of_ble_eq_true rfl, Nat.le_of_ble_eq_true rfl⟩ rfl rfl (QM_is hm).1 r1 ?_
      refine Er_run 3 (pc' := 167) (ls' := [some (.ref a), some (.int (Int32.ofNat 9)), some (.long c), none, some (.int (Int32.ofNat t))]) (st' := [.int ((Int32.ofNat t) + ((1 : Int32)))]) rfl ?_
      refine Er_fin rfl rfl ?_
      rw [jx_s1]
      exact ⟨rfl, p1, f1⟩
    · skip
      show Ev 52 0 [some (.ref a), some (.int (Int32.ofNat 10)), some (.long c), none, some (.int (Int32.ofNat t))] [] h _
      refine Er_run 4 (pc' := 160) (ls' := [some (.ref a), some (.int (Int32.ofNat 10)), some (.long c), none, some (.int (Int32.ofNat t))]) (st' := [.int (Int32.ofNat 10), .ref a]) rfl ?_
      obtain ⟨h1, r1, p1, f1⟩ := s_Machine_calculate10 hm
      refine Er_inv0 (q' := a) (ci := 4) (av := [.int (Int32.ofNat 10)]) (rest := []) rfl rfl ⟨Nat.le_of_ble_eq_true rfl, Nat.le_of_ble_eq_true rfl⟩ rfl rfl (QM_is hm).1 r1 ?_
      refine Er_run 3 (pc' := 167) (ls' := [some (.ref a), some (.int (Int32.ofNat 10)), some (.long c), none, some (.int (Int32.ofNat t))]) (st' := [.int ((Int32.ofNat t) + ((1 : Int32)))]) rfl ?_
      refine Er_fin rfl rfl ?_
      rw [jx_s1]
      exact ⟨rfl, p1, f1⟩
    · skip
      show Ev 52 0 [some (.ref a), some (.int (Int32.ofNat 11)), some (.long c), none, some (.int (Int32.ofNat t))] [] h _
      refine Er_run 4 (pc' := 160) (ls' := [some (.ref a), some (.int (Int32.ofNat 11)), some (.long c), none, some (.int (Int32.ofNat t))]) (st' := [.int (Int32.ofNat 11), .ref a]) rfl ?_
      obtain ⟨h1, r1, p1, f1⟩ := s_Machine_calculate11 hm
      refine Er_inv0 (q' := a) (ci := 4) (av := [.int (Int32.ofNat 11)]) (rest := []) rfl rfl ⟨Nat.le_of_ble_eq_true rfl, Nat.le_of_ble_eq_true rfl⟩ rfl rfl (QM_is hm).1 r1 ?_
      refine Er_run 3 (pc' := 167) (ls' := [some (.ref a), some (.int (Int32.ofNat 11)), some (.long c), none, some (.int (Int32.ofNat t))]) (st' := [.int ((Int32.ofNat t) + ((1 : Int32)))]) rfl ?_
      refine Er_fin rfl rfl ?_
      rw [jx_s1]
      exact ⟨rfl, p1, f1⟩
    · skip
      show Ev 52 0 [some (.ref a), some (.int (Int32.ofNat 12)), some (.long c), none, some (.int (Int32.ofNat t))] [] h _
      refine Er_run 4 (pc' := 135) (ls' := [some (.ref a), some (.int (Int32.ofNat 12)), some (.long c), none, some (.int (Int32.ofNat t))]) (st' := [.int (Int32.ofNat 12), .ref a]) rfl ?_
      obtain ⟨h1, r1, p1, f1⟩ := s_Machine_shuffle12 hm
      refine Er_inv0 (q' := a) (ci := 4) (av := [.int (Int32.ofNat 12)]) (rest := []) rfl rfl ⟨Nat.le_of_ble_eq_true rfl, Nat.le_of_ble_eq_true rfl⟩ rfl rfl (QM_is hm).1 r1 ?_
      refine Er_run 3 (pc' := 142) (ls' := [some (.ref a), some (.int (Int32.ofNat 12)), some (.long c), none, some (.int (Int32.ofNat t))]) (st' := [.int ((Int32.ofNat t) + ((1 : Int32)))]) rfl ?_
      refine Er_fin rfl rfl ?_
      rw [jx_s1]
      exact ⟨rfl, p1, f1⟩
    · skip
      show Ev 52 0 [some (.ref a), some (.int (Int32.ofNat 13)), some (.long c), none, some (.int (Int32.ofNat t))] [] h _
      refine Er_run 4 (pc' := 135) (ls' := [some (.ref a), some (.int (Int32.ofNat 13)), some (.long c), none, some (.int (Int32.ofNat t))]) (st' := [.int (Int32.ofNat 13), .ref a]) rfl ?_
      obtain ⟨h1, r1, p1, f1⟩ := s_Machine_shuffle13 hm
      refine Er_inv0 (q' := a) (ci := 4) (av := [.int (Int32.ofNat 13)]) (rest := []) rfl rfl ⟨Nat.le_of_ble_eq_true rfl, Nat.le_of_ble_eq_true rfl⟩ rfl rfl (QM_is hm).1 r1 ?_
      refine Er_run 3 (pc' := 142) (ls' := [some (.ref a), some (.int (Int32.ofNat 13)), some (.long c), none, some (.int (Int32.ofNat t))]) (st' := [.int ((Int32.ofNat t) + ((1 : Int32)))]) rfl ?_
      refine Er_fin rfl rfl ?_
      rw [jx_s1]
      exact ⟨rfl, p1, f1⟩
    · skip
      show Ev 52 0 [some (.ref a), some (.int (Int32.ofNat 14)), some (.long c), none, some (.int (Int32.ofNat t))] [] h _
      refine Er_run 4 (pc' := 135) (ls' := [some (.ref a), some (.int (Int32.ofNat 14)), some (.long c), none, some (.int (Int32.ofNat t))]) (st' := [.int (Int32.ofNat 14), .ref a]) rfl ?_
      obtain ⟨h1, r1, p1, f1⟩ := s_Machine_shuffle14 hm
      refine Er_inv0 (q' := a) (ci := 4) (av := [.int (Int32.ofNat 14)]) (rest := []) rfl rfl ⟨Nat.le_of_ble_eq_true rfl, Nat.le_of_ble_eq_true rfl⟩ rfl rfl (QM_is hm).1 r1 ?_
      refine Er_run 3 (pc' := 142) (ls' := [some (.ref a), some (.int (Int32.ofNat 14)), some (.long c), none, some (.int (Int32.ofNat t))]) (st' := [.int ((Int32.ofNat t) + ((1 : Int32)))]) rfl ?_
      refine Er_fin rfl rfl ?_
      rw [jx_s1]
      exact ⟨rfl, p1, f1⟩
    · skip
      obtain ⟨m, hm4, hm5⟩ := hc.2 (Or.inl rfl)
      show Ev 52 0 [some (.ref a), some (.int (Int32.ofNat 15)), some (.long c), none, some (.int (Int32.ofNat t))] [] h _
      refine Er_run 4 (pc' := 90) (ls' := [some (.ref a), some (.int (Int32.ofNat 15)), some (.long c), none, some (.int (Int32.ofNat t))]) (st' := [.int (Int64.toInt32 c)]) rfl ?_
      refine Er_fin rfl rfl ?_
      rw [show (jq_obey kd ky l en 15 c t q).1 = m from by show c.toInt32.toNatClampNeg = m; rw [hm5, jx_cn (by omega)], hm5]
      exact ⟨rfl, hm, Fr.refl _ _ _⟩
    · skip
      obtain ⟨m, hm4, hm5⟩ := hc.2 (Or.inr rfl)
      by_cases hl : (jq_pop q).1 = 0
      · skip
        show Ev 52 0 [some (.ref a), some (.int (Int32.ofNat 16)), some (.long c), none, some (.int (Int32.ofNat t))] [] h _
        refine Er_run 3 (pc' := 92) (ls' := [some (.ref a), some (.int (Int32.ofNat 16)), some (.long c), none, some (.int (Int32.ofNat t))]) (st' := [.ref a]) rfl ?_
        obtain ⟨h1, r1, p1, f1⟩ := s_Machine_pop hm
        refine Er_inv1 (q' := a) (ci := 4) (av := []) (rest := []) rfl rfl ⟨Nat.le_of_ble_eq_true rfl, Nat.le_of_ble_eq_true rfl⟩ rfl rfl (QM_is hm).1 r1 ?_
        refine Er_run 3 (pc' := bif !decide ((lg_cmp ((jq_pop q).1) ((0 : Int64))) = 0) then 105 else 100) (ls' := [some (.ref a), some (.int (Int32.ofNat 16)), some (.long c), none, some (.int (Int32.ofNat t))]) (st' := []) rfl ?_
        refine Er_pc (t := 100) (show (bif !decide ((lg_cmp ((jq_pop q).1) ((0 : Int64))) = 0) then 105 else 100) = 100 from by rw [show (!decide ((lg_cmp ((jq_pop q).1) ((0 : Int64))) = 0)) = false from by rw [jx_cmp0, decide_eq_true hl]; rfl]; rfl) ?_
        refine Er_run 3 (pc' := 109) (ls' := [some (.ref a), some (.int (Int32.ofNat 16)), some (.long c), none, some (.int (Int32.ofNat t))]) (st' := [.int (Int64.toInt32 c)]) rfl ?_
        refine Er_fin rfl rfl ?_
        rw [show (jq_obey kd ky l en 16 c t q).1 = m from by show (if (jq_pop q).1 = 0 then c.toInt32.toNatClampNeg else t + 1) = m; rw [if_pos hl, hm5, jx_cn (by omega)], hm5]
        exact ⟨rfl, p1, f1⟩
      · skip
        show Ev 52 0 [some (.ref a), some (.int (Int32.ofNat 16)), some (.long c), none, some (.int (Int32.ofNat t))] [] h _
        refine Er_run 3 (pc' := 92) (ls' := [some (.ref a), some (.int (Int32.ofNat 16)), some (.long c), none, some (.int (Int32.ofNat t))]) (st' := [.ref a]) rfl ?_
        obtain ⟨h1, r1, p1, f1⟩ := s_Machine_pop hm
        refine Er_inv1 (q' := a) (ci := 4) (av := []) (rest := []) rfl rfl ⟨Nat.le_of_ble_eq_true rfl, Nat.le_of_ble_eq_true rfl⟩ rfl rfl (QM_is hm).1 r1 ?_
        refine Er_run 3 (pc' := bif !decide ((lg_cmp ((jq_pop q).1) ((0 : Int64))) = 0) then 105 else 100) (ls' := [some (.ref a), some (.int (Int32.ofNat 16)), some (.long c), none, some (.int (Int32.ofNat t))]) (st' := []) rfl ?_
        refine Er_pc (t := 105) (show (bif !decide ((lg_cmp ((jq_pop q).1) ((0 : Int64))) = 0) then 105 else 100) = 105 from by rw [show (!decide ((lg_cmp ((jq_pop q).1) ((0 : Int64))) = 0)) = true from by rw [jx_cmp0, decide_eq_false hl]; rfl]; rfl) ?_
        refine Er_run 3 (pc' := 109) (ls' := [some (.ref a), some (.int (Int32.ofNat 16)), some (.long c), none, some (.int (Int32.ofNat t))]) (st' := [.int ((Int32.ofNat t) + ((1 : Int32)))]) rfl ?_
        refine Er_fin rfl rfl ?_
        rw [show (jq_obey kd ky l en 16 c t q).1 = t + 1 from by show (if (jq_pop q).1 = 0 then c.toInt32.toNatClampNeg else t + 1) = t + 1; rw [if_neg hl], jx_s1]
        exact ⟨rfl, p1, f1⟩
    · skip
      show Ev 52 0 [some (.ref a), some (.int (Int32.ofNat 17)), some (.long c), none, some (.int (Int32.ofNat t))] [] h _
      refine Er_run 3 (pc' := 111) (ls' := [some (.ref a), some (.int (Int32.ofNat 17)), some (.long c), none, some (.int (Int32.ofNat t))]) (st' := [.ref a]) rfl ?_
      obtain ⟨h1, r1, p1, f1⟩ := s_Machine_emit hm
      refine Er_inv0 (q' := a) (ci := 4) (av := []) (rest := []) rfl rfl ⟨Nat.le_of_ble_eq_true rfl, Nat.le_of_ble_eq_true rfl⟩ rfl rfl (QM_is hm).1 r1 ?_
      refine Er_run 3 (pc' := 118) (ls' := [some (.ref a), some (.int (Int32.ofNat 17)), some (.long c), none, some (.int (Int32.ofNat t))]) (st' := [.int ((Int32.ofNat t) + ((1 : Int32)))]) rfl ?_
      refine Er_fin rfl rfl ?_
      rw [jx_s1]
      exact ⟨rfl, p1, f1⟩
  obtain ⟨r, h', hr, e, hq⟩ := Run_of (Nat.le_of_ble_eq_true rfl) hx
  subst e
  exact ⟨h', hr, hq⟩
theorem jq_push_nx (x : Int64) (q : JQ) : (jq_push x q).2.2.2.2 = q.2.2.2.2 := by rw [jq_push]; split <;> rfl
theorem jq_pop_nx (q : JQ) : (jq_pop q).2.2.2.2.2 = q.2.2.2.2 := by rw [jq_pop]; split <;> rfl
theorem jq_bin_nx (f : Int64 → Int64 → Int64) (q : JQ) : (jq_bin f q).2.2.2.2 = q.2.2.2.2 := by rw [jq_bin, jq_push_nx, jq_pop_nx, jq_pop_nx]
theorem jq_emit_nx (kd : Int32) (ky : Int64) (q : JQ) : (jq_emit kd ky q).2.2.2.2 = q.2.2.2.2 := by
  have h1 : ∀ k v p, (jq_add k v p).2.2.2.2 = p.2.2.2.2 := by intro k v p; rw [jq_add]; split <;> rfl
  have h2 : ∀ p, (jq_of kd ky p).2.2.2.2.2 = p.2.2.2.2 := by intro p; rw [jq_of]; split <;> first | rfl | exact jq_pop_nx p
  rw [jq_emit, h1, h2, jq_pop_nx]
theorem jq_obey_nx {k t : Nat} {c : Int64} (hn : q.2.2.2.2 ≤ en) : (jq_obey kd ky l en k c t q).2.2.2.2.2 ≤ en := by
  have hv : (jq_rv kd l en q).2.2.2.2.2 ≤ en := by
    rw [jq_rv]
    split
    · exact hn
    · split
      · exact hn
      · show q.2.2.2.2 + 1 ≤ en
        omega
  unfold jq_obey
  split
  · rw [jq_push_nx]; exact hn
  · rw [jq_push_nx]; exact hn
  · rw [jq_push_nx]; exact hv
  · rw [jq_push_nx]; exact hn
  · rw [jq_push_nx]; exact hn
  · show (jq_pop q).2.2.2.2.2 ≤ en
    rw [jq_pop_nx]; exact hn
  · rw [jq_bin_nx]; exact hn
  · rw [jq_bin_nx]; exact hn
  · rw [jq_bin_nx]; exact hn
  · have h1 : ∀ x y p, (jq_div x y p).2.2.2.2 = p.2.2.2.2 := by intro x y p; rw [jq_div]; split <;> first | rfl | exact jq_push_nx _ _
    rw [jq_quo, h1, jq_pop_nx, jq_pop_nx]; exact hn
  · rw [jq_bin_nx]; exact hn
  · rw [jq_bin_nx]; exact hn
  · rw [jq_dbl, jq_push_nx, jq_push_nx, jq_pop_nx]; exact hn
  · rw [jq_pop_nx]; exact hn
  · rw [jq_swp, jq_push_nx, jq_push_nx, jq_pop_nx, jq_pop_nx]; exact hn
  · exact hn
  · rw [jq_pop_nx]; exact hn
  · rw [jq_emit_nx]; exact hn

theorem l_fillI {c n : Nat} {x : Int32} (hb : n < 2147483647) : ∀ (k i : Nat) (h : sm_H), i + k = n → sm_at h c 0 = true → (gS h c).2 = n → (∀ j, j < i → gI h c j = x) → Ev 200 5 [some (.ref c), some (.int x), some (.int (Int32.ofNat i)), some (.int (Int32.ofNat n))] [] h (fun r h1 => r = .inl none ∧ (∀ j, j < n → gI h1 c j = x) ∧ Fr c (c + 1) h h1) := by
  intro k
  induction k with
  | zero =>
    intro i h hk hq hn hd
    have hi : i = n := by omega
    subst hi
    refine Er_run 3 (pc' := bif decide ((Int32.ofNat i) ≤ (Int32.ofNat i)) then 20 else 10) (ls' := [some (.ref c), some (.int x), some (.int (Int32.ofNat i)), some (.int (Int32.ofNat i))]) (st' := []) rfl ?_
    refine Er_pc (t := 20) (show (bif decide ((Int32.ofNat i) ≤ (Int32.ofNat i)) then 20 else 10) = 20 from by rw [show (decide ((Int32.ofNat i) ≤ (Int32.ofNat i))) = true from by rw [jx_le (by omega) (by omega)]; exact decide_eq_true (by omega)]; rfl) ?_
    exact Er_fin rfl rfl ⟨rfl, hd, Fr.refl _ _ _⟩
  | succ k ih =>
    intro i h hk hq hn hd
    refine Er_run 3 (pc' := bif decide ((Int32.ofNat n) ≤ (Int32.ofNat i)) then 20 else 10) (ls' := [some (.ref c), some (.int x), some (.int (Int32.ofNat i)), some (.int (Int32.ofNat n))]) (st' := []) rfl ?_
    refine Er_pc (t := 10) (show (bif decide ((Int32.ofNat n) ≤ (Int32.ofNat i)) then 20 else 10) = 10 from by rw [show (decide ((Int32.ofNat n) ≤ (Int32.ofNat i))) = false from by rw [jx_le (by omega) (by omega)]; exact decide_eq_false (by omega)]; rfl) ?_
    refine Er_run 3 (pc' := 13) (ls' := [some (.ref c), some (.int x), some (.int (Int32.ofNat i)), some (.int (Int32.ofNat n))]) (st' := [.int x, .int (Int32.ofNat i), .ref c]) rfl ?_
    refine Er_iast rfl hq (by rw [hn]; exact sm_in_of (by rw [sm_ofNat_toInt (by omega)]; omega) (by rw [sm_ofNat_toInt (by omega)]; omega)) ?_
    refine Er_run 2 (pc' := 5) (ls' := [some (.ref c), some (.int x), some (.int ((Int32.ofNat i) + (1 : Int32))), some (.int (Int32.ofNat n))]) (st' := []) rfl ?_
    rw [jx_s1]
    refine sm_Ev.mono (ih (i + 1) (setI h c (Int32.ofNat i).toNatClampNeg x) (by omega) hq hn ?_) (fun r h2 y => ⟨y.1, y.2.1, (Fr.setI (by omega) (by omega)).trans y.2.2⟩)
    intro j hj
    rw [jx_cn (by omega), gI_set]
    by_cases e : j = i
    · rw [if_pos ⟨rfl, e⟩]
    · rw [if_neg (fun y => e y.2)]; exact hd j (by omega)
theorem s_fillI {c n : Nat} {x : Int32} (hb : n < 2147483647) (hq : sm_at h c 0 = true) (hn : (gS h c).2 = n) : ∃ h', Run 200 [.ref c, .int x] h (.inl none) h' ∧ (∀ j, j < n → gI h' c j = x) ∧ Fr c (c + 1) h h' := by
  have hx : Ev 200 0 (sm_pad (sm_ent [.ref c, .int x]) (sm_prog.2.1 200)) [] h (fun r h1 => r = .inl none ∧ (∀ j, j < n → gI h1 c j = x) ∧ Fr c (c + 1) h h1) := by
    show Ev 200 0 [some (.ref c), some (.int x), none, none] [] h _
    refine Er_run 3 (pc' := 3) (ls' := [some (.ref c), some (.int x), some (.int ((0 : Int32))), none]) (st' := [.ref c]) rfl ?_
    refine Er_alen (k := 0) rfl hq (by decide) hn ?_
    refine Er_run 1 (pc' := 5) (ls' := [some (.ref c), some (.int x), some (.int ((0 : Int32))), some (.int (Int32.ofNat n))]) (st' := []) rfl ?_
    exact l_fillI hb n 0 h (by omega) hq hn (fun j hj => absurd hj (by omega))
  obtain ⟨r, h', hr, e, hq⟩ := Run_of (Nat.le_of_ble_eq_true rfl) hx
  subst e
  exact ⟨h', hr, hq⟩
theorem l_fillL {c n : Nat} {x : Int64} (hb : n < 2147483647) : ∀ (k i : Nat) (h : sm_H), i + k = n → sm_at h c 1 = true → (gS h c).2 = n → (∀ j, j < i → gL h c j = x) → Ev 201 6 [some (.ref c), some (.long x), none, some (.int (Int32.ofNat i)), some (.int (Int32.ofNat n))] [] h (fun r h1 => r = .inl none ∧ (∀ j, j < n → gL h1 c j = x) ∧ Fr c (c + 1) h h1) := by
  intro k
  induction k with
  | zero =>
    intro i h hk hq hn hd
    have hi : i = n := by omega
    subst hi
    refine Er_run 3 (pc' := bif decide ((Int32.ofNat i) ≤ (Int32.ofNat i)) then 22 else 12) (ls' := [some (.ref c), some (.long x), none, some (.int (Int32.ofNat i)), some (.int (Int32.ofNat i))]) (st' := []) rfl ?_
    refine Er_pc (t := 22) (show (bif decide ((Int32.ofNat i) ≤ (Int32.ofNat i)) then 22 else 12) = 22 from by rw [show (decide ((Int32.ofNat i) ≤ (Int32.ofNat i))) = true from by rw [jx_le (by omega) (by omega)]; exact decide_eq_true (by omega)]; rfl) ?_
    exact Er_fin rfl rfl ⟨rfl, hd, Fr.refl _ _ _⟩
  | succ k ih =>
    intro i h hk hq hn hd
    refine Er_run 3 (pc' := bif decide ((Int32.ofNat n) ≤ (Int32.ofNat i)) then 22 else 12) (ls' := [some (.ref c), some (.long x), none, some (.int (Int32.ofNat i)), some (.int (Int32.ofNat n))]) (st' := []) rfl ?_
    refine Er_pc (t := 12) (show (bif decide ((Int32.ofNat n) ≤ (Int32.ofNat i)) then 22 else 12) = 12 from by rw [show (decide ((Int32.ofNat n) ≤ (Int32.ofNat i))) = false from by rw [jx_le (by omega) (by omega)]; exact decide_eq_false (by omega)]; rfl) ?_
    refine Er_run 3 (pc' := 15) (ls' := [some (.ref c), some (.long x), none, some (.int (Int32.ofNat i)), some (.int (Int32.ofNat n))]) (st' := [.long x, .int (Int32.ofNat i), .ref c]) rfl ?_
    refine Er_last rfl hq (by rw [hn]; exact sm_in_of (by rw [sm_ofNat_toInt (by omega)]; omega) (by rw [sm_ofNat_toInt (by omega)]; omega)) ?_
    refine Er_run 2 (pc' := 6) (ls' := [some (.ref c), some (.long x), none, some (.int ((Int32.ofNat i) + (1 : Int32))), some (.int (Int32.ofNat n))]) (st' := []) rfl ?_
    rw [jx_s1]
    refine sm_Ev.mono (ih (i + 1) (setL h c (Int32.ofNat i).toNatClampNeg x) (by omega) hq hn ?_) (fun r h2 y => ⟨y.1, y.2.1, (Fr.setL (by omega) (by omega)).trans y.2.2⟩)
    intro j hj
    rw [jx_cn (by omega), gL_set]
    by_cases e : j = i
    · rw [if_pos ⟨rfl, e⟩]
    · rw [if_neg (fun y => e y.2)]; exact hd j (by omega)
theorem s_fillL {c n : Nat} {x : Int64} (hb : n < 2147483647) (hq : sm_at h c 1 = true) (hn : (gS h c).2 = n) : ∃ h', Run 201 [.ref c, .long x] h (.inl none) h' ∧ (∀ j, j < n → gL h' c j = x) ∧ Fr c (c + 1) h h' := by
  have hx : Ev 201 0 (sm_pad (sm_ent [.ref c, .long x]) (sm_prog.2.1 201)) [] h (fun r h1 => r = .inl none ∧ (∀ j, j < n → gL h1 c j = x) ∧ Fr c (c + 1) h h1) := by
    show Ev 201 0 [some (.ref c), some (.long x), none, none, none] [] h _
    refine Er_run 3 (pc' := 3) (ls' := [some (.ref c), some (.long x), none, some (.int ((0 : Int32))), none]) (st' := [.ref c]) rfl ?_
    refine Er_alen (k := 1) rfl hq (by decide) hn ?_
    refine Er_run 1 (pc' := 6) (ls' := [some (.ref c), some (.long x), none, some (.int ((0 : Int32))), some (.int (Int32.ofNat n))]) (st' := []) rfl ?_
    exact l_fillL hb n 0 h (by omega) hq hn (fun j hj => absurd hj (by omega))
  obtain ⟨r, h', hr, e, hq⟩ := Run_of (Nat.le_of_ble_eq_true rfl) hx
  subst e
  exact ⟨h', hr, hq⟩
end MACHD
