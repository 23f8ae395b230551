section MACHE
variable {h : sm_H} {a g : Nat} {kd : Int32} {ky : Int64} {rw en : Nat} {q : JQ} {n : Nat} {l : List (Int64 × Int64)} {pg : List (Int32 × Int64)}
/-- a PROGRAM as code lets it through -/
def jq_ok (pg : List (Int32 × Int64)) : Prop := ∀ p, p ∈ pg → ∃ k, k < 19 ∧ p.1 = Int32.ofNat k ∧ jq_arg k p.2
def jq_loop (pg : List (Int32 × Int64)) (kd : Int32) (ky : Int64) (l : List (Int64 × Int64)) (en : Nat) : Nat → Nat → JQ → Bool × JQ
  | 0, t, q => (decide (pg.length ≤ t), q)
  | f + 1, t, q => match pg[t]? with
    | none => (true, q)
    | some p => if p.1 = 18 then (true, q) else if (jq_obey kd ky l en p.1.toNatClampNeg p.2 t q).2.2.1 then (false, (jq_obey kd ky l en p.1.toNatClampNeg p.2 t q).2) else jq_loop pg kd ky l en f (jq_obey kd ky l en p.1.toNatClampNeg p.2 t q).1 (jq_obey kd ky l en p.1.toNatClampNeg p.2 t q).2
theorem jq_obey_t {k t : Nat} {c : Int64} (hc : jq_arg k c) (ht : t < 1000) : (jq_obey kd ky l en k c t q).1 < t + 41 := by
  unfold jq_obey
  split
  all_goals first
    | (show t + 1 < t + 41; omega)
    | skip
  · obtain ⟨m, hm, e⟩ := hc.2 (Or.inl rfl)
    show c.toInt32.toNatClampNeg < _
    rw [e, jx_cn (by omega)]; omega
  · obtain ⟨m, hm, e⟩ := hc.2 (Or.inr rfl)
    show (if (jq_pop q).1 = 0 then c.toInt32.toNatClampNeg else t + 1) < _
    split
    · rw [e, jx_cn (by omega)]; omega
    · omega

theorem l_Machine_call {x4 x5 : Int32} (he : en < 2147483647) (hok : jq_ok pg) (hdg : g + 3 ≤ a ∨ a + 6 ≤ g) (hdr : rw + 3 ≤ a ∨ a + 6 ≤ rw) : ∀ (f t d : Nat) (q : JQ) (h : sm_H) (x8 : Option Value), d + f = 400 → t ≤ 80 → QM h a kd ky rw en q → q.2.1 = false → GL h g pg → PL h rw n l → q.2.2.2.2 ≤ en → Ev 51 63 [some (.ref a), some (.ref g), some (.int kd), some (.ref rw), some (.int x4), some (.int x5), some (.int (Int32.ofNat t)), some (.int (Int32.ofNat d)), x8] [] h (fun r h1 => r = .inl (some (.int (if (jq_loop pg kd ky l en f t q).1 = true then 1 else 0))) ∧ QM h1 a kd ky rw en (jq_loop pg kd ky l en f t q).2 ∧ Fr a (a + 6) h h1) := by
  intro f
  induction f with
  | zero =>
    intro t d q h x8 hd ht hm htr hg hr hn
    have hgl := hg.2.1
    by_cases hl : pg.length ≤ t
    · skip
      refine Er_run 3 (pc' := bif decide (((400 : Int32)) ≤ (Int32.ofNat d)) then 128 else 71) (ls' := [some (.ref a), some (.ref g), some (.int kd), some (.ref rw), some (.int x4), some (.int x5), some (.int (Int32.ofNat t)), some (.int (Int32.ofNat d)), x8]) (st' := []) rfl ?_
      refine Er_pc (t := 128) (show (bif decide (((400 : Int32)) ≤ (Int32.ofNat d)) then 128 else 71) = 128 from by rw [show (decide (((400 : Int32)) ≤ (Int32.ofNat d))) = true from by rw [show (400 : Int32) = Int32.ofNat 400 from rfl, jx_le (by omega) (by omega)]; exact decide_eq_true (by omega)]; rfl) ?_
      refine Er_run 2 (pc' := 131) (ls' := [some (.ref a), some (.ref g), some (.int kd), some (.ref rw), some (.int x4), some (.int x5), some (.int (Int32.ofNat t)), some (.int (Int32.ofNat d)), x8]) (st' := [.ref g, .int (Int32.ofNat t)]) rfl ?_
      refine Er_inv1 (q' := g) (ci := 1) (av := []) (rest := [.int (Int32.ofNat t)]) rfl rfl ⟨Nat.le_of_ble_eq_true rfl, Nat.le_of_ble_eq_true rfl⟩ rfl rfl hg.1.1 (s_Program_length hg) ?_
      refine Er_run 1 (pc' := bif decide ((Int32.ofNat t) < (Int32.ofNat pg.length)) then 141 else 137) (ls' := [some (.ref a), some (.ref g), some (.int kd), some (.ref rw), some (.int x4), some (.int x5), some (.int (Int32.ofNat t)), some (.int (Int32.ofNat d)), x8]) (st' := []) rfl ?_
      refine Er_pc (t := 137) (show (bif decide ((Int32.ofNat t) < (Int32.ofNat pg.length)) then 141 else 137) = 137 from by rw [show (decide ((Int32.ofNat t) < (Int32.ofNat pg.length))) = false from by rw [jx_lt (by omega) (by omega)]; exact decide_eq_false (by omega)]; rfl) ?_
      refine Er_run 2 (pc' := 142) (ls' := [some (.ref a), some (.ref g), some (.int kd), some (.ref rw), some (.int x4), some (.int x5), some (.int (Int32.ofNat t)), some (.int (Int32.ofNat d)), x8]) (st' := [.int ((1 : Int32))]) rfl ?_
      refine Er_fin rfl rfl ?_
      rw [jq_loop, decide_eq_true (by omega)]
      exact ⟨rfl, hm, Fr.refl _ _ _⟩
    · skip
      refine Er_run 3 (pc' := bif decide (((400 : Int32)) ≤ (Int32.ofNat d)) then 128 else 71) (ls' := [some (.ref a), some (.ref g), some (.int kd), some (.ref rw), some (.int x4), some (.int x5), some (.int (Int32.ofNat t)), some (.int (Int32.ofNat d)), x8]) (st' := []) rfl ?_
      refine Er_pc (t := 128) (show (bif decide (((400 : Int32)) ≤ (Int32.ofNat d)) then 128 else 71) = 128 from by rw [show (decide (((400 : Int32)) ≤ (Int32.ofNat d))) = true from by rw [show (400 : Int32) = Int32.ofNat 400 from rfl, jx_le (by omega) (by omega)]; exact decide_eq_true (by omega)]; rfl) ?_
      refine Er_run 2 (pc' := 131) (ls' := [some (.ref a), some (.ref g), some (.int kd), some (.ref rw), some (.int x4), some (.int x5), some (.int (Int32.ofNat t)), some (.int (Int32.ofNat d)), x8]) (st' := [.ref g, .int (Int32.ofNat t)]) rfl ?_
      refine Er_inv1 (q' := g) (ci := 1) (av := []) (rest := [.int (Int32.ofNat t)]) rfl rfl ⟨Nat.le_of_ble_eq_true rfl, Nat.le_of_ble_eq_true rfl⟩ rfl rfl hg.1.1 (s_Program_length hg) ?_
      refine Er_run 1 (pc' := bif decide ((Int32.ofNat t) < (Int32.ofNat pg.length)) then 141 else 137) (ls' := [some (.ref a), some (.ref g), some (.int kd), some (.ref rw), some (.int x4), some (.int x5), some (.int (Int32.ofNat t)), some (.int (Int32.ofNat d)), x8]) (st' := []) rfl ?_
      refine Er_pc (t := 141) (show (bif decide ((Int32.ofNat t) < (Int32.ofNat pg.length)) then 141 else 137) = 141 from by rw [show (decide ((Int32.ofNat t) < (Int32.ofNat pg.length))) = true from by rw [jx_lt (by omega) (by omega)]; exact decide_eq_true (by omega)]; rfl) ?_
      refine Er_run 1 (pc' := 142) (ls' := [some (.ref a), some (.ref g), some (.int kd), some (.ref rw), some (.int x4), some (.int x5), some (.int (Int32.ofNat t)), some (.int (Int32.ofNat d)), x8]) (st' := [.int ((0 : Int32))]) rfl ?_
      refine Er_fin rfl rfl ?_
      rw [jq_loop, decide_eq_false (by omega)]
      exact ⟨rfl, hm, Fr.refl _ _ _⟩
  | succ f ih =>
    intro t d q h x8 hd ht hm htr hg hr hn
    have hgl := hg.2.1
    cases hp : pg[t]? with
    | none =>
      have hl : pg.length ≤ t := List.getElem?_eq_none_iff.1 hp
      refine Er_run 3 (pc' := bif decide (((400 : Int32)) ≤ (Int32.ofNat d)) then 128 else 71) (ls' := [some (.ref a), some (.ref g), some (.int kd), some (.ref rw), some (.int x4), some (.int x5), some (.int (Int32.ofNat t)), some (.int (Int32.ofNat d)), x8]) (st' := []) rfl ?_
      refine Er_pc (t := 71) (show (bif decide (((400 : Int32)) ≤ (Int32.ofNat d)) then 128 else 71) = 71 from by rw [show (decide (((400 : Int32)) ≤ (Int32.ofNat d))) = false from by rw [show (400 : Int32) = Int32.ofNat 400 from rfl, jx_le (by omega) (by omega)]; exact decide_eq_false (by omega)]; rfl) ?_
      refine Er_run 2 (pc' := 74) (ls' := [some (.ref a), some (.ref g), some (.int kd), some (.ref rw), some (.int x4), some (.int x5), some (.int (Int32.ofNat t)), some (.int (Int32.ofNat d)), x8]) (st' := [.ref g, .int (Int32.ofNat t)]) rfl ?_
      refine Er_inv1 (q' := g) (ci := 1) (av := []) (rest := [.int (Int32.ofNat t)]) rfl rfl ⟨Nat.le_of_ble_eq_true rfl, Nat.le_of_ble_eq_true rfl⟩ rfl rfl hg.1.1 (s_Program_length hg) ?_
      refine Er_run 1 (pc' := bif decide ((Int32.ofNat pg.length) ≤ (Int32.ofNat t)) then 128 else 80) (ls' := [some (.ref a), some (.ref g), some (.int kd), some (.ref rw), some (.int x4), some (.int x5), some (.int (Int32.ofNat t)), some (.int (Int32.ofNat d)), x8]) (st' := []) rfl ?_
      refine Er_pc (t := 128) (show (bif decide ((Int32.ofNat pg.length) ≤ (Int32.ofNat t)) then 128 else 80) = 128 from by rw [show (decide ((Int32.ofNat pg.length) ≤ (Int32.ofNat t))) = true from by rw [jx_le (by omega) (by omega)]; exact decide_eq_true (by omega)]; rfl) ?_
      refine Er_run 2 (pc' := 131) (ls' := [some (.ref a), some (.ref g), some (.int kd), some (.ref rw), some (.int x4), some (.int x5), some (.int (Int32.ofNat t)), some (.int (Int32.ofNat d)), x8]) (st' := [.ref g, .int (Int32.ofNat t)]) rfl ?_
      refine Er_inv1 (q' := g) (ci := 1) (av := []) (rest := [.int (Int32.ofNat t)]) rfl rfl ⟨Nat.le_of_ble_eq_true rfl, Nat.le_of_ble_eq_true rfl⟩ rfl rfl hg.1.1 (s_Program_length hg) ?_
      refine Er_run 1 (pc' := bif decide ((Int32.ofNat t) < (Int32.ofNat pg.length)) then 141 else 137) (ls' := [some (.ref a), some (.ref g), some (.int kd), some (.ref rw), some (.int x4), some (.int x5), some (.int (Int32.ofNat t)), some (.int (Int32.ofNat d)), x8]) (st' := []) rfl ?_
      refine Er_pc (t := 137) (show (bif decide ((Int32.ofNat t) < (Int32.ofNat pg.length)) then 141 else 137) = 137 from by rw [show (decide ((Int32.ofNat t) < (Int32.ofNat pg.length))) = false from by rw [jx_lt (by omega) (by omega)]; exact decide_eq_false (by omega)]; rfl) ?_
      refine Er_run 2 (pc' := 142) (ls' := [some (.ref a), some (.ref g), some (.int kd), some (.ref rw), some (.int x4), some (.int x5), some (.int (Int32.ofNat t)), some (.int (Int32.ofNat d)), x8]) (st' := [.int ((1 : Int32))]) rfl ?_
      refine Er_fin rfl rfl ?_
      rw [jq_loop, hp]
      exact ⟨rfl, hm, Fr.refl _ _ _⟩
    | some p =>
      have hl : t < pg.length := (List.getElem?_eq_some_iff.1 hp).1
      by_cases h18 : p.1 = 18
      · skip
        refine Er_run 3 (pc' := bif decide (((400 : Int32)) ≤ (Int32.ofNat d)) then 128 else 71) (ls' := [some (.ref a), some (.ref g), some (.int kd), some (.ref rw), some (.int x4), some (.int x5), some (.int (Int32.ofNat t)), some (.int (Int32.ofNat d)), x8]) (st' := []) rfl ?_
        refine Er_pc (t := 71) (show (bif decide (((400 : Int32)) ≤ (Int32.ofNat d)) then 128 else 71) = 71 from by rw [show (decide (((400 : Int32)) ≤ (Int32.ofNat d))) = false from by rw [show (400 : Int32) = Int32.ofNat 400 from rfl, jx_le (by omega) (by omega)]; exact decide_eq_false (by omega)]; rfl) ?_
        refine Er_run 2 (pc' := 74) (ls' := [some (.ref a), some (.ref g), some (.int kd), some (.ref rw), some (.int x4), some (.int x5), some (.int (Int32.ofNat t)), some (.int (Int32.ofNat d)), x8]) (st' := [.ref g, .int (Int32.ofNat t)]) rfl ?_
        refine Er_inv1 (q' := g) (ci := 1) (av := []) (rest := [.int (Int32.ofNat t)]) rfl rfl ⟨Nat.le_of_ble_eq_true rfl, Nat.le_of_ble_eq_true rfl⟩ rfl rfl hg.1.1 (s_Program_length hg) ?_
        refine Er_run 1 (pc' := bif decide ((Int32.ofNat pg.length) ≤ (Int32.ofNat t)) then 128 else 80) (ls' := [some (.ref a), some (.ref g), some (.int kd), some (.ref rw), some (.int x4), some (.int x5), some (.int (Int32.ofNat t)), some (.int (Int32.ofNat d)), x8]) (st' := []) rfl ?_
        refine Er_pc (t := 80) (show (bif decide ((Int32.ofNat pg.length) ≤ (Int32.ofNat t)) then 128 else 80) = 80 from by rw [show (decide ((Int32.ofNat pg.length) ≤ (Int32.ofNat t))) = false from by rw [jx_le (by omega) (by omega)]; exact decide_eq_false (by omega)]; rfl) ?_
        refine Er_run 2 (pc' := 83) (ls' := [some (.ref a), some (.ref g), some (.int kd), some (.ref rw), some (.int x4), some (.int x5), some (.int (Int32.ofNat t)), some (.int (Int32.ofNat d)), x8]) (st' := [.int (Int32.ofNat t), .ref g]) rfl ?_
        refine Er_inv1 (q' := g) (ci := 1) (av := [.int (Int32.ofNat t)]) (rest := []) rfl rfl ⟨Nat.le_of_ble_eq_true rfl, Nat.le_of_ble_eq_true rfl⟩ rfl rfl hg.1.1 (s_Program_op hg hp) ?_
        refine Er_run 4 (pc' := bif !decide (p.1 = ((18 : Int32))) then 97 else 95) (ls' := [some (.ref a), some (.ref g), some (.int kd), some (.ref rw), some (.int x4), some (.int x5), some (.int (Int32.ofNat t)), some (.int (Int32.ofNat d)), some (.int (p.1))]) (st' := []) rfl ?_
        refine Er_pc (t := 95) (show (bif !decide (p.1 = ((18 : Int32))) then 97 else 95) = 95 from by rw [show (!decide (p.1 = ((18 : Int32)))) = false from by rw [decide_eq_true h18]; rfl]; rfl) ?_
        refine Er_run 1 (pc' := 96) (ls' := [some (.ref a), some (.ref g), some (.int kd), some (.ref rw), some (.int x4), some (.int x5), some (.int (Int32.ofNat t)), some (.int (Int32.ofNat d)), some (.int (p.1))]) (st' := [.int ((1 : Int32))]) rfl ?_
        refine Er_fin rfl rfl ?_
        rw [jq_loop, hp]
        show _ = Sum.inl (some (Value.int (if (if p.1 = 18 then _ else _ : Bool × JQ).1 = true then _ else _))) ∧ QM _ _ _ _ _ _ (if p.1 = 18 then _ else _ : Bool × JQ).2 ∧ _
        rw [if_pos h18]
        exact ⟨rfl, hm, Fr.refl _ _ _⟩
      · obtain ⟨k, hk19, hpk, hc⟩ := hok p (List.mem_of_getElem? hp)
        have hk : k < 18 := by
          rcases Nat.lt_or_ge k 18 with x | x
          · exact x
          · exfalso; apply h18; rw [hpk, show k = 18 from by omega]; rfl
        have hkn : p.1.toNatClampNeg = k := by rw [hpk, jx_cn (by omega)]
        have hlt := jq_obey_t (kd := kd) (ky := ky) (l := l) (en := en) (q := q) hc (show t < 1000 by omega)
        cases htr : (jq_obey kd ky l en k p.2 t q).2.2.1 with
        | true =>
          have hlp : jq_loop pg kd ky l en (f + 1) t q = (false, (jq_obey kd ky l en k p.2 t q).2) := by rw [jq_loop, hp]; simp only [h18, hkn, htr, if_true, if_false]
          refine Er_run 3 (pc' := bif decide (((400 : Int32)) ≤ (Int32.ofNat d)) then 128 else 71) (ls' := [some (.ref a), some (.ref g), some (.int kd), some (.ref rw), some (.int x4), some (.int x5), some (.int (Int32.ofNat t)), some (.int (Int32.ofNat d)), x8]) (st' := []) rfl ?_
          refine Er_pc (t := 71) (show (bif decide (((400 : Int32)) ≤ (Int32.ofNat d)) then 128 else 71) = 71 from by rw [show (decide (((400 : Int32)) ≤ (Int32.ofNat d))) = false from by rw [show (400 : Int32) = Int32.ofNat 400 from rfl, jx_le (by omega) (by omega)]; exact decide_eq_false (by omega)]; rfl) ?_
          refine Er_run 2 (pc' := 74) (ls' := [some (.ref a), some (.ref g), some (.int kd), some (.ref rw), some (.int x4), some (.int x5), some (.int (Int32.ofNat t)), some (.int (Int32.ofNat d)), x8]) (st' := [.ref g, .int (Int32.ofNat t)]) rfl ?_
          refine Er_inv1 (q' := g) (ci := 1) (av := []) (rest := [.int (Int32.ofNat t)]) rfl rfl ⟨Nat.le_of_ble_eq_true rfl, Nat.le_of_ble_eq_true rfl⟩ rfl rfl hg.1.1 (s_Program_length hg) ?_
          refine Er_run 1 (pc' := bif decide ((Int32.ofNat pg.length) ≤ (Int32.ofNat t)) then 128 else 80) (ls' := [some (.ref a), some (.ref g), some (.int kd), some (.ref rw), some (.int x4), some (.int x5), some (.int (Int32.ofNat t)), some (.int (Int32.ofNat d)), x8]) (st' := []) rfl ?_
          refine Er_pc (t := 80) (show (bif decide ((Int32.ofNat pg.length) ≤ (Int32.ofNat t)) then 128 else 80) = 80 from by rw [show (decide ((Int32.ofNat pg.length) ≤ (Int32.ofNat t))) = false from by rw [jx_le (by omega) (by omega)]; exact decide_eq_false (by omega)]; rfl) ?_
          refine Er_run 2 (pc' := 83) (ls' := [some (.ref a), some (.ref g), some (.int kd), some (.ref rw), some (.int x4), some (.int x5), some (.int (Int32.ofNat t)), some (.int (Int32.ofNat d)), x8]) (st' := [.int (Int32.ofNat t), .ref g]) rfl ?_
          refine Er_inv1 (q' := g) (ci := 1) (av := [.int (Int32.ofNat t)]) (rest := []) rfl rfl ⟨Nat.le_of_ble_eq_true rfl, Nat.le_of_ble_eq_true rfl⟩ rfl rfl hg.1.1 (s_Program_op hg hp) ?_
          refine Er_run 4 (pc' := bif !decide (p.1 = ((18 : Int32))) then 97 else 95) (ls' := [some (.ref a), some (.ref g), some (.int kd), some (.ref rw), some (.int x4), some (.int x5), some (.int (Int32.ofNat t)), some (.int (Int32.ofNat d)), some (.int (p.1))]) (st' := []) rfl ?_
          refine Er_pc (t := 97) (show (bif !decide (p.1 = ((18 : Int32))) then 97 else 95) = 97 from by rw [show (!decide (p.1 = ((18 : Int32)))) = true from by rw [decide_eq_false h18]; rfl]; rfl) ?_
          refine Er_run 4 (pc' := 103) (ls' := [some (.ref a), some (.ref g), some (.int kd), some (.ref rw), some (.int x4), some (.int x5), some (.int (Int32.ofNat t)), some (.int (Int32.ofNat d)), some (.int (p.1))]) (st' := [.int (Int32.ofNat t), .ref g, .int (p.1), .ref a]) rfl ?_
          refine Er_inv1 (q' := g) (ci := 1) (av := [.int (Int32.ofNat t)]) (rest := [.int (p.1), .ref a]) rfl rfl ⟨Nat.le_of_ble_eq_true rfl, Nat.le_of_ble_eq_true rfl⟩ rfl rfl hg.1.1 (s_Program_arg hg hp) ?_
          refine Er_run 1 (pc' := 108) (ls' := [some (.ref a), some (.ref g), some (.int kd), some (.ref rw), some (.int x4), some (.int x5), some (.int (Int32.ofNat t)), some (.int (Int32.ofNat d)), some (.int (p.1))]) (st' := [.int (Int32.ofNat t), .long (p.2), .int (p.1), .ref a]) rfl ?_
          obtain ⟨h1, r1, p1, f1⟩ := s_Machine_obey (k := k) (t := t) (c := p.2) hk hc hr hn he hm
          refine Er_inv1 (q' := a) (ci := 4) (av := [.int (p.1), .long (p.2), .int (Int32.ofNat t)]) (rest := []) rfl rfl ⟨Nat.le_of_ble_eq_true rfl, Nat.le_of_ble_eq_true rfl⟩ rfl rfl (QM_is hm).1 (by rw [hpk]; exact r1) ?_
          refine Er_run 2 (pc' := 114) (ls' := [some (.ref a), some (.ref g), some (.int kd), some (.ref rw), some (.int x4), some (.int x5), some (.int (Int32.ofNat (jq_obey kd ky l en k p.2 t q).1)), some (.int (Int32.ofNat d)), some (.int (p.1))]) (st' := [.ref a]) rfl ?_
          refine Er_getI (v := (if (jq_obey kd ky l en k p.2 t q).2.2.1 then (1 : Int32) else 0)) rfl (QM_is p1).1 (QM_f p1).1 ?_
          refine Er_run 1 (pc' := bif decide (((if (jq_obey kd ky l en k p.2 t q).2.2.1 then (1 : Int32) else 0)) = 0) then 122 else 120) (ls' := [some (.ref a), some (.ref g), some (.int kd), some (.ref rw), some (.int x4), some (.int x5), some (.int (Int32.ofNat (jq_obey kd ky l en k p.2 t q).1)), some (.int (Int32.ofNat d)), some (.int (p.1))]) (st' := []) rfl ?_
          refine Er_pc (t := 120) (show (bif decide (((if (jq_obey kd ky l en k p.2 t q).2.2.1 then (1 : Int32) else 0)) = 0) then 122 else 120) = 120 from by rw [show (decide (((if (jq_obey kd ky l en k p.2 t q).2.2.1 then (1 : Int32) else 0)) = 0)) = false from by rw [htr]; rfl]; rfl) ?_
          refine Er_run 1 (pc' := 121) (ls' := [some (.ref a), some (.ref g), some (.int kd), some (.ref rw), some (.int x4), some (.int x5), some (.int (Int32.ofNat (jq_obey kd ky l en k p.2 t q).1)), some (.int (Int32.ofNat d)), some (.int (p.1))]) (st' := [.int ((0 : Int32))]) rfl ?_
          refine Er_fin rfl rfl ?_
          rw [hlp]
          exact ⟨rfl, p1, f1⟩
        | false =>
          have hlp : jq_loop pg kd ky l en (f + 1) t q = jq_loop pg kd ky l en f (jq_obey kd ky l en k p.2 t q).1 (jq_obey kd ky l en k p.2 t q).2 := by rw [jq_loop, hp]; simp [h18, hkn, htr]
          refine Er_run 3 (pc' := bif decide (((400 : Int32)) ≤ (Int32.ofNat d)) then 128 else 71) (ls' := [some (.ref a), some (.ref g), some (.int kd), some (.ref rw), some (.int x4), some (.int x5), some (.int (Int32.ofNat t)), some (.int (Int32.ofNat d)), x8]) (st' := []) rfl ?_
          refine Er_pc (t := 71) (show (bif decide (((400 : Int32)) ≤ (Int32.ofNat d)) then 128 else 71) = 71 from by rw [show (decide (((400 : Int32)) ≤ (Int32.ofNat d))) = false from by rw [show (400 : Int32) = Int32.ofNat 400 from rfl, jx_le (by omega) (by omega)]; exact decide_eq_false (by omega)]; rfl) ?_
          refine Er_run 2 (pc' := 74) (ls' := [some (.ref a), some (.ref g), some (.int kd), some (.ref rw), some (.int x4), some (.int x5), some (.int (Int32.ofNat t)), some (.int (Int32.ofNat d)), x8]) (st' := [.ref g, .int (Int32.ofNat t)]) rfl ?_
          refine Er_inv1 (q' := g) (ci := 1) (av := []) (rest := [.int (Int32.ofNat t)]) rfl rfl ⟨Nat.le_of_ble_eq_true rfl, Nat.le_of_ble_eq_true rfl⟩ rfl rfl hg.1.1 (s_Program_length hg) ?_
          refine Er_run 1 (pc' := bif decide ((Int32.ofNat pg.length) ≤ (Int32.ofNat t)) then 128 else 80) (ls' := [some (.ref a), some (.ref g), some (.int kd), some (.ref rw), some (.int x4), some (.int x5), some (.int (Int32.ofNat t)), some (.int (Int32.ofNat d)), x8]) (st' := []) rfl ?_
          refine Er_pc (t := 80) (show (bif decide ((Int32.ofNat pg.length) ≤ (Int32.ofNat t)) then 128 else 80) = 80 from by rw [show (decide ((Int32.ofNat pg.length) ≤ (Int32.ofNat t))) = false from by rw [jx_le (by omega) (by omega)]; exact decide_eq_false (by omega)]; rfl) ?_
          refine Er_run 2 (pc' := 83) (ls' := [some (.ref a), some (.ref g), some (.int kd), some (.ref rw), some (.int x4), some (.int x5), some (.int (Int32.ofNat t)), some (.int (Int32.ofNat d)), x8]) (st' := [.int (Int32.ofNat t), .ref g]) rfl ?_
          refine Er_inv1 (q' := g) (ci := 1) (av := [.int (Int32.ofNat t)]) (rest := []) rfl rfl ⟨Nat.le_of_ble_eq_true rfl, Nat.le_of_ble_eq_true rfl⟩ rfl rfl hg.1.1 (s_Program_op hg hp) ?_
          refine Er_run 4 (pc' := bif !decide (p.1 = ((18 : Int32))) then 97 else 95) (ls' := [some (.ref a), some (.ref g), some (.int kd), some (.ref rw), some (.int x4), some (.int x5), some (.int (Int32.ofNat t)), some (.int (Int32.ofNat d)), some (.int (p.1))]) (st' := []) rfl ?_
          refine Er_pc (t := 97) (show (bif !decide (p.1 = ((18 : Int32))) then 97 else 95) = 97 from by rw [show (!decide (p.1 = ((18 : Int32)))) = true from by rw [decide_eq_false h18]; rfl]; rfl) ?_
          refine Er_run 4 (pc' := 103) (ls' := [some (.ref a), some (.ref g), some (.int kd), some (.ref rw), some (.int x4), some (.int x5), some (.int (Int32.ofNat t)), some (.int (Int32.ofNat d)), some (.int (p.1))]) (st' := [.int (Int32.ofNat t), .ref g, .int (p.1), .ref a]) rfl ?_
          refine Er_inv1 (q' := g) (ci := 1) (av := [.int (Int32.ofNat t)]) (rest := [.int (p.1), .ref a]) rfl rfl ⟨Nat.le_of_ble_eq_true rfl, Nat.le_of_ble_eq_true rfl⟩ rfl rfl hg.1.1 (s_Program_arg hg hp) ?_
          refine Er_run 1 (pc' := 108) (ls' := [some (.ref a), some (.ref g), some (.int kd), some (.ref rw), some (.int x4), some (.int x5), some (.int (Int32.ofNat t)), some (.int (Int32.ofNat d)), some (.int (p.1))]) (st' := [.int (Int32.ofNat t), .long (p.2), .int (p.1), .ref a]) rfl ?_
          obtain ⟨h1, r1, p1, f1⟩ := s_Machine_obey (k := k) (t := t) (c := p.2) hk hc hr hn he hm
          refine Er_inv1 (q' := a) (ci := 4) (av := [.int (p.1), .long (p.2), .int (Int32.ofNat t)]) (rest := []) rfl rfl ⟨Nat.le_of_ble_eq_true rfl, Nat.le_of_ble_eq_true rfl⟩ rfl rfl (QM_is hm).1 (by rw [hpk]; exact r1) ?_
          refine Er_run 2 (pc' := 114) (ls' := [some (.ref a), some (.ref g), some (.int kd), some (.ref rw), some (.int x4), some (.int x5), some (.int (Int32.ofNat (jq_obey kd ky l en k p.2 t q).1)), some (.int (Int32.ofNat d)), some (.int (p.1))]) (st' := [.ref a]) rfl ?_
          refine Er_getI (v := (if (jq_obey kd ky l en k p.2 t q).2.2.1 then (1 : Int32) else 0)) rfl (QM_is p1).1 (QM_f p1).1 ?_
          refine Er_run 1 (pc' := bif decide (((if (jq_obey kd ky l en k p.2 t q).2.2.1 then (1 : Int32) else 0)) = 0) then 122 else 120) (ls' := [some (.ref a), some (.ref g), some (.int kd), some (.ref rw), some (.int x4), some (.int x5), some (.int (Int32.ofNat (jq_obey kd ky l en k p.2 t q).1)), some (.int (Int32.ofNat d)), some (.int (p.1))]) (st' := []) rfl ?_
          refine Er_pc (t := 122) (show (bif decide (((if (jq_obey kd ky l en k p.2 t q).2.2.1 then (1 : Int32) else 0)) = 0) then 122 else 120) = 122 from by rw [show (decide (((if (jq_obey kd ky l en k p.2 t q).2.2.1 then (1 : Int32) else 0)) = 0)) = true from by rw [htr]; rfl]; rfl) ?_
          refine Er_run 2 (pc' := 63) (ls' := [some (.ref a), some (.ref g), some (.int kd), some (.ref rw), some (.int x4), some (.int x5), some (.int (Int32.ofNat (jq_obey kd ky l en k p.2 t q).1)), some (.int ((Int32.ofNat d) + (1 : Int32))), some (.int (p.1))]) (st' := []) rfl ?_
          rw [jx_s1]
          rw [hlp]
          refine sm_Ev.mono (ih _ (d + 1) _ h1 _ (by omega) (by omega) p1 htr (GL_fr f1 hdg hg) (PL_fr f1 hdr hr) (jq_obey_nx hn)) (fun r h2 y => ⟨y.1, y.2.1, f1.trans y.2.2⟩)
end MACHE
