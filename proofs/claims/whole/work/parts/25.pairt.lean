section PAIRT
variable {h : sm_H} {a b n m : Nat} {l l2 : List (Int64 × Int64)}
theorem jx_sub {n m : Nat} (hm : m ≤ n) : Int32.ofNat n - Int32.ofNat m = Int32.ofNat (n - m) := by
  conv => lhs; rw [← Nat.sub_add_cancel hm, Int32.ofNat_add, Int32.add_sub_cancel]
theorem jx_le {i j : Nat} (hi : i < 2147483648) (hj : j < 2147483648) : decide (Int32.ofNat i ≤ Int32.ofNat j) = decide (i ≤ j) := by
  rw [decide_eq_decide, Int32.le_iff_toInt_le, sm_ofNat_toInt hi, sm_ofNat_toInt hj]; omega
theorem jx_lt {i j : Nat} (hi : i < 2147483648) (hj : j < 2147483648) : decide (Int32.ofNat i < Int32.ofNat j) = decide (i < j) := by
  rw [decide_eq_decide, Int32.lt_iff_toInt_lt, sm_ofNat_toInt hi, sm_ofNat_toInt hj]; omega

theorem r_Pairs_addAll1 (hp : PL h a n l) (hq : PL h b m l2) (hr : l.length + l2.length ≤ n) : Run 7 [.ref a, .ref b] h (.inl (some (.int 1))) (setI (sm_cpL (sm_cpL h (b + 1) (0 : Int32).toNatClampNeg (a + 1) (Int32.ofNat l.length).toNatClampNeg (Int32.ofNat l2.length).toNatClampNeg) (b + 2) (0 : Int32).toNatClampNeg (a + 2) (Int32.ofNat l.length).toNatClampNeg (Int32.ofNat l2.length).toNatClampNeg) a 2 (Int32.ofNat l.length + Int32.ofNat l2.length)) := by
  have hn := hp.2.1
  have hm := hq.2.1
  have hl2 := hq.2.2.1
  refine ⟨Nat.le_of_ble_eq_true rfl, ?_⟩
  show Ev 7 0 [some (.ref a), some (.ref b)] [] h _
  refine Er_run 1 (pc' := 1) (ls' := [some (.ref a), some (.ref b)]) (st' := [.ref b]) rfl ?_
  refine Er_getI (v := Int32.ofNat l2.length) rfl hq.1.1 hq.2.2.2.1 ?_
  refine Er_run 1 (pc' := 5) (ls' := [some (.ref a), some (.ref b)]) (st' := [.ref a, .int (Int32.ofNat l2.length)]) rfl ?_
  refine Er_inv1 (q' := a) (ci := 0) (av := []) (rest := [.int (Int32.ofNat l2.length)]) rfl rfl ⟨Nat.le_of_ble_eq_true rfl, Nat.le_of_ble_eq_true rfl⟩ rfl rfl hp.1.1 (r_Pairs_room hp.1) ?_
  refine Er_run 1 (pc' := bif decide ((Int32.ofNat l2.length) ≤ (Int32.ofNat n - gI h a 2)) then 13 else 11) (ls' := [some (.ref a), some (.ref b)]) (st' := []) rfl ?_
  refine Er_pc (t := 13) (show (bif decide ((Int32.ofNat l2.length) ≤ (Int32.ofNat n - gI h a 2)) then 13 else 11) = 13 from by rw [show (decide ((Int32.ofNat l2.length) ≤ (Int32.ofNat n - gI h a 2))) = true from by rw [hp.2.2.2.1, jx_sub hp.2.2.1, jx_le (by omega) (by omega)]; exact decide_eq_true (by omega)]; rfl) ?_
  refine Er_run 1 (pc' := 14) (ls' := [some (.ref a), some (.ref b)]) (st' := [.ref b]) rfl ?_
  refine Er_getR (x := b + 1) rfl hq.1.1 hq.1.2.1 ?_
  refine Er_run 2 (pc' := 19) (ls' := [some (.ref a), some (.ref b)]) (st' := [.ref a, .int ((0 : Int32)), .ref (b + 1)]) rfl ?_
  refine Er_getR (x := a + 1) rfl hp.1.1 hp.1.2.1 ?_
  refine Er_run 1 (pc' := 23) (ls' := [some (.ref a), some (.ref b)]) (st' := [.ref a, .ref (a + 1), .int ((0 : Int32)), .ref (b + 1)]) rfl ?_
  refine Er_getI (v := Int32.ofNat l.length) rfl hp.1.1 hp.2.2.2.1 ?_
  refine Er_run 1 (pc' := 27) (ls' := [some (.ref a), some (.ref b)]) (st' := [.ref b, .int (Int32.ofNat l.length), .ref (a + 1), .int ((0 : Int32)), .ref (b + 1)]) rfl ?_
  refine Er_getI (v := Int32.ofNat l2.length) rfl hq.1.1 hq.2.2.2.1 ?_
  refine Er_cpL rfl hq.1.2.2.2.1 hp.1.2.2.2.1 (Nat.le_of_ble_eq_true rfl) (by decide) (by rw [sm_ofNat_toInt (by omega)]; omega) (by rw [sm_ofNat_toInt (by omega)]; omega) (by show (0 : Int) + _ ≤ (((gS h (b + 1)).2 : Nat) : Int); rw [hq.1.2.2.2.2.1, sm_ofNat_toInt (by omega)]; omega) (by show _ ≤ (((gS h (a + 1)).2 : Nat) : Int); rw [hp.1.2.2.2.2.1, sm_ofNat_toInt (by omega), sm_ofNat_toInt (by omega)]; omega) ?_
  refine Er_run 1 (pc' := 34) (ls' := [some (.ref a), some (.ref b)]) (st' := [.ref b]) rfl ?_
  refine Er_getR (x := b + 2) rfl hq.1.1 hq.1.2.2.1 ?_
  refine Er_run 2 (pc' := 39) (ls' := [some (.ref a), some (.ref b)]) (st' := [.ref a, .int ((0 : Int32)), .ref (b + 2)]) rfl ?_
  refine Er_getR (x := a + 2) rfl hp.1.1 hp.1.2.2.1 ?_
  refine Er_run 1 (pc' := 43) (ls' := [some (.ref a), some (.ref b)]) (st' := [.ref a, .ref (a + 2), .int ((0 : Int32)), .ref (b + 2)]) rfl ?_
  refine Er_getI (v := Int32.ofNat l.length) rfl hp.1.1 hp.2.2.2.1 ?_
  refine Er_run 1 (pc' := 47) (ls' := [some (.ref a), some (.ref b)]) (st' := [.ref b, .int (Int32.ofNat l.length), .ref (a + 2), .int ((0 : Int32)), .ref (b + 2)]) rfl ?_
  refine Er_getI (v := Int32.ofNat l2.length) rfl hq.1.1 hq.2.2.2.1 ?_
  refine Er_cpL rfl hq.1.2.2.2.2.2.1 hp.1.2.2.2.2.2.1 (Nat.le_of_ble_eq_true rfl) (by decide) (by rw [sm_ofNat_toInt (by omega)]; omega) (by rw [sm_ofNat_toInt (by omega)]; omega) (by show (0 : Int) + _ ≤ (((gS h (b + 2)).2 : Nat) : Int); rw [hq.1.2.2.2.2.2.2, sm_ofNat_toInt (by omega)]; omega) (by show _ ≤ (((gS h (a + 2)).2 : Nat) : Int); rw [hp.1.2.2.2.2.2.2, sm_ofNat_toInt (by omega), sm_ofNat_toInt (by omega)]; omega) ?_
  refine Er_run 2 (pc' := 55) (ls' := [some (.ref a), some (.ref b)]) (st' := [.ref a, .ref a]) rfl ?_
  refine Er_getI (v := Int32.ofNat l.length) rfl hp.1.1 hp.2.2.2.1 ?_
  refine Er_run 1 (pc' := 59) (ls' := [some (.ref a), some (.ref b)]) (st' := [.ref b, .int (Int32.ofNat l.length), .ref a]) rfl ?_
  refine Er_getI (v := Int32.ofNat l2.length) rfl hq.1.1 hq.2.2.2.1 ?_
  refine Er_run 1 (pc' := 63) (ls' := [some (.ref a), some (.ref b)]) (st' := [.int ((Int32.ofNat l.length) + (Int32.ofNat l2.length)), .ref a]) rfl ?_
  refine Er_putI rfl hp.1.1 ?_
  refine Er_run 1 (pc' := 67) (ls' := [some (.ref a), some (.ref b)]) (st' := [.int ((1 : Int32))]) rfl ?_
  exact Er_fin rfl rfl ⟨rfl, rfl⟩
theorem s_Pairs_addAll0 (hp : PL h a n l) (hq : PL h b m l2) (hr : n < l.length + l2.length) : Run 7 [.ref a, .ref b] h (.inl (some (.int 0))) h := by
  have hn := hp.2.1
  have hm := hq.2.1
  have hl := hp.2.2.1
  have hl2 := hq.2.2.1
  refine ⟨Nat.le_of_ble_eq_true rfl, ?_⟩
  show Ev 7 0 [some (.ref a), some (.ref b)] [] h _
  refine Er_run 1 (pc' := 1) (ls' := [some (.ref a), some (.ref b)]) (st' := [.ref b]) rfl ?_
  refine Er_getI (v := Int32.ofNat l2.length) rfl hq.1.1 hq.2.2.2.1 ?_
  refine Er_run 1 (pc' := 5) (ls' := [some (.ref a), some (.ref b)]) (st' := [.ref a, .int (Int32.ofNat l2.length)]) rfl ?_
  refine Er_inv1 (q' := a) (ci := 0) (av := []) (rest := [.int (Int32.ofNat l2.length)]) rfl rfl ⟨Nat.le_of_ble_eq_true rfl, Nat.le_of_ble_eq_true rfl⟩ rfl rfl hp.1.1 (r_Pairs_room hp.1) ?_
  refine Er_run 1 (pc' := bif decide ((Int32.ofNat l2.length) ≤ (Int32.ofNat n - gI h a 2)) then 13 else 11) (ls' := [some (.ref a), some (.ref b)]) (st' := []) rfl ?_
  refine Er_pc (t := 11) (show (bif decide ((Int32.ofNat l2.length) ≤ (Int32.ofNat n - gI h a 2)) then 13 else 11) = 11 from by rw [show (decide ((Int32.ofNat l2.length) ≤ (Int32.ofNat n - gI h a 2))) = false from by rw [hp.2.2.2.1, jx_sub hp.2.2.1, jx_le (by omega) (by omega)]; exact decide_eq_false (by omega)]; rfl) ?_
  refine Er_run 1 (pc' := 12) (ls' := [some (.ref a), some (.ref b)]) (st' := [.int ((0 : Int32))]) rfl ?_
  exact Er_fin rfl rfl ⟨rfl, rfl⟩
theorem s_Pairs_addAll1 (hp : PL h a n l) (hq : PL h b m l2) (hd : a + 3 ≤ b ∨ b + 3 ≤ a) (hr : l.length + l2.length ≤ n) : ∃ h', Run 7 [.ref a, .ref b] h (.inl (some (.int 1))) h' ∧ PL h' a n (l ++ l2) ∧ Fr a (a + 3) h h' := by
  have r := r_Pairs_addAll1 hp hq hr
  have hn := hp.2.1
  have hm := hq.2.1
  have hl2 := hq.2.2.1
  rw [jx_cn (i := l.length) (by omega), jx_cn (i := l2.length) (by omega), show (0 : Int32).toNatClampNeg = 0 from rfl, ← Int32.ofNat_add] at r
  refine ⟨_, r, ⟨hp.1, hp.2.1, by simp; omega, ?_, ?_⟩, ?_⟩
  · show (if a = a ∧ 2 = 2 then _ else _) = _
    rw [if_pos ⟨rfl, rfl⟩]; simp
  · intro i p e
    have e1 : gL (setI (sm_cpL (sm_cpL h (b + 1) 0 (a + 1) l.length l2.length) (b + 2) 0 (a + 2) l.length l2.length) a 2 (Int32.ofNat (l.length + l2.length))) (a + 1) i = if l.length ≤ i ∧ i < l.length + l2.length then gL h (b + 1) (0 + (i - l.length)) else gL h (a + 1) i := by
      show (if a + 1 = a + 2 then _ else if a + 1 = a + 1 then va_cpy (gL h (b + 1)) (gL h (a + 1)) 0 l.length l2.length else gL h (a + 1)) i = _
      rw [if_neg (by omega), if_pos rfl]; rfl
    have e2 : gL (setI (sm_cpL (sm_cpL h (b + 1) 0 (a + 1) l.length l2.length) (b + 2) 0 (a + 2) l.length l2.length) a 2 (Int32.ofNat (l.length + l2.length))) (a + 2) i = if l.length ≤ i ∧ i < l.length + l2.length then gL h (b + 2) (0 + (i - l.length)) else gL h (a + 2) i := by
      show (if a + 2 = a + 2 then va_cpy (if b + 2 = a + 1 then _ else gL h (b + 2)) (if a + 2 = a + 1 then _ else gL h (a + 2)) 0 l.length l2.length else _) i = _
      rw [if_pos rfl, if_neg (c := b + 2 = a + 1) (by omega), if_neg (c := a + 2 = a + 1) (by omega)]; rfl
    rw [e1, e2]
    have hi : i < l.length + l2.length := by
      have := (List.getElem?_eq_some_iff.1 e).1
      simpa using this
    by_cases hlt : i < l.length
    · rw [List.getElem?_append_left hlt] at e
      rw [if_neg (by omega), if_neg (by omega)]
      exact hp.2.2.2.2 i p e
    · rw [List.getElem?_append_right (by omega)] at e
      rw [if_pos (by omega), if_pos (by omega), Nat.zero_add]
      exact hq.2.2.2.2 _ p e
  · exact ((Fr.rowL (by omega) (by omega)).trans (Fr.rowL (by omega) (by omega))).trans (Fr.setI (by omega) (by omega))

/-- the sum of a stretch -/
def jx_sum (l : List (Int64 × Int64)) (s : Int64) : Int64 := l.foldl (fun s p => (s * 31 + p.1) * 31 + p.2) s
theorem jx_cmp0 (x y : Int64) : decide (lg_cmp x y = 0) = decide (x = y) := by
  rw [decide_eq_decide, lg_cmp]
  by_cases h1 : x > y
  · rw [if_pos h1]
    refine ⟨fun h => absurd h (by decide), fun h => ?_⟩
    subst h; exact absurd h1 (fun hx => Int64.lt_irrefl hx)
  · rw [if_neg h1]
    by_cases h2 : x = y
    · simp [h2]
    · rw [if_neg h2]; exact ⟨fun h => absurd h (by decide), fun h => absurd h h2⟩
theorem jx_at {l : List (Int64 × Int64)} {i : Nat} (hi : i < l.length) : ∃ p, l[i]? = some p := ⟨l[i], List.getElem?_eq_getElem hi⟩

theorem l_Pairs_sumOf {f m : Nat} (hp : PL h a n l) (hf : f + m ≤ l.length) : ∀ (k i : Nat) (s : Int64), i + k = f + m → Ev 9 6 [some (.ref a), some (.int (Int32.ofNat f)), some (.int (Int32.ofNat m)), some (.long s), none, some (.int (Int32.ofNat i))] [] h (fun r1 h1 => r1 = .inl (some (.long (jx_sum ((l.drop i).take k) s))) ∧ h1 = h) := by
  have hn := hp.2.1
  have hln := hp.2.2.1
  intro k
  induction k with
  | zero =>
    intro i s hk
    refine Er_run 5 (pc' := bif decide (((Int32.ofNat f) + (Int32.ofNat m)) ≤ (Int32.ofNat i)) then 44 else 14) (ls' := [some (.ref a), some (.int (Int32.ofNat f)), some (.int (Int32.ofNat m)), some (.long s), none, some (.int (Int32.ofNat i))]) (st' := []) rfl ?_
    refine Er_pc (t := 44) (show (bif decide (((Int32.ofNat f) + (Int32.ofNat m)) ≤ (Int32.ofNat i)) then 44 else 14) = 44 from by rw [show (decide (((Int32.ofNat f) + (Int32.ofNat m)) ≤ (Int32.ofNat i))) = true from by rw [← Int32.ofNat_add, jx_le (by omega) (by omega)]; exact decide_eq_true (by omega)]; rfl) ?_
    refine Er_run 1 (pc' := 45) (ls' := [some (.ref a), some (.int (Int32.ofNat f)), some (.int (Int32.ofNat m)), some (.long s), none, some (.int (Int32.ofNat i))]) (st' := [.long s]) rfl ?_
    exact Er_fin rfl rfl ⟨rfl, rfl⟩
  | succ k ih =>
    intro i s hk
    have hi : i < l.length := by omega
    obtain ⟨p, e⟩ := jx_at hi
    refine Er_run 5 (pc' := bif decide (((Int32.ofNat f) + (Int32.ofNat m)) ≤ (Int32.ofNat i)) then 44 else 14) (ls' := [some (.ref a), some (.int (Int32.ofNat f)), some (.int (Int32.ofNat m)), some (.long s), none, some (.int (Int32.ofNat i))]) (st' := []) rfl ?_
    refine Er_pc (t := 14) (show (bif decide (((Int32.ofNat f) + (Int32.ofNat m)) ≤ (Int32.ofNat i)) then 44 else 14) = 14 from by rw [show (decide (((Int32.ofNat f) + (Int32.ofNat m)) ≤ (Int32.ofNat i))) = false from by rw [← Int32.ofNat_add, jx_le (by omega) (by omega)]; exact decide_eq_false (by omega)]; rfl) ?_
    refine Er_run 5 (pc' := 22) (ls' := [some (.ref a), some (.int (Int32.ofNat f)), some (.int (Int32.ofNat m)), some (.long s), none, some (.int (Int32.ofNat i))]) (st' := [.int (Int32.ofNat i), .ref a, .long (s * ((31 : Int64)))]) rfl ?_
    refine Er_inv1 (q' := a) (ci := 0) (av := [.int (Int32.ofNat i)]) (rest := [.long (s * ((31 : Int64)))]) rfl rfl ⟨Nat.le_of_ble_eq_true rfl, Nat.le_of_ble_eq_true rfl⟩ rfl rfl hp.1.1 (s_Pairs_key hp e) ?_
    refine Er_run 5 (pc' := 33) (ls' := [some (.ref a), some (.int (Int32.ofNat f)), some (.int (Int32.ofNat m)), some (.long s), none, some (.int (Int32.ofNat i))]) (st' := [.int (Int32.ofNat i), .ref a, .long (((s * ((31 : Int64))) + p.1) * ((31 : Int64)))]) rfl ?_
    refine Er_inv1 (q' := a) (ci := 0) (av := [.int (Int32.ofNat i)]) (rest := [.long (((s * ((31 : Int64))) + p.1) * ((31 : Int64)))]) rfl rfl ⟨Nat.le_of_ble_eq_true rfl, Nat.le_of_ble_eq_true rfl⟩ rfl rfl hp.1.1 (s_Pairs_value hp e) ?_
    refine Er_run 4 (pc' := 6) (ls' := [some (.ref a), some (.int (Int32.ofNat f)), some (.int (Int32.ofNat m)), some (.long ((((s * ((31 : Int64))) + p.1) * ((31 : Int64))) + p.2)), none, some (.int ((Int32.ofNat i) + (1 : Int32)))]) (st' := []) rfl ?_
    rw [jx_s1]
    have hk := ih (i + 1) ((s * 31 + p.1) * 31 + p.2) (by omega)
    rw [List.drop_eq_getElem_cons hi, List.take_succ_cons, show l[i] = p from (List.getElem?_eq_some_iff.1 e).2]
    exact hk
theorem s_Pairs_sumOf {f m : Nat} (hp : PL h a n l) (hf : f + m ≤ l.length) : Run 9 [.ref a, .int (Int32.ofNat f), .int (Int32.ofNat m)] h (.inl (some (.long (jx_sum ((l.drop f).take m) (Int32.ofNat m).toInt64)))) h := by
  refine ⟨Nat.le_of_ble_eq_true rfl, ?_⟩
  show Ev 9 0 [some (.ref a), some (.int (Int32.ofNat f)), some (.int (Int32.ofNat m)), none, none, none] [] h _
  refine Er_run 5 (pc' := 6) (ls' := [some (.ref a), some (.int (Int32.ofNat f)), some (.int (Int32.ofNat m)), some (.long (Int32.toInt64 (Int32.ofNat m))), none, some (.int (Int32.ofNat f))]) (st' := []) rfl ?_
  exact l_Pairs_sumOf hp hf m f _ rfl
theorem l_Pairs_endOfKey {f : Nat} {p : Int64 × Int64} (hp : PL h a n l) (hf : l[f]? = some p) : ∀ (k i : Nat), i + k = l.length → Ev 8 4 [some (.ref a), some (.int (Int32.ofNat f)), some (.int (Int32.ofNat i))] [] h (fun r1 h1 => r1 = .inl (some (.int (Int32.ofNat (i + ((l.drop i).takeWhile (fun q => q.1 == p.1)).length)))) ∧ h1 = h) := by
  have hn := hp.2.1
  have hln := hp.2.2.1
  intro k
  induction k with
  | zero =>
    intro i hk
    rw [List.drop_eq_nil_of_le (by omega), List.takeWhile_nil, List.length_nil, Nat.add_zero]
    refine Er_run 2 (pc' := 6) (ls' := [some (.ref a), some (.int (Int32.ofNat f)), some (.int (Int32.ofNat i))]) (st' := [.ref a, .int (Int32.ofNat i)]) rfl ?_
    refine Er_getI (v := Int32.ofNat l.length) rfl hp.1.1 hp.2.2.2.1 ?_
    refine Er_run 1 (pc' := bif decide ((Int32.ofNat l.length) ≤ (Int32.ofNat i)) then 32 else 12) (ls' := [some (.ref a), some (.int (Int32.ofNat f)), some (.int (Int32.ofNat i))]) (st' := []) rfl ?_
    refine Er_pc (t := 32) (show (bif decide ((Int32.ofNat l.length) ≤ (Int32.ofNat i)) then 32 else 12) = 32 from by rw [show (decide ((Int32.ofNat l.length) ≤ (Int32.ofNat i))) = true from by rw [jx_le (by omega) (by omega)]; exact decide_eq_true (by omega)]; rfl) ?_
    refine Er_run 1 (pc' := 33) (ls' := [some (.ref a), some (.int (Int32.ofNat f)), some (.int (Int32.ofNat i))]) (st' := [.int (Int32.ofNat i)]) rfl ?_
    exact Er_fin rfl rfl ⟨rfl, rfl⟩
  | succ k ih =>
    intro i hk
    have hi : i < l.length := by omega
    obtain ⟨q, e⟩ := jx_at hi
    by_cases hqp : q.1 = p.1
    · skip
      refine Er_run 2 (pc' := 6) (ls' := [some (.ref a), some (.int (Int32.ofNat f)), some (.int (Int32.ofNat i))]) (st' := [.ref a, .int (Int32.ofNat i)]) rfl ?_
      refine Er_getI (v := Int32.ofNat l.length) rfl hp.1.1 hp.2.2.2.1 ?_
      refine Er_run 1 (pc' := bif decide ((Int32.ofNat l.length) ≤ (Int32.ofNat i)) then 32 else 12) (ls' := [some (.ref a), some (.int (Int32.ofNat f)), some (.int (Int32.ofNat i))]) (st' := []) rfl ?_
      refine Er_pc (t := 12) (show (bif decide ((Int32.ofNat l.length) ≤ (Int32.ofNat i)) then 32 else 12) = 12 from by rw [show (decide ((Int32.ofNat l.length) ≤ (Int32.ofNat i))) = false from by rw [jx_le (by omega) (by omega)]; exact decide_eq_false (by omega)]; rfl) ?_
      refine Er_run 2 (pc' := 14) (ls' := [some (.ref a), some (.int (Int32.ofNat f)), some (.int (Int32.ofNat i))]) (st' := [.int (Int32.ofNat i), .ref a]) rfl ?_
      refine Er_inv1 (q' := a) (ci := 0) (av := [.int (Int32.ofNat i)]) (rest := []) rfl rfl ⟨Nat.le_of_ble_eq_true rfl, Nat.le_of_ble_eq_true rfl⟩ rfl rfl hp.1.1 (s_Pairs_key hp e) ?_
      refine Er_run 2 (pc' := 19) (ls' := [some (.ref a), some (.int (Int32.ofNat f)), some (.int (Int32.ofNat i))]) (st' := [.int (Int32.ofNat f), .ref a, .long (q.1)]) rfl ?_
      refine Er_inv1 (q' := a) (ci := 0) (av := [.int (Int32.ofNat f)]) (rest := [.long (q.1)]) rfl rfl ⟨Nat.le_of_ble_eq_true rfl, Nat.le_of_ble_eq_true rfl⟩ rfl rfl hp.1.1 (s_Pairs_key hp hf) ?_
      refine Er_run 2 (pc' := bif !decide ((lg_cmp q.1 p.1) = 0) then 32 else 26) (ls' := [some (.ref a), some (.int (Int32.ofNat f)), some (.int (Int32.ofNat i))]) (st' := []) rfl ?_
      refine Er_pc (t := 26) (show (bif !decide ((lg_cmp q.1 p.1) = 0) then 32 else 26) = 26 from by rw [show (!decide ((lg_cmp q.1 p.1) = 0)) = false from by rw [jx_cmp0, decide_eq_true hqp]; rfl]; rfl) ?_
      refine Er_run 2 (pc' := 4) (ls' := [some (.ref a), some (.int (Int32.ofNat f)), some (.int ((Int32.ofNat i) + (1 : Int32)))]) (st' := []) rfl ?_
      rw [jx_s1]
      have hk := ih (i + 1) (by omega)
      rw [List.drop_eq_getElem_cons hi, show l[i] = q from (List.getElem?_eq_some_iff.1 e).2, List.takeWhile_cons_of_pos (by simpa using hqp), List.length_cons, show i + ((List.takeWhile (fun q => q.1 == p.1) (List.drop (i + 1) l)).length + 1) = i + 1 + (List.takeWhile (fun q => q.1 == p.1) (List.drop (i + 1) l)).length from by omega]
      exact hk
    · rw [List.drop_eq_getElem_cons hi, show l[i] = q from (List.getElem?_eq_some_iff.1 e).2, List.takeWhile_cons_of_neg (by simpa using hqp), List.length_nil, Nat.add_zero]
      refine Er_run 2 (pc' := 6) (ls' := [some (.ref a), some (.int (Int32.ofNat f)), some (.int (Int32.ofNat i))]) (st' := [.ref a, .int (Int32.ofNat i)]) rfl ?_
      refine Er_getI (v := Int32.ofNat l.length) rfl hp.1.1 hp.2.2.2.1 ?_
      refine Er_run 1 (pc' := bif decide ((Int32.ofNat l.length) ≤ (Int32.ofNat i)) then 32 else 12) (ls' := [some (.ref a), some (.int (Int32.ofNat f)), some (.int (Int32.ofNat i))]) (st' := []) rfl ?_
      refine Er_pc (t := 12) (show (bif decide ((Int32.ofNat l.length) ≤ (Int32.ofNat i)) then 32 else 12) = 12 from by rw [show (decide ((Int32.ofNat l.length) ≤ (Int32.ofNat i))) = false from by rw [jx_le (by omega) (by omega)]; exact decide_eq_false (by omega)]; rfl) ?_
      refine Er_run 2 (pc' := 14) (ls' := [some (.ref a), some (.int (Int32.ofNat f)), some (.int (Int32.ofNat i))]) (st' := [.int (Int32.ofNat i), .ref a]) rfl ?_
      refine Er_inv1 (q' := a) (ci := 0) (av := [.int (Int32.ofNat i)]) (rest := []) rfl rfl ⟨Nat.le_of_ble_eq_true rfl, Nat.le_of_ble_eq_true rfl⟩ rfl rfl hp.1.1 (s_Pairs_key hp e) ?_
      refine Er_run 2 (pc' := 19) (ls' := [some (.ref a), some (.int (Int32.ofNat f)), some (.int (Int32.ofNat i))]) (st' := [.int (Int32.ofNat f), .ref a, .long (q.1)]) rfl ?_
      refine Er_inv1 (q' := a) (ci := 0) (av := [.int (Int32.ofNat f)]) (rest := [.long (q.1)]) rfl rfl ⟨Nat.le_of_ble_eq_true rfl, Nat.le_of_ble_eq_true rfl⟩ rfl rfl hp.1.1 (s_Pairs_key hp hf) ?_
      refine Er_run 2 (pc' := bif !decide ((lg_cmp q.1 p.1) = 0) then 32 else 26) (ls' := [some (.ref a), some (.int (Int32.ofNat f)), some (.int (Int32.ofNat i))]) (st' := []) rfl ?_
      refine Er_pc (t := 32) (show (bif !decide ((lg_cmp q.1 p.1) = 0) then 32 else 26) = 32 from by rw [show (!decide ((lg_cmp q.1 p.1) = 0)) = true from by rw [jx_cmp0, decide_eq_false hqp]; rfl]; rfl) ?_
      refine Er_run 1 (pc' := 33) (ls' := [some (.ref a), some (.int (Int32.ofNat f)), some (.int (Int32.ofNat i))]) (st' := [.int (Int32.ofNat i)]) rfl ?_
      exact Er_fin rfl rfl ⟨rfl, rfl⟩
theorem s_Pairs_endOfKey {f : Nat} {p : Int64 × Int64} (hp : PL h a n l) (hf : l[f]? = some p) : Run 8 [.ref a, .int (Int32.ofNat f)] h (.inl (some (.int (Int32.ofNat (f + 1 + ((l.drop (f + 1)).takeWhile (fun q => q.1 == p.1)).length))))) h := by
  refine ⟨Nat.le_of_ble_eq_true rfl, ?_⟩
  show Ev 8 0 [some (.ref a), some (.int (Int32.ofNat f)), none] [] h _
  refine Er_run 4 (pc' := 4) (ls' := [some (.ref a), some (.int (Int32.ofNat f)), some (.int ((Int32.ofNat f) + ((1 : Int32))))]) (st' := []) rfl ?_
  rw [jx_s1]
  exact l_Pairs_endOfKey hp hf (l.length - (f + 1)) (f + 1) (by have := (List.getElem?_eq_some_iff.1 hf).1; omega)
end PAIRT
