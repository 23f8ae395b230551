/-! class Program: a row of instructions at cell a -/
def isG (h : sm_H) (a : Nat) : Prop := sm_at h a 11 = true ∧ gR h a 0 = some (a + 1) ∧ gR h a 1 = some (a + 2) ∧ sm_at h (a + 1) 0 = true ∧ (gS h (a + 1)).2 = 40 ∧ sm_at h (a + 2) 1 = true ∧ (gS h (a + 2)).2 = 40
def GL (h : sm_H) (a : Nat) (l : List (Int32 × Int64)) : Prop := isG h a ∧ l.length ≤ 40 ∧ gI h a 2 = Int32.ofNat l.length ∧ ∀ i p, l[i]? = some p → gI h (a + 1) i = p.1 ∧ gL h (a + 2) i = p.2
section PROGRAM
variable {h : sm_H} {a b : Nat} {l l2 : List (Int32 × Int64)} {p : Int32 × Int64} {i : Nat}
theorem isG_fr {lo hi : Nat} {h' : sm_H} (x : Fr lo hi h h') (hd : a + 3 ≤ lo ∨ hi ≤ a) (hp : isG h a) : isG h' a := by
  refine ⟨by rw [x.at]; exact hp.1, ?_, ?_, by rw [x.at]; exact hp.2.2.2.1, by rw [x.2.1]; exact hp.2.2.2.2.1, by rw [x.at]; exact hp.2.2.2.2.2.1, by rw [x.2.1]; exact hp.2.2.2.2.2.2⟩
  · rw [(x.2.2.2.2 a (by omega)).2.2]; exact hp.2.1
  · rw [(x.2.2.2.2 a (by omega)).2.2]; exact hp.2.2.1
theorem GL_fr {lo hi : Nat} {h' : sm_H} (x : Fr lo hi h h') (hd : a + 3 ≤ lo ∨ hi ≤ a) (hp : GL h a l) : GL h' a l :=
  ⟨isG_fr x hd hp.1, hp.2.1, by rw [(x.2.2.2.2 a (by omega)).1]; exact hp.2.2.1, fun i p e => by rw [(x.2.2.2.2 (a + 1) (by omega)).1, (x.2.2.2.2 (a + 2) (by omega)).2.1]; exact hp.2.2.2 i p e⟩
theorem GL_ix (hp : GL h a l) (e : l[i]? = some p) : i < l.length ∧ i < 40 := by
  have h1 : i < l.length := (List.getElem?_eq_some_iff.1 e).1
  have := hp.2.1
  exact ⟨h1, by omega⟩

theorem s_Program_usesCell {x : Int32} : Run 13 [.int x] h (.inl (some (.int (if x = 4 ∨ x = 5 then 1 else 0)))) h := by
  refine ⟨Nat.le_of_ble_eq_true rfl, ?_⟩
  show Ev 13 0 [some (.int x)] [] h _
  refine Er_run 3 (pc' := bif decide (x = ((4 : Int32))) then 10 else 5) (ls' := [some (.int x)]) (st' := []) rfl ?_
  refine Er_if (fun hc1 => ?_) (fun hc1 => ?_)
  · skip
    refine Er_run 2 (pc' := 15) (ls' := [some (.int x)]) (st' := [.int ((1 : Int32))]) rfl ?_
    exact Er_fin rfl rfl ⟨by simp_all, rfl⟩
  · skip
    refine Er_run 3 (pc' := bif !decide (x = ((5 : Int32))) then 14 else 10) (ls' := [some (.int x)]) (st' := []) rfl ?_
    refine Er_if (fun hc2 => ?_) (fun hc2 => ?_)
    · skip
      refine Er_run 1 (pc' := 15) (ls' := [some (.int x)]) (st' := [.int ((0 : Int32))]) rfl ?_
      exact Er_fin rfl rfl ⟨by simp_all, rfl⟩
    · skip
      refine Er_run 2 (pc' := 15) (ls' := [some (.int x)]) (st' := [.int ((1 : Int32))]) rfl ?_
      exact Er_fin rfl rfl ⟨by simp_all, rfl⟩
theorem s_Program_leaps {x : Int32} : Run 14 [.int x] h (.inl (some (.int (if x = 15 ∨ x = 16 then 1 else 0)))) h := by
  refine ⟨Nat.le_of_ble_eq_true rfl, ?_⟩
  show Ev 14 0 [some (.int x)] [] h _
  refine Er_run 3 (pc' := bif decide (x = ((15 : Int32))) then 12 else 6) (ls' := [some (.int x)]) (st' := []) rfl ?_
  refine Er_if (fun hc1 => ?_) (fun hc1 => ?_)
  · skip
    refine Er_run 2 (pc' := 17) (ls' := [some (.int x)]) (st' := [.int ((1 : Int32))]) rfl ?_
    exact Er_fin rfl rfl ⟨by simp_all, rfl⟩
  · skip
    refine Er_run 3 (pc' := bif !decide (x = ((16 : Int32))) then 16 else 12) (ls' := [some (.int x)]) (st' := []) rfl ?_
    refine Er_if (fun hc2 => ?_) (fun hc2 => ?_)
    · skip
      refine Er_run 1 (pc' := 17) (ls' := [some (.int x)]) (st' := [.int ((0 : Int32))]) rfl ?_
      exact Er_fin rfl rfl ⟨by simp_all, rfl⟩
    · skip
      refine Er_run 2 (pc' := 17) (ls' := [some (.int x)]) (st' := [.int ((1 : Int32))]) rfl ?_
      exact Er_fin rfl rfl ⟨by simp_all, rfl⟩
theorem s_Program_length (hp : GL h a l) : Run 15 [.ref a] h (.inl (some (.int (Int32.ofNat l.length)))) h := by
  refine ⟨Nat.le_of_ble_eq_true rfl, ?_⟩
  show Ev 15 0 [some (.ref a)] [] h _
  refine Er_run 1 (pc' := 1) (ls' := [some (.ref a)]) (st' := [.ref a]) rfl ?_
  refine Er_getI (v := Int32.ofNat l.length) rfl hp.1.1 hp.2.2.1 ?_
  exact Er_fin rfl rfl ⟨rfl, rfl⟩
theorem r_Program_empty (hp : GL h a l) : Run 16 [.ref a] h (.inl none) (setI h a 2 0) := by
  refine ⟨Nat.le_of_ble_eq_true rfl, ?_⟩
  show Ev 16 0 [some (.ref a)] [] h _
  refine Er_run 2 (pc' := 2) (ls' := [some (.ref a)]) (st' := [.int ((0 : Int32)), .ref a]) rfl ?_
  refine Er_putI rfl hp.1.1 ?_
  exact Er_fin rfl rfl ⟨rfl, rfl⟩
theorem s_Program_empty (hp : GL h a l) : ∃ h', Run 16 [.ref a] h (.inl none) h' ∧ GL h' a [] ∧ Fr a (a + 3) h h' :=
  ⟨setI h a 2 0, r_Program_empty hp, ⟨hp.1, Nat.zero_le _, by show (if a = a ∧ 2 = 2 then (0 : Int32) else _) = _; rw [if_pos ⟨rfl, rfl⟩]; rfl, fun i p e => by simp at e⟩, Fr.setI (Nat.le_refl _) (by omega)⟩
theorem s_Program_op (hp : GL h a l) (e : l[i]? = some p) : Run 17 [.ref a, .int (Int32.ofNat i)] h (.inl (some (.int p.1))) h := by
  obtain ⟨h1, h2⟩ := GL_ix hp e
  have hl := hp.2.1
  refine ⟨Nat.le_of_ble_eq_true rfl, ?_⟩
  show Ev 17 0 [some (.ref a), some (.int (Int32.ofNat i))] [] h _
  refine Er_run 2 (pc' := bif decide ((Int32.ofNat i) < 0) then 21 else 4) (ls' := [some (.ref a), some (.int (Int32.ofNat i))]) (st' := []) rfl ?_
  refine Er_pc (t := 4) (show (bif decide ((Int32.ofNat i) < 0) then 21 else 4) = 4 from by rw [show (decide ((Int32.ofNat i) < 0)) = false from sm_nn (by rw [sm_ofNat_toInt (by omega)]; omega)]; rfl) ?_
  refine Er_run 2 (pc' := 6) (ls' := [some (.ref a), some (.int (Int32.ofNat i))]) (st' := [.ref a, .int (Int32.ofNat i)]) rfl ?_
  refine Er_getI (v := Int32.ofNat l.length) rfl hp.1.1 hp.2.2.1 ?_
  refine Er_run 1 (pc' := bif decide ((Int32.ofNat l.length) ≤ (Int32.ofNat i)) then 21 else 12) (ls' := [some (.ref a), some (.int (Int32.ofNat i))]) (st' := []) rfl ?_
  refine Er_pc (t := 12) (show (bif decide ((Int32.ofNat l.length) ≤ (Int32.ofNat i)) then 21 else 12) = 12 from by rw [show (decide ((Int32.ofNat l.length) ≤ (Int32.ofNat i))) = false from by rw [jx_le (by omega) (by omega)]; exact decide_eq_false (by omega)]; rfl) ?_
  refine Er_run 1 (pc' := 13) (ls' := [some (.ref a), some (.int (Int32.ofNat i))]) (st' := [.ref a]) rfl ?_
  refine Er_getR (x := a + 1) rfl hp.1.1 hp.1.2.1 ?_
  refine Er_run 1 (pc' := 17) (ls' := [some (.ref a), some (.int (Int32.ofNat i))]) (st' := [.int (Int32.ofNat i), .ref (a + 1)]) rfl ?_
  refine Er_iald (v := p.1) rfl hp.1.2.2.2.1 (by rw [hp.1.2.2.2.2.1]; exact sm_in_of (by rw [sm_ofNat_toInt (by omega)]; omega) (by rw [sm_ofNat_toInt (by omega)]; omega)) (by rw [jx_cn (by omega)]; exact (hp.2.2.2 i p e).1) ?_
  refine Er_run 1 (pc' := 23) (ls' := [some (.ref a), some (.int (Int32.ofNat i))]) (st' := [.int (p.1)]) rfl ?_
  exact Er_fin rfl rfl ⟨rfl, rfl⟩
theorem s_Program_arg (hp : GL h a l) (e : l[i]? = some p) : Run 18 [.ref a, .int (Int32.ofNat i)] h (.inl (some (.long p.2))) h := by
  obtain ⟨h1, h2⟩ := GL_ix hp e
  have hl := hp.2.1
  refine ⟨Nat.le_of_ble_eq_true rfl, ?_⟩
  show Ev 18 0 [some (.ref a), some (.int (Int32.ofNat i))] [] h _
  refine Er_run 2 (pc' := bif decide ((Int32.ofNat i) < 0) then 21 else 4) (ls' := [some (.ref a), some (.int (Int32.ofNat i))]) (st' := []) rfl ?_
  refine Er_pc (t := 4) (show (bif decide ((Int32.ofNat i) < 0) then 21 else 4) = 4 from by rw [show (decide ((Int32.ofNat i) < 0)) = false from sm_nn (by rw [sm_ofNat_toInt (by omega)]; omega)]; rfl) ?_
  refine Er_run 2 (pc' := 6) (ls' := [some (.ref a), some (.int (Int32.ofNat i))]) (st' := [.ref a, .int (Int32.ofNat i)]) rfl ?_
  refine Er_getI (v := Int32.ofNat l.length) rfl hp.1.1 hp.2.2.1 ?_
  refine Er_run 1 (pc' := bif decide ((Int32.ofNat l.length) ≤ (Int32.ofNat i)) then 21 else 12) (ls' := [some (.ref a), some (.int (Int32.ofNat i))]) (st' := []) rfl ?_
  refine Er_pc (t := 12) (show (bif decide ((Int32.ofNat l.length) ≤ (Int32.ofNat i)) then 21 else 12) = 12 from by rw [show (decide ((Int32.ofNat l.length) ≤ (Int32.ofNat i))) = false from by rw [jx_le (by omega) (by omega)]; exact decide_eq_false (by omega)]; rfl) ?_
  refine Er_run 1 (pc' := 13) (ls' := [some (.ref a), some (.int (Int32.ofNat i))]) (st' := [.ref a]) rfl ?_
  refine Er_getR (x := a + 2) rfl hp.1.1 hp.1.2.2.1 ?_
  refine Er_run 1 (pc' := 17) (ls' := [some (.ref a), some (.int (Int32.ofNat i))]) (st' := [.int (Int32.ofNat i), .ref (a + 2)]) rfl ?_
  refine Er_lald (v := p.2) rfl hp.1.2.2.2.2.2.1 (by rw [hp.1.2.2.2.2.2.2]; exact sm_in_of (by rw [sm_ofNat_toInt (by omega)]; omega) (by rw [sm_ofNat_toInt (by omega)]; omega)) (by rw [jx_cn (by omega)]; exact (hp.2.2.2 i p e).2) ?_
  refine Er_run 1 (pc' := 22) (ls' := [some (.ref a), some (.int (Int32.ofNat i))]) (st' := [.long (p.2)]) rfl ?_
  exact Er_fin rfl rfl ⟨rfl, rfl⟩
theorem s_Program_opE (hp : GL h a l) (hi : l.length ≤ i) (hb : i < 2147483648) : Run 17 [.ref a, .int (Int32.ofNat i)] h (.inl (some (.int 18))) h := by
  have hl := hp.2.1
  refine ⟨Nat.le_of_ble_eq_true rfl, ?_⟩
  show Ev 17 0 [some (.ref a), some (.int (Int32.ofNat i))] [] h _
  refine Er_run 2 (pc' := bif decide ((Int32.ofNat i) < 0) then 21 else 4) (ls' := [some (.ref a), some (.int (Int32.ofNat i))]) (st' := []) rfl ?_
  refine Er_pc (t := 4) (show (bif decide ((Int32.ofNat i) < 0) then 21 else 4) = 4 from by rw [show (decide ((Int32.ofNat i) < 0)) = false from sm_nn (by rw [sm_ofNat_toInt (by omega)]; omega)]; rfl) ?_
  refine Er_run 2 (pc' := 6) (ls' := [some (.ref a), some (.int (Int32.ofNat i))]) (st' := [.ref a, .int (Int32.ofNat i)]) rfl ?_
  refine Er_getI (v := Int32.ofNat l.length) rfl hp.1.1 hp.2.2.1 ?_
  refine Er_run 1 (pc' := bif decide ((Int32.ofNat l.length) ≤ (Int32.ofNat i)) then 21 else 12) (ls' := [some (.ref a), some (.int (Int32.ofNat i))]) (st' := []) rfl ?_
  refine Er_pc (t := 21) (show (bif decide ((Int32.ofNat l.length) ≤ (Int32.ofNat i)) then 21 else 12) = 21 from by rw [show (decide ((Int32.ofNat l.length) ≤ (Int32.ofNat i))) = true from by rw [jx_le (by omega) (by omega)]; exact decide_eq_true (by omega)]; rfl) ?_
  refine Er_run 1 (pc' := 23) (ls' := [some (.ref a), some (.int (Int32.ofNat i))]) (st' := [.int ((18 : Int32))]) rfl ?_
  exact Er_fin rfl rfl ⟨rfl, rfl⟩
theorem s_Program_argE (hp : GL h a l) (hi : l.length ≤ i) (hb : i < 2147483648) : Run 18 [.ref a, .int (Int32.ofNat i)] h (.inl (some (.long 0))) h := by
  have hl := hp.2.1
  refine ⟨Nat.le_of_ble_eq_true rfl, ?_⟩
  show Ev 18 0 [some (.ref a), some (.int (Int32.ofNat i))] [] h _
  refine Er_run 2 (pc' := bif decide ((Int32.ofNat i) < 0) then 21 else 4) (ls' := [some (.ref a), some (.int (Int32.ofNat i))]) (st' := []) rfl ?_
  refine Er_pc (t := 4) (show (bif decide ((Int32.ofNat i) < 0) then 21 else 4) = 4 from by rw [show (decide ((Int32.ofNat i) < 0)) = false from sm_nn (by rw [sm_ofNat_toInt (by omega)]; omega)]; rfl) ?_
  refine Er_run 2 (pc' := 6) (ls' := [some (.ref a), some (.int (Int32.ofNat i))]) (st' := [.ref a, .int (Int32.ofNat i)]) rfl ?_
  refine Er_getI (v := Int32.ofNat l.length) rfl hp.1.1 hp.2.2.1 ?_
  refine Er_run 1 (pc' := bif decide ((Int32.ofNat l.length) ≤ (Int32.ofNat i)) then 21 else 12) (ls' := [some (.ref a), some (.int (Int32.ofNat i))]) (st' := []) rfl ?_
  refine Er_pc (t := 21) (show (bif decide ((Int32.ofNat l.length) ≤ (Int32.ofNat i)) then 21 else 12) = 21 from by rw [show (decide ((Int32.ofNat l.length) ≤ (Int32.ofNat i))) = true from by rw [jx_le (by omega) (by omega)]; exact decide_eq_true (by omega)]; rfl) ?_
  refine Er_run 1 (pc' := 22) (ls' := [some (.ref a), some (.int (Int32.ofNat i))]) (st' := [.long ((0 : Int64))]) rfl ?_
  exact Er_fin rfl rfl ⟨rfl, rfl⟩
theorem s_Program_add0 {x : Int32} {y : Int64} (hp : GL h a l) (hl : l.length = 40) : Run 19 [.ref a, .int x, .long y] h (.inl (some (.int 0))) h := by
  refine ⟨Nat.le_of_ble_eq_true rfl, ?_⟩
  show Ev 19 0 [some (.ref a), some (.int x), some (.long y), none] [] h _
  refine Er_run 1 (pc' := 1) (ls' := [some (.ref a), some (.int x), some (.long y), none]) (st' := [.ref a]) rfl ?_
  refine Er_getI (v := Int32.ofNat l.length) rfl hp.1.1 hp.2.2.1 ?_
  refine Er_run 2 (pc' := bif decide ((Int32.ofNat l.length) < ((40 : Int32))) then 11 else 9) (ls' := [some (.ref a), some (.int x), some (.long y), none]) (st' := []) rfl ?_
  refine Er_pc (t := 9) (show (bif decide ((Int32.ofNat l.length) < ((40 : Int32))) then 11 else 9) = 9 from by rw [show (decide ((Int32.ofNat l.length) < ((40 : Int32)))) = false from by rw [hl]; decide]; rfl) ?_
  refine Er_run 1 (pc' := 10) (ls' := [some (.ref a), some (.int x), some (.long y), none]) (st' := [.int ((0 : Int32))]) rfl ?_
  exact Er_fin rfl rfl ⟨rfl, rfl⟩
theorem r_Program_add1 {x : Int32} {y : Int64} (hp : GL h a l) (hl : l.length < 40) : Run 19 [.ref a, .int x, .long y] h (.inl (some (.int 1))) (setI (setL (setI h (a + 1) (Int32.ofNat l.length).toNatClampNeg x) (a + 2) (Int32.ofNat l.length).toNatClampNeg y) a 2 (Int32.ofNat l.length + 1)) := by
  refine ⟨Nat.le_of_ble_eq_true rfl, ?_⟩
  show Ev 19 0 [some (.ref a), some (.int x), some (.long y), none] [] h _
  refine Er_run 1 (pc' := 1) (ls' := [some (.ref a), some (.int x), some (.long y), none]) (st' := [.ref a]) rfl ?_
  refine Er_getI (v := Int32.ofNat l.length) rfl hp.1.1 hp.2.2.1 ?_
  refine Er_run 2 (pc' := bif decide ((Int32.ofNat l.length) < ((40 : Int32))) then 11 else 9) (ls' := [some (.ref a), some (.int x), some (.long y), none]) (st' := []) rfl ?_
  refine Er_pc (t := 11) (show (bif decide ((Int32.ofNat l.length) < ((40 : Int32))) then 11 else 9) = 11 from by rw [show (decide ((Int32.ofNat l.length) < ((40 : Int32)))) = true from by rw [show (40 : Int32) = Int32.ofNat 40 from rfl, jx_lt (by omega) (by omega)]; exact decide_eq_true hl]; rfl) ?_
  refine Er_run 1 (pc' := 12) (ls' := [some (.ref a), some (.int x), some (.long y), none]) (st' := [.ref a]) rfl ?_
  refine Er_getR (x := a + 1) rfl hp.1.1 hp.1.2.1 ?_
  refine Er_run 1 (pc' := 16) (ls' := [some (.ref a), some (.int x), some (.long y), none]) (st' := [.ref a, .ref (a + 1)]) rfl ?_
  refine Er_getI (v := Int32.ofNat l.length) rfl hp.1.1 hp.2.2.1 ?_
  refine Er_run 1 (pc' := 20) (ls' := [some (.ref a), some (.int x), some (.long y), none]) (st' := [.int x, .int (Int32.ofNat l.length), .ref (a + 1)]) rfl ?_
  refine Er_iast rfl hp.1.2.2.2.1 (by show sm_in _ (gS h (a + 1)).2 = true; rw [hp.1.2.2.2.2.1]; exact sm_in_of (by rw [sm_ofNat_toInt (by omega)]; omega) (by rw [sm_ofNat_toInt (by omega)]; omega)) ?_
  refine Er_run 1 (pc' := 22) (ls' := [some (.ref a), some (.int x), some (.long y), none]) (st' := [.ref a]) rfl ?_
  refine Er_getR (x := a + 2) rfl hp.1.1 hp.1.2.2.1 ?_
  refine Er_run 1 (pc' := 26) (ls' := [some (.ref a), some (.int x), some (.long y), none]) (st' := [.ref a, .ref (a + 2)]) rfl ?_
  refine Er_getI (v := Int32.ofNat l.length) rfl hp.1.1 (by show (if a = a + 1 ∧ _ then _ else gI h a 2) = _; rw [if_neg (by omega)]; exact hp.2.2.1) ?_
  refine Er_run 1 (pc' := 30) (ls' := [some (.ref a), some (.int x), some (.long y), none]) (st' := [.long y, .int (Int32.ofNat l.length), .ref (a + 2)]) rfl ?_
  refine Er_last rfl hp.1.2.2.2.2.2.1 (by show sm_in _ (gS h (a + 2)).2 = true; rw [hp.1.2.2.2.2.2.2]; exact sm_in_of (by rw [sm_ofNat_toInt (by omega)]; omega) (by rw [sm_ofNat_toInt (by omega)]; omega)) ?_
  refine Er_run 2 (pc' := 33) (ls' := [some (.ref a), some (.int x), some (.long y), none]) (st' := [.ref a, .ref a]) rfl ?_
  refine Er_getI (v := Int32.ofNat l.length) rfl hp.1.1 (by show (if a = a + 1 ∧ _ then _ else gI h a 2) = _; rw [if_neg (by omega)]; exact hp.2.2.1) ?_
  refine Er_run 2 (pc' := 38) (ls' := [some (.ref a), some (.int x), some (.long y), none]) (st' := [.int ((Int32.ofNat l.length) + ((1 : Int32))), .ref a]) rfl ?_
  refine Er_putI rfl hp.1.1 ?_
  refine Er_run 1 (pc' := 42) (ls' := [some (.ref a), some (.int x), some (.long y), none]) (st' := [.int ((1 : Int32))]) rfl ?_
  exact Er_fin rfl rfl ⟨rfl, rfl⟩
theorem s_Program_add1 {x : Int32} {y : Int64} (hp : GL h a l) (hl : l.length < 40) : ∃ h', Run 19 [.ref a, .int x, .long y] h (.inl (some (.int 1))) h' ∧ GL h' a (l ++ [(x, y)]) ∧ Fr a (a + 3) h h' := by
  have r := r_Program_add1 (x := x) (y := y) hp hl
  rw [jx_cn (by omega), jx_s1] at r
  refine ⟨_, r, ⟨hp.1, by simp; omega, ?_, ?_⟩, ?_⟩
  · show (if a = a ∧ 2 = 2 then _ else _) = _
    rw [if_pos ⟨rfl, rfl⟩]; simp
  · intro i p e
    have e1 : gI (setI (setL (setI h (a + 1) l.length x) (a + 2) l.length y) a 2 (Int32.ofNat (l.length + 1))) (a + 1) i = if i = l.length then x else gI h (a + 1) i := by
      show (if a + 1 = a ∧ i = 2 then _ else if a + 1 = a + 1 ∧ i = l.length then x else gI h (a + 1) i) = _
      rw [if_neg (by omega)]; simp
    have e2 : gL (setI (setL (setI h (a + 1) l.length x) (a + 2) l.length y) a 2 (Int32.ofNat (l.length + 1))) (a + 2) i = if i = l.length then y else gL h (a + 2) i := by
      show (if a + 2 = a + 2 ∧ i = l.length then y else gL h (a + 2) i) = _
      simp
    rw [e1, e2]
    by_cases hi : i = l.length
    · subst hi
      simp at e
      subst e
      simp
    · have hlt : i < l.length := by
        have := (List.getElem?_eq_some_iff.1 e).1
        simp at this
        omega
      rw [List.getElem?_append_left hlt] at e
      rw [if_neg hi, if_neg hi]
      exact hp.2.2.2 i p e
  · exact ((Fr.setI (by omega) (by omega)).trans (Fr.setL (by omega) (by omega))).trans (Fr.setI (by omega) (by omega))
theorem r_Program_take (hp : GL h a l) (hq : GL h b l2) (hd : a + 3 ≤ b ∨ b + 3 ≤ a) : Run 20 [.ref a, .ref b] h (.inl none) (setI (sm_cpL (sm_cpI h (b + 1) (0 : Int32).toNatClampNeg (a + 1) (0 : Int32).toNatClampNeg (Int32.ofNat l2.length).toNatClampNeg) (b + 2) (0 : Int32).toNatClampNeg (a + 2) (0 : Int32).toNatClampNeg (Int32.ofNat l2.length).toNatClampNeg) a 2 (Int32.ofNat l2.length)) := by
  have hl2 := hq.2.1
  refine ⟨Nat.le_of_ble_eq_true rfl, ?_⟩
  show Ev 20 0 [some (.ref a), some (.ref b)] [] h _
  refine Er_run 1 (pc' := 1) (ls' := [some (.ref a), some (.ref b)]) (st' := [.ref b]) rfl ?_
  refine Er_getR (x := b + 1) rfl hq.1.1 hq.1.2.1 ?_
  refine Er_run 2 (pc' := 6) (ls' := [some (.ref a), some (.ref b)]) (st' := [.ref a, .int ((0 : Int32)), .ref (b + 1)]) rfl ?_
  refine Er_getR (x := a + 1) rfl hp.1.1 hp.1.2.1 ?_
  refine Er_run 2 (pc' := 11) (ls' := [some (.ref a), some (.ref b)]) (st' := [.ref b, .int ((0 : Int32)), .ref (a + 1), .int ((0 : Int32)), .ref (b + 1)]) rfl ?_
  refine Er_getI (v := Int32.ofNat l2.length) rfl hq.1.1 hq.2.2.1 ?_
  refine Er_cpI rfl hq.1.2.2.2.1 hp.1.2.2.2.1 (Nat.le_of_ble_eq_true rfl) (by decide) (by decide) (by rw [sm_ofNat_toInt (by omega)]; omega) (by show (0 : Int) + _ ≤ (((gS h (b + 1)).2 : Nat) : Int); rw [hq.1.2.2.2.2.1, sm_ofNat_toInt (by omega)]; omega) (by show (0 : Int) + _ ≤ (((gS h (a + 1)).2 : Nat) : Int); rw [hp.1.2.2.2.2.1, sm_ofNat_toInt (by omega)]; omega) ?_
  refine Er_run 1 (pc' := 18) (ls' := [some (.ref a), some (.ref b)]) (st' := [.ref b]) rfl ?_
  refine Er_getR (x := b + 2) rfl hq.1.1 hq.1.2.2.1 ?_
  refine Er_run 2 (pc' := 23) (ls' := [some (.ref a), some (.ref b)]) (st' := [.ref a, .int ((0 : Int32)), .ref (b + 2)]) rfl ?_
  refine Er_getR (x := a + 2) rfl hp.1.1 hp.1.2.2.1 ?_
  refine Er_run 2 (pc' := 28) (ls' := [some (.ref a), some (.ref b)]) (st' := [.ref b, .int ((0 : Int32)), .ref (a + 2), .int ((0 : Int32)), .ref (b + 2)]) rfl ?_
  refine Er_getI (v := Int32.ofNat l2.length) rfl hq.1.1 (by show (if b = a + 1 then _ else gI h b) 2 = _; rw [if_neg (by omega)]; exact hq.2.2.1) ?_
  refine Er_cpL rfl hq.1.2.2.2.2.2.1 hp.1.2.2.2.2.2.1 (Nat.le_of_ble_eq_true rfl) (by decide) (by decide) (by rw [sm_ofNat_toInt (by omega)]; omega) (by show (0 : Int) + _ ≤ (((gS h (b + 2)).2 : Nat) : Int); rw [hq.1.2.2.2.2.2.2, sm_ofNat_toInt (by omega)]; omega) (by show (0 : Int) + _ ≤ (((gS h (a + 2)).2 : Nat) : Int); rw [hp.1.2.2.2.2.2.2, sm_ofNat_toInt (by omega)]; omega) ?_
  refine Er_run 2 (pc' := 36) (ls' := [some (.ref a), some (.ref b)]) (st' := [.ref b, .ref a]) rfl ?_
  refine Er_getI (v := Int32.ofNat l2.length) rfl hq.1.1 (by show (if b = a + 1 then _ else gI h b) 2 = _; rw [if_neg (by omega)]; exact hq.2.2.1) ?_
  refine Er_putI rfl hp.1.1 ?_
  exact Er_fin rfl rfl ⟨rfl, rfl⟩
theorem s_Program_take (hp : GL h a l) (hq : GL h b l2) (hd : a + 3 ≤ b ∨ b + 3 ≤ a) : ∃ h', Run 20 [.ref a, .ref b] h (.inl none) h' ∧ GL h' a l2 ∧ Fr a (a + 3) h h' := by
  have r := r_Program_take hp hq hd
  have hl2 := hq.2.1
  rw [jx_cn (i := l2.length) (by omega), show (0 : Int32).toNatClampNeg = 0 from rfl] at r
  refine ⟨_, r, ⟨hp.1, hq.2.1, ?_, ?_⟩, ?_⟩
  · show (if a = a ∧ 2 = 2 then _ else _) = _
    rw [if_pos ⟨rfl, rfl⟩]
  · intro i p e
    obtain ⟨h1, h2⟩ := GL_ix hq e
    have e1 : gI (setI (sm_cpL (sm_cpI h (b + 1) 0 (a + 1) 0 l2.length) (b + 2) 0 (a + 2) 0 l2.length) a 2 (Int32.ofNat l2.length)) (a + 1) i = if 0 ≤ i ∧ i < 0 + l2.length then gI h (b + 1) (0 + (i - 0)) else gI h (a + 1) i := by
      show (if a + 1 = a ∧ i = 2 then _ else (if a + 1 = a + 1 then va_cpy (gI h (b + 1)) (gI h (a + 1)) 0 0 l2.length else gI h (a + 1)) i) = _
      rw [if_neg (by omega), if_pos rfl]; rfl
    have e2 : gL (setI (sm_cpL (sm_cpI h (b + 1) 0 (a + 1) 0 l2.length) (b + 2) 0 (a + 2) 0 l2.length) a 2 (Int32.ofNat l2.length)) (a + 2) i = if 0 ≤ i ∧ i < 0 + l2.length then gL h (b + 2) (0 + (i - 0)) else gL h (a + 2) i := by
      show (if a + 2 = a + 2 then va_cpy (gL h (b + 2)) (gL h (a + 2)) 0 0 l2.length else gL h (a + 2)) i = _
      rw [if_pos rfl]; rfl
    rw [e1, e2, if_pos (by omega), if_pos (by omega), Nat.zero_add, Nat.sub_zero]
    exact hq.2.2.2 _ p e
  · exact ((Fr.rowI (by omega) (by omega)).trans (Fr.rowL (by omega) (by omega))).trans (Fr.setI (by omega) (by omega))
end PROGRAM
