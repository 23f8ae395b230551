/-! class Pairs -/
/-- a row of pairs at cell a, with room for n -/
def isP (h : sm_H) (a n : Nat) : Prop := sm_at h a 10 = true ∧ gR h a 0 = some (a + 1) ∧ gR h a 1 = some (a + 2) ∧ sm_at h (a + 1) 1 = true ∧ (gS h (a + 1)).2 = n ∧ sm_at h (a + 2) 1 = true ∧ (gS h (a + 2)).2 = n
section PAIRS
variable {h : sm_H} {a n : Nat}
theorem sm_ofNat_toInt {n : Nat} (hn : n < 2147483648) : (Int32.ofNat n).toInt = n := Int32.toInt_ofNat_of_lt hn
theorem sm_in_of {i : Int32} {n : Nat} (h0 : 0 ≤ i.toInt) (h1 : i.toInt < n) : sm_in i n = true := by
  have e : ((i.toNatClampNeg : Nat) : Int) = i.toInt := Int.toNat_of_nonneg h0
  have hn : ¬ (i < 0) := by rw [Int32.lt_iff_toInt_lt]; simpa using h0
  simp only [sm_in, hn, decide_false, Bool.not_false, Bool.true_and, decide_eq_true_eq]
  omega

theorem r_Pairs_length (hp : isP h a n) : Run 1 [.ref a] h (.inl (some (.int (gI h a 2)))) h := by
  refine ⟨Nat.le_of_ble_eq_true rfl, ?_⟩
  show Ev 1 0 [some (.ref a)] [] h _
  refine Er_run 1 (pc' := 1) (ls' := [some (.ref a)]) (st' := [.ref a]) rfl ?_
  refine Er_getI (v := gI h a 2) rfl hp.1 rfl ?_
  exact Er_fin rfl rfl ⟨rfl, rfl⟩
theorem r_Pairs_room (hp : isP h a n) : Run 2 [.ref a] h (.inl (some (.int (Int32.ofNat n - gI h a 2)))) h := by
  refine ⟨Nat.le_of_ble_eq_true rfl, ?_⟩
  show Ev 2 0 [some (.ref a)] [] h _
  refine Er_run 1 (pc' := 1) (ls' := [some (.ref a)]) (st' := [.ref a]) rfl ?_
  refine Er_getR (x := a + 1) rfl hp.1 hp.2.1 ?_
  refine Er_alen (k := 1) rfl hp.2.2.2.1 (by decide) hp.2.2.2.2.1 ?_
  refine Er_run 1 (pc' := 6) (ls' := [some (.ref a)]) (st' := [.ref a, .int (Int32.ofNat n)]) rfl ?_
  refine Er_getI (v := gI h a 2) rfl hp.1 rfl ?_
  refine Er_run 1 (pc' := 10) (ls' := [some (.ref a)]) (st' := [.int ((Int32.ofNat n) - (gI h a 2))]) rfl ?_
  exact Er_fin rfl rfl ⟨rfl, rfl⟩
theorem r_Pairs_empty (hp : isP h a n) : Run 3 [.ref a] h (.inl none) (setI h a 2 0) := by
  refine ⟨Nat.le_of_ble_eq_true rfl, ?_⟩
  show Ev 3 0 [some (.ref a)] [] h _
  refine Er_run 2 (pc' := 2) (ls' := [some (.ref a)]) (st' := [.int ((0 : Int32)), .ref a]) rfl ?_
  refine Er_putI rfl hp.1 ?_
  exact Er_fin rfl rfl ⟨rfl, rfl⟩
theorem r_Pairs_key {i : Int32} (hp : isP h a n) (h0 : 0 ≤ i.toInt) (h1 : i.toInt < (gI h a 2).toInt) (h2 : (gI h a 2).toInt ≤ n) : Run 4 [.ref a, .int i] h (.inl (some (.long (gL h (a + 1) i.toNatClampNeg)))) h := by
  refine ⟨Nat.le_of_ble_eq_true rfl, ?_⟩
  show Ev 4 0 [some (.ref a), some (.int i)] [] h _
  refine Er_run 2 (pc' := bif decide (i < 0) then 21 else 4) (ls' := [some (.ref a), some (.int i)]) (st' := []) rfl ?_
  refine Er_pc (t := 4) (show (bif decide (i < 0) then 21 else 4) = 4 from by rw [show (decide (i < 0)) = false from decide_eq_false (by rw [Int32.lt_iff_toInt_lt]; show ¬ i.toInt < 0; omega)]; rfl) ?_
  refine Er_run 2 (pc' := 6) (ls' := [some (.ref a), some (.int i)]) (st' := [.ref a, .int i]) rfl ?_
  refine Er_getI (v := gI h a 2) rfl hp.1 rfl ?_
  refine Er_run 1 (pc' := bif decide ((gI h a 2) ≤ i) then 21 else 12) (ls' := [some (.ref a), some (.int i)]) (st' := []) rfl ?_
  refine Er_pc (t := 12) (show (bif decide ((gI h a 2) ≤ i) then 21 else 12) = 12 from by rw [show (decide ((gI h a 2) ≤ i)) = false from decide_eq_false (by rw [Int32.le_iff_toInt_le]; omega)]; rfl) ?_
  refine Er_run 1 (pc' := 13) (ls' := [some (.ref a), some (.int i)]) (st' := [.ref a]) rfl ?_
  refine Er_getR (x := a + 1) rfl hp.1 hp.2.1 ?_
  refine Er_run 1 (pc' := 17) (ls' := [some (.ref a), some (.int i)]) (st' := [.int i, .ref (a + 1)]) rfl ?_
  refine Er_lald (v := gL h (a + 1) i.toNatClampNeg) rfl hp.2.2.2.1 (by rw [hp.2.2.2.2.1]; exact sm_in_of h0 (by omega)) rfl ?_
  refine Er_run 1 (pc' := 22) (ls' := [some (.ref a), some (.int i)]) (st' := [.long (gL h (a + 1) i.toNatClampNeg)]) rfl ?_
  exact Er_fin rfl rfl ⟨rfl, rfl⟩
theorem r_Pairs_value {i : Int32} (hp : isP h a n) (h0 : 0 ≤ i.toInt) (h1 : i.toInt < (gI h a 2).toInt) (h2 : (gI h a 2).toInt ≤ n) : Run 5 [.ref a, .int i] h (.inl (some (.long (gL h (a + 2) i.toNatClampNeg)))) h := by
  refine ⟨Nat.le_of_ble_eq_true rfl, ?_⟩
  show Ev 5 0 [some (.ref a), some (.int i)] [] h _
  refine Er_run 2 (pc' := bif decide (i < 0) then 21 else 4) (ls' := [some (.ref a), some (.int i)]) (st' := []) rfl ?_
  refine Er_pc (t := 4) (show (bif decide (i < 0) then 21 else 4) = 4 from by rw [show (decide (i < 0)) = false from decide_eq_false (by rw [Int32.lt_iff_toInt_lt]; show ¬ i.toInt < 0; omega)]; rfl) ?_
  refine Er_run 2 (pc' := 6) (ls' := [some (.ref a), some (.int i)]) (st' := [.ref a, .int i]) rfl ?_
  refine Er_getI (v := gI h a 2) rfl hp.1 rfl ?_
  refine Er_run 1 (pc' := bif decide ((gI h a 2) ≤ i) then 21 else 12) (ls' := [some (.ref a), some (.int i)]) (st' := []) rfl ?_
  refine Er_pc (t := 12) (show (bif decide ((gI h a 2) ≤ i) then 21 else 12) = 12 from by rw [show (decide ((gI h a 2) ≤ i)) = false from decide_eq_false (by rw [Int32.le_iff_toInt_le]; omega)]; rfl) ?_
  refine Er_run 1 (pc' := 13) (ls' := [some (.ref a), some (.int i)]) (st' := [.ref a]) rfl ?_
  refine Er_getR (x := a + 2) rfl hp.1 hp.2.2.1 ?_
  refine Er_run 1 (pc' := 17) (ls' := [some (.ref a), some (.int i)]) (st' := [.int i, .ref (a + 2)]) rfl ?_
  refine Er_lald (v := gL h (a + 2) i.toNatClampNeg) rfl hp.2.2.2.2.2.1 (by rw [hp.2.2.2.2.2.2]; exact sm_in_of h0 (by omega)) rfl ?_
  refine Er_run 1 (pc' := 22) (ls' := [some (.ref a), some (.int i)]) (st' := [.long (gL h (a + 2) i.toNatClampNeg)]) rfl ?_
  exact Er_fin rfl rfl ⟨rfl, rfl⟩
theorem r_Pairs_add1 {k v : Int64} (hp : isP h a n) (h0 : 0 ≤ (gI h a 2).toInt) (h1 : (gI h a 2).toInt < n) (hn : n < 2147483648) : Run 6 [.ref a, .long k, .long v] h (.inl (some (.int 1))) (setI (setL (setL h (a + 1) (gI h a 2).toNatClampNeg k) (a + 2) (gI h a 2).toNatClampNeg v) a 2 (gI h a 2 + 1)) := by
  refine ⟨Nat.le_of_ble_eq_true rfl, ?_⟩
  show Ev 6 0 [some (.ref a), some (.long k), none, some (.long v), none] [] h _
  refine Er_run 1 (pc' := 1) (ls' := [some (.ref a), some (.long k), none, some (.long v), none]) (st' := [.ref a]) rfl ?_
  refine Er_getI (v := gI h a 2) rfl hp.1 rfl ?_
  refine Er_run 1 (pc' := 5) (ls' := [some (.ref a), some (.long k), none, some (.long v), none]) (st' := [.ref a, .int (gI h a 2)]) rfl ?_
  refine Er_getR (x := a + 1) rfl hp.1 hp.2.1 ?_
  refine Er_alen (k := 1) rfl hp.2.2.2.1 (by decide) hp.2.2.2.2.1 ?_
  refine Er_run 1 (pc' := bif decide ((gI h a 2) < (Int32.ofNat n)) then 14 else 12) (ls' := [some (.ref a), some (.long k), none, some (.long v), none]) (st' := []) rfl ?_
  refine Er_pc (t := 14) (show (bif decide ((gI h a 2) < (Int32.ofNat n)) then 14 else 12) = 14 from by rw [show (decide ((gI h a 2) < (Int32.ofNat n))) = true from decide_eq_true (by rw [Int32.lt_iff_toInt_lt, sm_ofNat_toInt hn]; exact h1)]; rfl) ?_
  refine Er_run 1 (pc' := 15) (ls' := [some (.ref a), some (.long k), none, some (.long v), none]) (st' := [.ref a]) rfl ?_
  refine Er_getR (x := a + 1) rfl hp.1 hp.2.1 ?_
  refine Er_run 1 (pc' := 19) (ls' := [some (.ref a), some (.long k), none, some (.long v), none]) (st' := [.ref a, .ref (a + 1)]) rfl ?_
  refine Er_getI (v := gI h a 2) rfl hp.1 rfl ?_
  refine Er_run 1 (pc' := 23) (ls' := [some (.ref a), some (.long k), none, some (.long v), none]) (st' := [.long k, .int (gI h a 2), .ref (a + 1)]) rfl ?_
  refine Er_last rfl hp.2.2.2.1 (by rw [hp.2.2.2.2.1]; exact sm_in_of h0 h1) ?_
  refine Er_run 1 (pc' := 25) (ls' := [some (.ref a), some (.long k), none, some (.long v), none]) (st' := [.ref a]) rfl ?_
  refine Er_getR (x := a + 2) rfl hp.1 hp.2.2.1 ?_
  refine Er_run 1 (pc' := 29) (ls' := [some (.ref a), some (.long k), none, some (.long v), none]) (st' := [.ref a, .ref (a + 2)]) rfl ?_
  refine Er_getI (v := gI h a 2) rfl hp.1 rfl ?_
  refine Er_run 1 (pc' := 33) (ls' := [some (.ref a), some (.long k), none, some (.long v), none]) (st' := [.long v, .int (gI h a 2), .ref (a + 2)]) rfl ?_
  refine Er_last rfl hp.2.2.2.2.2.1 (by show sm_in _ (gS h (a + 2)).2 = true; rw [hp.2.2.2.2.2.2]; exact sm_in_of h0 h1) ?_
  refine Er_run 2 (pc' := 36) (ls' := [some (.ref a), some (.long k), none, some (.long v), none]) (st' := [.ref a, .ref a]) rfl ?_
  refine Er_getI (v := gI h a 2) rfl hp.1 rfl ?_
  refine Er_run 2 (pc' := 41) (ls' := [some (.ref a), some (.long k), none, some (.long v), none]) (st' := [.int ((gI h a 2) + ((1 : Int32))), .ref a]) rfl ?_
  refine Er_putI rfl hp.1 ?_
  refine Er_run 1 (pc' := 45) (ls' := [some (.ref a), some (.long k), none, some (.long v), none]) (st' := [.int ((1 : Int32))]) rfl ?_
  exact Er_fin rfl rfl ⟨rfl, rfl⟩
theorem r_Pairs_add0 {k v : Int64} (hp : isP h a n) (h1 : (gI h a 2).toInt = n) (hn : n < 2147483648) : Run 6 [.ref a, .long k, .long v] h (.inl (some (.int 0))) h := by
  refine ⟨Nat.le_of_ble_eq_true rfl, ?_⟩
  show Ev 6 0 [some (.ref a), some (.long k), none, some (.long v), none] [] h _
  refine Er_run 1 (pc' := 1) (ls' := [some (.ref a), some (.long k), none, some (.long v), none]) (st' := [.ref a]) rfl ?_
  refine Er_getI (v := gI h a 2) rfl hp.1 rfl ?_
  refine Er_run 1 (pc' := 5) (ls' := [some (.ref a), some (.long k), none, some (.long v), none]) (st' := [.ref a, .int (gI h a 2)]) rfl ?_
  refine Er_getR (x := a + 1) rfl hp.1 hp.2.1 ?_
  refine Er_alen (k := 1) rfl hp.2.2.2.1 (by decide) hp.2.2.2.2.1 ?_
  refine Er_run 1 (pc' := bif decide ((gI h a 2) < (Int32.ofNat n)) then 14 else 12) (ls' := [some (.ref a), some (.long k), none, some (.long v), none]) (st' := []) rfl ?_
  refine Er_pc (t := 12) (show (bif decide ((gI h a 2) < (Int32.ofNat n)) then 14 else 12) = 12 from by rw [show (decide ((gI h a 2) < (Int32.ofNat n))) = false from decide_eq_false (by rw [Int32.lt_iff_toInt_lt, sm_ofNat_toInt hn]; omega)]; rfl) ?_
  refine Er_run 1 (pc' := 13) (ls' := [some (.ref a), some (.long k), none, some (.long v), none]) (st' := [.int ((0 : Int32))]) rfl ?_
  exact Er_fin rfl rfl ⟨rfl, rfl⟩
/-- the row at a holds the list l -/
def PL (h : sm_H) (a n : Nat) (l : List (Int64 × Int64)) : Prop := isP h a n ∧ n ≤ 100000 ∧ l.length ≤ n ∧ gI h a 2 = Int32.ofNat l.length ∧ ∀ i p, l[i]? = some p → gL h (a + 1) i = p.1 ∧ gL h (a + 2) i = p.2
theorem jx_cn {i : Nat} (hi : i < 2147483648) : (Int32.ofNat i).toNatClampNeg = i := by
  show (Int32.ofNat i).toInt.toNat = i
  rw [sm_ofNat_toInt hi]; rfl
theorem jx_s1 (i : Nat) : Int32.ofNat i + 1 = Int32.ofNat (i + 1) := (Int32.ofNat_add i 1).symm
theorem isP_fr {lo hi : Nat} {h' : sm_H} (x : Fr lo hi h h') (hd : a + 3 ≤ lo ∨ hi ≤ a) (hp : isP h a n) : isP h' a n := by
  refine ⟨by rw [x.at]; exact hp.1, ?_, ?_, by rw [x.at]; exact hp.2.2.2.1, by rw [x.2.1]; exact hp.2.2.2.2.1, by rw [x.at]; exact hp.2.2.2.2.2.1, by rw [x.2.1]; exact hp.2.2.2.2.2.2⟩
  · rw [(x.2.2.2.2 a (by omega)).2.2]; exact hp.2.1
  · rw [(x.2.2.2.2 a (by omega)).2.2]; exact hp.2.2.1
theorem PL_fr {l : List (Int64 × Int64)} {lo hi : Nat} {h' : sm_H} (x : Fr lo hi h h') (hd : a + 3 ≤ lo ∨ hi ≤ a) (hp : PL h a n l) : PL h' a n l :=
  ⟨isP_fr x hd hp.1, hp.2.1, hp.2.2.1, by rw [(x.2.2.2.2 a (by omega)).1]; exact hp.2.2.2.1, fun i p e => by rw [(x.2.2.2.2 (a + 1) (by omega)).2.1, (x.2.2.2.2 (a + 2) (by omega)).2.1]; exact hp.2.2.2.2 i p e⟩
section PLS
variable {l : List (Int64 × Int64)} {i : Nat} {p : Int64 × Int64}
theorem PL_len (hp : PL h a n l) : (gI h a 2).toInt = l.length := by rw [hp.2.2.2.1]; exact sm_ofNat_toInt (by have := hp.2.1; have := hp.2.2.1; omega)
theorem PL_ix (hp : PL h a n l) (e : l[i]? = some p) : i < l.length ∧ i < 2147483648 := by
  have h1 : i < l.length := (List.getElem?_eq_some_iff.1 e).1
  have := hp.2.1
  have := hp.2.2.1
  exact ⟨h1, by omega⟩
theorem s_Pairs_length (hp : PL h a n l) : Run 1 [.ref a] h (.inl (some (.int (Int32.ofNat l.length)))) h := by
  rw [← hp.2.2.2.1]; exact r_Pairs_length hp.1
theorem s_Pairs_key (hp : PL h a n l) (e : l[i]? = some p) : Run 4 [.ref a, .int (Int32.ofNat i)] h (.inl (some (.long p.1))) h := by
  obtain ⟨h1, h2⟩ := PL_ix hp e
  have hl := PL_len hp
  have ht := sm_ofNat_toInt h2
  have hn := hp.2.2.1
  have r := r_Pairs_key (i := Int32.ofNat i) hp.1 (by omega) (by omega) (by omega)
  rw [jx_cn h2, (hp.2.2.2.2 i p e).1] at r
  exact r
theorem s_Pairs_value (hp : PL h a n l) (e : l[i]? = some p) : Run 5 [.ref a, .int (Int32.ofNat i)] h (.inl (some (.long p.2))) h := by
  obtain ⟨h1, h2⟩ := PL_ix hp e
  have hl := PL_len hp
  have ht := sm_ofNat_toInt h2
  have hn := hp.2.2.1
  have r := r_Pairs_value (i := Int32.ofNat i) hp.1 (by omega) (by omega) (by omega)
  rw [jx_cn h2, (hp.2.2.2.2 i p e).2] at r
  exact r
theorem s_Pairs_empty (hp : PL h a n l) : ∃ h', Run 3 [.ref a] h (.inl none) h' ∧ PL h' a n [] ∧ Fr a (a + 3) h h' :=
  ⟨setI h a 2 0, r_Pairs_empty hp.1, ⟨hp.1, hp.2.1, Nat.zero_le _, by show (if a = a ∧ 2 = 2 then (0 : Int32) else _) = _; rw [if_pos ⟨rfl, rfl⟩]; rfl, fun i p e => by simp at e⟩, Fr.setI (Nat.le_refl _) (by omega)⟩
theorem s_Pairs_add0 {k v : Int64} (hp : PL h a n l) (hl : l.length = n) : Run 6 [.ref a, .long k, .long v] h (.inl (some (.int 0))) h :=
  r_Pairs_add0 hp.1 (by rw [PL_len hp, hl]) (by have := hp.2.1; omega)
theorem s_Pairs_add1 {k v : Int64} (hp : PL h a n l) (hl : l.length < n) : ∃ h', Run 6 [.ref a, .long k, .long v] h (.inl (some (.int 1))) h' ∧ PL h' a n (l ++ [(k, v)]) ∧ Fr a (a + 3) h h' := by
  have h1 := PL_len hp
  have h2 := hp.2.1
  have hb : l.length < 2147483648 := by omega
  have r := r_Pairs_add1 (k := k) (v := v) hp.1 (by omega) (by omega) (by omega)
  rw [hp.2.2.2.1, jx_cn hb, jx_s1] at r
  refine ⟨_, r, ⟨hp.1, hp.2.1, by simp; omega, ?_, ?_⟩, ?_⟩
  · show (if a = a ∧ 2 = 2 then _ else _) = _
    rw [if_pos ⟨rfl, rfl⟩]; simp
  · intro i p e
    have e1 : gL (setI (setL (setL h (a + 1) l.length k) (a + 2) l.length v) a 2 (Int32.ofNat (l.length + 1))) (a + 1) i = if i = l.length then k else gL h (a + 1) i := by
      show (if a + 1 = a + 2 ∧ i = l.length then v else if a + 1 = a + 1 ∧ i = l.length then k else gL h (a + 1) i) = _
      rw [if_neg (by omega)]; simp
    have e2 : gL (setI (setL (setL h (a + 1) l.length k) (a + 2) l.length v) a 2 (Int32.ofNat (l.length + 1))) (a + 2) i = if i = l.length then v else gL h (a + 2) i := by
      show (if a + 2 = a + 2 ∧ i = l.length then v else if a + 2 = a + 1 ∧ i = l.length then k else gL h (a + 2) i) = _
      rw [if_neg (c := a + 2 = a + 1 ∧ i = l.length) (by omega)]; simp
    rw [e1, e2]
    by_cases hi : i = l.length
    · subst hi
      simp at e
      subst e
      simp
    · have hlt : i < l.length := by
        have := (List.getElem?_eq_some_iff.1 e).1
        simp at this
        omega
      rw [List.getElem?_append_left hlt] at e
      rw [if_neg hi, if_neg hi]
      exact hp.2.2.2.2 i p e
  · exact ((Fr.setL (by omega) (by omega)).trans (Fr.setL (by omega) (by omega))).trans (Fr.setI (by omega) (by omega))
end PLS
end PAIRS
