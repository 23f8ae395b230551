section DISKC
variable {h h' : sm_H} {d t c j x np : Nat} {dp : Int32} {sp pa re l : Jl} {ta : Nat → Option Jl} {f : Nat → Int32}
/-- the PART of a KEY, as Job.partOf says -/
def jp_of (np : Nat) (k : Int64) : Int32 := (jx_fm k (Int32.ofNat np).toInt64).toInt32
/-- of what task t left: what is of PART r (of a PART's RECORDS: all) -/
def jd_sel (np t : Nat) (r : Int32) (l : Jl) : Jl := if t < 38 then l.filter (fun p => decide (jp_of np p.1 = r)) else l
def jd_flat (l : Jl) : List Int64 := l.flatMap (fun p => [p.1, p.2])
/-- a page from offset x on -/
def jd_page (f : Nat → Int32) (x : Nat) (s : Jl) : Jm := (jx_up (jx_up f 9 (Int32.ofNat ((s.drop x).take 16).length)) 10 (Int32.ofNat s.length), jd_flat ((s.drop x).take 16))
theorem jd_flat_len (l : Jl) : (jd_flat l).length = 2 * l.length := by
  induction l with
  | nil => rfl
  | cons p l ih => rw [jd_flat, List.flatMap_cons, List.length_append]; show 2 + (jd_flat l).length = _; rw [ih, List.length_cons]; omega
theorem jd_flat_app (l : Jl) (p : Int64 × Int64) : jd_flat (l ++ [p]) = jd_flat l ++ [p.1] ++ [p.2] := by
  rw [jd_flat, List.flatMap_append]; show jd_flat l ++ [p.1, p.2] = _; simp
theorem jd_add {x : Nat} {s : Jl} (p : Int64 × Int64) (h1 : x ≤ s.length) (h2 : ((s.drop x).take 16).length < 16) : ((s ++ [p]).drop x).take 16 = (s.drop x).take 16 ++ [p] := by
  rw [List.length_take] at h2
  rw [List.drop_append_of_le_length h1, List.take_of_length_le (by rw [List.length_append, List.length_singleton]; omega), List.take_of_length_le (by omega)]
theorem jd_skip {x : Nat} {s : Jl} (p : Int64 × Int64) (h1 : ¬ (x ≤ s.length ∧ ((s.drop x).take 16).length < 16)) : ((s ++ [p]).drop x).take 16 = (s.drop x).take 16 := by
  by_cases h2 : x ≤ s.length
  · rw [List.drop_append_of_le_length h2, List.take_append_of_le_length]
    rw [List.length_take] at h1
    omega
  · rw [List.drop_eq_nil_of_le (by rw [List.length_append, List.length_singleton]; omega), List.drop_eq_nil_of_le (by omega)]
theorem jd_page_skip {s : Jl} (p : Int64 × Int64) (h1 : ¬ (x ≤ s.length ∧ ((s.drop x).take 16).length < 16)) : jd_page f x (s ++ [p]) = (jx_up (jd_page f x s).1 10 (Int32.ofNat (s.length + 1)), (jd_page f x s).2) := by
  rw [jd_page, jd_page, jd_skip p h1, List.length_append, List.length_singleton]
  congr 1
  funext i
  simp only [jx_up]
  split <;> rfl
theorem jd_page_add {s : Jl} (p : Int64 × Int64) (h1 : x ≤ s.length) (h2 : ((s.drop x).take 16).length < 16) : jd_page f x (s ++ [p]) = (jx_up (jx_up (jd_page f x s).1 9 (Int32.ofNat (((s.drop x).take 16).length + 1))) 10 (Int32.ofNat (s.length + 1)), (jd_page f x s).2 ++ [p.1] ++ [p.2]) := by
  rw [jd_page, jd_page, jd_add p h1 h2, jd_flat_app, List.length_append, List.length_append, List.length_singleton]
  congr 1
  funext i
  simp only [jx_up]
  split
  · rfl
  · split <;> rfl
/-- what a page carries -/
theorem jd_prs {g : Nat → Int32} (l : Jl) : jm_prs (g, jd_flat l) l.length = l := by
  have h1 : ∀ (l : Jl) (i : Nat) (p : Int64 × Int64), l[i]? = some p → (jd_flat l)[2 * i]? = some p.1 ∧ (jd_flat l)[2 * i + 1]? = some p.2 := by
    intro l
    induction l with
    | nil => intro i p e; simp at e
    | cons q l ih =>
      intro i p e
      have e2 : jd_flat (q :: l) = q.1 :: q.2 :: jd_flat l := rfl
      rw [e2]
      cases i with
      | zero => simp at e; subst e; exact ⟨rfl, rfl⟩
      | succ i =>
        rw [show 2 * (i + 1) = 2 * i + 1 + 1 from by omega]
        exact ih i p (by simpa using e)
  apply List.ext_getElem?
  intro i
  rw [jm_prs, List.getElem?_map]
  by_cases hi : i < l.length
  · rw [List.getElem?_range hi, List.getElem?_eq_getElem hi]
    obtain ⟨e1, e2⟩ := h1 l i l[i] (List.getElem?_eq_getElem hi)
    show some (jm_get (g, jd_flat l) (2 * i), jm_get (g, jd_flat l) (2 * i + 1)) = _
    rw [jm_get, jm_get]
    show some ((jd_flat l)[2 * i]?.getD 0, (jd_flat l)[2 * i + 1]?.getD 0) = _
    rw [e1, e2]; rfl
  · rw [List.getElem?_eq_none (by simpa using hi), List.getElem?_eq_none (by omega)]; rfl
theorem jd_sel_take {np t : Nat} {r : Int32} {l : Jl} {i : Nat} {p : Int64 × Int64} (e : l[i]? = some p) : jd_sel np t r (l.take (i + 1)) = if t < 38 ∧ jp_of np p.1 ≠ r then jd_sel np t r (l.take i) else jd_sel np t r (l.take i) ++ [p] := by
  have hi : i < l.length := (List.getElem?_eq_some_iff.1 e).1
  have ht : l.take (i + 1) = l.take i ++ [p] := by rw [List.take_succ, e]; rfl
  rw [jd_sel, jd_sel, ht]
  by_cases h1 : t < 38
  · rw [if_pos h1, if_pos h1, List.filter_append]
    by_cases h2 : jp_of np p.1 = r
    · rw [if_neg (fun z => z.2 h2), List.filter_cons_of_pos (by simpa using h2)]; rfl
    · rw [if_pos ⟨h1, h2⟩, List.filter_cons_of_neg (by simpa using h2)]; simp
  · rw [if_neg h1, if_neg h1, if_neg (fun z => h1 z.1)]

theorem l_loadM {s : Nat} {row : Jl} (ht : t < 44) (hl : t < 38) (hx : x < 100000) (hnp : ¬ Int32.ofNat np ≤ 0 ∧ (Int32.ofNat np).toInt64 ≠ 0) (hf6 : f 6 = Int32.ofNat t) (hf8 : f 8 = Int32.ofNat x) (hcd : c + 2 ≤ d ∨ d + 13 ≤ c) (hcj : c + 2 ≤ j ∨ j + 2 ≤ c) (p4 : s + l.length ≤ row.length) (p5 : (row.drop s).take l.length = l) (hrl : row.length ≤ 1000) : ∀ (k i : Nat) (h : sm_H), i + k = l.length → MG h c (jd_page f x (jd_sel np t (f 7) (l.take i))) → PL h (d + 4) 1000 row → isJ h j → gI h j 5 = Int32.ofNat np → Ev 85 53 [some (.ref d), some (.ref c), some (.ref j), some (.ref (d + 4)), some (.int (Int32.ofNat (s + l.length))), some (.int (Int32.ofNat (s + i)))] [] h (fun r h1 => r = .inl none ∧ MG h1 c (jd_page f x (jd_sel np t (f 7) l)) ∧ Fr c (c + 2) h h1) := by
  intro k
  induction k with
  | zero =>
    intro i h hi hg hw hj hj5
    refine Er_run 3 (pc' := bif decide ((Int32.ofNat (s + l.length)) ≤ (Int32.ofNat (s + i))) then 155 else 60) (ls' := [some (.ref d), some (.ref c), some (.ref j), some (.ref (d + 4)), some (.int (Int32.ofNat (s + l.length))), some (.int (Int32.ofNat (s + i)))]) (st' := []) rfl ?_
    refine Er_pc (t := 155) (show (bif decide ((Int32.ofNat (s + l.length)) ≤ (Int32.ofNat (s + i))) then 155 else 60) = 155 from by rw [show (decide ((Int32.ofNat (s + l.length)) ≤ (Int32.ofNat (s + i)))) = true from by rw [jx_le (by omega) (by omega)]; exact decide_eq_true (by omega)]; rfl) ?_
    refine Er_fin rfl rfl ⟨rfl, ?_, Fr.refl _ _ _⟩
    rw [List.take_of_length_le (by omega)] at hg
    exact hg
  | succ k ih =>
    intro i h hi hg hw hj hj5
    obtain ⟨p, hpl⟩ := jx_at (show i < l.length by omega)
    have hpw : row[s + i]? = some p := by
      rw [← hpl, ← p5, List.getElem?_take_of_lt (by omega), List.getElem?_drop]
    have hsl : (jd_sel np t (f 7) (l.take i)).length ≤ l.length := by
      rw [jd_sel, if_pos hl]; exact Nat.le_trans (List.length_filter_le _ _) (by rw [List.length_take]; omega)
    have hal : (((jd_sel np t (f 7) (l.take i)).drop x).take 16).length ≤ 16 := by rw [List.length_take]; omega
    by_cases hpt : jp_of np p.1 = f 7
    · by_cases hns : x ≤ (jd_sel np t (f 7) (l.take i)).length ∧ (((jd_sel np t (f 7) (l.take i)).drop x).take 16).length < 16
      · skip
        refine Er_run 3 (pc' := bif decide ((Int32.ofNat (s + l.length)) ≤ (Int32.ofNat (s + i))) then 155 else 60) (ls' := [some (.ref d), some (.ref c), some (.ref j), some (.ref (d + 4)), some (.int (Int32.ofNat (s + l.length))), some (.int (Int32.ofNat (s + i)))]) (st' := []) rfl ?_
        refine Er_pc (t := 60) (show (bif decide ((Int32.ofNat (s + l.length)) ≤ (Int32.ofNat (s + i))) then 155 else 60) = 60 from by rw [show (decide ((Int32.ofNat (s + l.length)) ≤ (Int32.ofNat (s + i)))) = false from by rw [jx_le (by omega) (by omega)]; exact decide_eq_false (by omega)]; rfl) ?_
        refine Er_run 1 (pc' := 61) (ls' := [some (.ref d), some (.ref c), some (.ref j), some (.ref (d + 4)), some (.int (Int32.ofNat (s + l.length))), some (.int (Int32.ofNat (s + i)))]) (st' := [.ref c]) rfl ?_
        refine Er_getI (v := Int32.ofNat t) rfl hg.1.1 (by rw [← hf6]; exact (hg.2.2.2.1 6 (by omega) (by omega))) ?_
        refine Er_run 2 (pc' := bif decide (((38 : Int32)) ≤ (Int32.ofNat t)) then 89 else 69) (ls' := [some (.ref d), some (.ref c), some (.ref j), some (.ref (d + 4)), some (.int (Int32.ofNat (s + l.length))), some (.int (Int32.ofNat (s + i)))]) (st' := []) rfl ?_
        refine Er_pc (t := 69) (show (bif decide (((38 : Int32)) ≤ (Int32.ofNat t)) then 89 else 69) = 69 from by rw [show (decide (((38 : Int32)) ≤ (Int32.ofNat t))) = false from by rw [show (38 : Int32) = Int32.ofNat 38 from rfl, jx_le (by omega) (by omega)]; exact decide_eq_false (by omega)]; rfl) ?_
        refine Er_run 3 (pc' := 73) (ls' := [some (.ref d), some (.ref c), some (.ref j), some (.ref (d + 4)), some (.int (Int32.ofNat (s + l.length))), some (.int (Int32.ofNat (s + i)))]) (st' := [.int (Int32.ofNat (s + i)), .ref (d + 4), .ref j]) rfl ?_
        refine Er_inv1 (q' := d + 4) (ci := 0) (av := [.int (Int32.ofNat (s + i))]) (rest := [.ref j]) rfl rfl ⟨Nat.le_of_ble_eq_true rfl, Nat.le_of_ble_eq_true rfl⟩ rfl rfl hw.1.1 (s_Pairs_key hw hpw) ?_
        have hpo := s_Job_partOf (x := p.1) hj (by rw [hj5]; exact hnp.1) (by rw [hj5]; exact hnp.2)
        rw [hj5] at hpo
        refine Er_inv1 (q' := j) (ci := 2) (av := [.long (p.1)]) (rest := []) rfl rfl ⟨Nat.le_of_ble_eq_true rfl, Nat.le_of_ble_eq_true rfl⟩ rfl rfl hj.1 hpo ?_
        refine Er_run 1 (pc' := 80) (ls' := [some (.ref d), some (.ref c), some (.ref j), some (.ref (d + 4)), some (.int (Int32.ofNat (s + l.length))), some (.int (Int32.ofNat (s + i)))]) (st' := [.ref c, .int (jp_of np p.1)]) rfl ?_
        refine Er_getI (v := f 7) rfl hg.1.1 (hg.2.2.2.1 7 (by omega) (by omega)) ?_
        refine Er_run 1 (pc' := bif decide ((jp_of np p.1) = (f 7)) then 89 else 86) (ls' := [some (.ref d), some (.ref c), some (.ref j), some (.ref (d + 4)), some (.int (Int32.ofNat (s + l.length))), some (.int (Int32.ofNat (s + i)))]) (st' := []) rfl ?_
        refine Er_pc (t := 89) (show (bif decide ((jp_of np p.1) = (f 7)) then 89 else 86) = 89 from by rw [show (decide ((jp_of np p.1) = (f 7))) = true from decide_eq_true hpt]; rfl) ?_
        refine Er_run 1 (pc' := 90) (ls' := [some (.ref d), some (.ref c), some (.ref j), some (.ref (d + 4)), some (.int (Int32.ofNat (s + l.length))), some (.int (Int32.ofNat (s + i)))]) (st' := [.ref c]) rfl ?_
        refine Er_getI (v := Int32.ofNat (jd_sel np t (f 7) (l.take i)).length) rfl hg.1.1 (hg.2.2.2.1 10 (by omega) (by omega)) ?_
        refine Er_run 1 (pc' := 94) (ls' := [some (.ref d), some (.ref c), some (.ref j), some (.ref (d + 4)), some (.int (Int32.ofNat (s + l.length))), some (.int (Int32.ofNat (s + i)))]) (st' := [.ref c, .int (Int32.ofNat (jd_sel np t (f 7) (l.take i)).length)]) rfl ?_
        refine Er_getI (v := Int32.ofNat x) rfl hg.1.1 (by rw [← hf8]; exact (hg.2.2.2.1 8 (by omega) (by omega))) ?_
        refine Er_run 1 (pc' := bif decide ((Int32.ofNat (jd_sel np t (f 7) (l.take i)).length) < (Int32.ofNat x)) then 139 else 100) (ls' := [some (.ref d), some (.ref c), some (.ref j), some (.ref (d + 4)), some (.int (Int32.ofNat (s + l.length))), some (.int (Int32.ofNat (s + i)))]) (st' := []) rfl ?_
        refine Er_pc (t := 100) (show (bif decide ((Int32.ofNat (jd_sel np t (f 7) (l.take i)).length) < (Int32.ofNat x)) then 139 else 100) = 100 from by rw [show (decide ((Int32.ofNat (jd_sel np t (f 7) (l.take i)).length) < (Int32.ofNat x))) = false from by rw [jx_lt (by omega) (by omega)]; exact decide_eq_false (by omega)]; rfl) ?_
        refine Er_run 1 (pc' := 101) (ls' := [some (.ref d), some (.ref c), some (.ref j), some (.ref (d + 4)), some (.int (Int32.ofNat (s + l.length))), some (.int (Int32.ofNat (s + i)))]) (st' := [.ref c]) rfl ?_
        refine Er_getI (v := Int32.ofNat (((jd_sel np t (f 7) (l.take i)).drop x).take 16).length) rfl hg.1.1 (hg.2.2.2.1 9 (by omega) (by omega)) ?_
        refine Er_run 2 (pc' := bif decide (((16 : Int32)) ≤ (Int32.ofNat (((jd_sel np t (f 7) (l.take i)).drop x).take 16).length)) then 139 else 109) (ls' := [some (.ref d), some (.ref c), some (.ref j), some (.ref (d + 4)), some (.int (Int32.ofNat (s + l.length))), some (.int (Int32.ofNat (s + i)))]) (st' := []) rfl ?_
        refine Er_pc (t := 109) (show (bif decide (((16 : Int32)) ≤ (Int32.ofNat (((jd_sel np t (f 7) (l.take i)).drop x).take 16).length)) then 139 else 109) = 109 from by rw [show (decide (((16 : Int32)) ≤ (Int32.ofNat (((jd_sel np t (f 7) (l.take i)).drop x).take 16).length))) = false from by rw [show (16 : Int32) = Int32.ofNat 16 from rfl, jx_le (by omega) (by omega)]; exact decide_eq_false (by omega)]; rfl) ?_
        refine Er_run 3 (pc' := 113) (ls' := [some (.ref d), some (.ref c), some (.ref j), some (.ref (d + 4)), some (.int (Int32.ofNat (s + l.length))), some (.int (Int32.ofNat (s + i)))]) (st' := [.int (Int32.ofNat (s + i)), .ref (d + 4), .ref c]) rfl ?_
        refine Er_inv1 (q' := d + 4) (ci := 0) (av := [.int (Int32.ofNat (s + i))]) (rest := [.ref c]) rfl rfl ⟨Nat.le_of_ble_eq_true rfl, Nat.le_of_ble_eq_true rfl⟩ rfl rfl hw.1.1 (s_Pairs_key hw hpw) ?_
        obtain ⟨h1, r1, g1, f1⟩ := s_Message_put (x := p.1) hg (by show (jd_flat _).length < 38; rw [jd_flat_len]; omega)
        refine Er_inv0 (q' := c) (ci := 5) (av := [.long (p.1)]) (rest := []) rfl rfl ⟨Nat.le_of_ble_eq_true rfl, Nat.le_of_ble_eq_true rfl⟩ rfl rfl hg.1.1 r1 ?_
        refine Er_run 3 (pc' := 123) (ls' := [some (.ref d), some (.ref c), some (.ref j), some (.ref (d + 4)), some (.int (Int32.ofNat (s + l.length))), some (.int (Int32.ofNat (s + i)))]) (st' := [.int (Int32.ofNat (s + i)), .ref (d + 4), .ref c]) rfl ?_
        refine Er_inv1 (q' := d + 4) (ci := 0) (av := [.int (Int32.ofNat (s + i))]) (rest := [.ref c]) rfl rfl ⟨Nat.le_of_ble_eq_true rfl, Nat.le_of_ble_eq_true rfl⟩ rfl rfl (PL_fr f1 (by omega) hw).1.1 (s_Pairs_value (PL_fr f1 (by omega) hw) hpw) ?_
        obtain ⟨h2, r2, g2, f2⟩ := s_Message_put (x := p.2) g1 (by show (jd_flat _ ++ [p.1]).length < 38; rw [List.length_append, jd_flat_len, List.length_singleton]; omega)
        refine Er_inv0 (q' := c) (ci := 5) (av := [.long (p.2)]) (rest := []) rfl rfl ⟨Nat.le_of_ble_eq_true rfl, Nat.le_of_ble_eq_true rfl⟩ rfl rfl g1.1.1 r2 ?_
        refine Er_run 2 (pc' := 131) (ls' := [some (.ref d), some (.ref c), some (.ref j), some (.ref (d + 4)), some (.int (Int32.ofNat (s + l.length))), some (.int (Int32.ofNat (s + i)))]) (st' := [.ref c, .ref c]) rfl ?_
        refine Er_getI (v := Int32.ofNat (((jd_sel np t (f 7) (l.take i)).drop x).take 16).length) rfl g2.1.1 (g2.2.2.2.1 9 (by omega) (by omega)) ?_
        refine Er_run 2 (pc' := 136) (ls' := [some (.ref d), some (.ref c), some (.ref j), some (.ref (d + 4)), some (.int (Int32.ofNat (s + l.length))), some (.int (Int32.ofNat (s + i)))]) (st' := [.int ((Int32.ofNat (((jd_sel np t (f 7) (l.take i)).drop x).take 16).length) + ((1 : Int32))), .ref c]) rfl ?_
        refine Er_putI rfl g2.1.1 ?_
        refine Er_run 2 (pc' := 141) (ls' := [some (.ref d), some (.ref c), some (.ref j), some (.ref (d + 4)), some (.int (Int32.ofNat (s + l.length))), some (.int (Int32.ofNat (s + i)))]) (st' := [.ref c, .ref c]) rfl ?_
        refine Er_getI (v := Int32.ofNat (jd_sel np t (f 7) (l.take i)).length) rfl g2.1.1 (by rw [gI_ne (by omega)]; exact (g2.2.2.2.1 10 (by omega) (by omega))) ?_
        refine Er_run 2 (pc' := 146) (ls' := [some (.ref d), some (.ref c), some (.ref j), some (.ref (d + 4)), some (.int (Int32.ofNat (s + l.length))), some (.int (Int32.ofNat (s + i)))]) (st' := [.int ((Int32.ofNat (jd_sel np t (f 7) (l.take i)).length) + ((1 : Int32))), .ref c]) rfl ?_
        refine Er_putI rfl g2.1.1 ?_
        refine Er_run 2 (pc' := 53) (ls' := [some (.ref d), some (.ref c), some (.ref j), some (.ref (d + 4)), some (.int (Int32.ofNat (s + l.length))), some (.int ((Int32.ofNat (s + i)) + (1 : Int32)))]) (st' := []) rfl ?_
        rw [jx_s1, jx_s1, jx_s1]
        have hg3 := MG_set (j := 10) (x := Int32.ofNat ((jd_sel np t (f 7) (l.take i)).length + 1)) (by omega) (MG_set (j := 9) (x := Int32.ofNat ((((jd_sel np t (f 7) (l.take i)).drop x).take 16).length + 1)) (by omega) g2)
        have z : Fr c (c + 2) h (setI (setI h2 c 9 (Int32.ofNat ((((jd_sel np t (f 7) (l.take i)).drop x).take 16).length + 1))) c 10 (Int32.ofNat ((jd_sel np t (f 7) (l.take i)).length + 1))) := (f1.trans f2).trans ((Fr.setI (by omega) (by omega)).trans (Fr.setI (by omega) (by omega)))
        refine sm_Ev.mono (ih (i + 1) _ (by omega) ?_ (PL_fr z (by omega) hw) (isJ_fr z (by omega) hj) (by rw [(z.2.2.2.2 j (by omega)).1]; exact hj5)) (fun r h9 y => ⟨y.1, y.2.1, z.trans y.2.2⟩)
        rw [jd_sel_take hpl, if_neg (fun y => y.2 hpt), jd_page_add p hns.1 hns.2]
        exact hg3
      · skip
        by_cases hlt : (jd_sel np t (f 7) (l.take i)).length < x
        · skip
          refine Er_run 3 (pc' := bif decide ((Int32.ofNat (s + l.length)) ≤ (Int32.ofNat (s + i))) then 155 else 60) (ls' := [some (.ref d), some (.ref c), some (.ref j), some (.ref (d + 4)), some (.int (Int32.ofNat (s + l.length))), some (.int (Int32.ofNat (s + i)))]) (st' := []) rfl ?_
          refine Er_pc (t := 60) (show (bif decide ((Int32.ofNat (s + l.length)) ≤ (Int32.ofNat (s + i))) then 155 else 60) = 60 from by rw [show (decide ((Int32.ofNat (s + l.length)) ≤ (Int32.ofNat (s + i)))) = false from by rw [jx_le (by omega) (by omega)]; exact decide_eq_false (by omega)]; rfl) ?_
          refine Er_run 1 (pc' := 61) (ls' := [some (.ref d), some (.ref c), some (.ref j), some (.ref (d + 4)), some (.int (Int32.ofNat (s + l.length))), some (.int (Int32.ofNat (s + i)))]) (st' := [.ref c]) rfl ?_
          refine Er_getI (v := Int32.ofNat t) rfl hg.1.1 (by rw [← hf6]; exact (hg.2.2.2.1 6 (by omega) (by omega))) ?_
          refine Er_run 2 (pc' := bif decide (((38 : Int32)) ≤ (Int32.ofNat t)) then 89 else 69) (ls' := [some (.ref d), some (.ref c), some (.ref j), some (.ref (d + 4)), some (.int (Int32.ofNat (s + l.length))), some (.int (Int32.ofNat (s + i)))]) (st' := []) rfl ?_
          refine Er_pc (t := 69) (show (bif decide (((38 : Int32)) ≤ (Int32.ofNat t)) then 89 else 69) = 69 from by rw [show (decide (((38 : Int32)) ≤ (Int32.ofNat t))) = false from by rw [show (38 : Int32) = Int32.ofNat 38 from rfl, jx_le (by omega) (by omega)]; exact decide_eq_false (by omega)]; rfl) ?_
          refine Er_run 3 (pc' := 73) (ls' := [some (.ref d), some (.ref c), some (.ref j), some (.ref (d + 4)), some (.int (Int32.ofNat (s + l.length))), some (.int (Int32.ofNat (s + i)))]) (st' := [.int (Int32.ofNat (s + i)), .ref (d + 4), .ref j]) rfl ?_
          refine Er_inv1 (q' := d + 4) (ci := 0) (av := [.int (Int32.ofNat (s + i))]) (rest := [.ref j]) rfl rfl ⟨Nat.le_of_ble_eq_true rfl, Nat.le_of_ble_eq_true rfl⟩ rfl rfl hw.1.1 (s_Pairs_key hw hpw) ?_
          have hpo := s_Job_partOf (x := p.1) hj (by rw [hj5]; exact hnp.1) (by rw [hj5]; exact hnp.2)
          rw [hj5] at hpo
          refine Er_inv1 (q' := j) (ci := 2) (av := [.long (p.1)]) (rest := []) rfl rfl ⟨Nat.le_of_ble_eq_true rfl, Nat.le_of_ble_eq_true rfl⟩ rfl rfl hj.1 hpo ?_
          refine Er_run 1 (pc' := 80) (ls' := [some (.ref d), some (.ref c), some (.ref j), some (.ref (d + 4)), some (.int (Int32.ofNat (s + l.length))), some (.int (Int32.ofNat (s + i)))]) (st' := [.ref c, .int (jp_of np p.1)]) rfl ?_
          refine Er_getI (v := f 7) rfl hg.1.1 (hg.2.2.2.1 7 (by omega) (by omega)) ?_
          refine Er_run 1 (pc' := bif decide ((jp_of np p.1) = (f 7)) then 89 else 86) (ls' := [some (.ref d), some (.ref c), some (.ref j), some (.ref (d + 4)), some (.int (Int32.ofNat (s + l.length))), some (.int (Int32.ofNat (s + i)))]) (st' := []) rfl ?_
          refine Er_pc (t := 89) (show (bif decide ((jp_of np p.1) = (f 7)) then 89 else 86) = 89 from by rw [show (decide ((jp_of np p.1) = (f 7))) = true from decide_eq_true hpt]; rfl) ?_
          refine Er_run 1 (pc' := 90) (ls' := [some (.ref d), some (.ref c), some (.ref j), some (.ref (d + 4)), some (.int (Int32.ofNat (s + l.length))), some (.int (Int32.ofNat (s + i)))]) (st' := [.ref c]) rfl ?_
          refine Er_getI (v := Int32.ofNat (jd_sel np t (f 7) (l.take i)).length) rfl hg.1.1 (hg.2.2.2.1 10 (by omega) (by omega)) ?_
          refine Er_run 1 (pc' := 94) (ls' := [some (.ref d), some (.ref c), some (.ref j), some (.ref (d + 4)), some (.int (Int32.ofNat (s + l.length))), some (.int (Int32.ofNat (s + i)))]) (st' := [.ref c, .int (Int32.ofNat (jd_sel np t (f 7) (l.take i)).length)]) rfl ?_
          refine Er_getI (v := Int32.ofNat x) rfl hg.1.1 (by rw [← hf8]; exact (hg.2.2.2.1 8 (by omega) (by omega))) ?_
          refine Er_run 1 (pc' := bif decide ((Int32.ofNat (jd_sel np t (f 7) (l.take i)).length) < (Int32.ofNat x)) then 139 else 100) (ls' := [some (.ref d), some (.ref c), some (.ref j), some (.ref (d + 4)), some (.int (Int32.ofNat (s + l.length))), some (.int (Int32.ofNat (s + i)))]) (st' := []) rfl ?_
          refine Er_pc (t := 139) (show (bif decide ((Int32.ofNat (jd_sel np t (f 7) (l.take i)).length) < (Int32.ofNat x)) then 139 else 100) = 139 from by rw [show (decide ((Int32.ofNat (jd_sel np t (f 7) (l.take i)).length) < (Int32.ofNat x))) = true from by rw [jx_lt (by omega) (by omega)]; exact decide_eq_true (by omega)]; rfl) ?_
          refine Er_run 2 (pc' := 141) (ls' := [some (.ref d), some (.ref c), some (.ref j), some (.ref (d + 4)), some (.int (Int32.ofNat (s + l.length))), some (.int (Int32.ofNat (s + i)))]) (st' := [.ref c, .ref c]) rfl ?_
          refine Er_getI (v := Int32.ofNat (jd_sel np t (f 7) (l.take i)).length) rfl hg.1.1 (hg.2.2.2.1 10 (by omega) (by omega)) ?_
          refine Er_run 2 (pc' := 146) (ls' := [some (.ref d), some (.ref c), some (.ref j), some (.ref (d + 4)), some (.int (Int32.ofNat (s + l.length))), some (.int (Int32.ofNat (s + i)))]) (st' := [.int ((Int32.ofNat (jd_sel np t (f 7) (l.take i)).length) + ((1 : Int32))), .ref c]) rfl ?_
          refine Er_putI rfl hg.1.1 ?_
          refine Er_run 2 (pc' := 53) (ls' := [some (.ref d), some (.ref c), some (.ref j), some (.ref (d + 4)), some (.int (Int32.ofNat (s + l.length))), some (.int ((Int32.ofNat (s + i)) + (1 : Int32)))]) (st' := []) rfl ?_
          rw [jx_s1, jx_s1]
          have hg2 := MG_set (j := 10) (x := Int32.ofNat ((jd_sel np t (f 7) (l.take i)).length + 1)) (by omega) hg
          have z : Fr c (c + 2) h (setI h c 10 (Int32.ofNat ((jd_sel np t (f 7) (l.take i)).length + 1))) := Fr.setI (by omega) (by omega)
          refine sm_Ev.mono (ih (i + 1) _ (by omega) ?_ (PL_fr z (by omega) hw) (isJ_fr z (by omega) hj) (by rw [(z.2.2.2.2 j (by omega)).1]; exact hj5)) (fun r h9 y => ⟨y.1, y.2.1, z.trans y.2.2⟩)
          rw [jd_sel_take hpl, if_neg (fun y => y.2 hpt), jd_page_skip p hns]
          exact hg2
        · skip
          refine Er_run 3 (pc' := bif decide ((Int32.ofNat (s + l.length)) ≤ (Int32.ofNat (s + i))) then 155 else 60) (ls' := [some (.ref d), some (.ref c), some (.ref j), some (.ref (d + 4)), some (.int (Int32.ofNat (s + l.length))), some (.int (Int32.ofNat (s + i)))]) (st' := []) rfl ?_
          refine Er_pc (t := 60) (show (bif decide ((Int32.ofNat (s + l.length)) ≤ (Int32.ofNat (s + i))) then 155 else 60) = 60 from by rw [show (decide ((Int32.ofNat (s + l.length)) ≤ (Int32.ofNat (s + i)))) = false from by rw [jx_le (by omega) (by omega)]; exact decide_eq_false (by omega)]; rfl) ?_
          refine Er_run 1 (pc' := 61) (ls' := [some (.ref d), some (.ref c), some (.ref j), some (.ref (d + 4)), some (.int (Int32.ofNat (s + l.length))), some (.int (Int32.ofNat (s + i)))]) (st' := [.ref c]) rfl ?_
          refine Er_getI (v := Int32.ofNat t) rfl hg.1.1 (by rw [← hf6]; exact (hg.2.2.2.1 6 (by omega) (by omega))) ?_
          refine Er_run 2 (pc' := bif decide (((38 : Int32)) ≤ (Int32.ofNat t)) then 89 else 69) (ls' := [some (.ref d), some (.ref c), some (.ref j), some (.ref (d + 4)), some (.int (Int32.ofNat (s + l.length))), some (.int (Int32.ofNat (s + i)))]) (st' := []) rfl ?_
          refine Er_pc (t := 69) (show (bif decide (((38 : Int32)) ≤ (Int32.ofNat t)) then 89 else 69) = 69 from by rw [show (decide (((38 : Int32)) ≤ (Int32.ofNat t))) = false from by rw [show (38 : Int32) = Int32.ofNat 38 from rfl, jx_le (by omega) (by omega)]; exact decide_eq_false (by omega)]; rfl) ?_
          refine Er_run 3 (pc' := 73) (ls' := [some (.ref d), some (.ref c), some (.ref j), some (.ref (d + 4)), some (.int (Int32.ofNat (s + l.length))), some (.int (Int32.ofNat (s + i)))]) (st' := [.int (Int32.ofNat (s + i)), .ref (d + 4), .ref j]) rfl ?_
          refine Er_inv1 (q' := d + 4) (ci := 0) (av := [.int (Int32.ofNat (s + i))]) (rest := [.ref j]) rfl rfl ⟨Nat.le_of_ble_eq_true rfl, Nat.le_of_ble_eq_true rfl⟩ rfl rfl hw.1.1 (s_Pairs_key hw hpw) ?_
          have hpo := s_Job_partOf (x := p.1) hj (by rw [hj5]; exact hnp.1) (by rw [hj5]; exact hnp.2)
          rw [hj5] at hpo
          refine Er_inv1 (q' := j) (ci := 2) (av := [.long (p.1)]) (rest := []) rfl rfl ⟨Nat.le_of_ble_eq_true rfl, Nat.le_of_ble_eq_true rfl⟩ rfl rfl hj.1 hpo ?_
          refine Er_run 1 (pc' := 80) (ls' := [some (.ref d), some (.ref c), some (.ref j), some (.ref (d + 4)), some (.int (Int32.ofNat (s + l.length))), some (.int (Int32.ofNat (s + i)))]) (st' := [.ref c, .int (jp_of np p.1)]) rfl ?_
          refine Er_getI (v := f 7) rfl hg.1.1 (hg.2.2.2.1 7 (by omega) (by omega)) ?_
          refine Er_run 1 (pc' := bif decide ((jp_of np p.1) = (f 7)) then 89 else 86) (ls' := [some (.ref d), some (.ref c), some (.ref j), some (.ref (d + 4)), some (.int (Int32.ofNat (s + l.length))), some (.int (Int32.ofNat (s + i)))]) (st' := []) rfl ?_
          refine Er_pc (t := 89) (show (bif decide ((jp_of np p.1) = (f 7)) then 89 else 86) = 89 from by rw [show (decide ((jp_of np p.1) = (f 7))) = true from decide_eq_true hpt]; rfl) ?_
          refine Er_run 1 (pc' := 90) (ls' := [some (.ref d), some (.ref c), some (.ref j), some (.ref (d + 4)), some (.int (Int32.ofNat (s + l.length))), some (.int (Int32.ofNat (s + i)))]) (st' := [.ref c]) rfl ?_
          refine Er_getI (v := Int32.ofNat (jd_sel np t (f 7) (l.take i)).length) rfl hg.1.1 (hg.2.2.2.1 10 (by omega) (by omega)) ?_
          refine Er_run 1 (pc' := 94) (ls' := [some (.ref d), some (.ref c), some (.ref j), some (.ref (d + 4)), some (.int (Int32.ofNat (s + l.length))), some (.int (Int32.ofNat (s + i)))]) (st' := [.ref c, .int (Int32.ofNat (jd_sel np t (f 7) (l.take i)).length)]) rfl ?_
          refine Er_getI (v := Int32.ofNat x) rfl hg.1.1 (by rw [← hf8]; exact (hg.2.2.2.1 8 (by omega) (by omega))) ?_
          refine Er_run 1 (pc' := bif decide ((Int32.ofNat (jd_sel np t (f 7) (l.take i)).length) < (Int32.ofNat x)) then 139 else 100) (ls' := [some (.ref d), some (.ref c), some (.ref j), some (.ref (d + 4)), some (.int (Int32.ofNat (s + l.length))), some (.int (Int32.ofNat (s + i)))]) (st' := []) rfl ?_
          refine Er_pc (t := 100) (show (bif decide ((Int32.ofNat (jd_sel np t (f 7) (l.take i)).length) < (Int32.ofNat x)) then 139 else 100) = 100 from by rw [show (decide ((Int32.ofNat (jd_sel np t (f 7) (l.take i)).length) < (Int32.ofNat x))) = false from by rw [jx_lt (by omega) (by omega)]; exact decide_eq_false (by omega)]; rfl) ?_
          refine Er_run 1 (pc' := 101) (ls' := [some (.ref d), some (.ref c), some (.ref j), some (.ref (d + 4)), some (.int (Int32.ofNat (s + l.length))), some (.int (Int32.ofNat (s + i)))]) (st' := [.ref c]) rfl ?_
          refine Er_getI (v := Int32.ofNat (((jd_sel np t (f 7) (l.take i)).drop x).take 16).length) rfl hg.1.1 (hg.2.2.2.1 9 (by omega) (by omega)) ?_
          refine Er_run 2 (pc' := bif decide (((16 : Int32)) ≤ (Int32.ofNat (((jd_sel np t (f 7) (l.take i)).drop x).take 16).length)) then 139 else 109) (ls' := [some (.ref d), some (.ref c), some (.ref j), some (.ref (d + 4)), some (.int (Int32.ofNat (s + l.length))), some (.int (Int32.ofNat (s + i)))]) (st' := []) rfl ?_
          refine Er_pc (t := 139) (show (bif decide (((16 : Int32)) ≤ (Int32.ofNat (((jd_sel np t (f 7) (l.take i)).drop x).take 16).length)) then 139 else 109) = 139 from by rw [show (decide (((16 : Int32)) ≤ (Int32.ofNat (((jd_sel np t (f 7) (l.take i)).drop x).take 16).length))) = true from by rw [show (16 : Int32) = Int32.ofNat 16 from rfl, jx_le (by omega) (by omega)]; exact decide_eq_true (by omega)]; rfl) ?_
          refine Er_run 2 (pc' := 141) (ls' := [some (.ref d), some (.ref c), some (.ref j), some (.ref (d + 4)), some (.int (Int32.ofNat (s + l.length))), some (.int (Int32.ofNat (s + i)))]) (st' := [.ref c, .ref c]) rfl ?_
          refine Er_getI (v := Int32.ofNat (jd_sel np t (f 7) (l.take i)).length) rfl hg.1.1 (hg.2.2.2.1 10 (by omega) (by omega)) ?_
          refine Er_run 2 (pc' := 146) (ls' := [some (.ref d), some (.ref c), some (.ref j), some (.ref (d + 4)), some (.int (Int32.ofNat (s + l.length))), some (.int (Int32.ofNat (s + i)))]) (st' := [.int ((Int32.ofNat (jd_sel np t (f 7) (l.take i)).length) + ((1 : Int32))), .ref c]) rfl ?_
          refine Er_putI rfl hg.1.1 ?_
          refine Er_run 2 (pc' := 53) (ls' := [some (.ref d), some (.ref c), some (.ref j), some (.ref (d + 4)), some (.int (Int32.ofNat (s + l.length))), some (.int ((Int32.ofNat (s + i)) + (1 : Int32)))]) (st' := []) rfl ?_
          rw [jx_s1, jx_s1]
          have hg2 := MG_set (j := 10) (x := Int32.ofNat ((jd_sel np t (f 7) (l.take i)).length + 1)) (by omega) hg
          have z : Fr c (c + 2) h (setI h c 10 (Int32.ofNat ((jd_sel np t (f 7) (l.take i)).length + 1))) := Fr.setI (by omega) (by omega)
          refine sm_Ev.mono (ih (i + 1) _ (by omega) ?_ (PL_fr z (by omega) hw) (isJ_fr z (by omega) hj) (by rw [(z.2.2.2.2 j (by omega)).1]; exact hj5)) (fun r h9 y => ⟨y.1, y.2.1, z.trans y.2.2⟩)
          rw [jd_sel_take hpl, if_neg (fun y => y.2 hpt), jd_page_skip p hns]
          exact hg2
    · skip
      refine Er_run 3 (pc' := bif decide ((Int32.ofNat (s + l.length)) ≤ (Int32.ofNat (s + i))) then 155 else 60) (ls' := [some (.ref d), some (.ref c), some (.ref j), some (.ref (d + 4)), some (.int (Int32.ofNat (s + l.length))), some (.int (Int32.ofNat (s + i)))]) (st' := []) rfl ?_
      refine Er_pc (t := 60) (show (bif decide ((Int32.ofNat (s + l.length)) ≤ (Int32.ofNat (s + i))) then 155 else 60) = 60 from by rw [show (decide ((Int32.ofNat (s + l.length)) ≤ (Int32.ofNat (s + i)))) = false from by rw [jx_le (by omega) (by omega)]; exact decide_eq_false (by omega)]; rfl) ?_
      refine Er_run 1 (pc' := 61) (ls' := [some (.ref d), some (.ref c), some (.ref j), some (.ref (d + 4)), some (.int (Int32.ofNat (s + l.length))), some (.int (Int32.ofNat (s + i)))]) (st' := [.ref c]) rfl ?_
      refine Er_getI (v := Int32.ofNat t) rfl hg.1.1 (by rw [← hf6]; exact (hg.2.2.2.1 6 (by omega) (by omega))) ?_
      refine Er_run 2 (pc' := bif decide (((38 : Int32)) ≤ (Int32.ofNat t)) then 89 else 69) (ls' := [some (.ref d), some (.ref c), some (.ref j), some (.ref (d + 4)), some (.int (Int32.ofNat (s + l.length))), some (.int (Int32.ofNat (s + i)))]) (st' := []) rfl ?_
      refine Er_pc (t := 69) (show (bif decide (((38 : Int32)) ≤ (Int32.ofNat t)) then 89 else 69) = 69 from by rw [show (decide (((38 : Int32)) ≤ (Int32.ofNat t))) = false from by rw [show (38 : Int32) = Int32.ofNat 38 from rfl, jx_le (by omega) (by omega)]; exact decide_eq_false (by omega)]; rfl) ?_
      refine Er_run 3 (pc' := 73) (ls' := [some (.ref d), some (.ref c), some (.ref j), some (.ref (d + 4)), some (.int (Int32.ofNat (s + l.length))), some (.int (Int32.ofNat (s + i)))]) (st' := [.int (Int32.ofNat (s + i)), .ref (d + 4), .ref j]) rfl ?_
      refine Er_inv1 (q' := d + 4) (ci := 0) (av := [.int (Int32.ofNat (s + i))]) (rest := [.ref j]) rfl rfl ⟨Nat.le_of_ble_eq_true rfl, Nat.le_of_ble_eq_true rfl⟩ rfl rfl hw.1.1 (s_Pairs_key hw hpw) ?_
      have hpo := s_Job_partOf (x := p.1) hj (by rw [hj5]; exact hnp.1) (by rw [hj5]; exact hnp.2)
      rw [hj5] at hpo
      refine Er_inv1 (q' := j) (ci := 2) (av := [.long (p.1)]) (rest := []) rfl rfl ⟨Nat.le_of_ble_eq_true rfl, Nat.le_of_ble_eq_true rfl⟩ rfl rfl hj.1 hpo ?_
      refine Er_run 1 (pc' := 80) (ls' := [some (.ref d), some (.ref c), some (.ref j), some (.ref (d + 4)), some (.int (Int32.ofNat (s + l.length))), some (.int (Int32.ofNat (s + i)))]) (st' := [.ref c, .int (jp_of np p.1)]) rfl ?_
      refine Er_getI (v := f 7) rfl hg.1.1 (hg.2.2.2.1 7 (by omega) (by omega)) ?_
      refine Er_run 1 (pc' := bif decide ((jp_of np p.1) = (f 7)) then 89 else 86) (ls' := [some (.ref d), some (.ref c), some (.ref j), some (.ref (d + 4)), some (.int (Int32.ofNat (s + l.length))), some (.int (Int32.ofNat (s + i)))]) (st' := []) rfl ?_
      refine Er_pc (t := 86) (show (bif decide ((jp_of np p.1) = (f 7)) then 89 else 86) = 86 from by rw [show (decide ((jp_of np p.1) = (f 7))) = false from decide_eq_false hpt]; rfl) ?_
      refine Er_run 3 (pc' := 53) (ls' := [some (.ref d), some (.ref c), some (.ref j), some (.ref (d + 4)), some (.int (Int32.ofNat (s + l.length))), some (.int ((Int32.ofNat (s + i)) + (1 : Int32)))]) (st' := []) rfl ?_
      rw [jx_s1]
      refine ih (i + 1) h (by omega) ?_ hw hj hj5
      rw [jd_sel_take hpl, if_pos ⟨hl, hpt⟩]
      exact hg
theorem l_loadR {s : Nat} {row : Jl} (ht : t < 44) (hl : ¬ t < 38) (hx : x < 100000) (hnp : ¬ Int32.ofNat np ≤ 0 ∧ (Int32.ofNat np).toInt64 ≠ 0) (hf6 : f 6 = Int32.ofNat t) (hf8 : f 8 = Int32.ofNat x) (hcd : c + 2 ≤ d ∨ d + 13 ≤ c) (hcj : c + 2 ≤ j ∨ j + 2 ≤ c) (p4 : s + l.length ≤ row.length) (p5 : (row.drop s).take l.length = l) (hrl : row.length ≤ 1000) : ∀ (k i : Nat) (h : sm_H), i + k = l.length → MG h c (jd_page f x (jd_sel np t (f 7) (l.take i))) → PL h (d + 7) 300 row → isJ h j → gI h j 5 = Int32.ofNat np → Ev 85 53 [some (.ref d), some (.ref c), some (.ref j), some (.ref (d + 7)), some (.int (Int32.ofNat (s + l.length))), some (.int (Int32.ofNat (s + i)))] [] h (fun r h1 => r = .inl none ∧ MG h1 c (jd_page f x (jd_sel np t (f 7) l)) ∧ Fr c (c + 2) h h1) := by
  intro k
  induction k with
  | zero =>
    intro i h hi hg hw hj hj5
    refine Er_run 3 (pc' := bif decide ((Int32.ofNat (s + l.length)) ≤ (Int32.ofNat (s + i))) then 155 else 60) (ls' := [some (.ref d), some (.ref c), some (.ref j), some (.ref (d + 7)), some (.int (Int32.ofNat (s + l.length))), some (.int (Int32.ofNat (s + i)))]) (st' := []) rfl ?_
    refine Er_pc (t := 155) (show (bif decide ((Int32.ofNat (s + l.length)) ≤ (Int32.ofNat (s + i))) then 155 else 60) = 155 from by rw [show (decide ((Int32.ofNat (s + l.length)) ≤ (Int32.ofNat (s + i)))) = true from by rw [jx_le (by omega) (by omega)]; exact decide_eq_true (by omega)]; rfl) ?_
    refine Er_fin rfl rfl ⟨rfl, ?_, Fr.refl _ _ _⟩
    rw [List.take_of_length_le (by omega)] at hg
    exact hg
  | succ k ih =>
    intro i h hi hg hw hj hj5
    obtain ⟨p, hpl⟩ := jx_at (show i < l.length by omega)
    have hpw : row[s + i]? = some p := by
      rw [← hpl, ← p5, List.getElem?_take_of_lt (by omega), List.getElem?_drop]
    have hsl : (jd_sel np t (f 7) (l.take i)).length ≤ l.length := by
      rw [jd_sel, if_neg hl, List.length_take]; omega
    have hal : (((jd_sel np t (f 7) (l.take i)).drop x).take 16).length ≤ 16 := by rw [List.length_take]; omega
    by_cases hns : x ≤ (jd_sel np t (f 7) (l.take i)).length ∧ (((jd_sel np t (f 7) (l.take i)).drop x).take 16).length < 16
    · skip
      refine Er_run 3 (pc' := bif decide ((Int32.ofNat (s + l.length)) ≤ (Int32.ofNat (s + i))) then 155 else 60) (ls' := [some (.ref d), some (.ref c), some (.ref j), some (.ref (d + 7)), some (.int (Int32.ofNat (s + l.length))), some (.int (Int32.ofNat (s + i)))]) (st' := []) rfl ?_
      refine Er_pc (t := 60) (show (bif decide ((Int32.ofNat (s + l.length)) ≤ (Int32.ofNat (s + i))) then 155 else 60) = 60 from by rw [show (decide ((Int32.ofNat (s + l.length)) ≤ (Int32.ofNat (s + i)))) = false from by rw [jx_le (by omega) (by omega)]; exact decide_eq_false (by omega)]; rfl) ?_
      refine Er_run 1 (pc' := 61) (ls' := [some (.ref d), some (.ref c), some (.ref j), some (.ref (d + 7)), some (.int (Int32.ofNat (s + l.length))), some (.int (Int32.ofNat (s + i)))]) (st' := [.ref c]) rfl ?_
      refine Er_getI (v := Int32.ofNat t) rfl hg.1.1 (by rw [← hf6]; exact (hg.2.2.2.1 6 (by omega) (by omega))) ?_
      refine Er_run 2 (pc' := bif decide (((38 : Int32)) ≤ (Int32.ofNat t)) then 89 else 69) (ls' := [some (.ref d), some (.ref c), some (.ref j), some (.ref (d + 7)), some (.int (Int32.ofNat (s + l.length))), some (.int (Int32.ofNat (s + i)))]) (st' := []) rfl ?_
      refine Er_pc (t := 89) (show (bif decide (((38 : Int32)) ≤ (Int32.ofNat t)) then 89 else 69) = 89 from by rw [show (decide (((38 : Int32)) ≤ (Int32.ofNat t))) = true from by rw [show (38 : Int32) = Int32.ofNat 38 from rfl, jx_le (by omega) (by omega)]; exact decide_eq_true (by omega)]; rfl) ?_
      refine Er_run 1 (pc' := 90) (ls' := [some (.ref d), some (.ref c), some (.ref j), some (.ref (d + 7)), some (.int (Int32.ofNat (s + l.length))), some (.int (Int32.ofNat (s + i)))]) (st' := [.ref c]) rfl ?_
      refine Er_getI (v := Int32.ofNat (jd_sel np t (f 7) (l.take i)).length) rfl hg.1.1 (hg.2.2.2.1 10 (by omega) (by omega)) ?_
      refine Er_run 1 (pc' := 94) (ls' := [some (.ref d), some (.ref c), some (.ref j), some (.ref (d + 7)), some (.int (Int32.ofNat (s + l.length))), some (.int (Int32.ofNat (s + i)))]) (st' := [.ref c, .int (Int32.ofNat (jd_sel np t (f 7) (l.take i)).length)]) rfl ?_
      refine Er_getI (v := Int32.ofNat x) rfl hg.1.1 (by rw [← hf8]; exact (hg.2.2.2.1 8 (by omega) (by omega))) ?_
      refine Er_run 1 (pc' := bif decide ((Int32.ofNat (jd_sel np t (f 7) (l.take i)).length) < (Int32.ofNat x)) then 139 else 100) (ls' := [some (.ref d), some (.ref c), some (.ref j), some (.ref (d + 7)), some (.int (Int32.ofNat (s + l.length))), some (.int (Int32.ofNat (s + i)))]) (st' := []) rfl ?_
      refine Er_pc (t := 100) (show (bif decide ((Int32.ofNat (jd_sel np t (f 7) (l.take i)).length) < (Int32.ofNat x)) then 139 else 100) = 100 from by rw [show (decide ((Int32.ofNat (jd_sel np t (f 7) (l.take i)).length) < (Int32.ofNat x))) = false from by rw [jx_lt (by omega) (by omega)]; exact decide_eq_false (by omega)]; rfl) ?_
      refine Er_run 1 (pc' := 101) (ls' := [some (.ref d), some (.ref c), some (.ref j), some (.ref (d + 7)), some (.int (Int32.ofNat (s + l.length))), some (.int (Int32.ofNat (s + i)))]) (st' := [.ref c]) rfl ?_
      refine Er_getI (v := Int32.ofNat (((jd_sel np t (f 7) (l.take i)).drop x).take 16).length) rfl hg.1.1 (hg.2.2.2.1 9 (by omega) (by omega)) ?_
      refine Er_run 2 (pc' := bif decide (((16 : Int32)) ≤ (Int32.ofNat (((jd_sel np t (f 7) (l.take i)).drop x).take 16).length)) then 139 else 109) (ls' := [some (.ref d), some (.ref c), some (.ref j), some (.ref (d + 7)), some (.int (Int32.ofNat (s + l.length))), some (.int (Int32.ofNat (s + i)))]) (st' := []) rfl ?_
      refine Er_pc (t := 109) (show (bif decide (((16 : Int32)) ≤ (Int32.ofNat (((jd_sel np t (f 7) (l.take i)).drop x).take 16).length)) then 139 else 109) = 109 from by rw [show (decide (((16 : Int32)) ≤ (Int32.ofNat (((jd_sel np t (f 7) (l.take i)).drop x).take 16).length))) = false from by rw [show (16 : Int32) = Int32.ofNat 16 from rfl, jx_le (by omega) (by omega)]; exact decide_eq_false (by omega)]; rfl) ?_
      refine Er_run 3 (pc' := 113) (ls' := [some (.ref d), some (.ref c), some (.ref j), some (.ref (d + 7)), some (.int (Int32.ofNat (s + l.length))), some (.int (Int32.ofNat (s + i)))]) (st' := [.int (Int32.ofNat (s + i)), .ref (d + 7), .ref c]) rfl ?_
      refine Er_inv1 (q' := d + 7) (ci := 0) (av := [.int (Int32.ofNat (s + i))]) (rest := [.ref c]) rfl rfl ⟨Nat.le_of_ble_eq_true rfl, Nat.le_of_ble_eq_true rfl⟩ rfl rfl hw.1.1 (s_Pairs_key hw hpw) ?_
      obtain ⟨h1, r1, g1, f1⟩ := s_Message_put (x := p.1) hg (by show (jd_flat _).length < 38; rw [jd_flat_len]; omega)
      refine Er_inv0 (q' := c) (ci := 5) (av := [.long (p.1)]) (rest := []) rfl rfl ⟨Nat.le_of_ble_eq_true rfl, Nat.le_of_ble_eq_true rfl⟩ rfl rfl hg.1.1 r1 ?_
      refine Er_run 3 (pc' := 123) (ls' := [some (.ref d), some (.ref c), some (.ref j), some (.ref (d + 7)), some (.int (Int32.ofNat (s + l.length))), some (.int (Int32.ofNat (s + i)))]) (st' := [.int (Int32.ofNat (s + i)), .ref (d + 7), .ref c]) rfl ?_
      refine Er_inv1 (q' := d + 7) (ci := 0) (av := [.int (Int32.ofNat (s + i))]) (rest := [.ref c]) rfl rfl ⟨Nat.le_of_ble_eq_true rfl, Nat.le_of_ble_eq_true rfl⟩ rfl rfl (PL_fr f1 (by omega) hw).1.1 (s_Pairs_value (PL_fr f1 (by omega) hw) hpw) ?_
      obtain ⟨h2, r2, g2, f2⟩ := s_Message_put (x := p.2) g1 (by show (jd_flat _ ++ [p.1]).length < 38; rw [List.length_append, jd_flat_len, List.length_singleton]; omega)
      refine Er_inv0 (q' := c) (ci := 5) (av := [.long (p.2)]) (rest := []) rfl rfl ⟨Nat.le_of_ble_eq_true rfl, Nat.le_of_ble_eq_true rfl⟩ rfl rfl g1.1.1 r2 ?_
      refine Er_run 2 (pc' := 131) (ls' := [some (.ref d), some (.ref c), some (.ref j), some (.ref (d + 7)), some (.int (Int32.ofNat (s + l.length))), some (.int (Int32.ofNat (s + i)))]) (st' := [.ref c, .ref c]) rfl ?_
      refine Er_getI (v := Int32.ofNat (((jd_sel np t (f 7) (l.take i)).drop x).take 16).length) rfl g2.1.1 (g2.2.2.2.1 9 (by omega) (by omega)) ?_
      refine Er_run 2 (pc' := 136) (ls' := [some (.ref d), some (.ref c), some (.ref j), some (.ref (d + 7)), some (.int (Int32.ofNat (s + l.length))), some (.int (Int32.ofNat (s + i)))]) (st' := [.int ((Int32.ofNat (((jd_sel np t (f 7) (l.take i)).drop x).take 16).length) + ((1 : Int32))), .ref c]) rfl ?_
      refine Er_putI rfl g2.1.1 ?_
      refine Er_run 2 (pc' := 141) (ls' := [some (.ref d), some (.ref c), some (.ref j), some (.ref (d + 7)), some (.int (Int32.ofNat (s + l.length))), some (.int (Int32.ofNat (s + i)))]) (st' := [.ref c, .ref c]) rfl ?_
      refine Er_getI (v := Int32.ofNat (jd_sel np t (f 7) (l.take i)).length) rfl g2.1.1 (by rw [gI_ne (by omega)]; exact (g2.2.2.2.1 10 (by omega) (by omega))) ?_
      refine Er_run 2 (pc' := 146) (ls' := [some (.ref d), some (.ref c), some (.ref j), some (.ref (d + 7)), some (.int (Int32.ofNat (s + l.length))), some (.int (Int32.ofNat (s + i)))]) (st' := [.int ((Int32.ofNat (jd_sel np t (f 7) (l.take i)).length) + ((1 : Int32))), .ref c]) rfl ?_
      refine Er_putI rfl g2.1.1 ?_
      refine Er_run 2 (pc' := 53) (ls' := [some (.ref d), some (.ref c), some (.ref j), some (.ref (d + 7)), some (.int (Int32.ofNat (s + l.length))), some (.int ((Int32.ofNat (s + i)) + (1 : Int32)))]) (st' := []) rfl ?_
      rw [jx_s1, jx_s1, jx_s1]
      have hg3 := MG_set (j := 10) (x := Int32.ofNat ((jd_sel np t (f 7) (l.take i)).length + 1)) (by omega) (MG_set (j := 9) (x := Int32.ofNat ((((jd_sel np t (f 7) (l.take i)).drop x).take 16).length + 1)) (by omega) g2)
      have z : Fr c (c + 2) h (setI (setI h2 c 9 (Int32.ofNat ((((jd_sel np t (f 7) (l.take i)).drop x).take 16).length + 1))) c 10 (Int32.ofNat ((jd_sel np t (f 7) (l.take i)).length + 1))) := (f1.trans f2).trans ((Fr.setI (by omega) (by omega)).trans (Fr.setI (by omega) (by omega)))
      refine sm_Ev.mono (ih (i + 1) _ (by omega) ?_ (PL_fr z (by omega) hw) (isJ_fr z (by omega) hj) (by rw [(z.2.2.2.2 j (by omega)).1]; exact hj5)) (fun r h9 y => ⟨y.1, y.2.1, z.trans y.2.2⟩)
      rw [jd_sel_take hpl, if_neg (fun y => hl y.1), jd_page_add p hns.1 hns.2]
      exact hg3
    · skip
      by_cases hlt : (jd_sel np t (f 7) (l.take i)).length < x
      · skip
        refine Er_run 3 (pc' := bif decide ((Int32.ofNat (s + l.length)) ≤ (Int32.ofNat (s + i))) then 155 else 60) (ls' := [some (.ref d), some (.ref c), some (.ref j), some (.ref (d + 7)), some (.int (Int32.ofNat (s + l.length))), some (.int (Int32.ofNat (s + i)))]) (st' := []) rfl ?_
        refine Er_pc (t := 60) (show (bif decide ((Int32.ofNat (s + l.length)) ≤ (Int32.ofNat (s + i))) then 155 else 60) = 60 from by rw [show (decide ((Int32.ofNat (s + l.length)) ≤ (Int32.ofNat (s + i)))) = false from by rw [jx_le (by omega) (by omega)]; exact decide_eq_false (by omega)]; rfl) ?_
        refine Er_run 1 (pc' := 61) (ls' := [some (.ref d), some (.ref c), some (.ref j), some (.ref (d + 7)), some (.int (Int32.ofNat (s + l.length))), some (.int (Int32.ofNat (s + i)))]) (st' := [.ref c]) rfl ?_
        refine Er_getI (v := Int32.ofNat t) rfl hg.1.1 (by rw [← hf6]; exact (hg.2.2.2.1 6 (by omega) (by omega))) ?_
        refine Er_run 2 (pc' := bif decide (((38 : Int32)) ≤ (Int32.ofNat t)) then 89 else 69) (ls' := [some (.ref d), some (.ref c), some (.ref j), some (.ref (d + 7)), some (.int (Int32.ofNat (s + l.length))), some (.int (Int32.ofNat (s + i)))]) (st' := []) rfl ?_
        refine Er_pc (t := 89) (show (bif decide (((38 : Int32)) ≤ (Int32.ofNat t)) then 89 else 69) = 89 from by rw [show (decide (((38 : Int32)) ≤ (Int32.ofNat t))) = true from by rw [show (38 : Int32) = Int32.ofNat 38 from rfl, jx_le (by omega) (by omega)]; exact decide_eq_true (by omega)]; rfl) ?_
        refine Er_run 1 (pc' := 90) (ls' := [some (.ref d), some (.ref c), some (.ref j), some (.ref (d + 7)), some (.int (Int32.ofNat (s + l.length))), some (.int (Int32.ofNat (s + i)))]) (st' := [.ref c]) rfl ?_
        refine Er_getI (v := Int32.ofNat (jd_sel np t (f 7) (l.take i)).length) rfl hg.1.1 (hg.2.2.2.1 10 (by omega) (by omega)) ?_
        refine Er_run 1 (pc' := 94) (ls' := [some (.ref d), some (.ref c), some (.ref j), some (.ref (d + 7)), some (.int (Int32.ofNat (s + l.length))), some (.int (Int32.ofNat (s + i)))]) (st' := [.ref c, .int (Int32.ofNat (jd_sel np t (f 7) (l.take i)).length)]) rfl ?_
        refine Er_getI (v := Int32.ofNat x) rfl hg.1.1 (by rw [← hf8]; exact (hg.2.2.2.1 8 (by omega) (by omega))) ?_
        refine Er_run 1 (pc' := bif decide ((Int32.ofNat (jd_sel np t (f 7) (l.take i)).length) < (Int32.ofNat x)) then 139 else 100) (ls' := [some (.ref d), some (.ref c), some (.ref j), some (.ref (d + 7)), some (.int (Int32.ofNat (s + l.length))), some (.int (Int32.ofNat (s + i)))]) (st' := []) rfl ?_
        refine Er_pc (t := 139) (show (bif decide ((Int32.ofNat (jd_sel np t (f 7) (l.take i)).length) < (Int32.ofNat x)) then 139 else 100) = 139 from by rw [show (decide ((Int32.ofNat (jd_sel np t (f 7) (l.take i)).length) < (Int32.ofNat x))) = true from by rw [jx_lt (by omega) (by omega)]; exact decide_eq_true (by omega)]; rfl) ?_
        refine Er_run 2 (pc' := 141) (ls' := [some (.ref d), some (.ref c), some (.ref j), some (.ref (d + 7)), some (.int (Int32.ofNat (s + l.length))), some (.int (Int32.ofNat (s + i)))]) (st' := [.ref c, .ref c]) rfl ?_
        refine Er_getI (v := Int32.ofNat (jd_sel np t (f 7) (l.take i)).length) rfl hg.1.1 (hg.2.2.2.1 10 (by omega) (by omega)) ?_
        refine Er_run 2 (pc' := 146) (ls' := [some (.ref d), some (.ref c), some (.ref j), some (.ref (d + 7)), some (.int (Int32.ofNat (s + l.length))), some (.int (Int32.ofNat (s + i)))]) (st' := [.int ((Int32.ofNat (jd_sel np t (f 7) (l.take i)).length) + ((1 : Int32))), .ref c]) rfl ?_
        refine Er_putI rfl hg.1.1 ?_
        refine Er_run 2 (pc' := 53) (ls' := [some (.ref d), some (.ref c), some (.ref j), some (.ref (d + 7)), some (.int (Int32.ofNat (s + l.length))), some (.int ((Int32.ofNat (s + i)) + (1 : Int32)))]) (st' := []) rfl ?_
        rw [jx_s1, jx_s1]
        have hg2 := MG_set (j := 10) (x := Int32.ofNat ((jd_sel np t (f 7) (l.take i)).length + 1)) (by omega) hg
        have z : Fr c (c + 2) h (setI h c 10 (Int32.ofNat ((jd_sel np t (f 7) (l.take i)).length + 1))) := Fr.setI (by omega) (by omega)
        refine sm_Ev.mono (ih (i + 1) _ (by omega) ?_ (PL_fr z (by omega) hw) (isJ_fr z (by omega) hj) (by rw [(z.2.2.2.2 j (by omega)).1]; exact hj5)) (fun r h9 y => ⟨y.1, y.2.1, z.trans y.2.2⟩)
        rw [jd_sel_take hpl, if_neg (fun y => hl y.1), jd_page_skip p hns]
        exact hg2
      · skip
        refine Er_run 3 (pc' := bif decide ((Int32.ofNat (s + l.length)) ≤ (Int32.ofNat (s + i))) then 155 else 60) (ls' := [some (.ref d), some (.ref c), some (.ref j), some (.ref (d + 7)), some (.int (Int32.ofNat (s + l.length))), some (.int (Int32.ofNat (s + i)))]) (st' := []) rfl ?_
        refine Er_pc (t := 60) (show (bif decide ((Int32.ofNat (s + l.length)) ≤ (Int32.ofNat (s + i))) then 155 else 60) = 60 from by rw [show (decide ((Int32.ofNat (s + l.length)) ≤ (Int32.ofNat (s + i)))) = false from by rw [jx_le (by omega) (by omega)]; exact decide_eq_false (by omega)]; rfl) ?_
        refine Er_run 1 (pc' := 61) (ls' := [some (.ref d), some (.ref c), some (.ref j), some (.ref (d + 7)), some (.int (Int32.ofNat (s + l.length))), some (.int (Int32.ofNat (s + i)))]) (st' := [.ref c]) rfl ?_
        refine Er_getI (v := Int32.ofNat t) rfl hg.1.1 (by rw [← hf6]; exact (hg.2.2.2.1 6 (by omega) (by omega))) ?_
        refine Er_run 2 (pc' := bif decide (((38 : Int32)) ≤ (Int32.ofNat t)) then 89 else 69) (ls' := [some (.ref d), some (.ref c), some (.ref j), some (.ref (d + 7)), some (.int (Int32.ofNat (s + l.length))), some (.int (Int32.ofNat (s + i)))]) (st' := []) rfl ?_
        refine Er_pc (t := 89) (show (bif decide (((38 : Int32)) ≤ (Int32.ofNat t)) then 89 else 69) = 89 from by rw [show (decide (((38 : Int32)) ≤ (Int32.ofNat t))) = true from by rw [show (38 : Int32) = Int32.ofNat 38 from rfl, jx_le (by omega) (by omega)]; exact decide_eq_true (by omega)]; rfl) ?_
        refine Er_run 1 (pc' := 90) (ls' := [some (.ref d), some (.ref c), some (.ref j), some (.ref (d + 7)), some (.int (Int32.ofNat (s + l.length))), some (.int (Int32.ofNat (s + i)))]) (st' := [.ref c]) rfl ?_
        refine Er_getI (v := Int32.ofNat (jd_sel np t (f 7) (l.take i)).length) rfl hg.1.1 (hg.2.2.2.1 10 (by omega) (by omega)) ?_
        refine Er_run 1 (pc' := 94) (ls' := [some (.ref d), some (.ref c), some (.ref j), some (.ref (d + 7)), some (.int (Int32.ofNat (s + l.length))), some (.int (Int32.ofNat (s + i)))]) (st' := [.ref c, .int (Int32.ofNat (jd_sel np t (f 7) (l.take i)).length)]) rfl ?_
        refine Er_getI (v := Int32.ofNat x) rfl hg.1.1 (by rw [← hf8]; exact (hg.2.2.2.1 8 (by omega) (by omega))) ?_
        refine Er_run 1 (pc' := bif decide ((Int32.ofNat (jd_sel np t (f 7) (l.take i)).length) < (Int32.ofNat x)) then 139 else 100) (ls' := [some (.ref d), some (.ref c), some (.ref j), some (.ref (d + 7)), some (.int (Int32.ofNat (s + l.length))), some (.int (Int32.ofNat (s + i)))]) (st' := []) rfl ?_
        refine Er_pc (t := 100) (show (bif decide ((Int32.ofNat (jd_sel np t (f 7) (l.take i)).length) < (Int32.ofNat x)) then 139 else 100) = 100 from by rw [show (decide ((Int32.ofNat (jd_sel np t (f 7) (l.take i)).length) < (Int32.ofNat x))) = false from by rw [jx_lt (by omega) (by omega)]; exact decide_eq_false (by omega)]; rfl) ?_
        refine Er_run 1 (pc' := 101) (ls' := [some (.ref d), some (.ref c), some (.ref j), some (.ref (d + 7)), some (.int (Int32.ofNat (s + l.length))), some (.int (Int32.ofNat (s + i)))]) (st' := [.ref c]) rfl ?_
        refine Er_getI (v := Int32.ofNat (((jd_sel np t (f 7) (l.take i)).drop x).take 16).length) rfl hg.1.1 (hg.2.2.2.1 9 (by omega) (by omega)) ?_
        refine Er_run 2 (pc' := bif decide (((16 : Int32)) ≤ (Int32.ofNat (((jd_sel np t (f 7) (l.take i)).drop x).take 16).length)) then 139 else 109) (ls' := [some (.ref d), some (.ref c), some (.ref j), some (.ref (d + 7)), some (.int (Int32.ofNat (s + l.length))), some (.int (Int32.ofNat (s + i)))]) (st' := []) rfl ?_
        refine Er_pc (t := 139) (show (bif decide (((16 : Int32)) ≤ (Int32.ofNat (((jd_sel np t (f 7) (l.take i)).drop x).take 16).length)) then 139 else 109) = 139 from by rw [show (decide (((16 : Int32)) ≤ (Int32.ofNat (((jd_sel np t (f 7) (l.take i)).drop x).take 16).length))) = true from by rw [show (16 : Int32) = Int32.ofNat 16 from rfl, jx_le (by omega) (by omega)]; exact decide_eq_true (by omega)]; rfl) ?_
        refine Er_run 2 (pc' := 141) (ls' := [some (.ref d), some (.ref c), some (.ref j), some (.ref (d + 7)), some (.int (Int32.ofNat (s + l.length))), some (.int (Int32.ofNat (s + i)))]) (st' := [.ref c, .ref c]) rfl ?_
        refine Er_getI (v := Int32.ofNat (jd_sel np t (f 7) (l.take i)).length) rfl hg.1.1 (hg.2.2.2.1 10 (by omega) (by omega)) ?_
        refine Er_run 2 (pc' := 146) (ls' := [some (.ref d), some (.ref c), some (.ref j), some (.ref (d + 7)), some (.int (Int32.ofNat (s + l.length))), some (.int (Int32.ofNat (s + i)))]) (st' := [.int ((Int32.ofNat (jd_sel np t (f 7) (l.take i)).length) + ((1 : Int32))), .ref c]) rfl ?_
        refine Er_putI rfl hg.1.1 ?_
        refine Er_run 2 (pc' := 53) (ls' := [some (.ref d), some (.ref c), some (.ref j), some (.ref (d + 7)), some (.int (Int32.ofNat (s + l.length))), some (.int ((Int32.ofNat (s + i)) + (1 : Int32)))]) (st' := []) rfl ?_
        rw [jx_s1, jx_s1]
        have hg2 := MG_set (j := 10) (x := Int32.ofNat ((jd_sel np t (f 7) (l.take i)).length + 1)) (by omega) hg
        have z : Fr c (c + 2) h (setI h c 10 (Int32.ofNat ((jd_sel np t (f 7) (l.take i)).length + 1))) := Fr.setI (by omega) (by omega)
        refine sm_Ev.mono (ih (i + 1) _ (by omega) ?_ (PL_fr z (by omega) hw) (isJ_fr z (by omega) hj) (by rw [(z.2.2.2.2 j (by omega)).1]; exact hj5)) (fun r h9 y => ⟨y.1, y.2.1, z.trans y.2.2⟩)
        rw [jd_sel_take hpl, if_neg (fun y => hl y.1), jd_page_skip p hns]
        exact hg2
theorem jd_page0 (h9 : f 9 = 0) (h10 : f 10 = 0) : jd_page f x [] = (f, []) := by
  rw [jd_page]
  congr 1
  · funext i
    simp only [jx_up, List.drop_nil, List.take_nil, List.length_nil]
    split
    · rename_i e; rw [e, h10]; rfl
    · split
      · rename_i e; rw [e, h9]; rfl
      · rfl
  · rw [List.drop_nil, List.take_nil]; rfl
/-- what load makes of a page -/
def jd_ld (np : Nat) (f : Nat → Int32) (x t : Nat) (y : Option Jl) : Jm := match y with
  | none => (f, [])
  | some l => jd_page f x (jd_sel np t (f 7) l)
theorem s_Disk_load (hp : DK h d dp sp pa re ta) (ht : t < 44) (hx : x < 100000) (hnp : ¬ Int32.ofNat np ≤ 0 ∧ (Int32.ofNat np).toInt64 ≠ 0) (hf6 : f 6 = Int32.ofNat t) (hf8 : f 8 = Int32.ofNat x) (h9 : f 9 = 0) (h10 : f 10 = 0) (hcd : c + 2 ≤ d ∨ d + 13 ≤ c) (hcj : c + 2 ≤ j ∨ j + 2 ≤ c) (hg : MG h c (f, [])) (hj : isJ h j) (hj5 : gI h j 5 = Int32.ofNat np) : ∃ h', Run 85 [.ref d, .ref c, .ref j] h (.inl none) h' ∧ MG h' c (jd_ld np f x t (ta t)) ∧ Fr c (c + 2) h h' := by
  have hx' : Ev 85 0 (sm_pad (sm_ent [.ref d, .ref c, .ref j]) (sm_prog.2.1 85)) [] h (fun r h1 => r = .inl none ∧ MG h1 c (jd_ld np f x t (ta t)) ∧ Fr c (c + 2) h h1) := by
    have hq := hp.2.2.2.2.2 t ht
    cases e : ta t with
    | none =>
      show Ev 85 0 [some (.ref d), some (.ref c), some (.ref j), none, none, none] [] h _
      refine Er_run 2 (pc' := 2) (ls' := [some (.ref d), some (.ref c), some (.ref j), none, none, none]) (st' := [.ref c, .ref d]) rfl ?_
      refine Er_getI (v := Int32.ofNat t) rfl hg.1.1 (by rw [← hf6]; exact (hg.2.2.2.1 6 (by omega) (by omega))) ?_
      have hh := s_Disk_holds hp ht
      rw [e] at hh
      refine Er_inv1 (q' := d) (ci := 7) (av := [.int (Int32.ofNat t)]) (rest := []) rfl rfl ⟨Nat.le_of_ble_eq_true rfl, Nat.le_of_ble_eq_true rfl⟩ rfl rfl hp.1.1 hh ?_
      refine Er_run 1 (pc' := bif !decide (((0 : Int32)) = 0) then 12 else 11) (ls' := [some (.ref d), some (.ref c), some (.ref j), none, none, none]) (st' := []) rfl ?_
      refine Er_pc (t := 11) (show (bif !decide (((0 : Int32)) = 0) then 12 else 11) = 11 from by rw [show (!decide (((0 : Int32)) = 0)) = false from by decide]; rfl) ?_
      exact Er_fin rfl rfl ⟨rfl, hg, Fr.refl _ _ _⟩
    | some l =>
      rw [e] at hq
      obtain ⟨p1, p2, s, p3, p4, p5⟩ := hq
      have hll := jd_len hp ht e
      have hpl := hp.2.2.2.1.2.2.1
      have hrl := hp.2.2.2.2.1.2.2.1
      by_cases hl : t < 38
      · rw [if_pos hl] at p4 p5
        have hrl := hpl
        show Ev 85 0 [some (.ref d), some (.ref c), some (.ref j), none, none, none] [] h _
        refine Er_run 2 (pc' := 2) (ls' := [some (.ref d), some (.ref c), some (.ref j), none, none, none]) (st' := [.ref c, .ref d]) rfl ?_
        refine Er_getI (v := Int32.ofNat t) rfl hg.1.1 (by rw [← hf6]; exact (hg.2.2.2.1 6 (by omega) (by omega))) ?_
        have hh := s_Disk_holds hp ht
        rw [e] at hh
        refine Er_inv1 (q' := d) (ci := 7) (av := [.int (Int32.ofNat t)]) (rest := []) rfl rfl ⟨Nat.le_of_ble_eq_true rfl, Nat.le_of_ble_eq_true rfl⟩ rfl rfl hp.1.1 hh ?_
        refine Er_run 1 (pc' := bif !decide (((1 : Int32)) = 0) then 12 else 11) (ls' := [some (.ref d), some (.ref c), some (.ref j), none, none, none]) (st' := []) rfl ?_
        refine Er_pc (t := 12) (show (bif !decide (((1 : Int32)) = 0) then 12 else 11) = 12 from by rw [show (!decide (((1 : Int32)) = 0)) = true from by decide]; rfl) ?_
        refine Er_run 2 (pc' := 14) (ls' := [some (.ref d), some (.ref c), some (.ref j), none, none, none]) (st' := [.ref c, .ref d]) rfl ?_
        refine Er_getI (v := Int32.ofNat t) rfl hg.1.1 (by rw [← hf6]; exact (hg.2.2.2.1 6 (by omega) (by omega))) ?_
        have hro := s_Disk_rowOf hp.1 ht
        rw [if_pos hl] at hro
        refine Er_inv1 (q' := d) (ci := 7) (av := [.int (Int32.ofNat t)]) (rest := []) rfl rfl ⟨Nat.le_of_ble_eq_true rfl, Nat.le_of_ble_eq_true rfl⟩ rfl rfl hp.1.1 hro ?_
        refine Er_run 2 (pc' := 22) (ls' := [some (.ref d), some (.ref c), some (.ref j), some (.ref (d + 4)), none, none]) (st' := [.ref d]) rfl ?_
        refine Er_getR (x := d + 10) rfl hp.1.1 hp.1.2.2.2.2.1 ?_
        refine Er_run 1 (pc' := 26) (ls' := [some (.ref d), some (.ref c), some (.ref j), some (.ref (d + 4)), none, none]) (st' := [.ref c, .ref (d + 10)]) rfl ?_
        refine Er_getI (v := Int32.ofNat t) rfl hg.1.1 (by rw [← hf6]; exact (hg.2.2.2.1 6 (by omega) (by omega))) ?_
        refine Er_iald (v := Int32.ofNat s) rfl hp.1.2.2.2.2.2.2.2.1 (by show sm_in _ (gS h (d + 10)).2 = true; rw [hp.1.2.2.2.2.2.2.2.2.1]; exact sm_in_of (by rw [sm_ofNat_toInt (by omega)]; omega) (by rw [sm_ofNat_toInt (by omega)]; omega)) (by rw [jx_cn (by omega)]; exact p3) ?_
        refine Er_run 1 (pc' := 31) (ls' := [some (.ref d), some (.ref c), some (.ref j), some (.ref (d + 4)), none, none]) (st' := [.ref d, .int (Int32.ofNat s)]) rfl ?_
        refine Er_getR (x := d + 11) rfl hp.1.1 hp.1.2.2.2.2.2.1 ?_
        refine Er_run 1 (pc' := 35) (ls' := [some (.ref d), some (.ref c), some (.ref j), some (.ref (d + 4)), none, none]) (st' := [.ref c, .ref (d + 11), .int (Int32.ofNat s)]) rfl ?_
        refine Er_getI (v := Int32.ofNat t) rfl hg.1.1 (by rw [← hf6]; exact (hg.2.2.2.1 6 (by omega) (by omega))) ?_
        refine Er_iald (v := Int32.ofNat l.length) rfl hp.1.2.2.2.2.2.2.2.2.2.1 (by show sm_in _ (gS h (d + 11)).2 = true; rw [hp.1.2.2.2.2.2.2.2.2.2.2.1]; exact sm_in_of (by rw [sm_ofNat_toInt (by omega)]; omega) (by rw [sm_ofNat_toInt (by omega)]; omega)) (by rw [jx_cn (by omega)]; exact p1) ?_
        refine Er_run 3 (pc' := 43) (ls' := [some (.ref d), some (.ref c), some (.ref j), some (.ref (d + 4)), some (.int ((Int32.ofNat s) + (Int32.ofNat l.length))), none]) (st' := [.ref d]) rfl ?_
        refine Er_getR (x := d + 10) rfl hp.1.1 hp.1.2.2.2.2.1 ?_
        refine Er_run 1 (pc' := 47) (ls' := [some (.ref d), some (.ref c), some (.ref j), some (.ref (d + 4)), some (.int ((Int32.ofNat s) + (Int32.ofNat l.length))), none]) (st' := [.ref c, .ref (d + 10)]) rfl ?_
        refine Er_getI (v := Int32.ofNat t) rfl hg.1.1 (by rw [← hf6]; exact (hg.2.2.2.1 6 (by omega) (by omega))) ?_
        refine Er_iald (v := Int32.ofNat s) rfl hp.1.2.2.2.2.2.2.2.1 (by show sm_in _ (gS h (d + 10)).2 = true; rw [hp.1.2.2.2.2.2.2.2.2.1]; exact sm_in_of (by rw [sm_ofNat_toInt (by omega)]; omega) (by rw [sm_ofNat_toInt (by omega)]; omega)) (by rw [jx_cn (by omega)]; exact p3) ?_
        refine Er_run 1 (pc' := 53) (ls' := [some (.ref d), some (.ref c), some (.ref j), some (.ref (d + 4)), some (.int ((Int32.ofNat s) + (Int32.ofNat l.length))), some (.int (Int32.ofNat s))]) (st' := []) rfl ?_
        rw [jx_add]
        have hl0 := l_loadM (d := d) ht hl hx hnp hf6 hf8 hcd hcj p4 p5 hrl l.length 0 h (by omega) (by rw [List.take_zero, show jd_sel np t (f 7) [] = [] from by rw [jd_sel]; split <;> rfl, jd_page0 h9 h10]; exact hg) hp.2.2.2.1 hj hj5
        rw [Nat.add_zero] at hl0
        exact hl0
      · rw [if_neg hl] at p4 p5
        have hrl : re.length ≤ 1000 := by omega
        show Ev 85 0 [some (.ref d), some (.ref c), some (.ref j), none, none, none] [] h _
        refine Er_run 2 (pc' := 2) (ls' := [some (.ref d), some (.ref c), some (.ref j), none, none, none]) (st' := [.ref c, .ref d]) rfl ?_
        refine Er_getI (v := Int32.ofNat t) rfl hg.1.1 (by rw [← hf6]; exact (hg.2.2.2.1 6 (by omega) (by omega))) ?_
        have hh := s_Disk_holds hp ht
        rw [e] at hh
        refine Er_inv1 (q' := d) (ci := 7) (av := [.int (Int32.ofNat t)]) (rest := []) rfl rfl ⟨Nat.le_of_ble_eq_true rfl, Nat.le_of_ble_eq_true rfl⟩ rfl rfl hp.1.1 hh ?_
        refine Er_run 1 (pc' := bif !decide (((1 : Int32)) = 0) then 12 else 11) (ls' := [some (.ref d), some (.ref c), some (.ref j), none, none, none]) (st' := []) rfl ?_
        refine Er_pc (t := 12) (show (bif !decide (((1 : Int32)) = 0) then 12 else 11) = 12 from by rw [show (!decide (((1 : Int32)) = 0)) = true from by decide]; rfl) ?_
        refine Er_run 2 (pc' := 14) (ls' := [some (.ref d), some (.ref c), some (.ref j), none, none, none]) (st' := [.ref c, .ref d]) rfl ?_
        refine Er_getI (v := Int32.ofNat t) rfl hg.1.1 (by rw [← hf6]; exact (hg.2.2.2.1 6 (by omega) (by omega))) ?_
        have hro := s_Disk_rowOf hp.1 ht
        rw [if_neg hl] at hro
        refine Er_inv1 (q' := d) (ci := 7) (av := [.int (Int32.ofNat t)]) (rest := []) rfl rfl ⟨Nat.le_of_ble_eq_true rfl, Nat.le_of_ble_eq_true rfl⟩ rfl rfl hp.1.1 hro ?_
        refine Er_run 2 (pc' := 22) (ls' := [some (.ref d), some (.ref c), some (.ref j), some (.ref (d + 7)), none, none]) (st' := [.ref d]) rfl ?_
        refine Er_getR (x := d + 10) rfl hp.1.1 hp.1.2.2.2.2.1 ?_
        refine Er_run 1 (pc' := 26) (ls' := [some (.ref d), some (.ref c), some (.ref j), some (.ref (d + 7)), none, none]) (st' := [.ref c, .ref (d + 10)]) rfl ?_
        refine Er_getI (v := Int32.ofNat t) rfl hg.1.1 (by rw [← hf6]; exact (hg.2.2.2.1 6 (by omega) (by omega))) ?_
        refine Er_iald (v := Int32.ofNat s) rfl hp.1.2.2.2.2.2.2.2.1 (by show sm_in _ (gS h (d + 10)).2 = true; rw [hp.1.2.2.2.2.2.2.2.2.1]; exact sm_in_of (by rw [sm_ofNat_toInt (by omega)]; omega) (by rw [sm_ofNat_toInt (by omega)]; omega)) (by rw [jx_cn (by omega)]; exact p3) ?_
        refine Er_run 1 (pc' := 31) (ls' := [some (.ref d), some (.ref c), some (.ref j), some (.ref (d + 7)), none, none]) (st' := [.ref d, .int (Int32.ofNat s)]) rfl ?_
        refine Er_getR (x := d + 11) rfl hp.1.1 hp.1.2.2.2.2.2.1 ?_
        refine Er_run 1 (pc' := 35) (ls' := [some (.ref d), some (.ref c), some (.ref j), some (.ref (d + 7)), none, none]) (st' := [.ref c, .ref (d + 11), .int (Int32.ofNat s)]) rfl ?_
        refine Er_getI (v := Int32.ofNat t) rfl hg.1.1 (by rw [← hf6]; exact (hg.2.2.2.1 6 (by omega) (by omega))) ?_
        refine Er_iald (v := Int32.ofNat l.length) rfl hp.1.2.2.2.2.2.2.2.2.2.1 (by show sm_in _ (gS h (d + 11)).2 = true; rw [hp.1.2.2.2.2.2.2.2.2.2.2.1]; exact sm_in_of (by rw [sm_ofNat_toInt (by omega)]; omega) (by rw [sm_ofNat_toInt (by omega)]; omega)) (by rw [jx_cn (by omega)]; exact p1) ?_
        refine Er_run 3 (pc' := 43) (ls' := [some (.ref d), some (.ref c), some (.ref j), some (.ref (d + 7)), some (.int ((Int32.ofNat s) + (Int32.ofNat l.length))), none]) (st' := [.ref d]) rfl ?_
        refine Er_getR (x := d + 10) rfl hp.1.1 hp.1.2.2.2.2.1 ?_
        refine Er_run 1 (pc' := 47) (ls' := [some (.ref d), some (.ref c), some (.ref j), some (.ref (d + 7)), some (.int ((Int32.ofNat s) + (Int32.ofNat l.length))), none]) (st' := [.ref c, .ref (d + 10)]) rfl ?_
        refine Er_getI (v := Int32.ofNat t) rfl hg.1.1 (by rw [← hf6]; exact (hg.2.2.2.1 6 (by omega) (by omega))) ?_
        refine Er_iald (v := Int32.ofNat s) rfl hp.1.2.2.2.2.2.2.2.1 (by show sm_in _ (gS h (d + 10)).2 = true; rw [hp.1.2.2.2.2.2.2.2.2.1]; exact sm_in_of (by rw [sm_ofNat_toInt (by omega)]; omega) (by rw [sm_ofNat_toInt (by omega)]; omega)) (by rw [jx_cn (by omega)]; exact p3) ?_
        refine Er_run 1 (pc' := 53) (ls' := [some (.ref d), some (.ref c), some (.ref j), some (.ref (d + 7)), some (.int ((Int32.ofNat s) + (Int32.ofNat l.length))), some (.int (Int32.ofNat s))]) (st' := []) rfl ?_
        rw [jx_add]
        have hl0 := l_loadR (d := d) ht hl hx hnp hf6 hf8 hcd hcj p4 p5 hrl l.length 0 h (by omega) (by rw [List.take_zero, show jd_sel np t (f 7) [] = [] from by rw [jd_sel]; split <;> rfl, jd_page0 h9 h10]; exact hg) hp.2.2.2.2.1 hj hj5
        rw [Nat.add_zero] at hl0
        exact hl0
  obtain ⟨r, h', hr, e, hq⟩ := Run_of (Nat.le_of_ble_eq_true rfl) hx'
  subst e
  exact ⟨h', hr, hq⟩
end DISKC
