/-! class Journal at cell a: kinds a + 1, tasks a + 2, workers a + 3, amounts a + 4 -/
abbrev Je := Int32 × Int32 × Int32 × Int32
/-- entries, commits, where the open JOB's begin -/
abbrev Jr := List Je × Nat × Nat
def isR (h : sm_H) (a : Nat) : Prop := sm_at h a 19 = true ∧ gR h a 0 = some (a + 1) ∧ gR h a 1 = some (a + 2) ∧ gR h a 2 = some (a + 3) ∧ gR h a 3 = some (a + 4) ∧ sm_at h (a + 1) 0 = true ∧ (gS h (a + 1)).2 = 360 ∧ sm_at h (a + 2) 0 = true ∧ (gS h (a + 2)).2 = 360 ∧ sm_at h (a + 3) 0 = true ∧ (gS h (a + 3)).2 = 360 ∧ sm_at h (a + 4) 0 = true ∧ (gS h (a + 4)).2 = 360
def JR (h : sm_H) (a : Nat) (R : Jr) : Prop := isR h a ∧ R.1.length ≤ 360 ∧ gI h a 4 = Int32.ofNat R.1.length ∧ gI h a 5 = Int32.ofNat R.2.1 ∧ gI h a 6 = Int32.ofNat R.2.2 ∧ R.2.1 < 1000000 ∧ R.2.2 < 1000000 ∧ ∀ i e, R.1[i]? = some e → gI h (a + 1) i = e.1 ∧ gI h (a + 2) i = e.2.1 ∧ gI h (a + 3) i = e.2.2.1 ∧ gI h (a + 4) i = e.2.2.2
def jr_w (R : Jr) (e : Je) : Jr := if e.1 = 1 then (R.1 ++ [e], R.2.1 + 1, R.1.length + 1) else (R.1 ++ [e], R.2.1, R.2.2)
section JRN
variable {h h' : sm_H} {a i : Nat} {R : Jr} {e : Je}
theorem isR_fr {lo hi : Nat} (z : Fr lo hi h h') (hd : a < lo ∨ hi ≤ a) (hp : isR h a) : isR h' a := by
  obtain ⟨a1, a2, a3, a4, a5, a6, a7, a8, a9, a10, a11, a12, a13⟩ := hp
  have e := (z.2.2.2.2 a (by omega)).2.2
  exact ⟨by rw [z.at]; exact a1, by rw [e]; exact a2, by rw [e]; exact a3, by rw [e]; exact a4, by rw [e]; exact a5, by rw [z.at]; exact a6, by rw [z.2.1]; exact a7, by rw [z.at]; exact a8, by rw [z.2.1]; exact a9, by rw [z.at]; exact a10, by rw [z.2.1]; exact a11, by rw [z.at]; exact a12, by rw [z.2.1]; exact a13⟩
theorem JR_fr {lo hi : Nat} (z : Fr lo hi h h') (hd : a + 5 ≤ lo ∨ hi ≤ a) (hp : JR h a R) : JR h' a R := by
  obtain ⟨a1, a2, a3, a4, a5, a6, a7, a8⟩ := hp
  have e0 := (z.2.2.2.2 a (by omega)).1
  exact ⟨isR_fr z (by omega) a1, a2, by rw [e0]; exact a3, by rw [e0]; exact a4, by rw [e0]; exact a5, a6, a7, fun i e hi => by rw [(z.2.2.2.2 (a + 1) (by omega)).1, (z.2.2.2.2 (a + 2) (by omega)).1, (z.2.2.2.2 (a + 3) (by omega)).1, (z.2.2.2.2 (a + 4) (by omega)).1]; exact a8 i e hi⟩

theorem s_Journal_length (hp : JR h a R) : Run 110 [.ref a] h (.inl (some (.int (Int32.ofNat R.1.length)))) h := by
  refine ⟨Nat.le_of_ble_eq_true rfl, ?_⟩
  show Ev 110 0 [some (.ref a)] [] h _
  refine Er_run 1 (pc' := 1) (ls' := [some (.ref a)]) (st' := [.ref a]) rfl ?_
  refine Er_getI (v := Int32.ofNat R.1.length) rfl hp.1.1 hp.2.2.1 ?_
  exact Er_fin rfl rfl ⟨rfl, rfl⟩
theorem s_Journal_commits (hp : JR h a R) : Run 111 [.ref a] h (.inl (some (.int (Int32.ofNat R.2.1)))) h := by
  refine ⟨Nat.le_of_ble_eq_true rfl, ?_⟩
  show Ev 111 0 [some (.ref a)] [] h _
  refine Er_run 1 (pc' := 1) (ls' := [some (.ref a)]) (st' := [.ref a]) rfl ?_
  refine Er_getI (v := Int32.ofNat R.2.1) rfl hp.1.1 hp.2.2.2.1 ?_
  exact Er_fin rfl rfl ⟨rfl, rfl⟩
theorem s_Journal_firstOfJob (hp : JR h a R) : Run 112 [.ref a] h (.inl (some (.int (Int32.ofNat R.2.2)))) h := by
  refine ⟨Nat.le_of_ble_eq_true rfl, ?_⟩
  show Ev 112 0 [some (.ref a)] [] h _
  refine Er_run 1 (pc' := 1) (ls' := [some (.ref a)]) (st' := [.ref a]) rfl ?_
  refine Er_getI (v := Int32.ofNat R.2.2) rfl hp.1.1 hp.2.2.2.2.1 ?_
  exact Er_fin rfl rfl ⟨rfl, rfl⟩
theorem s_Journal_kind (hp : JR h a R) (he : R.1[i]? = some e) : Run 113 [.ref a, .int (Int32.ofNat i)] h (.inl (some (.int (e.1)))) h := by
  have hi := (List.getElem?_eq_some_iff.1 he).1
  have hl := hp.2.1
  refine ⟨Nat.le_of_ble_eq_true rfl, ?_⟩
  show Ev 113 0 [some (.ref a), some (.int (Int32.ofNat i))] [] h _
  refine Er_run 2 (pc' := bif decide ((Int32.ofNat i) < 0) then 21 else 4) (ls' := [some (.ref a), some (.int (Int32.ofNat i))]) (st' := []) rfl ?_
  refine Er_pc (t := 4) (show (bif decide ((Int32.ofNat i) < 0) then 21 else 4) = 4 from by rw [show (decide ((Int32.ofNat i) < 0)) = false from sm_nn (by rw [sm_ofNat_toInt (by omega)]; omega)]; rfl) ?_
  refine Er_run 2 (pc' := 6) (ls' := [some (.ref a), some (.int (Int32.ofNat i))]) (st' := [.ref a, .int (Int32.ofNat i)]) rfl ?_
  refine Er_getI (v := Int32.ofNat R.1.length) rfl hp.1.1 hp.2.2.1 ?_
  refine Er_run 1 (pc' := bif decide ((Int32.ofNat R.1.length) ≤ (Int32.ofNat i)) then 21 else 12) (ls' := [some (.ref a), some (.int (Int32.ofNat i))]) (st' := []) rfl ?_
  refine Er_pc (t := 12) (show (bif decide ((Int32.ofNat R.1.length) ≤ (Int32.ofNat i)) then 21 else 12) = 12 from by rw [show (decide ((Int32.ofNat R.1.length) ≤ (Int32.ofNat i))) = false from by rw [jx_le (by omega) (by omega)]; exact decide_eq_false (by omega)]; rfl) ?_
  refine Er_run 1 (pc' := 13) (ls' := [some (.ref a), some (.int (Int32.ofNat i))]) (st' := [.ref a]) rfl ?_
  refine Er_getR (x := a + 1) rfl hp.1.1 hp.1.2.1 ?_
  refine Er_run 1 (pc' := 17) (ls' := [some (.ref a), some (.int (Int32.ofNat i))]) (st' := [.int (Int32.ofNat i), .ref (a + 1)]) rfl ?_
  refine Er_iald (v := e.1) rfl hp.1.2.2.2.2.2.1 (by show sm_in _ (gS h (a + 1)).2 = true; rw [hp.1.2.2.2.2.2.2.1]; exact sm_in_of (by rw [sm_ofNat_toInt (by omega)]; omega) (by rw [sm_ofNat_toInt (by omega)]; omega)) (by rw [jx_cn (by omega)]; exact (hp.2.2.2.2.2.2.2 i e he).1) ?_
  refine Er_run 1 (pc' := 22) (ls' := [some (.ref a), some (.int (Int32.ofNat i))]) (st' := [.int (e.1)]) rfl ?_
  exact Er_fin rfl rfl ⟨rfl, rfl⟩
theorem s_Journal_task (hp : JR h a R) (he : R.1[i]? = some e) : Run 114 [.ref a, .int (Int32.ofNat i)] h (.inl (some (.int (e.2.1)))) h := by
  have hi := (List.getElem?_eq_some_iff.1 he).1
  have hl := hp.2.1
  refine ⟨Nat.le_of_ble_eq_true rfl, ?_⟩
  show Ev 114 0 [some (.ref a), some (.int (Int32.ofNat i))] [] h _
  refine Er_run 2 (pc' := bif decide ((Int32.ofNat i) < 0) then 21 else 4) (ls' := [some (.ref a), some (.int (Int32.ofNat i))]) (st' := []) rfl ?_
  refine Er_pc (t := 4) (show (bif decide ((Int32.ofNat i) < 0) then 21 else 4) = 4 from by rw [show (decide ((Int32.ofNat i) < 0)) = false from sm_nn (by rw [sm_ofNat_toInt (by omega)]; omega)]; rfl) ?_
  refine Er_run 2 (pc' := 6) (ls' := [some (.ref a), some (.int (Int32.ofNat i))]) (st' := [.ref a, .int (Int32.ofNat i)]) rfl ?_
  refine Er_getI (v := Int32.ofNat R.1.length) rfl hp.1.1 hp.2.2.1 ?_
  refine Er_run 1 (pc' := bif decide ((Int32.ofNat R.1.length) ≤ (Int32.ofNat i)) then 21 else 12) (ls' := [some (.ref a), some (.int (Int32.ofNat i))]) (st' := []) rfl ?_
  refine Er_pc (t := 12) (show (bif decide ((Int32.ofNat R.1.length) ≤ (Int32.ofNat i)) then 21 else 12) = 12 from by rw [show (decide ((Int32.ofNat R.1.length) ≤ (Int32.ofNat i))) = false from by rw [jx_le (by omega) (by omega)]; exact decide_eq_false (by omega)]; rfl) ?_
  refine Er_run 1 (pc' := 13) (ls' := [some (.ref a), some (.int (Int32.ofNat i))]) (st' := [.ref a]) rfl ?_
  refine Er_getR (x := a + 2) rfl hp.1.1 hp.1.2.2.1 ?_
  refine Er_run 1 (pc' := 17) (ls' := [some (.ref a), some (.int (Int32.ofNat i))]) (st' := [.int (Int32.ofNat i), .ref (a + 2)]) rfl ?_
  refine Er_iald (v := e.2.1) rfl hp.1.2.2.2.2.2.2.2.1 (by show sm_in _ (gS h (a + 2)).2 = true; rw [hp.1.2.2.2.2.2.2.2.2.1]; exact sm_in_of (by rw [sm_ofNat_toInt (by omega)]; omega) (by rw [sm_ofNat_toInt (by omega)]; omega)) (by rw [jx_cn (by omega)]; exact (hp.2.2.2.2.2.2.2 i e he).2.1) ?_
  refine Er_run 1 (pc' := 22) (ls' := [some (.ref a), some (.int (Int32.ofNat i))]) (st' := [.int (e.2.1)]) rfl ?_
  exact Er_fin rfl rfl ⟨rfl, rfl⟩
theorem s_Journal_worker (hp : JR h a R) (he : R.1[i]? = some e) : Run 115 [.ref a, .int (Int32.ofNat i)] h (.inl (some (.int (e.2.2.1)))) h := by
  have hi := (List.getElem?_eq_some_iff.1 he).1
  have hl := hp.2.1
  refine ⟨Nat.le_of_ble_eq_true rfl, ?_⟩
  show Ev 115 0 [some (.ref a), some (.int (Int32.ofNat i))] [] h _
  refine Er_run 2 (pc' := bif decide ((Int32.ofNat i) < 0) then 21 else 4) (ls' := [some (.ref a), some (.int (Int32.ofNat i))]) (st' := []) rfl ?_
  refine Er_pc (t := 4) (show (bif decide ((Int32.ofNat i) < 0) then 21 else 4) = 4 from by rw [show (decide ((Int32.ofNat i) < 0)) = false from sm_nn (by rw [sm_ofNat_toInt (by omega)]; omega)]; rfl) ?_
  refine Er_run 2 (pc' := 6) (ls' := [some (.ref a), some (.int (Int32.ofNat i))]) (st' := [.ref a, .int (Int32.ofNat i)]) rfl ?_
  refine Er_getI (v := Int32.ofNat R.1.length) rfl hp.1.1 hp.2.2.1 ?_
  refine Er_run 1 (pc' := bif decide ((Int32.ofNat R.1.length) ≤ (Int32.ofNat i)) then 21 else 12) (ls' := [some (.ref a), some (.int (Int32.ofNat i))]) (st' := []) rfl ?_
  refine Er_pc (t := 12) (show (bif decide ((Int32.ofNat R.1.length) ≤ (Int32.ofNat i)) then 21 else 12) = 12 from by rw [show (decide ((Int32.ofNat R.1.length) ≤ (Int32.ofNat i))) = false from by rw [jx_le (by omega) (by omega)]; exact decide_eq_false (by omega)]; rfl) ?_
  refine Er_run 1 (pc' := 13) (ls' := [some (.ref a), some (.int (Int32.ofNat i))]) (st' := [.ref a]) rfl ?_
  refine Er_getR (x := a + 3) rfl hp.1.1 hp.1.2.2.2.1 ?_
  refine Er_run 1 (pc' := 17) (ls' := [some (.ref a), some (.int (Int32.ofNat i))]) (st' := [.int (Int32.ofNat i), .ref (a + 3)]) rfl ?_
  refine Er_iald (v := e.2.2.1) rfl hp.1.2.2.2.2.2.2.2.2.2.1 (by show sm_in _ (gS h (a + 3)).2 = true; rw [hp.1.2.2.2.2.2.2.2.2.2.2.1]; exact sm_in_of (by rw [sm_ofNat_toInt (by omega)]; omega) (by rw [sm_ofNat_toInt (by omega)]; omega)) (by rw [jx_cn (by omega)]; exact (hp.2.2.2.2.2.2.2 i e he).2.2.1) ?_
  refine Er_run 1 (pc' := 22) (ls' := [some (.ref a), some (.int (Int32.ofNat i))]) (st' := [.int (e.2.2.1)]) rfl ?_
  exact Er_fin rfl rfl ⟨rfl, rfl⟩
theorem s_Journal_amount (hp : JR h a R) (he : R.1[i]? = some e) : Run 116 [.ref a, .int (Int32.ofNat i)] h (.inl (some (.int (e.2.2.2)))) h := by
  have hi := (List.getElem?_eq_some_iff.1 he).1
  have hl := hp.2.1
  refine ⟨Nat.le_of_ble_eq_true rfl, ?_⟩
  show Ev 116 0 [some (.ref a), some (.int (Int32.ofNat i))] [] h _
  refine Er_run 2 (pc' := bif decide ((Int32.ofNat i) < 0) then 21 else 4) (ls' := [some (.ref a), some (.int (Int32.ofNat i))]) (st' := []) rfl ?_
  refine Er_pc (t := 4) (show (bif decide ((Int32.ofNat i) < 0) then 21 else 4) = 4 from by rw [show (decide ((Int32.ofNat i) < 0)) = false from sm_nn (by rw [sm_ofNat_toInt (by omega)]; omega)]; rfl) ?_
  refine Er_run 2 (pc' := 6) (ls' := [some (.ref a), some (.int (Int32.ofNat i))]) (st' := [.ref a, .int (Int32.ofNat i)]) rfl ?_
  refine Er_getI (v := Int32.ofNat R.1.length) rfl hp.1.1 hp.2.2.1 ?_
  refine Er_run 1 (pc' := bif decide ((Int32.ofNat R.1.length) ≤ (Int32.ofNat i)) then 21 else 12) (ls' := [some (.ref a), some (.int (Int32.ofNat i))]) (st' := []) rfl ?_
  refine Er_pc (t := 12) (show (bif decide ((Int32.ofNat R.1.length) ≤ (Int32.ofNat i)) then 21 else 12) = 12 from by rw [show (decide ((Int32.ofNat R.1.length) ≤ (Int32.ofNat i))) = false from by rw [jx_le (by omega) (by omega)]; exact decide_eq_false (by omega)]; rfl) ?_
  refine Er_run 1 (pc' := 13) (ls' := [some (.ref a), some (.int (Int32.ofNat i))]) (st' := [.ref a]) rfl ?_
  refine Er_getR (x := a + 4) rfl hp.1.1 hp.1.2.2.2.2.1 ?_
  refine Er_run 1 (pc' := 17) (ls' := [some (.ref a), some (.int (Int32.ofNat i))]) (st' := [.int (Int32.ofNat i), .ref (a + 4)]) rfl ?_
  refine Er_iald (v := e.2.2.2) rfl hp.1.2.2.2.2.2.2.2.2.2.2.2.1 (by show sm_in _ (gS h (a + 4)).2 = true; rw [hp.1.2.2.2.2.2.2.2.2.2.2.2.2]; exact sm_in_of (by rw [sm_ofNat_toInt (by omega)]; omega) (by rw [sm_ofNat_toInt (by omega)]; omega)) (by rw [jx_cn (by omega)]; exact (hp.2.2.2.2.2.2.2 i e he).2.2.2) ?_
  refine Er_run 1 (pc' := 22) (ls' := [some (.ref a), some (.int (Int32.ofNat i))]) (st' := [.int (e.2.2.2)]) rfl ?_
  exact Er_fin rfl rfl ⟨rfl, rfl⟩
theorem s_Journal_empty (hp : JR h a R) : ∃ h', Run 108 [.ref a] h (.inl none) h' ∧ JR h' a ([], 0, 0) ∧ Fr a (a + 5) h h' := by
  have hx : Ev 108 0 (sm_pad (sm_ent [.ref a]) (sm_prog.2.1 108)) [] h (fun r h1 => r = .inl none ∧ JR h1 a ([], 0, 0) ∧ Fr a (a + 5) h h1) := by
    show Ev 108 0 [some (.ref a)] [] h _
    refine Er_run 2 (pc' := 2) (ls' := [some (.ref a)]) (st' := [.int ((0 : Int32)), .ref a]) rfl ?_
    refine Er_putI rfl hp.1.1 ?_
    refine Er_run 2 (pc' := 7) (ls' := [some (.ref a)]) (st' := [.int ((0 : Int32)), .ref a]) rfl ?_
    refine Er_putI rfl hp.1.1 ?_
    refine Er_run 2 (pc' := 12) (ls' := [some (.ref a)]) (st' := [.int ((0 : Int32)), .ref a]) rfl ?_
    refine Er_putI rfl hp.1.1 ?_
    refine Er_fin rfl rfl ⟨rfl, ⟨hp.1, by decide, ?_, ?_, gI_eq, by decide, by decide, fun i e he => by simp at he⟩, ((Fr.setI (by omega) (by omega)).trans (Fr.setI (by omega) (by omega))).trans (Fr.setI (by omega) (by omega))⟩
    · rw [gI_ne (by omega), gI_ne (by omega)]; exact gI_eq
    · rw [gI_ne (by omega)]; exact gI_eq
  obtain ⟨r, h', hr, e, hq⟩ := Run_of (Nat.le_of_ble_eq_true rfl) hx
  subst e
  exact ⟨h', hr, hq⟩
theorem isR_set {c i : Nat} {x : Int32} (hp : isR h a) : isR (setI h c i x) a := hp
theorem JR_add {n : Nat} (hp : JR h a R) (hl : R.1.length < 360) (hn : n = R.1.length) (i1 : isR h' a) (g4 : gI h' a 4 = Int32.ofNat (n + 1)) (g5 : gI h' a 5 = gI h a 5) (g6 : gI h' a 6 = gI h a 6)
    (b1 : ∀ k, gI h' (a + 1) k = if k = n then e.1 else gI h (a + 1) k) (b2 : ∀ k, gI h' (a + 2) k = if k = n then e.2.1 else gI h (a + 2) k) (b3 : ∀ k, gI h' (a + 3) k = if k = n then e.2.2.1 else gI h (a + 3) k) (b4 : ∀ k, gI h' (a + 4) k = if k = n then e.2.2.2 else gI h (a + 4) k) : JR h' a (R.1 ++ [e], R.2.1, R.2.2) := by
  subst hn
  obtain ⟨a1, a2, a3, a4, a5, a6, a7, a8⟩ := hp
  refine ⟨i1, by simp; omega, by rw [g4]; simp, by rw [g5]; exact a4, by rw [g6]; exact a5, a6, a7, fun i x hx => ?_⟩
  rw [b1, b2, b3, b4]
  by_cases hi : i = R.1.length
  · subst hi
    have : e = x := by simpa using hx
    subst this
    rw [if_pos rfl, if_pos rfl, if_pos rfl, if_pos rfl]; exact ⟨rfl, rfl, rfl, rfl⟩
  · have hlt : i < R.1.length := by
      have := (List.getElem?_eq_some_iff.1 hx).1
      simp at this
      omega
    rw [if_neg hi, if_neg hi, if_neg hi, if_neg hi]
    exact a8 i x (by rw [← List.getElem?_append_left hlt (l₂ := [e])]; exact hx)
theorem JR_cm {R' : Jr} (hp : JR h a R') (h1 : R'.2.1 < 900000) (h2 : R'.1.length < 900000) : JR (setI (setI h a 5 (Int32.ofNat (R'.2.1 + 1))) a 6 (Int32.ofNat R'.1.length)) a (R'.1, R'.2.1 + 1, R'.1.length) := by
  obtain ⟨a1, a2, a3, a4, a5, a6, a7, a8⟩ := hp
  refine ⟨isR_set (isR_set a1), a2, by rw [gI_ne (by omega), gI_ne (by omega)]; exact a3, by rw [gI_ne (by omega)]; exact gI_eq, gI_eq, by show R'.2.1 + 1 < 1000000; omega, by show R'.1.length < 1000000; omega, fun i x hx => ?_⟩
  rw [gI_ne (by omega), gI_ne (by omega), gI_ne (by omega), gI_ne (by omega), gI_ne (by omega), gI_ne (by omega), gI_ne (by omega), gI_ne (by omega)]
  exact a8 i x hx

theorem s_Journal_write {k t x y : Int32} (hp : JR h a R) (hl : R.1.length < 360) (hc9 : R.2.1 < 900000) : ∃ h', Run 109 [.ref a, .int k, .int t, .int x, .int y] h (.inl none) h' ∧ JR h' a (jr_w R (k, t, x, y)) ∧ Fr a (a + 5) h h' := by
  have hx : Ev 109 0 (sm_pad (sm_ent [.ref a, .int k, .int t, .int x, .int y]) (sm_prog.2.1 109)) [] h (fun r h1 => r = .inl none ∧ JR h1 a (jr_w R (k, t, x, y)) ∧ Fr a (a + 5) h h1) := by
    by_cases hc : k = 1
    · skip
      show Ev 109 0 [some (.ref a), some (.int k), some (.int t), some (.int x), some (.int y)] [] h _
      refine Er_run 1 (pc' := 1) (ls' := [some (.ref a), some (.int k), some (.int t), some (.int x), some (.int y)]) (st' := [.ref a]) rfl ?_
      refine Er_getI (v := Int32.ofNat R.1.length) rfl hp.1.1 hp.2.2.1 ?_
      refine Er_run 2 (pc' := bif decide ((Int32.ofNat R.1.length) < ((360 : Int32))) then 11 else 10) (ls' := [some (.ref a), some (.int k), some (.int t), some (.int x), some (.int y)]) (st' := []) rfl ?_
      refine Er_pc (t := 11) (show (bif decide ((Int32.ofNat R.1.length) < ((360 : Int32))) then 11 else 10) = 11 from by rw [show (decide ((Int32.ofNat R.1.length) < ((360 : Int32)))) = true from by rw [show (360 : Int32) = Int32.ofNat 360 from rfl, jx_lt (by omega) (by omega)]; exact decide_eq_true hl]; rfl) ?_
      refine Er_run 1 (pc' := 12) (ls' := [some (.ref a), some (.int k), some (.int t), some (.int x), some (.int y)]) (st' := [.ref a]) rfl ?_
      refine Er_getR (x := a + 1) rfl hp.1.1 hp.1.2.1 ?_
      refine Er_run 1 (pc' := 16) (ls' := [some (.ref a), some (.int k), some (.int t), some (.int x), some (.int y)]) (st' := [.ref a, .ref (a + 1)]) rfl ?_
      refine Er_getI (v := Int32.ofNat R.1.length) rfl hp.1.1 hp.2.2.1 ?_
      refine Er_run 1 (pc' := 20) (ls' := [some (.ref a), some (.int k), some (.int t), some (.int x), some (.int y)]) (st' := [.int k, .int (Int32.ofNat R.1.length), .ref (a + 1)]) rfl ?_
      refine Er_iast rfl hp.1.2.2.2.2.2.1 (by show sm_in _ (gS h (a + 1)).2 = true; rw [hp.1.2.2.2.2.2.2.1]; exact sm_in_of (by rw [sm_ofNat_toInt (by omega)]; omega) (by rw [sm_ofNat_toInt (by omega)]; omega)) ?_
      rw [jx_cn (by omega)]
      have z1 : Fr (a + 1) (a + 2) h (setI h (a + 1) R.1.length k) := Fr.setI (by omega) (by omega)
      have b1 : ∀ n, gI (setI h (a + 1) R.1.length k) (a + 1) n = if n = R.1.length then k else gI h (a + 1) n := fun n => by rw [gI_set]; simp
      generalize setI h (a + 1) R.1.length k = h1 at z1 b1 ⊢
      have i1 := isR_fr z1 (by omega) hp.1
      have e1 : gI h1 a = gI h a := (z1.2.2.2.2 a (by omega)).1
      have y1_2 : gI h1 (a + 2) = gI h (a + 2) := (z1.2.2.2.2 (a + 2) (by omega)).1
      have y1_3 : gI h1 (a + 3) = gI h (a + 3) := (z1.2.2.2.2 (a + 3) (by omega)).1
      have y1_4 : gI h1 (a + 4) = gI h (a + 4) := (z1.2.2.2.2 (a + 4) (by omega)).1
      have q1 : Fr a (a + 5) h h1 := z1.mono (by omega) (by omega)
      refine Er_run 1 (pc' := 22) (ls' := [some (.ref a), some (.int k), some (.int t), some (.int x), some (.int y)]) (st' := [.ref a]) rfl ?_
      refine Er_getR (x := a + 2) rfl i1.1 i1.2.2.1 ?_
      refine Er_run 1 (pc' := 26) (ls' := [some (.ref a), some (.int k), some (.int t), some (.int x), some (.int y)]) (st' := [.ref a, .ref (a + 2)]) rfl ?_
      refine Er_getI (v := Int32.ofNat R.1.length) rfl i1.1 (by rw [e1]; exact hp.2.2.1) ?_
      refine Er_run 1 (pc' := 30) (ls' := [some (.ref a), some (.int k), some (.int t), some (.int x), some (.int y)]) (st' := [.int t, .int (Int32.ofNat R.1.length), .ref (a + 2)]) rfl ?_
      refine Er_iast rfl i1.2.2.2.2.2.2.2.1 (by show sm_in _ (gS h1 (a + 2)).2 = true; rw [i1.2.2.2.2.2.2.2.2.1]; exact sm_in_of (by rw [sm_ofNat_toInt (by omega)]; omega) (by rw [sm_ofNat_toInt (by omega)]; omega)) ?_
      rw [jx_cn (by omega)]
      have z2 : Fr (a + 2) (a + 3) h1 (setI h1 (a + 2) R.1.length t) := Fr.setI (by omega) (by omega)
      have b2 : ∀ n, gI (setI h1 (a + 2) R.1.length t) (a + 2) n = if n = R.1.length then t else gI h (a + 2) n := fun n => by rw [gI_set, y1_2]; simp
      generalize setI h1 (a + 2) R.1.length t = h2 at z2 b2 ⊢
      have i2 := isR_fr z2 (by omega) i1
      have e2 : gI h2 a = gI h a := ((z2.2.2.2.2 a (by omega)).1).trans e1
      have b1 : ∀ n, gI h2 (a + 1) n = if n = R.1.length then k else gI h (a + 1) n := fun n => by rw [(z2.2.2.2.2 (a + 1) (by omega)).1]; exact b1 n
      have y2_3 : gI h2 (a + 3) = gI h (a + 3) := ((z2.2.2.2.2 (a + 3) (by omega)).1).trans y1_3
      have y2_4 : gI h2 (a + 4) = gI h (a + 4) := ((z2.2.2.2.2 (a + 4) (by omega)).1).trans y1_4
      have q2 : Fr a (a + 5) h h2 := q1.trans (z2.mono (by omega) (by omega))
      refine Er_run 1 (pc' := 32) (ls' := [some (.ref a), some (.int k), some (.int t), some (.int x), some (.int y)]) (st' := [.ref a]) rfl ?_
      refine Er_getR (x := a + 3) rfl i2.1 i2.2.2.2.1 ?_
      refine Er_run 1 (pc' := 36) (ls' := [some (.ref a), some (.int k), some (.int t), some (.int x), some (.int y)]) (st' := [.ref a, .ref (a + 3)]) rfl ?_
      refine Er_getI (v := Int32.ofNat R.1.length) rfl i2.1 (by rw [e2]; exact hp.2.2.1) ?_
      refine Er_run 1 (pc' := 40) (ls' := [some (.ref a), some (.int k), some (.int t), some (.int x), some (.int y)]) (st' := [.int x, .int (Int32.ofNat R.1.length), .ref (a + 3)]) rfl ?_
      refine Er_iast rfl i2.2.2.2.2.2.2.2.2.2.1 (by show sm_in _ (gS h2 (a + 3)).2 = true; rw [i2.2.2.2.2.2.2.2.2.2.2.1]; exact sm_in_of (by rw [sm_ofNat_toInt (by omega)]; omega) (by rw [sm_ofNat_toInt (by omega)]; omega)) ?_
      rw [jx_cn (by omega)]
      have z3 : Fr (a + 3) (a + 4) h2 (setI h2 (a + 3) R.1.length x) := Fr.setI (by omega) (by omega)
      have b3 : ∀ n, gI (setI h2 (a + 3) R.1.length x) (a + 3) n = if n = R.1.length then x else gI h (a + 3) n := fun n => by rw [gI_set, y2_3]; simp
      generalize setI h2 (a + 3) R.1.length x = h3 at z3 b3 ⊢
      have i3 := isR_fr z3 (by omega) i2
      have e3 : gI h3 a = gI h a := ((z3.2.2.2.2 a (by omega)).1).trans e2
      have b1 : ∀ n, gI h3 (a + 1) n = if n = R.1.length then k else gI h (a + 1) n := fun n => by rw [(z3.2.2.2.2 (a + 1) (by omega)).1]; exact b1 n
      have b2 : ∀ n, gI h3 (a + 2) n = if n = R.1.length then t else gI h (a + 2) n := fun n => by rw [(z3.2.2.2.2 (a + 2) (by omega)).1]; exact b2 n
      have y3_4 : gI h3 (a + 4) = gI h (a + 4) := ((z3.2.2.2.2 (a + 4) (by omega)).1).trans y2_4
      have q3 : Fr a (a + 5) h h3 := q2.trans (z3.mono (by omega) (by omega))
      refine Er_run 1 (pc' := 42) (ls' := [some (.ref a), some (.int k), some (.int t), some (.int x), some (.int y)]) (st' := [.ref a]) rfl ?_
      refine Er_getR (x := a + 4) rfl i3.1 i3.2.2.2.2.1 ?_
      refine Er_run 1 (pc' := 46) (ls' := [some (.ref a), some (.int k), some (.int t), some (.int x), some (.int y)]) (st' := [.ref a, .ref (a + 4)]) rfl ?_
      refine Er_getI (v := Int32.ofNat R.1.length) rfl i3.1 (by rw [e3]; exact hp.2.2.1) ?_
      refine Er_run 1 (pc' := 51) (ls' := [some (.ref a), some (.int k), some (.int t), some (.int x), some (.int y)]) (st' := [.int y, .int (Int32.ofNat R.1.length), .ref (a + 4)]) rfl ?_
      refine Er_iast rfl i3.2.2.2.2.2.2.2.2.2.2.2.1 (by show sm_in _ (gS h3 (a + 4)).2 = true; rw [i3.2.2.2.2.2.2.2.2.2.2.2.2]; exact sm_in_of (by rw [sm_ofNat_toInt (by omega)]; omega) (by rw [sm_ofNat_toInt (by omega)]; omega)) ?_
      rw [jx_cn (by omega)]
      have z4 : Fr (a + 4) (a + 5) h3 (setI h3 (a + 4) R.1.length y) := Fr.setI (by omega) (by omega)
      have b4 : ∀ n, gI (setI h3 (a + 4) R.1.length y) (a + 4) n = if n = R.1.length then y else gI h (a + 4) n := fun n => by rw [gI_set, y3_4]; simp
      generalize setI h3 (a + 4) R.1.length y = h4 at z4 b4 ⊢
      have i4 := isR_fr z4 (by omega) i3
      have e4 : gI h4 a = gI h a := ((z4.2.2.2.2 a (by omega)).1).trans e3
      have b1 : ∀ n, gI h4 (a + 1) n = if n = R.1.length then k else gI h (a + 1) n := fun n => by rw [(z4.2.2.2.2 (a + 1) (by omega)).1]; exact b1 n
      have b2 : ∀ n, gI h4 (a + 2) n = if n = R.1.length then t else gI h (a + 2) n := fun n => by rw [(z4.2.2.2.2 (a + 2) (by omega)).1]; exact b2 n
      have b3 : ∀ n, gI h4 (a + 3) n = if n = R.1.length then x else gI h (a + 3) n := fun n => by rw [(z4.2.2.2.2 (a + 3) (by omega)).1]; exact b3 n
      have q4 : Fr a (a + 5) h h4 := q3.trans (z4.mono (by omega) (by omega))
      refine Er_run 2 (pc' := 54) (ls' := [some (.ref a), some (.int k), some (.int t), some (.int x), some (.int y)]) (st' := [.ref a, .ref a]) rfl ?_
      refine Er_getI (v := Int32.ofNat R.1.length) rfl i4.1 (by rw [e4]; exact hp.2.2.1) ?_
      refine Er_run 2 (pc' := 59) (ls' := [some (.ref a), some (.int k), some (.int t), some (.int x), some (.int y)]) (st' := [.int ((Int32.ofNat R.1.length) + ((1 : Int32))), .ref a]) rfl ?_
      refine Er_putI rfl i4.1 ?_
      rw [jx_s1]
      have hj : JR (setI h4 a 4 (Int32.ofNat (R.1.length + 1))) a (R.1 ++ [(k, t, x, y)], R.2.1, R.2.2) := JR_add (e := (k, t, x, y)) hp hl rfl (isR_set i4) gI_eq (by rw [gI_ne (by omega), e4]) (by rw [gI_ne (by omega), e4]) (fun n => by rw [gI_ne (by omega)]; exact b1 n) (fun n => by rw [gI_ne (by omega)]; exact b2 n) (fun n => by rw [gI_ne (by omega)]; exact b3 n) (fun n => by rw [gI_ne (by omega)]; exact b4 n)
      have z5 : Fr a (a + 1) h4 (setI h4 a 4 (Int32.ofNat (R.1.length + 1))) := Fr.setI (by omega) (by omega)
      generalize setI h4 a 4 (Int32.ofNat (R.1.length + 1)) = h5 at hj z5 ⊢
      have hf : Fr a (a + 5) h h5 := q4.trans (z5.mono (by omega) (by omega))
      have i5 := hj.1
      refine Er_run 3 (pc' := bif !decide (k = ((1 : Int32))) then 85 else 67) (ls' := [some (.ref a), some (.int k), some (.int t), some (.int x), some (.int y)]) (st' := []) rfl ?_
      refine Er_pc (t := 67) (show (bif !decide (k = ((1 : Int32))) then 85 else 67) = 67 from by rw [show (!decide (k = ((1 : Int32)))) = false from by rw [hc]; rfl]; rfl) ?_
      refine Er_run 2 (pc' := 69) (ls' := [some (.ref a), some (.int k), some (.int t), some (.int x), some (.int y)]) (st' := [.ref a, .ref a]) rfl ?_
      refine Er_getI (v := Int32.ofNat R.2.1) rfl i5.1 hj.2.2.2.1 ?_
      refine Er_run 2 (pc' := 74) (ls' := [some (.ref a), some (.int k), some (.int t), some (.int x), some (.int y)]) (st' := [.int ((Int32.ofNat R.2.1) + ((1 : Int32))), .ref a]) rfl ?_
      refine Er_putI rfl i5.1 ?_
      rw [jx_s1]
      have i6 : isR (setI h5 a 5 (Int32.ofNat (R.2.1 + 1))) a := isR_set i5
      generalize hE6 : setI h5 a 5 (Int32.ofNat (R.2.1 + 1)) = h6 at i6 ⊢
      refine Er_run 2 (pc' := 79) (ls' := [some (.ref a), some (.int k), some (.int t), some (.int x), some (.int y)]) (st' := [.ref a, .ref a]) rfl ?_
      refine Er_getI (v := Int32.ofNat (R.1.length + 1)) rfl i6.1 (by rw [← hE6, gI_ne (by omega), hj.2.2.1]; simp) ?_
      refine Er_putI rfl i6.1 ?_
      refine Er_fin rfl rfl ?_
      rw [← hE6]
      refine ⟨rfl, ?_, hf.trans ((Fr.setI (by omega) (by omega)).trans (Fr.setI (by omega) (by omega)))⟩
      rw [jr_w, if_pos hc]
      have hcm := JR_cm hj (by show R.2.1 < 900000; exact hc9) (by simp; omega)
      simp only [List.length_append, List.length_singleton] at hcm
      exact hcm
    · skip
      show Ev 109 0 [some (.ref a), some (.int k), some (.int t), some (.int x), some (.int y)] [] h _
      refine Er_run 1 (pc' := 1) (ls' := [some (.ref a), some (.int k), some (.int t), some (.int x), some (.int y)]) (st' := [.ref a]) rfl ?_
      refine Er_getI (v := Int32.ofNat R.1.length) rfl hp.1.1 hp.2.2.1 ?_
      refine Er_run 2 (pc' := bif decide ((Int32.ofNat R.1.length) < ((360 : Int32))) then 11 else 10) (ls' := [some (.ref a), some (.int k), some (.int t), some (.int x), some (.int y)]) (st' := []) rfl ?_
      refine Er_pc (t := 11) (show (bif decide ((Int32.ofNat R.1.length) < ((360 : Int32))) then 11 else 10) = 11 from by rw [show (decide ((Int32.ofNat R.1.length) < ((360 : Int32)))) = true from by rw [show (360 : Int32) = Int32.ofNat 360 from rfl, jx_lt (by omega) (by omega)]; exact decide_eq_true hl]; rfl) ?_
      refine Er_run 1 (pc' := 12) (ls' := [some (.ref a), some (.int k), some (.int t), some (.int x), some (.int y)]) (st' := [.ref a]) rfl ?_
      refine Er_getR (x := a + 1) rfl hp.1.1 hp.1.2.1 ?_
      refine Er_run 1 (pc' := 16) (ls' := [some (.ref a), some (.int k), some (.int t), some (.int x), some (.int y)]) (st' := [.ref a, .ref (a + 1)]) rfl ?_
      refine Er_getI (v := Int32.ofNat R.1.length) rfl hp.1.1 hp.2.2.1 ?_
      refine Er_run 1 (pc' := 20) (ls' := [some (.ref a), some (.int k), some (.int t), some (.int x), some (.int y)]) (st' := [.int k, .int (Int32.ofNat R.1.length), .ref (a + 1)]) rfl ?_
      refine Er_iast rfl hp.1.2.2.2.2.2.1 (by show sm_in _ (gS h (a + 1)).2 = true; rw [hp.1.2.2.2.2.2.2.1]; exact sm_in_of (by rw [sm_ofNat_toInt (by omega)]; omega) (by rw [sm_ofNat_toInt (by omega)]; omega)) ?_
      rw [jx_cn (by omega)]
      have z1 : Fr (a + 1) (a + 2) h (setI h (a + 1) R.1.length k) := Fr.setI (by omega) (by omega)
      have b1 : ∀ n, gI (setI h (a + 1) R.1.length k) (a + 1) n = if n = R.1.length then k else gI h (a + 1) n := fun n => by rw [gI_set]; simp
      generalize setI h (a + 1) R.1.length k = h1 at z1 b1 ⊢
      have i1 := isR_fr z1 (by omega) hp.1
      have e1 : gI h1 a = gI h a := (z1.2.2.2.2 a (by omega)).1
      have y1_2 : gI h1 (a + 2) = gI h (a + 2) := (z1.2.2.2.2 (a + 2) (by omega)).1
      have y1_3 : gI h1 (a + 3) = gI h (a + 3) := (z1.2.2.2.2 (a + 3) (by omega)).1
      have y1_4 : gI h1 (a + 4) = gI h (a + 4) := (z1.2.2.2.2 (a + 4) (by omega)).1
      have q1 : Fr a (a + 5) h h1 := z1.mono (by omega) (by omega)
      refine Er_run 1 (pc' := 22) (ls' := [some (.ref a), some (.int k), some (.int t), some (.int x), some (.int y)]) (st' := [.ref a]) rfl ?_
      refine Er_getR (x := a + 2) rfl i1.1 i1.2.2.1 ?_
      refine Er_run 1 (pc' := 26) (ls' := [some (.ref a), some (.int k), some (.int t), some (.int x), some (.int y)]) (st' := [.ref a, .ref (a + 2)]) rfl ?_
      refine Er_getI (v := Int32.ofNat R.1.length) rfl i1.1 (by rw [e1]; exact hp.2.2.1) ?_
      refine Er_run 1 (pc' := 30) (ls' := [some (.ref a), some (.int k), some (.int t), some (.int x), some (.int y)]) (st' := [.int t, .int (Int32.ofNat R.1.length), .ref (a + 2)]) rfl ?_
      refine Er_iast rfl i1.2.2.2.2.2.2.2.1 (by show sm_in _ (gS h1 (a + 2)).2 = true; rw [i1.2.2.2.2.2.2.2.2.1]; exact sm_in_of (by rw [sm_ofNat_toInt (by omega)]; omega) (by rw [sm_ofNat_toInt (by omega)]; omega)) ?_
      rw [jx_cn (by omega)]
      have z2 : Fr (a + 2) (a + 3) h1 (setI h1 (a + 2) R.1.length t) := Fr.setI (by omega) (by omega)
      have b2 : ∀ n, gI (setI h1 (a + 2) R.1.length t) (a + 2) n = if n = R.1.length then t else gI h (a + 2) n := fun n => by rw [gI_set, y1_2]; simp
      generalize setI h1 (a + 2) R.1.length t = h2 at z2 b2 ⊢
      have i2 := isR_fr z2 (by omega) i1
      have e2 : gI h2 a = gI h a := ((z2.2.2.2.2 a (by omega)).1).trans e1
      have b1 : ∀ n, gI h2 (a + 1) n = if n = R.1.length then k else gI h (a + 1) n := fun n => by rw [(z2.2.2.2.2 (a + 1) (by omega)).1]; exact b1 n
      have y2_3 : gI h2 (a + 3) = gI h (a + 3) := ((z2.2.2.2.2 (a + 3) (by omega)).1).trans y1_3
      have y2_4 : gI h2 (a + 4) = gI h (a + 4) := ((z2.2.2.2.2 (a + 4) (by omega)).1).trans y1_4
      have q2 : Fr a (a + 5) h h2 := q1.trans (z2.mono (by omega) (by omega))
      refine Er_run 1 (pc' := 32) (ls' := [some (.ref a), some (.int k), some (.int t), some (.int x), some (.int y)]) (st' := [.ref a]) rfl ?_
      refine Er_getR (x := a + 3) rfl i2.1 i2.2.2.2.1 ?_
      refine Er_run 1 (pc' := 36) (ls' := [some (.ref a), some (.int k), some (.int t), some (.int x), some (.int y)]) (st' := [.ref a, .ref (a + 3)]) rfl ?_
      refine Er_getI (v := Int32.ofNat R.1.length) rfl i2.1 (by rw [e2]; exact hp.2.2.1) ?_
      refine Er_run 1 (pc' := 40) (ls' := [some (.ref a), some (.int k), some (.int t), some (.int x), some (.int y)]) (st' := [.int x, .int (Int32.ofNat R.1.length), .ref (a + 3)]) rfl ?_
      refine Er_iast rfl i2.2.2.2.2.2.2.2.2.2.1 (by show sm_in _ (gS h2 (a + 3)).2 = true; rw [i2.2.2.2.2.2.2.2.2.2.2.1]; exact sm_in_of (by rw [sm_ofNat_toInt (by omega)]; omega) (by rw [sm_ofNat_toInt (by omega)]; omega)) ?_
      rw [jx_cn (by omega)]
      have z3 : Fr (a + 3) (a + 4) h2 (setI h2 (a + 3) R.1.length x) := Fr.setI (by omega) (by omega)
      have b3 : ∀ n, gI (setI h2 (a + 3) R.1.length x) (a + 3) n = if n = R.1.length then x else gI h (a + 3) n := fun n => by rw [gI_set, y2_3]; simp
      generalize setI h2 (a + 3) R.1.length x = h3 at z3 b3 ⊢
      have i3 := isR_fr z3 (by omega) i2
      have e3 : gI h3 a = gI h a := ((z3.2.2.2.2 a (by omega)).1).trans e2
      have b1 : ∀ n, gI h3 (a + 1) n = if n = R.1.length then k else gI h (a + 1) n := fun n => by rw [(z3.2.2.2.2 (a + 1) (by omega)).1]; exact b1 n
      have b2 : ∀ n, gI h3 (a + 2) n = if n = R.1.length then t else gI h (a + 2) n := fun n => by rw [(z3.2.2.2.2 (a + 2) (by omega)).1]; exact b2 n
      have y3_4 : gI h3 (a + 4) = gI h (a + 4) := ((z3.2.2.2.2 (a + 4) (by omega)).1).trans y2_4
      have q3 : Fr a (a + 5) h h3 := q2.trans (z3.mono (by omega) (by omega))
      refine Er_run 1 (pc' := 42) (ls' := [some (.ref a), some (.int k), some (.int t), some (.int x), some (.int y)]) (st' := [.ref a]) rfl ?_
      refine Er_getR (x := a + 4) rfl i3.1 i3.2.2.2.2.1 ?_
      refine Er_run 1 (pc' := 46) (ls' := [some (.ref a), some (.int k), some (.int t), some (.int x), some (.int y)]) (st' := [.ref a, .ref (a + 4)]) rfl ?_
      refine Er_getI (v := Int32.ofNat R.1.length) rfl i3.1 (by rw [e3]; exact hp.2.2.1) ?_
      refine Er_run 1 (pc' := 51) (ls' := [some (.ref a), some (.int k), some (.int t), some (.int x), some (.int y)]) (st' := [.int y, .int (Int32.ofNat R.1.length), .ref (a + 4)]) rfl ?_
      refine Er_iast rfl i3.2.2.2.2.2.2.2.2.2.2.2.1 (by show sm_in _ (gS h3 (a + 4)).2 = true; rw [i3.2.2.2.2.2.2.2.2.2.2.2.2]; exact sm_in_of (by rw [sm_ofNat_toInt (by omega)]; omega) (by rw [sm_ofNat_toInt (by omega)]; omega)) ?_
      rw [jx_cn (by omega)]
      have z4 : Fr (a + 4) (a + 5) h3 (setI h3 (a + 4) R.1.length y) := Fr.setI (by omega) (by omega)
      have b4 : ∀ n, gI (setI h3 (a + 4) R.1.length y) (a + 4) n = if n = R.1.length then y else gI h (a + 4) n := fun n => by rw [gI_set, y3_4]; simp
      generalize setI h3 (a + 4) R.1.length y = h4 at z4 b4 ⊢
      have i4 := isR_fr z4 (by omega) i3
      have e4 : gI h4 a = gI h a := ((z4.2.2.2.2 a (by omega)).1).trans e3
      have b1 : ∀ n, gI h4 (a + 1) n = if n = R.1.length then k else gI h (a + 1) n := fun n => by rw [(z4.2.2.2.2 (a + 1) (by omega)).1]; exact b1 n
      have b2 : ∀ n, gI h4 (a + 2) n = if n = R.1.length then t else gI h (a + 2) n := fun n => by rw [(z4.2.2.2.2 (a + 2) (by omega)).1]; exact b2 n
      have b3 : ∀ n, gI h4 (a + 3) n = if n = R.1.length then x else gI h (a + 3) n := fun n => by rw [(z4.2.2.2.2 (a + 3) (by omega)).1]; exact b3 n
      have q4 : Fr a (a + 5) h h4 := q3.trans (z4.mono (by omega) (by omega))
      refine Er_run 2 (pc' := 54) (ls' := [some (.ref a), some (.int k), some (.int t), some (.int x), some (.int y)]) (st' := [.ref a, .ref a]) rfl ?_
      refine Er_getI (v := Int32.ofNat R.1.length) rfl i4.1 (by rw [e4]; exact hp.2.2.1) ?_
      refine Er_run 2 (pc' := 59) (ls' := [some (.ref a), some (.int k), some (.int t), some (.int x), some (.int y)]) (st' := [.int ((Int32.ofNat R.1.length) + ((1 : Int32))), .ref a]) rfl ?_
      refine Er_putI rfl i4.1 ?_
      rw [jx_s1]
      have hj : JR (setI h4 a 4 (Int32.ofNat (R.1.length + 1))) a (R.1 ++ [(k, t, x, y)], R.2.1, R.2.2) := JR_add (e := (k, t, x, y)) hp hl rfl (isR_set i4) gI_eq (by rw [gI_ne (by omega), e4]) (by rw [gI_ne (by omega), e4]) (fun n => by rw [gI_ne (by omega)]; exact b1 n) (fun n => by rw [gI_ne (by omega)]; exact b2 n) (fun n => by rw [gI_ne (by omega)]; exact b3 n) (fun n => by rw [gI_ne (by omega)]; exact b4 n)
      have z5 : Fr a (a + 1) h4 (setI h4 a 4 (Int32.ofNat (R.1.length + 1))) := Fr.setI (by omega) (by omega)
      generalize setI h4 a 4 (Int32.ofNat (R.1.length + 1)) = h5 at hj z5 ⊢
      have hf : Fr a (a + 5) h h5 := q4.trans (z5.mono (by omega) (by omega))
      have i5 := hj.1
      refine Er_run 3 (pc' := bif !decide (k = ((1 : Int32))) then 85 else 67) (ls' := [some (.ref a), some (.int k), some (.int t), some (.int x), some (.int y)]) (st' := []) rfl ?_
      refine Er_pc (t := 85) (show (bif !decide (k = ((1 : Int32))) then 85 else 67) = 85 from by rw [show (!decide (k = ((1 : Int32)))) = true from by rw [decide_eq_false hc]; rfl]; rfl) ?_
      refine Er_fin rfl rfl ⟨rfl, ?_, hf⟩
      rw [jr_w, if_neg hc]
      exact hj
  obtain ⟨r, h', hr, e, hq⟩ := Run_of (Nat.le_of_ble_eq_true rfl) hx
  subst e
  exact ⟨h', hr, hq⟩
end JRN
