/-! rows for runs of the pure machine: a row an instruction that reads or writes the heap; all others by computing -/
abbrev Ev (M pc : Nat) (ls : sm_L) (st : List Value) (h : sm_H) (Q : sm_R → sm_H → Prop) : Prop := sm_Ev sm_prog M pc ls st h Q
/-- method M, from its arguments, ends so -/
def Run (M : Nat) (av : List Value) (h : sm_H) (r : sm_R) (h' : sm_H) : Prop := (sm_ent av).length ≤ sm_prog.2.1 M ∧ sm_Ev sm_prog M 0 (sm_pad (sm_ent av) (sm_prog.2.1 M)) [] h (fun r1 h1 => r1 = r ∧ h1 = h')
section ER
variable {M pc : Nat} {ls : sm_L} {r : List Value} {h : sm_H} {Q : sm_R → sm_H → Prop} {a b q k : Nat} {cx : Int} {l : List Nat}
theorem Er_run (n : Nat) {pc' : Nat} {ls' : sm_L} {st st' : List Value} (hs : sm_stp sm_prog M n (pc, ls, st, h) = some (pc', ls', st', h)) (kk : Ev M pc' ls' st' h Q) : Ev M pc ls st h Q := Ev_stp n hs kk
theorem Er_if {c : Bool} {t e : Nat} {st : List Value} (kt : c = true → Ev M t ls st h Q) (kf : c = false → Ev M e ls st h Q) : Ev M (bif c then t else e) ls st h Q := by
  cases c
  · exact kf rfl
  · exact kt rfl
theorem Er_pc {t e : Nat} {st : List Value} (he : e = t) (kk : Ev M t ls st h Q) : Ev M e ls st h Q := by subst he; exact kk
theorem Er_fin {o : sm_O} {st : List Value} {res : sm_R} {h' : sm_H} (ho : sm_code M pc = some o) (hs : sm_step h pc o ls st = some (.inr (.inr (res, h')))) (hq : Q res h') : Ev M pc ls st h Q := Ev_end ho hs hq
theorem Er_call {o : sm_O} {N : Nat} {st av rest : List Value} {v : Option Value} {h1 : sm_H} (ho : sm_code M pc = some o) (hs : sm_step h pc o ls st = some (.inr (.inl (N, av, rest)))) (hr : Run N av h (.inl v) h1) (kk : Ev M (pc + 3) ls (v.toList ++ rest) h1 Q) : Ev M pc ls st h Q :=
  Ev_call ho hs hr.1 hr.2 (fun v' h' e => by obtain ⟨e1, rfl⟩ := e; cases e1; exact kk) (fun k' h' e => by cases e.1)
theorem Er_callX {o : sm_O} {N j : Nat} {st av rest : List Value} {h1 : sm_H} (ho : sm_code M pc = some o) (hs : sm_step h pc o ls st = some (.inr (.inl (N, av, rest)))) (hr : Run N av h (.inr j) h1) (hc : sm_ca M pc j = some none) (hq : Q (.inr j) h1) : Ev M pc ls st h Q :=
  Ev_call ho hs hr.1 hr.2 (fun v' h' e => by cases e.1) (fun k' h' e => by obtain ⟨e1, rfl⟩ := e; cases e1; exact Or.inr ⟨hc, hq⟩)

theorem Er_getI {v : Int32} (ho : sm_code M pc = some (50, a, b, cx, l)) (hq : sm_at h q (10 + a) = true) (hv : gI h q b = v) (kk : Ev M (pc + 3) ls (.int v :: r) h Q) : Ev M pc ls (.ref q :: r) h Q :=
  Ev_next ho (by show (if sm_at h q (10 + a) then nx (pc + 3) ls (.int (gI h q b) :: r) h else none) = _; rw [if_pos hq, hv]; rfl) kk
theorem Er_getL {v : Int64} (ho : sm_code M pc = some (51, a, b, cx, l)) (hq : sm_at h q (10 + a) = true) (hv : gL h q b = v) (kk : Ev M (pc + 3) ls (.long v :: r) h Q) : Ev M pc ls (.ref q :: r) h Q :=
  Ev_next ho (by show (if sm_at h q (10 + a) then nx (pc + 3) ls (.long (gL h q b) :: r) h else none) = _; rw [if_pos hq, hv]; rfl) kk
theorem Er_getR {x : Nat} (ho : sm_code M pc = some (52, a, b, cx, l)) (hq : sm_at h q (10 + a) = true) (hv : gR h q b = some x) (kk : Ev M (pc + 3) ls (.ref x :: r) h Q) : Ev M pc ls (.ref q :: r) h Q :=
  Ev_next ho (by show (if sm_at h q (10 + a) then nx (pc + 3) ls (sm_rf (gR h q b) :: r) h else none) = _; rw [if_pos hq, hv]; rfl) kk
theorem Er_getN (ho : sm_code M pc = some (52, a, b, cx, l)) (hq : sm_at h q (10 + a) = true) (hv : gR h q b = none) (kk : Ev M (pc + 3) ls (.null :: r) h Q) : Ev M pc ls (.ref q :: r) h Q :=
  Ev_next ho (by show (if sm_at h q (10 + a) then nx (pc + 3) ls (sm_rf (gR h q b) :: r) h else none) = _; rw [if_pos hq, hv]; rfl) kk
theorem Er_putI {x : Int32} (ho : sm_code M pc = some (53, a, b, cx, l)) (hq : sm_at h q (10 + a) = true) (kk : Ev M (pc + 3) ls r (setI h q b x) Q) : Ev M pc ls (.int x :: .ref q :: r) h Q :=
  Ev_next ho (by show (if sm_at h q (10 + a) then nx (pc + 3) ls r (setI h q b x) else none) = _; rw [if_pos hq]; rfl) kk
theorem Er_putL {x : Int64} (ho : sm_code M pc = some (54, a, b, cx, l)) (hq : sm_at h q (10 + a) = true) (kk : Ev M (pc + 3) ls r (setL h q b x) Q) : Ev M pc ls (.long x :: .ref q :: r) h Q :=
  Ev_next ho (by show (if sm_at h q (10 + a) then nx (pc + 3) ls r (setL h q b x) else none) = _; rw [if_pos hq]; rfl) kk
theorem Er_putR {x : Nat} (ho : sm_code M pc = some (55, a, b, cx, l)) (hq : sm_at h q (10 + a) = true) (kk : Ev M (pc + 3) ls r (setR h q b (some x)) Q) : Ev M pc ls (.ref x :: .ref q :: r) h Q :=
  Ev_next ho (by show (if sm_at h q (10 + a) then nx (pc + 3) ls r (setR h q b (some x)) else none) = _; rw [if_pos hq]; rfl) kk
theorem Er_putN (ho : sm_code M pc = some (55, a, b, cx, l)) (hq : sm_at h q (10 + a) = true) (kk : Ev M (pc + 3) ls r (setR h q b none) Q) : Ev M pc ls (.null :: .ref q :: r) h Q :=
  Ev_next ho (by show (if sm_at h q (10 + a) then nx (pc + 3) ls r (setR h q b none) else none) = _; rw [if_pos hq]; rfl) kk
theorem Er_putZ {x : Int32} (ho : sm_code M pc = some (56, a, b, cx, l)) (hq : sm_at h q (10 + a) = true) (h01 : x = 0 ∨ x = 1) (kk : Ev M (pc + 3) ls r (setI h q b x) Q) : Ev M pc ls (.int x :: .ref q :: r) h Q :=
  Ev_next ho (by show (if sm_at h q (10 + a) ∧ (x = 0 ∨ x = 1) then nx (pc + 3) ls r (setI h q b x) else none) = _; rw [if_pos ⟨hq, h01⟩]; rfl) kk
theorem Er_lald {i : Int32} {v : Int64} (ho : sm_code M pc = some (58, a, b, cx, l)) (hq : sm_at h q 1 = true) (hi : sm_in i (gS h q).2 = true) (hv : gL h q i.toNatClampNeg = v) (kk : Ev M (pc + 1) ls (.long v :: r) h Q) : Ev M pc ls (.int i :: .ref q :: r) h Q :=
  Ev_next ho (by show (if sm_at h q 1 && sm_in i (gS h q).2 then nx (pc + 1) ls (.long (gL h q i.toNatClampNeg) :: r) h else none) = _; rw [if_pos (by rw [hq, hi]; rfl), hv]; rfl) kk
theorem Er_zald {i : Int32} {v : Int32} (ho : sm_code M pc = some (60, a, b, cx, l)) (hq : sm_at h q 2 = true) (hi : sm_in i (gS h q).2 = true) (hv : gI h q i.toNatClampNeg = v) (kk : Ev M (pc + 1) ls (.int v :: r) h Q) : Ev M pc ls (.int i :: .ref q :: r) h Q :=
  Ev_next ho (by show (if sm_at h q 2 && sm_in i (gS h q).2 then nx (pc + 1) ls (.int (gI h q i.toNatClampNeg) :: r) h else none) = _; rw [if_pos (by rw [hq, hi]; rfl), hv]; rfl) kk
theorem Er_iald {i v : Int32} (ho : sm_code M pc = some (57, a, b, cx, l)) (hq : sm_at h q 0 = true) (hi : sm_in i (gS h q).2 = true) (hv : gI h q i.toNatClampNeg = v) (kk : Ev M (pc + 1) ls (.int v :: r) h Q) : Ev M pc ls (.int i :: .ref q :: r) h Q :=
  Ev_next ho (by show (if (sm_at h q 0 || decide (q = sm_S)) && sm_in i (gS h q).2 then nx (pc + 1) ls (.int (gI h q i.toNatClampNeg) :: r) h else none) = _; rw [if_pos (by rw [hq, hi]; rfl), hv]; rfl) kk
theorem Er_sald {i : Int32} (ho : sm_code M pc = some (57, a, b, cx, l)) (hi : sm_in i (gS h sm_S).2 = true) (kk : Ev M (pc + 1) ls (.int (gI h sm_S i.toNatClampNeg) :: r) h Q) : Ev M pc ls (.int i :: .ref sm_S :: r) h Q :=
  Ev_next ho (by show (if (sm_at h sm_S 0 || decide (sm_S = sm_S)) && sm_in i (gS h sm_S).2 then nx (pc + 1) ls (.int (gI h sm_S i.toNatClampNeg) :: r) h else none) = _; rw [if_pos (by rw [hi]; simp)]; rfl) kk
theorem Er_aald {i : Int32} {x : Nat} (ho : sm_code M pc = some (59, a, b, cx, l)) (hq : sm_at h q a = true) (hi : sm_in i (gS h q).2 = true) (hv : gR h q i.toNatClampNeg = some x) (kk : Ev M (pc + 1) ls (.ref x :: r) h Q) : Ev M pc ls (.int i :: .ref q :: r) h Q :=
  Ev_next ho (by show (if sm_at h q a && sm_in i (gS h q).2 then nx (pc + 1) ls (sm_rf (gR h q i.toNatClampNeg) :: r) h else none) = _; rw [if_pos (by rw [hq, hi]; rfl), hv]; rfl) kk
theorem Er_iast {i x : Int32} (ho : sm_code M pc = some (61, a, b, cx, l)) (hq : sm_at h q 0 = true) (hi : sm_in i (gS h q).2 = true) (kk : Ev M (pc + 1) ls r (setI h q i.toNatClampNeg x) Q) : Ev M pc ls (.int x :: .int i :: .ref q :: r) h Q :=
  Ev_next ho (by show (if sm_at h q 0 && sm_in i (gS h q).2 then nx (pc + 1) ls r (setI h q i.toNatClampNeg x) else none) = _; rw [if_pos (by rw [hq, hi]; rfl)]; rfl) kk
theorem Er_last {i : Int32} {x : Int64} (ho : sm_code M pc = some (62, a, b, cx, l)) (hq : sm_at h q 1 = true) (hi : sm_in i (gS h q).2 = true) (kk : Ev M (pc + 1) ls r (setL h q i.toNatClampNeg x) Q) : Ev M pc ls (.long x :: .int i :: .ref q :: r) h Q :=
  Ev_next ho (by show (if sm_at h q 1 && sm_in i (gS h q).2 then nx (pc + 1) ls r (setL h q i.toNatClampNeg x) else none) = _; rw [if_pos (by rw [hq, hi]; rfl)]; rfl) kk
theorem Er_zast {i x : Int32} (ho : sm_code M pc = some (64, a, b, cx, l)) (hq : sm_at h q 2 = true) (hi : sm_in i (gS h q).2 = true) (h01 : x = 0 ∨ x = 1) (kk : Ev M (pc + 1) ls r (setI h q i.toNatClampNeg x) Q) : Ev M pc ls (.int x :: .int i :: .ref q :: r) h Q :=
  Ev_next ho (by show (if (sm_at h q 2 && sm_in i (gS h q).2) ∧ (x = 0 ∨ x = 1) then nx (pc + 1) ls r (setI h q i.toNatClampNeg x) else none) = _; rw [if_pos ⟨by rw [hq, hi]; rfl, h01⟩]; rfl) kk
theorem Er_aast {i : Int32} {x : Nat} (ho : sm_code M pc = some (63, a, b, cx, l)) (hq : sm_at h q a = true) (hi : sm_in i (gS h q).2 = true) (hx : sm_at h x (10 + b) = true) (kk : Ev M (pc + 1) ls r (setR h q i.toNatClampNeg (some x)) Q) : Ev M pc ls (.ref x :: .int i :: .ref q :: r) h Q :=
  Ev_next ho (by show (if sm_at h q a && sm_in i (gS h q).2 && sm_at h x (10 + b) then nx (pc + 1) ls r (setR h q i.toNatClampNeg (some x)) else none) = _; rw [if_pos (by rw [hq, hi, hx]; rfl)]; rfl) kk
theorem Er_alen {n : Nat} (ho : sm_code M pc = some (65, a, b, cx, l)) (hq : sm_at h q k = true) (h8 : k < 8) (hn : (gS h q).2 = n) (kk : Ev M (pc + 1) ls (.int (Int32.ofNat n) :: r) h Q) : Ev M pc ls (.ref q :: r) h Q :=
  Ev_next ho (by show (if (decide (q < gN h) && decide ((gS h q).1 < 8)) || decide (q = sm_S) then nx (pc + 1) ls (.int (Int32.ofNat (gS h q).2) :: r) h else none) = _; rw [if_pos (by have := sm_at_spec hq; simp [this.1, this.2, h8]), hn]; rfl) kk
theorem Er_inv {N q' ci : Nat} {av rest : List Value} {st : List Value} {v : Option Value} {h1 : sm_H} (ho : sm_code M pc = some (69, N, b, cx, l)) (hl : l.getD 1 0 = ci + 1) (hb : b ≤ st.length ∧ sm_wt (st.drop b) ≤ 8) (hav : (st.take b).reverse = .ref q' :: av) (hre : st.drop b = rest) (hq : sm_at h q' (10 + ci) = true) (hr : Run N (.ref q' :: av) h (.inl v) h1) (kk : Ev M (pc + 3) ls (v.toList ++ rest) h1 Q) : Ev M pc ls st h Q := by
  refine Er_call (av := .ref q' :: av) (rest := rest) ho ?_ hr kk
  show (if b ≤ st.length ∧ sm_wt (st.drop b) ≤ 8 ∧ sm_rcv h (l.getD 1 0) (st.take b).reverse = true then some (Sum.inr (Sum.inl (N, (st.take b).reverse, st.drop b))) else (none : Option sm_N)) = _
  rw [hav, hre, hl, if_pos ⟨hb.1, hre ▸ hb.2, hq⟩]
theorem Er_inv1 {N q' ci : Nat} {av rest : List Value} {st : List Value} {v : Value} {h1 : sm_H} (ho : sm_code M pc = some (69, N, b, cx, l)) (hl : l.getD 1 0 = ci + 1) (hb : b ≤ st.length ∧ sm_wt (st.drop b) ≤ 8) (hav : (st.take b).reverse = .ref q' :: av) (hre : st.drop b = rest) (hq : sm_at h q' (10 + ci) = true) (hr : Run N (.ref q' :: av) h (.inl (some v)) h1) (kk : Ev M (pc + 3) ls (v :: rest) h1 Q) : Ev M pc ls st h Q := Er_inv ho hl hb hav hre hq hr kk
theorem Er_inv0 {N q' ci : Nat} {av rest : List Value} {st : List Value} {h1 : sm_H} (ho : sm_code M pc = some (69, N, b, cx, l)) (hl : l.getD 1 0 = ci + 1) (hb : b ≤ st.length ∧ sm_wt (st.drop b) ≤ 8) (hav : (st.take b).reverse = .ref q' :: av) (hre : st.drop b = rest) (hq : sm_at h q' (10 + ci) = true) (hr : Run N (.ref q' :: av) h (.inl none) h1) (kk : Ev M (pc + 3) ls rest h1 Q) : Ev M pc ls st h Q := Er_inv ho hl hb hav hre hq hr kk
theorem Er_invX {N q' ci j : Nat} {av : List Value} {st : List Value} {h1 : sm_H} (ho : sm_code M pc = some (69, N, b, cx, l)) (hl : l.getD 1 0 = ci + 1) (hb : b ≤ st.length ∧ sm_wt (st.drop b) ≤ 8) (hav : (st.take b).reverse = .ref q' :: av) (hq : sm_at h q' (10 + ci) = true) (hr : Run N (.ref q' :: av) h (.inr j) h1) (hc : sm_ca M pc j = some none) (hQ : Q (.inr j) h1) : Ev M pc ls st h Q := by
  refine Er_callX (av := .ref q' :: av) (rest := st.drop b) ho ?_ hr hc hQ
  show (if b ≤ st.length ∧ sm_wt (st.drop b) ≤ 8 ∧ sm_rcv h (l.getD 1 0) (st.take b).reverse = true then some (Sum.inr (Sum.inl (N, (st.take b).reverse, st.drop b))) else (none : Option sm_N)) = _
  rw [hav, hl, if_pos ⟨hb.1, hb.2, hq⟩]
theorem Er_sta1 {N : Nat} {rest : List Value} {st av : List Value} {v : Value} {h1 : sm_H} (ho : sm_code M pc = some (69, N, b, cx, l)) (hl : l.getD 1 0 = 0) (hb : b ≤ st.length ∧ sm_wt (st.drop b) ≤ 8) (hav : (st.take b).reverse = av) (hre : st.drop b = rest) (hr : Run N av h (.inl (some v)) h1) (kk : Ev M (pc + 3) ls (v :: rest) h1 Q) : Ev M pc ls st h Q := by
  refine Er_call (av := av) (rest := rest) ho ?_ hr kk
  show (if b ≤ st.length ∧ sm_wt (st.drop b) ≤ 8 ∧ sm_rcv h (l.getD 1 0) (st.take b).reverse = true then some (Sum.inr (Sum.inl (N, (st.take b).reverse, st.drop b))) else (none : Option sm_N)) = _
  rw [hav, hre, hl, if_pos ⟨hb.1, hre ▸ hb.2, rfl⟩]
theorem Er_sta0 {N : Nat} {rest : List Value} {st av : List Value} {h1 : sm_H} (ho : sm_code M pc = some (69, N, b, cx, l)) (hl : l.getD 1 0 = 0) (hb : b ≤ st.length ∧ sm_wt (st.drop b) ≤ 8) (hav : (st.take b).reverse = av) (hre : st.drop b = rest) (hr : Run N av h (.inl none) h1) (kk : Ev M (pc + 3) ls rest h1 Q) : Ev M pc ls st h Q := by
  refine Er_call (av := av) (rest := rest) (v := none) ho ?_ hr kk
  show (if b ≤ st.length ∧ sm_wt (st.drop b) ≤ 8 ∧ sm_rcv h (l.getD 1 0) (st.take b).reverse = true then some (Sum.inr (Sum.inl (N, (st.take b).reverse, st.drop b))) else (none : Option sm_N)) = _
  rw [hav, hre, hl, if_pos ⟨hb.1, hre ▸ hb.2, rfl⟩]
theorem sm_nn {i : Int32} (h0 : 0 ≤ i.toInt) : decide (i < 0) = false := decide_eq_false (by rw [Int32.lt_iff_toInt_lt]; show ¬ i.toInt < 0; omega)
theorem sm_nneg {i : Int32} (h0 : 0 ≤ i.toInt) : ((i.toNatClampNeg : Nat) : Int) = i.toInt := Int.toNat_of_nonneg h0
theorem Er_cpL {n dp sp : Int32} {q0 q1 : Nat} (ho : sm_code M pc = some (72, a, b, cx, l)) (hq0 : sm_at h q0 1 = true) (hq1 : sm_at h q1 1 = true) (hw : sm_wt r ≤ 8) (h0 : 0 ≤ sp.toInt) (h1 : 0 ≤ dp.toInt) (h2 : 0 ≤ n.toInt) (h3 : sp.toInt + n.toInt ≤ (gS h q0).2) (h4 : dp.toInt + n.toInt ≤ (gS h q1).2) (kk : Ev M (pc + 3) ls r (sm_cpL h q0 sp.toNatClampNeg q1 dp.toNatClampNeg n.toNatClampNeg) Q) : Ev M pc ls (.int n :: .int dp :: .ref q1 :: .int sp :: .ref q0 :: r) h Q := by
  have e0 := sm_nneg h0
  have e1 := sm_nneg h1
  have e2 := sm_nneg h2
  refine Ev_next ho ?_ kk
  show (if _ then nx (pc + 3) ls r _ else none) = _
  rw [if_pos (by rw [hq0, hq1, sm_nn h0, sm_nn h1, sm_nn h2, decide_eq_true hw, decide_eq_true (show _ ≤ _ by omega), decide_eq_true (show _ ≤ _ by omega)]; rfl)]; rfl
theorem Er_cpI {n dp sp : Int32} {q0 q1 : Nat} (ho : sm_code M pc = some (71, a, b, cx, l)) (hq0 : sm_at h q0 0 = true) (hq1 : sm_at h q1 0 = true) (hw : sm_wt r ≤ 8) (h0 : 0 ≤ sp.toInt) (h1 : 0 ≤ dp.toInt) (h2 : 0 ≤ n.toInt) (h3 : sp.toInt + n.toInt ≤ (gS h q0).2) (h4 : dp.toInt + n.toInt ≤ (gS h q1).2) (kk : Ev M (pc + 3) ls r (sm_cpI h q0 sp.toNatClampNeg q1 dp.toNatClampNeg n.toNatClampNeg) Q) : Ev M pc ls (.int n :: .int dp :: .ref q1 :: .int sp :: .ref q0 :: r) h Q := by
  have e0 := sm_nneg h0
  have e1 := sm_nneg h1
  have e2 := sm_nneg h2
  refine Ev_next ho ?_ kk
  show (if _ then nx (pc + 3) ls r _ else none) = _
  rw [if_pos (by rw [hq0, hq1, sm_nn h0, sm_nn h1, sm_nn h2, decide_eq_true hw, decide_eq_true (show _ ≤ _ by omega), decide_eq_true (show _ ≤ _ by omega)]; rfl)]; rfl
theorem Er_new {st : List Value} (ho : sm_code M pc = some (66, a, b, cx, l)) (hj : gJ h = 0) (hn : gN h < sm_S) (kk : Ev M (pc + 3) ls (.ref (gN h) :: st) (hnew h (10 + a) b) Q) : Ev M pc ls st h Q :=
  Ev_next ho (by show (if gJ h = 0 ∧ gN h < sm_S then nx (pc + 3) ls (.ref (gN h) :: st) (hnew h (10 + a) b) else none) = _; rw [if_pos ⟨hj, hn⟩]; rfl) kk
theorem Er_newa {n : Int32} (ho : sm_code M pc = some (67, a, b, cx, l)) (hj : gJ h = 0) (hn : gN h < sm_S) (h0 : 0 ≤ n.toInt) (h1 : n.toInt ≤ 1000000) (kk : Ev M (pc + 2) ls (.ref (gN h) :: r) (hnew h a n.toNatClampNeg) Q) : Ev M pc ls (.int n :: r) h Q :=
  Ev_next ho (by show (if gJ h = 0 ∧ gN h < sm_S ∧ ¬ n < 0 ∧ n.toNatClampNeg ≤ 1000000 then nx (pc + 2) ls (.ref (gN h) :: r) (hnew h a n.toNatClampNeg) else none) = _; rw [if_pos ⟨hj, hn, of_decide_eq_false (sm_nn h0), by have := sm_nneg h0; omega⟩]; rfl) kk
theorem Er_newr {n : Int32} (ho : sm_code M pc = some (68, a, b, cx, l)) (hj : gJ h = 0) (hn : gN h < sm_S) (h0 : 0 ≤ n.toInt) (h1 : n.toInt ≤ 1000000) (kk : Ev M (pc + 3) ls (.ref (gN h) :: r) (hnew h a n.toNatClampNeg) Q) : Ev M pc ls (.int n :: r) h Q :=
  Ev_next ho (by show (if gJ h = 0 ∧ gN h < sm_S ∧ ¬ n < 0 ∧ n.toNatClampNeg ≤ 1000000 then nx (pc + 3) ls (.ref (gN h) :: r) (hnew h a n.toNatClampNeg) else none) = _; rw [if_pos ⟨hj, hn, of_decide_eq_false (sm_nn h0), by have := sm_nneg h0; omega⟩]; rfl) kk
/-- nothing has changed but cells lo to hi -/
def Fr (lo hi : Nat) (h h' : sm_H) : Prop := gN h' = gN h ∧ gS h' = gS h ∧ gJ h' = gJ h ∧ gD h' = gD h ∧ ∀ c, c < lo ∨ hi ≤ c → gI h' c = gI h c ∧ gL h' c = gL h c ∧ gR h' c = gR h c
theorem Fr.refl (lo hi : Nat) (h : sm_H) : Fr lo hi h h := ⟨rfl, rfl, rfl, rfl, fun _ _ => ⟨rfl, rfl, rfl⟩⟩
theorem Fr.trans {lo hi : Nat} {h h1 h2 : sm_H} (x : Fr lo hi h h1) (y : Fr lo hi h1 h2) : Fr lo hi h h2 :=
  ⟨y.1.trans x.1, y.2.1.trans x.2.1, y.2.2.1.trans x.2.2.1, y.2.2.2.1.trans x.2.2.2.1, fun c hc => ⟨(y.2.2.2.2 c hc).1.trans (x.2.2.2.2 c hc).1, (y.2.2.2.2 c hc).2.1.trans (x.2.2.2.2 c hc).2.1, (y.2.2.2.2 c hc).2.2.trans (x.2.2.2.2 c hc).2.2⟩⟩
theorem Fr.mono {lo hi lo' hi' : Nat} {h h1 : sm_H} (x : Fr lo hi h h1) (hl : lo' ≤ lo) (hh : hi ≤ hi') : Fr lo' hi' h h1 :=
  ⟨x.1, x.2.1, x.2.2.1, x.2.2.2.1, fun c hc => x.2.2.2.2 c (by omega)⟩
theorem Fr.setI {lo hi c i : Nat} {x : Int32} (hl : lo ≤ c) (hh : c < hi) : Fr lo hi h (setI h c i x) :=
  ⟨rfl, rfl, rfl, rfl, fun d hd => ⟨by funext j; show (if d = c ∧ j = i then x else gI h d j) = _; rw [if_neg (by omega)], rfl, rfl⟩⟩
theorem Fr.setL {lo hi c i : Nat} {x : Int64} (hl : lo ≤ c) (hh : c < hi) : Fr lo hi h (setL h c i x) :=
  ⟨rfl, rfl, rfl, rfl, fun d hd => ⟨rfl, by funext j; show (if d = c ∧ j = i then x else gL h d j) = _; rw [if_neg (by omega)], rfl⟩⟩
theorem Fr.setR {lo hi c i : Nat} {x : Option Nat} (hl : lo ≤ c) (hh : c < hi) : Fr lo hi h (setR h c i x) :=
  ⟨rfl, rfl, rfl, rfl, fun d hd => ⟨rfl, rfl, by funext j; show (if d = c ∧ j = i then x else gR h d j) = _; rw [if_neg (by omega)]⟩⟩
theorem Fr.rowL {lo hi c : Nat} {g : Nat → Int64} (hl : lo ≤ c) (hh : c < hi) : Fr lo hi h (rowL h c g) :=
  ⟨rfl, rfl, rfl, rfl, fun d hd => ⟨rfl, by show (if d = c then g else gL h d) = _; rw [if_neg (by omega)], rfl⟩⟩
theorem Fr.rowI {lo hi c : Nat} {g : Nat → Int32} (hl : lo ≤ c) (hh : c < hi) : Fr lo hi h (rowI h c g) :=
  ⟨rfl, rfl, rfl, rfl, fun d hd => ⟨by show (if d = c then g else gI h d) = _; rw [if_neg (by omega)], rfl, rfl⟩⟩
theorem Fr.at {lo hi c k' : Nat} {h h1 : sm_H} (x : Fr lo hi h h1) : sm_at h1 c k' = sm_at h c k' := by
  rw [sm_at, sm_at, x.1, x.2.1]
end ER
