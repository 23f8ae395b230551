/-! rows for runs of the pure machine: a row an instruction that reads or writes the heap; all others by computing -/
abbrev Ev (M pc : Nat) (ls : sm_L) (st : List Value) (h : sm_H) (Q : sm_R → sm_H → Prop) : Prop := sm_Ev sm_prog M pc ls st h Q
/-- method M, from its arguments, ends so -/
def Run (M : Nat) (av : List Value) (h : sm_H) (r : sm_R) (h' : sm_H) : Prop := (sm_ent av).length ≤ sm_prog.2.1 M ∧ sm_Ev sm_prog M 0 (sm_pad (sm_ent av) (sm_prog.2.1 M)) [] h (fun r1 h1 => r1 = r ∧ h1 = h')
section ER
variable {M pc : Nat} {ls : sm_L} {r : List Value} {h : sm_H} {Q : sm_R → sm_H → Prop} {a b q k : Nat} {cx : Int} {l : List Nat}
theorem Er_run (n : Nat) {pc' : Nat} {ls' : sm_L} {st st' : List Value} (hs : sm_stp sm_prog M n (pc, ls, st, h) = some (pc', ls', st', h)) (kk : Ev M pc' ls' st' h Q) : Ev M pc ls st h Q := Ev_stp n hs kk
theorem Er_if {c : Bool} {t e : Nat} {st : List Value} (kt : c = true → Ev M t ls st h Q) (kf : c = false → Ev M e ls st h Q) : Ev M (bif c then t else e) ls st h Q := by
  cases c
  · exact kf rfl
  · exact kt rfl
theorem Er_pc {t e : Nat} {st : List Value} (he : e = t) (kk : Ev M t ls st h Q) : Ev M e ls st h Q := by subst he; exact kk
theorem Er_fin {o : sm_O} {st : List Value} {res : sm_R} {h' : sm_H} (ho : sm_code M pc = some o) (hs : sm_step h pc o ls st = some (.inr (.inr (res, h')))) (hq : Q res h') : Ev M pc ls st h Q := Ev_end ho hs hq
theorem Er_call {o : sm_O} {N : Nat} {st av rest : List Value} {v : Option Value} {h1 : sm_H} (ho : sm_code M pc = some o) (hs : sm_step h pc o ls st = some (.inr (.inl (N, av, rest)))) (hr : Run N av h (.inl v) h1) (kk : Ev M (pc + 3) ls (v.toList ++ rest) h1 Q) : Ev M pc ls st h Q :=
  Ev_call ho hs hr.1 hr.2 (fun v' h' e => by obtain ⟨e1, rfl⟩ := e; cases e1; exact kk) (fun k' h' e => by cases e.1)
theorem Er_callX {o : sm_O} {N j : Nat} {st av rest : List Value} {h1 : sm_H} (ho : sm_code M pc = some o) (hs : sm_step h pc o ls st = some (.inr (.inl (N, av, rest)))) (hr : Run N av h (.inr j) h1) (hc : sm_ca M pc j = some none) (hq : Q (.inr j) h1) : Ev M pc ls st h Q :=
  Ev_call ho hs hr.1 hr.2 (fun v' h' e => by cases e.1) (fun k' h' e => by obtain ⟨e1, rfl⟩ := e; cases e1; exact Or.inr ⟨hc, hq⟩)

theorem Er_getI {v : Int32} (ho : sm_code M pc = some (50, a, b, cx, l)) (hq : sm_at h q (10 + a) = true) (hv : gI h q b = v) (kk : Ev M (pc + 3) ls (.int v :: r) h Q) : Ev M pc ls (.ref q :: r) h Q :=
  Ev_next ho (by show (if sm_at h q (10 + a) then nx (pc + 3) ls (.int (gI h q b) :: r) h else none) = _; rw [if_pos hq, hv]; rfl) kk
theorem Er_getL {v : Int64} (ho : sm_code M pc = some (51, a, b, cx, l)) (hq : sm_at h q (10 + a) = true) (hv : gL h q b = v) (kk : Ev M (pc + 3) ls (.long v :: r) h Q) : Ev M pc ls (.ref q :: r) h Q :=
  Ev_next ho (by show (if sm_at h q (10 + a) then nx (pc + 3) ls (.long (gL h q b) :: r) h else none) = _; rw [if_pos hq, hv]; rfl) kk
theorem Er_getR {x : Nat} (ho : sm_code M pc = some (52, a, b, cx, l)) (hq : sm_at h q (10 + a) = true) (hv : gR h q b = some x) (kk : Ev M (pc + 3) ls (.ref x :: r) h Q) : Ev M pc ls (.ref q :: r) h Q :=
  Ev_next ho (by show (if sm_at h q (10 + a) then nx (pc + 3) ls (sm_rf (gR h q b) :: r) h else none) = _; rw [if_pos hq, hv]; rfl) kk
theorem Er_getN (ho : sm_code M pc = some (52, a, b, cx, l)) (hq : sm_at h q (10 + a) = true) (hv : gR h q b = none) (kk : Ev M (pc + 3) ls (.null :: r) h Q) : Ev M pc ls (.ref q :: r) h Q :=
  Ev_next ho (by show (if sm_at h q (10 + a) then nx (pc + 3) ls (sm_rf (gR h q b) :: r) h else none) = _; rw [if_pos hq, hv]; rfl) kk
theorem Er_putI {x : Int32} (ho : sm_code M pc = some (53, a, b, cx, l)) (hq : sm_at h q (10 + a) = true) (kk : Ev M (pc + 3) ls r (setI h q b x) Q) : Ev M pc ls (.int x :: .ref q :: r) h Q :=
  Ev_next ho (by show (if sm_at h q (10 + a) then nx (pc + 3) ls r (setI h q b x) else none) = _; rw [if_pos hq]; rfl) kk
theorem Er_putL {x : Int64} (ho : sm_code M pc = some (54, a, b, cx, l)) (hq : sm_at h q (10 + a) = true) (kk : Ev M (pc + 3) ls r (setL h q b x) Q) : Ev M pc ls (.long x :: .ref q :: r) h Q :=
  Ev_next ho (by show (if sm_at h q (10 + a) then nx (pc + 3) ls r (setL h q b x) else none) = _; rw [if_pos hq]; rfl) kk
theorem Er_putR {x : Nat} (ho : sm_code M pc = some (55, a, b, cx, l)) (hq : sm_at h q (10 + a) = true) (kk : Ev M (pc + 3) ls r (setR h q b (some x)) Q) : Ev M pc ls (.ref x :: .ref q :: r) h Q :=
  Ev_next ho (by show (if sm_at h q (10 + a) then nx (pc + 3) ls r (setR h q b (some x)) else none) = _; rw [if_pos hq]; rfl) kk
theorem Er_putN (ho : sm_code M pc = some (55, a, b, cx, l)) (hq : sm_at h q (10 + a) = true) (kk : Ev M (pc + 3) ls r (setR h q b none) Q) : Ev M pc ls (.null :: .ref q :: r) h Q :=
  Ev_next ho (by show (if sm_at h q (10 + a) then nx (pc + 3) ls r (setR h q b none) else none) = _; rw [if_pos hq]; rfl) kk
theorem Er_putZ {x : Int32} (ho : sm_code M pc = some (56, a, b, cx, l)) (hq : sm_at h q (10 + a) = true) (h01 : x = 0 ∨ x = 1) (kk : Ev M (pc + 3) ls r (setI h q b x) Q) : Ev M pc ls (.int x :: .ref q :: r) h Q :=
  Ev_next ho (by show (if sm_at h q (10 + a) ∧ (x = 0 ∨ x = 1) then nx (pc + 3) ls r (setI h q b x) else none) = _; rw [if_pos ⟨hq, h01⟩]; rfl) kk
theorem Er_lald {i : Int32} {v : Int64} (ho : sm_code M pc = some (58, a, b, cx, l)) (hq : sm_at h q 1 = true) (hi : sm_in i (gS h q).2 = true) (hv : gL h q i.toNatClampNeg = v) (kk : Ev M (pc + 1) ls (.long v :: r) h Q) : Ev M pc ls (.int i :: .ref q :: r) h Q :=
  Ev_next ho (by show (if sm_at h q 1 && sm_in i (gS h q).2 then nx (pc + 1) ls (.long (gL h q i.toNatClampNeg) :: r) h else none) = _; rw [if_pos (by rw [hq, hi]; rfl), hv]; rfl) kk
theorem Er_zald {i : Int32} {v : Int32} (ho : sm_code M pc = some (60, a, b, cx, l)) (hq : sm_at h q 2 = true) (hi : sm_in i (gS h q).2 = true) (hv : gI h q i.toNatClampNeg = v) (kk : Ev M (pc + 1) ls (.int v :: r) h Q) : Ev M pc ls (.int i :: .ref q :: r) h Q :=
  Ev_next ho (by show (if sm_at h q 2 && sm_in i (gS h q).2 then nx (pc + 1) ls (.int (gI h q i.toNatClampNeg) :: r) h else none) = _; rw [if_pos (by rw [hq, hi]; rfl), hv]; rfl) kk
theorem Er_iald {i v : Int32} (ho : sm_code M pc = some (57, a, b, cx, l)) (hq : sm_at h q 0 = true) (hi : sm_in i (gS h q).2 = true) (hv : gI h q i.toNatClampNeg = v) (kk : Ev M (pc + 1) ls (.int v :: r) h Q) : Ev M pc ls (.int i :: .ref q :: r) h Q :=
  Ev_next ho (by show (if (sm_at h q 0 || decide (q = sm_S)) && sm_in i (gS h q).2 then nx (pc + 1) ls (.int (gI h q i.toNatClampNeg) :: r) h else none) = _; rw [if_pos (by rw [hq, hi]; rfl), hv]; rfl) kk
theorem Er_sald {i : Int32} (ho : sm_code M pc = some (57, a, b, cx, l)) (hi : sm_in i (gS h sm_S).2 = true) (kk : Ev M (pc + 1) ls (.int (gI h sm_S i.toNatClampNeg) :: r) h Q) : Ev M pc ls (.int i :: .ref sm_S :: r) h Q :=
  Ev_next ho (by show (if (sm_at h sm_S 0 || decide (sm_S = sm_S)) && sm_in i (gS h sm_S).2 then nx (pc + 1) ls (.int (gI h sm_S i.toNatClampNeg) :: r) h else none) = _; rw [if_pos (by rw [hi]; simp)]; rfl) kk
theorem Er_aald {i : Int32} {x : Nat} (ho : sm_code M pc = some (59, a, b, cx, l)) (hq : sm_at h q a = true) (hi : sm_in i (gS h q).2 = true) (hv : gR h q i.toNatClampNeg = some x) (kk : Ev M (pc + 1) ls (.ref x :: r) h Q) : Ev M pc ls (.int i :: .ref q :: r) h Q :=
  Ev_next ho (by show (if sm_at h q a && sm_in i (gS h q).2 then nx (pc + 1) ls (sm_rf (gR h q i.toNatClampNeg) :: r) h else none) = _; rw [if_pos (by rw [hq, hi]; rfl), hv]; rfl) kk
theorem Er_iast {i x : Int32} (ho : sm_code M pc = some (61, a, b, cx, l)) (hq : sm_at h q 0 = true) (hi : sm_in i (gS h q).2 = true) (kk : Ev M (pc + 1) ls r (setI h q i.toNatClampNeg x) Q) : Ev M pc ls (.int x :: .int i :: .ref q :: r) h Q :=
  Ev_next ho (by show (if sm_at h q 0 && sm_in i (gS h q).2 then nx (pc + 1) ls r (setI h q i.toNatClampNeg x) else none) = _; rw [if_pos (by rw [hq, hi]; rfl)]; rfl) kk
theorem Er_last {i : Int32} {x : Int64} (ho : sm_code M pc = some (62, a, b, cx, l)) (hq : sm_at h q 1 = true) (hi : sm_in i (gS h q).2 = true) (kk : Ev M (pc + 1) ls r (setL h q i.toNatClampNeg x) Q) : Ev M pc ls (.long x :: .int i :: .ref q :: r) h Q :=
  Ev_next ho (by show (if sm_at h q 1 && sm_in i (gS h q).2 then nx (pc + 1) ls r (setL h q i.toNatClampNeg x) else none) = _; rw [if_pos (by rw [hq, hi]; rfl)]; rfl) kk
theorem Er_zast {i x : Int32} (ho : sm_code M pc = some (64, a, b, cx, l)) (hq : sm_at h q 2 = true) (hi : sm_in i (gS h q).2 = true) (h01 : x = 0 ∨ x = 1) (kk : Ev M (pc + 1) ls r (setI h q i.toNatClampNeg x) Q) : Ev M pc ls (.int x :: .int i :: .ref q :: r) h Q :=
  Ev_next ho (by show (if (sm_at h q 2 && sm_in i (gS h q).2) ∧ (x = 0 ∨ x = 1) then nx (pc + 1) ls r (setI h q i.toNatClampNeg x) else none) = _; rw [if_pos ⟨by rw [hq, hi]; rfl, h01⟩]; rfl) kk
theorem Er_aast {i : Int32} {x : Nat} (ho : sm_code M pc = some (63, a, b, cx, l)) (hq : sm_at h q a = true) (hi : sm_in i (gS h q).2 = true) (hx : sm_at h x (10 + b) = true) (kk : Ev M (pc + 1) ls r (setR h q i.toNatClampNeg (some x)) Q) : Ev M pc ls (.ref x :: .int i :: .ref q :: r) h Q :=
  Ev_next ho (by show (if sm_at h q a && sm_in i (gS h q).2 && sm_at h x (10 + b) then nx (pc + 1) ls r (setR h q i.toNatClampNeg (some x)) else none) = _; rw [if_pos (by rw [hq, hi, hx]; rfl)]; rfl) kk
theorem Er_alen {n : Nat} (ho : sm_code M pc = some (65, a, b, cx, l)) (hq : sm_at h q k = true) (h8 : k < 8) (hn : (gS h q).2 = n) (kk : Ev M (pc + 1) ls (.int (Int32.ofNat n) :: r) h Q) : Ev M pc ls (.ref q :: r) h Q :=
  Ev_next ho (by show (if (decide (q < gN h) && decide ((gS h q).1 < 8)) || decide (q = sm_S) then nx (pc + 1) ls (.int (Int32.ofNat (gS h q).2) :: r) h else none) = _; rw [if_pos (by have := sm_at_spec hq; simp [this.1, this.2, h8]), hn]; rfl) kk
end ER
