/-! the law: its state, its helpers -/
/-- how the heap stands behind c calls -/
def HS (L : Nat) (xs : Nat → Int32) (c : Nat) (h : sm_H) : Prop := gN h = 625 ∧ gJ h ≤ c ∧ gD h ≤ 100000 + 6 * c ∧ sm_at h 624 1 = true ∧ (gS h 624).2 = 1 ∧ (gS h sm_S).2 = L ∧ gI h sm_S = xs
/-- what the class holds -/
def CSt (b : Bool) (cl : List Nat) (G : Nat → Nat → Int32) (PR : Nat → Nat → List (Int32 × Int64)) (F : Nat → Jl) (D : List (Int32 × Int64)) (n B : Nat) (h : sm_H) : Prop := (b = false ∧ XI h G PR F D n) ∨ (b = true ∧ CK (cl, G, PR, F) ∧ VJ G PR D ∧ (∀ j, j ∈ cl → j < 8 ∧ G j 1 = 1) ∧ ∃ kc ck, ck ≤ B ∧ RS (cl, G, PR, F) D n kc ck h)
/-- what the reference holds -/
def RSt (b : Bool) (cl : List Nat) (G : Nat → Nat → Int32) (PR : Nat → Nat → List (Int32 × Int64)) (F : Nat → Jl) (D : List (Int32 × Int64)) (n : Nat) (h : sm_H) : Prop := RM h 598 G PR F D b n ∧ (b = true → CO h 598 cl)
def INV (L : Nat) (xs : Nat → Int32) (c : Nat) (h : sm_H) : Prop := HS L xs c h ∧ ∃ b cl G PR F D n, CSt b cl G PR F D n (200 * c) h ∧ RSt b cl G PR F D n h
/-- class and reference answer a call alike: an int -/
def OKI (L : Nat) (xs : Nat → Int32) (c : Nat) (h : sm_H) (N : Nat) (av : List Value) (M : Nat) (mv : List Value) : Prop := ∃ (k b : Int32) (h1 h2 : sm_H), Run N av h (.inl (some (.int k))) h1 ∧ Run M mv h1 (.inl (some (.int b))) h2 ∧ HS L xs (c + 1) h1 ∧ mrO h1 598 ∧ mrO h2 598 ∧ gI h2 598 18 = k ∧ (k = 0 → gL h2 624 0 = b.toInt64 ∧ (b = 0 ∨ b = 1 ∨ N ≠ 188)) ∧ INV L xs (c + 1) h2
/-- a long -/
def OKL (L : Nat) (xs : Nat → Int32) (c : Nat) (h : sm_H) (N : Nat) (av : List Value) (M : Nat) (mv : List Value) : Prop := ∃ (k : Int32) (b : Int64) (h1 h2 : sm_H), Run N av h (.inl (some (.int k))) h1 ∧ Run M mv h1 (.inl (some (.long b))) h2 ∧ HS L xs (c + 1) h1 ∧ mrO h1 598 ∧ mrO h2 598 ∧ gI h2 598 18 = k ∧ (k = 0 → gL h2 624 0 = b) ∧ INV L xs (c + 1) h2
/-- nothing -/
def OKV (L : Nat) (xs : Nat → Int32) (c : Nat) (h : sm_H) (N : Nat) (av : List Value) (M : Nat) (mv : List Value) : Prop := ∃ (k : Int32) (h1 h2 : sm_H), Run N av h (.inl (some (.int k))) h1 ∧ Run M mv h1 (.inl none) h2 ∧ HS L xs (c + 1) h1 ∧ mrO h1 598 ∧ mrO h2 598 ∧ gI h2 598 18 = k ∧ INV L xs (c + 1) h2
section HELP
variable {M pc : Nat} {ls : sm_L} {r : List Value} {h h1 : sm_H} {Q : sm_R → sm_H → Prop} {a b q k L i : Nat} {cx : Int} {l : List Nat} {p0 p1 p2 p3 p4 v : Int32} {q1 q2 w : Int64}
theorem Er_callC {o : sm_O} {N j : Nat} {n : Int} {st av rest : List Value} {h1 : sm_H} (ho : sm_code M pc = some o) (hs : sm_step h pc o ls st = some (.inr (.inl (N, av, rest)))) (hr : Run N av h (.inr j) h1) (hc : sm_ca M pc j = some (some n)) (hq : Q (.inl (some (.int (Int32.ofInt n)))) h1) : Ev M pc ls st h Q :=
  Ev_call ho hs hr.1 hr.2 (fun v' h' e => by cases e.1) (fun k' h' e => by obtain ⟨e1, rfl⟩ := e; cases e1; exact Or.inl ⟨n, hc, hq⟩)
theorem Er_invC {N q' ci j : Nat} {n : Int} {av : List Value} {st : List Value} {h1 : sm_H} (ho : sm_code M pc = some (69, N, b, cx, l)) (hl : l.getD 1 0 = ci + 1) (hb : b ≤ st.length ∧ sm_wt (st.drop b) ≤ 8) (hav : (st.take b).reverse = .ref q' :: av) (hq : sm_at h q' (10 + ci) = true) (hr : Run N (.ref q' :: av) h (.inr j) h1) (hc : sm_ca M pc j = some (some n)) (hQ : Q (.inl (some (.int (Int32.ofInt n)))) h1) : Ev M pc ls st h Q := by
  refine Er_callC (av := .ref q' :: av) (rest := st.drop b) ho ?_ hr hc hQ
  show (if b ≤ st.length ∧ sm_wt (st.drop b) ≤ 8 ∧ sm_rcv h (l.getD 1 0) (st.take b).reverse = true then some (Sum.inr (Sum.inl (N, (st.take b).reverse, st.drop b))) else (none : Option sm_N)) = _
  rw [hav, hl, if_pos ⟨hb.1, hb.2, hq⟩]
theorem Er_sal {i v : Int32} (ho : sm_code M pc = some (57, a, b, cx, l)) (hi : sm_in i (gS h sm_S).2 = true) (hv : gI h sm_S i.toNatClampNeg = v) (kk : Ev M (pc + 1) ls (.int v :: r) h Q) : Ev M pc ls (.int i :: .ref sm_S :: r) h Q := Er_sald ho hi (by rw [hv]; exact kk)
theorem Er_slen (ho : sm_code M pc = some (65, a, b, cx, l)) (hn : (gS h sm_S).2 = L) (kk : Ev M (pc + 1) ls (.int (Int32.ofNat L) :: r) h Q) : Ev M pc ls (.ref sm_S :: r) h Q :=
  Ev_next ho (by show (if (decide (sm_S < gN h) && decide ((gS h sm_S).1 < 8)) || decide (sm_S = sm_S) then nx (pc + 1) ls (.int (Int32.ofNat (gS h sm_S).2) :: r) h else none) = _; rw [if_pos (by rw [decide_eq_true rfl, Bool.or_true]), hn]; rfl) kk
theorem ho_record (hx : sm_at h 0 21 = true) (ho1 : sm_at h1 624 1 = true) (ho2 : (gS h1 624).2 = 1) (hr : Run 135 [.ref 0, .int p0, .long q1, .long q2] h (.inl (some (.int v))) h1) : Run 183 [.ref 0, .int p0, .long q1, .long q2, .ref 624] h (.inl (some (.int 0))) (setL h1 624 0 (Int32.toInt64 v)) := by
  refine ⟨Nat.le_of_ble_eq_true rfl, ?_⟩
  show Ev 183 0 [some (.ref 0), some (.int p0), some (.long q1), none, some (.long q2), none, some (.ref 624), none] [] h _
  refine Er_run 6 (pc' := 8) (ls' := [some (.ref 0), some (.int p0), some (.long q1), none, some (.long q2), none, some (.ref 624), none]) (st' := [.long q2, .long q1, .int p0, .ref 0, .int ((0 : Int32)), .ref 624]) rfl ?_
  refine Er_inv1 (q' := 0) (ci := 11) (av := [.int p0, .long q1, .long q2]) (rest := [.int ((0 : Int32)), .ref 624]) rfl rfl ⟨Nat.le_of_ble_eq_true rfl, Nat.le_of_ble_eq_true rfl⟩ rfl rfl hx hr ?_
  refine Er_run 1 (pc' := 12) (ls' := [some (.ref 0), some (.int p0), some (.long q1), none, some (.long q2), none, some (.ref 624), none]) (st' := [.long (Int32.toInt64 v), .int ((0 : Int32)), .ref 624]) rfl ?_
  refine Er_last rfl ho1 (mr_in (i := 0) (k := 1) rfl (by omega) (by omega) ho2) ?_
  refine Er_run 2 (pc' := 25) (ls' := [some (.ref 0), some (.int p0), some (.long q1), none, some (.long q2), none, some (.ref 624), none]) (st' := [.int ((0 : Int32))]) rfl ?_
  exact Er_fin rfl rfl ⟨rfl, rfl⟩
theorem hx_record {e : Nat} {n : Int} (hx : sm_at h 0 21 = true) (hr : Run 135 [.ref 0, .int p0, .long q1, .long q2] h (.inr e) h1) (hc : sm_ca 183 8 e = some (some n)) : Run 183 [.ref 0, .int p0, .long q1, .long q2, .ref 624] h (.inl (some (.int (Int32.ofInt n)))) h1 := by
  refine ⟨Nat.le_of_ble_eq_true rfl, ?_⟩
  show Ev 183 0 [some (.ref 0), some (.int p0), some (.long q1), none, some (.long q2), none, some (.ref 624), none] [] h _
  refine Er_run 6 (pc' := 8) (ls' := [some (.ref 0), some (.int p0), some (.long q1), none, some (.long q2), none, some (.ref 624), none]) (st' := [.long q2, .long q1, .int p0, .ref 0, .int ((0 : Int32)), .ref 624]) rfl ?_
  exact Er_invC (q' := 0) (ci := 11) (av := [.int p0, .long q1, .long q2]) rfl rfl ⟨Nat.le_of_ble_eq_true rfl, Nat.le_of_ble_eq_true rfl⟩ rfl hx hr hc ⟨rfl, rfl⟩
theorem ho_clear (hx : sm_at h 0 21 = true) (ho1 : sm_at h1 624 1 = true) (ho2 : (gS h1 624).2 = 1) (hr : Run 136 [.ref 0, .int p0] h (.inl (some (.int v))) h1) : Run 184 [.ref 0, .int p0, .ref 624] h (.inl (some (.int 0))) (setL h1 624 0 (Int32.toInt64 v)) := by
  refine ⟨Nat.le_of_ble_eq_true rfl, ?_⟩
  show Ev 184 0 [some (.ref 0), some (.int p0), some (.ref 624), none] [] h _
  refine Er_run 4 (pc' := 4) (ls' := [some (.ref 0), some (.int p0), some (.ref 624), none]) (st' := [.int p0, .ref 0, .int ((0 : Int32)), .ref 624]) rfl ?_
  refine Er_inv1 (q' := 0) (ci := 11) (av := [.int p0]) (rest := [.int ((0 : Int32)), .ref 624]) rfl rfl ⟨Nat.le_of_ble_eq_true rfl, Nat.le_of_ble_eq_true rfl⟩ rfl rfl hx hr ?_
  refine Er_run 1 (pc' := 8) (ls' := [some (.ref 0), some (.int p0), some (.ref 624), none]) (st' := [.long (Int32.toInt64 v), .int ((0 : Int32)), .ref 624]) rfl ?_
  refine Er_last rfl ho1 (mr_in (i := 0) (k := 1) rfl (by omega) (by omega) ho2) ?_
  refine Er_run 2 (pc' := 19) (ls' := [some (.ref 0), some (.int p0), some (.ref 624), none]) (st' := [.int ((0 : Int32))]) rfl ?_
  exact Er_fin rfl rfl ⟨rfl, rfl⟩
theorem hx_clear {e : Nat} {n : Int} (hx : sm_at h 0 21 = true) (hr : Run 136 [.ref 0, .int p0] h (.inr e) h1) (hc : sm_ca 184 4 e = some (some n)) : Run 184 [.ref 0, .int p0, .ref 624] h (.inl (some (.int (Int32.ofInt n)))) h1 := by
  refine ⟨Nat.le_of_ble_eq_true rfl, ?_⟩
  show Ev 184 0 [some (.ref 0), some (.int p0), some (.ref 624), none] [] h _
  refine Er_run 4 (pc' := 4) (ls' := [some (.ref 0), some (.int p0), some (.ref 624), none]) (st' := [.int p0, .ref 0, .int ((0 : Int32)), .ref 624]) rfl ?_
  exact Er_invC (q' := 0) (ci := 11) (av := [.int p0]) rfl rfl ⟨Nat.le_of_ble_eq_true rfl, Nat.le_of_ble_eq_true rfl⟩ rfl hx hr hc ⟨rfl, rfl⟩
theorem ho_code (hx : sm_at h 0 21 = true) (ho1 : sm_at h1 624 1 = true) (ho2 : (gS h1 624).2 = 1) (hr : Run 137 [.ref 0, .int p0, .long q1] h (.inl (some (.int v))) h1) : Run 185 [.ref 0, .int p0, .long q1, .ref 624] h (.inl (some (.int 0))) (setL h1 624 0 (Int32.toInt64 v)) := by
  refine ⟨Nat.le_of_ble_eq_true rfl, ?_⟩
  show Ev 185 0 [some (.ref 0), some (.int p0), some (.long q1), none, some (.ref 624), none] [] h _
  refine Er_run 5 (pc' := 6) (ls' := [some (.ref 0), some (.int p0), some (.long q1), none, some (.ref 624), none]) (st' := [.long q1, .int p0, .ref 0, .int ((0 : Int32)), .ref 624]) rfl ?_
  refine Er_inv1 (q' := 0) (ci := 11) (av := [.int p0, .long q1]) (rest := [.int ((0 : Int32)), .ref 624]) rfl rfl ⟨Nat.le_of_ble_eq_true rfl, Nat.le_of_ble_eq_true rfl⟩ rfl rfl hx hr ?_
  refine Er_run 1 (pc' := 10) (ls' := [some (.ref 0), some (.int p0), some (.long q1), none, some (.ref 624), none]) (st' := [.long (Int32.toInt64 v), .int ((0 : Int32)), .ref 624]) rfl ?_
  refine Er_last rfl ho1 (mr_in (i := 0) (k := 1) rfl (by omega) (by omega) ho2) ?_
  refine Er_run 2 (pc' := 23) (ls' := [some (.ref 0), some (.int p0), some (.long q1), none, some (.ref 624), none]) (st' := [.int ((0 : Int32))]) rfl ?_
  exact Er_fin rfl rfl ⟨rfl, rfl⟩
theorem hx_code {e : Nat} {n : Int} (hx : sm_at h 0 21 = true) (hr : Run 137 [.ref 0, .int p0, .long q1] h (.inr e) h1) (hc : sm_ca 185 6 e = some (some n)) : Run 185 [.ref 0, .int p0, .long q1, .ref 624] h (.inl (some (.int (Int32.ofInt n)))) h1 := by
  refine ⟨Nat.le_of_ble_eq_true rfl, ?_⟩
  show Ev 185 0 [some (.ref 0), some (.int p0), some (.long q1), none, some (.ref 624), none] [] h _
  refine Er_run 5 (pc' := 6) (ls' := [some (.ref 0), some (.int p0), some (.long q1), none, some (.ref 624), none]) (st' := [.long q1, .int p0, .ref 0, .int ((0 : Int32)), .ref 624]) rfl ?_
  exact Er_invC (q' := 0) (ci := 11) (av := [.int p0, .long q1]) rfl rfl ⟨Nat.le_of_ble_eq_true rfl, Nat.le_of_ble_eq_true rfl⟩ rfl hx hr hc ⟨rfl, rfl⟩
theorem ho_program (hx : sm_at h 0 21 = true) (ho1 : sm_at h1 624 1 = true) (ho2 : (gS h1 624).2 = 1) (hr : Run 138 [.ref 0, .int p0, .int p1] h (.inl (some (.int v))) h1) : Run 186 [.ref 0, .int p0, .int p1, .ref 624] h (.inl (some (.int 0))) (setL h1 624 0 (Int32.toInt64 v)) := by
  refine ⟨Nat.le_of_ble_eq_true rfl, ?_⟩
  show Ev 186 0 [some (.ref 0), some (.int p0), some (.int p1), some (.ref 624), none] [] h _
  refine Er_run 5 (pc' := 5) (ls' := [some (.ref 0), some (.int p0), some (.int p1), some (.ref 624), none]) (st' := [.int p1, .int p0, .ref 0, .int ((0 : Int32)), .ref 624]) rfl ?_
  refine Er_inv1 (q' := 0) (ci := 11) (av := [.int p0, .int p1]) (rest := [.int ((0 : Int32)), .ref 624]) rfl rfl ⟨Nat.le_of_ble_eq_true rfl, Nat.le_of_ble_eq_true rfl⟩ rfl rfl hx hr ?_
  refine Er_run 1 (pc' := 9) (ls' := [some (.ref 0), some (.int p0), some (.int p1), some (.ref 624), none]) (st' := [.long (Int32.toInt64 v), .int ((0 : Int32)), .ref 624]) rfl ?_
  refine Er_last rfl ho1 (mr_in (i := 0) (k := 1) rfl (by omega) (by omega) ho2) ?_
  refine Er_run 2 (pc' := 26) (ls' := [some (.ref 0), some (.int p0), some (.int p1), some (.ref 624), none]) (st' := [.int ((0 : Int32))]) rfl ?_
  exact Er_fin rfl rfl ⟨rfl, rfl⟩
theorem hx_program {e : Nat} {n : Int} (hx : sm_at h 0 21 = true) (hr : Run 138 [.ref 0, .int p0, .int p1] h (.inr e) h1) (hc : sm_ca 186 5 e = some (some n)) : Run 186 [.ref 0, .int p0, .int p1, .ref 624] h (.inl (some (.int (Int32.ofInt n)))) h1 := by
  refine ⟨Nat.le_of_ble_eq_true rfl, ?_⟩
  show Ev 186 0 [some (.ref 0), some (.int p0), some (.int p1), some (.ref 624), none] [] h _
  refine Er_run 5 (pc' := 5) (ls' := [some (.ref 0), some (.int p0), some (.int p1), some (.ref 624), none]) (st' := [.int p1, .int p0, .ref 0, .int ((0 : Int32)), .ref 624]) rfl ?_
  exact Er_invC (q' := 0) (ci := 11) (av := [.int p0, .int p1]) rfl rfl ⟨Nat.le_of_ble_eq_true rfl, Nat.le_of_ble_eq_true rfl⟩ rfl hx hr hc ⟨rfl, rfl⟩
theorem ho_job (hx : sm_at h 0 21 = true) (hr : Run 139 [.ref 0, .int p0, .int p1, .int p2, .int p3, .int p4] h (.inl none) h1) : Run 187 [.ref 0, .int p0, .int p1, .int p2, .int p3, .int p4] h (.inl (some (.int 0))) h1 := by
  refine ⟨Nat.le_of_ble_eq_true rfl, ?_⟩
  show Ev 187 0 [some (.ref 0), some (.int p0), some (.int p1), some (.int p2), some (.int p3), some (.int p4), none] [] h _
  refine Er_run 6 (pc' := 8) (ls' := [some (.ref 0), some (.int p0), some (.int p1), some (.int p2), some (.int p3), some (.int p4), none]) (st' := [.int p4, .int p3, .int p2, .int p1, .int p0, .ref 0]) rfl ?_
  refine Er_inv0 (q' := 0) (ci := 11) (av := [.int p0, .int p1, .int p2, .int p3, .int p4]) (rest := []) rfl rfl ⟨Nat.le_of_ble_eq_true rfl, Nat.le_of_ble_eq_true rfl⟩ rfl rfl hx hr ?_
  refine Er_run 2 (pc' := 27) (ls' := [some (.ref 0), some (.int p0), some (.int p1), some (.int p2), some (.int p3), some (.int p4), none]) (st' := [.int ((0 : Int32))]) rfl ?_
  exact Er_fin rfl rfl ⟨rfl, rfl⟩
theorem hx_job {e : Nat} {n : Int} (hx : sm_at h 0 21 = true) (hr : Run 139 [.ref 0, .int p0, .int p1, .int p2, .int p3, .int p4] h (.inr e) h1) (hc : sm_ca 187 8 e = some (some n)) : Run 187 [.ref 0, .int p0, .int p1, .int p2, .int p3, .int p4] h (.inl (some (.int (Int32.ofInt n)))) h1 := by
  refine ⟨Nat.le_of_ble_eq_true rfl, ?_⟩
  show Ev 187 0 [some (.ref 0), some (.int p0), some (.int p1), some (.int p2), some (.int p3), some (.int p4), none] [] h _
  refine Er_run 6 (pc' := 8) (ls' := [some (.ref 0), some (.int p0), some (.int p1), some (.int p2), some (.int p3), some (.int p4), none]) (st' := [.int p4, .int p3, .int p2, .int p1, .int p0, .ref 0]) rfl ?_
  exact Er_invC (q' := 0) (ci := 11) (av := [.int p0, .int p1, .int p2, .int p3, .int p4]) rfl rfl ⟨Nat.le_of_ble_eq_true rfl, Nat.le_of_ble_eq_true rfl⟩ rfl hx hr hc ⟨rfl, rfl⟩
theorem ho_drop0 (hx : sm_at h 0 21 = true) (ho1 : sm_at h1 624 1 = true) (ho2 : (gS h1 624).2 = 1) (hr : Run 140 [.ref 0, .int p0] h (.inl (some (.int ((0 : Int32))))) h1) : Run 188 [.ref 0, .int p0, .ref 624] h (.inl (some (.int 0))) (setL h1 624 0 0) := by
  refine ⟨Nat.le_of_ble_eq_true rfl, ?_⟩
  show Ev 188 0 [some (.ref 0), some (.int p0), some (.ref 624), none] [] h _
  refine Er_run 4 (pc' := 4) (ls' := [some (.ref 0), some (.int p0), some (.ref 624), none]) (st' := [.int p0, .ref 0, .int ((0 : Int32)), .ref 624]) rfl ?_
  refine Er_inv1 (q' := 0) (ci := 11) (av := [.int p0]) (rest := [.int ((0 : Int32)), .ref 624]) rfl rfl ⟨Nat.le_of_ble_eq_true rfl, Nat.le_of_ble_eq_true rfl⟩ rfl rfl hx hr ?_
  refine Er_run 1 (pc' := bif decide (((0 : Int32)) = 0) then 14 else 10) (ls' := [some (.ref 0), some (.int p0), some (.ref 624), none]) (st' := [.int ((0 : Int32)), .ref 624]) rfl ?_
  refine Er_pc (t := 14) (show (bif decide (((0 : Int32)) = 0) then 14 else 10) = 14 from by rw [show (decide (((0 : Int32)) = 0)) = true from by decide]; rfl) ?_
  refine Er_run 1 (pc' := 15) (ls' := [some (.ref 0), some (.int p0), some (.ref 624), none]) (st' := [.long ((0 : Int64)), .int ((0 : Int32)), .ref 624]) rfl ?_
  refine Er_last rfl ho1 (mr_in (i := 0) (k := 1) rfl (by omega) (by omega) ho2) ?_
  refine Er_run 2 (pc' := 26) (ls' := [some (.ref 0), some (.int p0), some (.ref 624), none]) (st' := [.int ((0 : Int32))]) rfl ?_
  exact Er_fin rfl rfl ⟨rfl, rfl⟩
theorem ho_drop1 (hx : sm_at h 0 21 = true) (ho1 : sm_at h1 624 1 = true) (ho2 : (gS h1 624).2 = 1) (hr : Run 140 [.ref 0, .int p0] h (.inl (some (.int ((1 : Int32))))) h1) : Run 188 [.ref 0, .int p0, .ref 624] h (.inl (some (.int 0))) (setL h1 624 0 1) := by
  refine ⟨Nat.le_of_ble_eq_true rfl, ?_⟩
  show Ev 188 0 [some (.ref 0), some (.int p0), some (.ref 624), none] [] h _
  refine Er_run 4 (pc' := 4) (ls' := [some (.ref 0), some (.int p0), some (.ref 624), none]) (st' := [.int p0, .ref 0, .int ((0 : Int32)), .ref 624]) rfl ?_
  refine Er_inv1 (q' := 0) (ci := 11) (av := [.int p0]) (rest := [.int ((0 : Int32)), .ref 624]) rfl rfl ⟨Nat.le_of_ble_eq_true rfl, Nat.le_of_ble_eq_true rfl⟩ rfl rfl hx hr ?_
  refine Er_run 1 (pc' := bif decide (((1 : Int32)) = 0) then 14 else 10) (ls' := [some (.ref 0), some (.int p0), some (.ref 624), none]) (st' := [.int ((0 : Int32)), .ref 624]) rfl ?_
  refine Er_pc (t := 10) (show (bif decide (((1 : Int32)) = 0) then 14 else 10) = 10 from by rw [show (decide (((1 : Int32)) = 0)) = false from by decide]; rfl) ?_
  refine Er_run 2 (pc' := 15) (ls' := [some (.ref 0), some (.int p0), some (.ref 624), none]) (st' := [.long ((1 : Int64)), .int ((0 : Int32)), .ref 624]) rfl ?_
  refine Er_last rfl ho1 (mr_in (i := 0) (k := 1) rfl (by omega) (by omega) ho2) ?_
  refine Er_run 2 (pc' := 26) (ls' := [some (.ref 0), some (.int p0), some (.ref 624), none]) (st' := [.int ((0 : Int32))]) rfl ?_
  exact Er_fin rfl rfl ⟨rfl, rfl⟩
theorem hx_drop {e : Nat} {n : Int} (hx : sm_at h 0 21 = true) (hr : Run 140 [.ref 0, .int p0] h (.inr e) h1) (hc : sm_ca 188 4 e = some (some n)) : Run 188 [.ref 0, .int p0, .ref 624] h (.inl (some (.int (Int32.ofInt n)))) h1 := by
  refine ⟨Nat.le_of_ble_eq_true rfl, ?_⟩
  show Ev 188 0 [some (.ref 0), some (.int p0), some (.ref 624), none] [] h _
  refine Er_run 4 (pc' := 4) (ls' := [some (.ref 0), some (.int p0), some (.ref 624), none]) (st' := [.int p0, .ref 0, .int ((0 : Int32)), .ref 624]) rfl ?_
  exact Er_invC (q' := 0) (ci := 11) (av := [.int p0]) rfl rfl ⟨Nat.le_of_ble_eq_true rfl, Nat.le_of_ble_eq_true rfl⟩ rfl hx hr hc ⟨rfl, rfl⟩
theorem ho_begin (hx : sm_at h 0 21 = true) (ho1 : sm_at h1 624 1 = true) (ho2 : (gS h1 624).2 = 1) (hr : Run 141 [.ref 0] h (.inl (some (.int v))) h1) : Run 189 [.ref 0, .ref 624] h (.inl (some (.int 0))) (setL h1 624 0 (Int32.toInt64 v)) := by
  refine ⟨Nat.le_of_ble_eq_true rfl, ?_⟩
  show Ev 189 0 [some (.ref 0), some (.ref 624), none] [] h _
  refine Er_run 3 (pc' := 3) (ls' := [some (.ref 0), some (.ref 624), none]) (st' := [.ref 0, .int ((0 : Int32)), .ref 624]) rfl ?_
  refine Er_inv1 (q' := 0) (ci := 11) (av := []) (rest := [.int ((0 : Int32)), .ref 624]) rfl rfl ⟨Nat.le_of_ble_eq_true rfl, Nat.le_of_ble_eq_true rfl⟩ rfl rfl hx hr ?_
  refine Er_run 1 (pc' := 7) (ls' := [some (.ref 0), some (.ref 624), none]) (st' := [.long (Int32.toInt64 v), .int ((0 : Int32)), .ref 624]) rfl ?_
  refine Er_last rfl ho1 (mr_in (i := 0) (k := 1) rfl (by omega) (by omega) ho2) ?_
  refine Er_run 2 (pc' := 18) (ls' := [some (.ref 0), some (.ref 624), none]) (st' := [.int ((0 : Int32))]) rfl ?_
  exact Er_fin rfl rfl ⟨rfl, rfl⟩
theorem hx_begin {e : Nat} {n : Int} (hx : sm_at h 0 21 = true) (hr : Run 141 [.ref 0] h (.inr e) h1) (hc : sm_ca 189 3 e = some (some n)) : Run 189 [.ref 0, .ref 624] h (.inl (some (.int (Int32.ofInt n)))) h1 := by
  refine ⟨Nat.le_of_ble_eq_true rfl, ?_⟩
  show Ev 189 0 [some (.ref 0), some (.ref 624), none] [] h _
  refine Er_run 3 (pc' := 3) (ls' := [some (.ref 0), some (.ref 624), none]) (st' := [.ref 0, .int ((0 : Int32)), .ref 624]) rfl ?_
  exact Er_invC (q' := 0) (ci := 11) (av := []) rfl rfl ⟨Nat.le_of_ble_eq_true rfl, Nat.le_of_ble_eq_true rfl⟩ rfl hx hr hc ⟨rfl, rfl⟩
theorem ho_tick (hx : sm_at h 0 21 = true) (hr : Run 142 [.ref 0, .int p0, .int p1] h (.inl none) h1) : Run 190 [.ref 0, .int p0, .int p1] h (.inl (some (.int 0))) h1 := by
  refine ⟨Nat.le_of_ble_eq_true rfl, ?_⟩
  show Ev 190 0 [some (.ref 0), some (.int p0), some (.int p1), none] [] h _
  refine Er_run 3 (pc' := 3) (ls' := [some (.ref 0), some (.int p0), some (.int p1), none]) (st' := [.int p1, .int p0, .ref 0]) rfl ?_
  refine Er_inv0 (q' := 0) (ci := 11) (av := [.int p0, .int p1]) (rest := []) rfl rfl ⟨Nat.le_of_ble_eq_true rfl, Nat.le_of_ble_eq_true rfl⟩ rfl rfl hx hr ?_
  refine Er_run 2 (pc' := 19) (ls' := [some (.ref 0), some (.int p0), some (.int p1), none]) (st' := [.int ((0 : Int32))]) rfl ?_
  exact Er_fin rfl rfl ⟨rfl, rfl⟩
theorem hx_tick {e : Nat} {n : Int} (hx : sm_at h 0 21 = true) (hr : Run 142 [.ref 0, .int p0, .int p1] h (.inr e) h1) (hc : sm_ca 190 3 e = some (some n)) : Run 190 [.ref 0, .int p0, .int p1] h (.inl (some (.int (Int32.ofInt n)))) h1 := by
  refine ⟨Nat.le_of_ble_eq_true rfl, ?_⟩
  show Ev 190 0 [some (.ref 0), some (.int p0), some (.int p1), none] [] h _
  refine Er_run 3 (pc' := 3) (ls' := [some (.ref 0), some (.int p0), some (.int p1), none]) (st' := [.int p1, .int p0, .ref 0]) rfl ?_
  exact Er_invC (q' := 0) (ci := 11) (av := [.int p0, .int p1]) rfl rfl ⟨Nat.le_of_ble_eq_true rfl, Nat.le_of_ble_eq_true rfl⟩ rfl hx hr hc ⟨rfl, rfl⟩
theorem ho_crash (hx : sm_at h 0 21 = true) (hr : Run 143 [.ref 0, .int p0] h (.inl none) h1) : Run 191 [.ref 0, .int p0] h (.inl (some (.int 0))) h1 := by
  refine ⟨Nat.le_of_ble_eq_true rfl, ?_⟩
  show Ev 191 0 [some (.ref 0), some (.int p0), none] [] h _
  refine Er_run 2 (pc' := 2) (ls' := [some (.ref 0), some (.int p0), none]) (st' := [.int p0, .ref 0]) rfl ?_
  refine Er_inv0 (q' := 0) (ci := 11) (av := [.int p0]) (rest := []) rfl rfl ⟨Nat.le_of_ble_eq_true rfl, Nat.le_of_ble_eq_true rfl⟩ rfl rfl hx hr ?_
  refine Er_run 2 (pc' := 15) (ls' := [some (.ref 0), some (.int p0), none]) (st' := [.int ((0 : Int32))]) rfl ?_
  exact Er_fin rfl rfl ⟨rfl, rfl⟩
theorem hx_crash {e : Nat} {n : Int} (hx : sm_at h 0 21 = true) (hr : Run 143 [.ref 0, .int p0] h (.inr e) h1) (hc : sm_ca 191 2 e = some (some n)) : Run 191 [.ref 0, .int p0] h (.inl (some (.int (Int32.ofInt n)))) h1 := by
  refine ⟨Nat.le_of_ble_eq_true rfl, ?_⟩
  show Ev 191 0 [some (.ref 0), some (.int p0), none] [] h _
  refine Er_run 2 (pc' := 2) (ls' := [some (.ref 0), some (.int p0), none]) (st' := [.int p0, .ref 0]) rfl ?_
  exact Er_invC (q' := 0) (ci := 11) (av := [.int p0]) rfl rfl ⟨Nat.le_of_ble_eq_true rfl, Nat.le_of_ble_eq_true rfl⟩ rfl hx hr hc ⟨rfl, rfl⟩
theorem ho_line (hx : sm_at h 0 21 = true) (hr : Run 144 [.ref 0, .int p0, .int p1] h (.inl none) h1) : Run 192 [.ref 0, .int p0, .int p1] h (.inl (some (.int 0))) h1 := by
  refine ⟨Nat.le_of_ble_eq_true rfl, ?_⟩
  show Ev 192 0 [some (.ref 0), some (.int p0), some (.int p1), none] [] h _
  refine Er_run 3 (pc' := 3) (ls' := [some (.ref 0), some (.int p0), some (.int p1), none]) (st' := [.int p1, .int p0, .ref 0]) rfl ?_
  refine Er_inv0 (q' := 0) (ci := 11) (av := [.int p0, .int p1]) (rest := []) rfl rfl ⟨Nat.le_of_ble_eq_true rfl, Nat.le_of_ble_eq_true rfl⟩ rfl rfl hx hr ?_
  refine Er_run 2 (pc' := 13) (ls' := [some (.ref 0), some (.int p0), some (.int p1), none]) (st' := [.int ((0 : Int32))]) rfl ?_
  exact Er_fin rfl rfl ⟨rfl, rfl⟩
theorem hx_line {e : Nat} {n : Int} (hx : sm_at h 0 21 = true) (hr : Run 144 [.ref 0, .int p0, .int p1] h (.inr e) h1) (hc : sm_ca 192 3 e = some (some n)) : Run 192 [.ref 0, .int p0, .int p1] h (.inl (some (.int (Int32.ofInt n)))) h1 := by
  refine ⟨Nat.le_of_ble_eq_true rfl, ?_⟩
  show Ev 192 0 [some (.ref 0), some (.int p0), some (.int p1), none] [] h _
  refine Er_run 3 (pc' := 3) (ls' := [some (.ref 0), some (.int p0), some (.int p1), none]) (st' := [.int p1, .int p0, .ref 0]) rfl ?_
  exact Er_invC (q' := 0) (ci := 11) (av := [.int p0, .int p1]) rfl rfl ⟨Nat.le_of_ble_eq_true rfl, Nat.le_of_ble_eq_true rfl⟩ rfl hx hr hc ⟨rfl, rfl⟩
theorem ho_finish (hx : sm_at h 0 21 = true) (ho1 : sm_at h1 624 1 = true) (ho2 : (gS h1 624).2 = 1) (hr : Run 145 [.ref 0] h (.inl (some (.int v))) h1) : Run 193 [.ref 0, .ref 624] h (.inl (some (.int 0))) (setL h1 624 0 (Int32.toInt64 v)) := by
  refine ⟨Nat.le_of_ble_eq_true rfl, ?_⟩
  show Ev 193 0 [some (.ref 0), some (.ref 624), none] [] h _
  refine Er_run 3 (pc' := 3) (ls' := [some (.ref 0), some (.ref 624), none]) (st' := [.ref 0, .int ((0 : Int32)), .ref 624]) rfl ?_
  refine Er_inv1 (q' := 0) (ci := 11) (av := []) (rest := [.int ((0 : Int32)), .ref 624]) rfl rfl ⟨Nat.le_of_ble_eq_true rfl, Nat.le_of_ble_eq_true rfl⟩ rfl rfl hx hr ?_
  refine Er_run 1 (pc' := 7) (ls' := [some (.ref 0), some (.ref 624), none]) (st' := [.long (Int32.toInt64 v), .int ((0 : Int32)), .ref 624]) rfl ?_
  refine Er_last rfl ho1 (mr_in (i := 0) (k := 1) rfl (by omega) (by omega) ho2) ?_
  refine Er_run 2 (pc' := 15) (ls' := [some (.ref 0), some (.ref 624), none]) (st' := [.int ((0 : Int32))]) rfl ?_
  exact Er_fin rfl rfl ⟨rfl, rfl⟩
theorem hx_finish {e : Nat} {n : Int} (hx : sm_at h 0 21 = true) (hr : Run 145 [.ref 0] h (.inr e) h1) (hc : sm_ca 193 3 e = some (some n)) : Run 193 [.ref 0, .ref 624] h (.inl (some (.int (Int32.ofInt n)))) h1 := by
  refine ⟨Nat.le_of_ble_eq_true rfl, ?_⟩
  show Ev 193 0 [some (.ref 0), some (.ref 624), none] [] h _
  refine Er_run 3 (pc' := 3) (ls' := [some (.ref 0), some (.ref 624), none]) (st' := [.ref 0, .int ((0 : Int32)), .ref 624]) rfl ?_
  exact Er_invC (q' := 0) (ci := 11) (av := []) rfl rfl ⟨Nat.le_of_ble_eq_true rfl, Nat.le_of_ble_eq_true rfl⟩ rfl hx hr hc ⟨rfl, rfl⟩
theorem ho_told (hx : sm_at h 0 21 = true) (ho1 : sm_at h1 624 1 = true) (ho2 : (gS h1 624).2 = 1) (hr : Run 146 [.ref 0, .int p0, .int p1, .int p2] h (.inl (some (.long w))) h1) : Run 194 [.ref 0, .int p0, .int p1, .int p2, .ref 624] h (.inl (some (.int 0))) (setL h1 624 0 w) := by
  refine ⟨Nat.le_of_ble_eq_true rfl, ?_⟩
  show Ev 194 0 [some (.ref 0), some (.int p0), some (.int p1), some (.int p2), some (.ref 624), none] [] h _
  refine Er_run 6 (pc' := 7) (ls' := [some (.ref 0), some (.int p0), some (.int p1), some (.int p2), some (.ref 624), none]) (st' := [.int p2, .int p1, .int p0, .ref 0, .int ((0 : Int32)), .ref 624]) rfl ?_
  refine Er_inv1 (q' := 0) (ci := 11) (av := [.int p0, .int p1, .int p2]) (rest := [.int ((0 : Int32)), .ref 624]) rfl rfl ⟨Nat.le_of_ble_eq_true rfl, Nat.le_of_ble_eq_true rfl⟩ rfl rfl hx hr ?_
  refine Er_last rfl ho1 (mr_in (i := 0) (k := 1) rfl (by omega) (by omega) ho2) ?_
  refine Er_run 2 (pc' := 23) (ls' := [some (.ref 0), some (.int p0), some (.int p1), some (.int p2), some (.ref 624), none]) (st' := [.int ((0 : Int32))]) rfl ?_
  exact Er_fin rfl rfl ⟨rfl, rfl⟩
theorem hx_told {e : Nat} {n : Int} (hx : sm_at h 0 21 = true) (hr : Run 146 [.ref 0, .int p0, .int p1, .int p2] h (.inr e) h1) (hc : sm_ca 194 7 e = some (some n)) : Run 194 [.ref 0, .int p0, .int p1, .int p2, .ref 624] h (.inl (some (.int (Int32.ofInt n)))) h1 := by
  refine ⟨Nat.le_of_ble_eq_true rfl, ?_⟩
  show Ev 194 0 [some (.ref 0), some (.int p0), some (.int p1), some (.int p2), some (.ref 624), none] [] h _
  refine Er_run 6 (pc' := 7) (ls' := [some (.ref 0), some (.int p0), some (.int p1), some (.int p2), some (.ref 624), none]) (st' := [.int p2, .int p1, .int p0, .ref 0, .int ((0 : Int32)), .ref 624]) rfl ?_
  exact Er_invC (q' := 0) (ci := 11) (av := [.int p0, .int p1, .int p2]) rfl rfl ⟨Nat.le_of_ble_eq_true rfl, Nat.le_of_ble_eq_true rfl⟩ rfl hx hr hc ⟨rfl, rfl⟩
theorem ho_size (hx : sm_at h 0 21 = true) (ho1 : sm_at h1 624 1 = true) (ho2 : (gS h1 624).2 = 1) (hr : Run 147 [.ref 0, .int p0] h (.inl (some (.int v))) h1) : Run 195 [.ref 0, .int p0, .ref 624] h (.inl (some (.int 0))) (setL h1 624 0 (Int32.toInt64 v)) := by
  refine ⟨Nat.le_of_ble_eq_true rfl, ?_⟩
  show Ev 195 0 [some (.ref 0), some (.int p0), some (.ref 624), none] [] h _
  refine Er_run 4 (pc' := 4) (ls' := [some (.ref 0), some (.int p0), some (.ref 624), none]) (st' := [.int p0, .ref 0, .int ((0 : Int32)), .ref 624]) rfl ?_
  refine Er_inv1 (q' := 0) (ci := 11) (av := [.int p0]) (rest := [.int ((0 : Int32)), .ref 624]) rfl rfl ⟨Nat.le_of_ble_eq_true rfl, Nat.le_of_ble_eq_true rfl⟩ rfl rfl hx hr ?_
  refine Er_run 1 (pc' := 8) (ls' := [some (.ref 0), some (.int p0), some (.ref 624), none]) (st' := [.long (Int32.toInt64 v), .int ((0 : Int32)), .ref 624]) rfl ?_
  refine Er_last rfl ho1 (mr_in (i := 0) (k := 1) rfl (by omega) (by omega) ho2) ?_
  refine Er_run 2 (pc' := 19) (ls' := [some (.ref 0), some (.int p0), some (.ref 624), none]) (st' := [.int ((0 : Int32))]) rfl ?_
  exact Er_fin rfl rfl ⟨rfl, rfl⟩
theorem hx_size {e : Nat} {n : Int} (hx : sm_at h 0 21 = true) (hr : Run 147 [.ref 0, .int p0] h (.inr e) h1) (hc : sm_ca 195 4 e = some (some n)) : Run 195 [.ref 0, .int p0, .ref 624] h (.inl (some (.int (Int32.ofInt n)))) h1 := by
  refine ⟨Nat.le_of_ble_eq_true rfl, ?_⟩
  show Ev 195 0 [some (.ref 0), some (.int p0), some (.ref 624), none] [] h _
  refine Er_run 4 (pc' := 4) (ls' := [some (.ref 0), some (.int p0), some (.ref 624), none]) (st' := [.int p0, .ref 0, .int ((0 : Int32)), .ref 624]) rfl ?_
  exact Er_invC (q' := 0) (ci := 11) (av := [.int p0]) rfl rfl ⟨Nat.le_of_ble_eq_true rfl, Nat.le_of_ble_eq_true rfl⟩ rfl hx hr hc ⟨rfl, rfl⟩
theorem ho_count (hx : sm_at h 0 21 = true) (ho1 : sm_at h1 624 1 = true) (ho2 : (gS h1 624).2 = 1) (hr : Run 148 [.ref 0, .int p0] h (.inl (some (.int v))) h1) : Run 196 [.ref 0, .int p0, .ref 624] h (.inl (some (.int 0))) (setL h1 624 0 (Int32.toInt64 v)) := by
  refine ⟨Nat.le_of_ble_eq_true rfl, ?_⟩
  show Ev 196 0 [some (.ref 0), some (.int p0), some (.ref 624), none] [] h _
  refine Er_run 4 (pc' := 4) (ls' := [some (.ref 0), some (.int p0), some (.ref 624), none]) (st' := [.int p0, .ref 0, .int ((0 : Int32)), .ref 624]) rfl ?_
  refine Er_inv1 (q' := 0) (ci := 11) (av := [.int p0]) (rest := [.int ((0 : Int32)), .ref 624]) rfl rfl ⟨Nat.le_of_ble_eq_true rfl, Nat.le_of_ble_eq_true rfl⟩ rfl rfl hx hr ?_
  refine Er_run 1 (pc' := 8) (ls' := [some (.ref 0), some (.int p0), some (.ref 624), none]) (st' := [.long (Int32.toInt64 v), .int ((0 : Int32)), .ref 624]) rfl ?_
  refine Er_last rfl ho1 (mr_in (i := 0) (k := 1) rfl (by omega) (by omega) ho2) ?_
  refine Er_run 2 (pc' := 16) (ls' := [some (.ref 0), some (.int p0), some (.ref 624), none]) (st' := [.int ((0 : Int32))]) rfl ?_
  exact Er_fin rfl rfl ⟨rfl, rfl⟩
theorem hx_count {e : Nat} {n : Int} (hx : sm_at h 0 21 = true) (hr : Run 148 [.ref 0, .int p0] h (.inr e) h1) (hc : sm_ca 196 4 e = some (some n)) : Run 196 [.ref 0, .int p0, .ref 624] h (.inl (some (.int (Int32.ofInt n)))) h1 := by
  refine ⟨Nat.le_of_ble_eq_true rfl, ?_⟩
  show Ev 196 0 [some (.ref 0), some (.int p0), some (.ref 624), none] [] h _
  refine Er_run 4 (pc' := 4) (ls' := [some (.ref 0), some (.int p0), some (.ref 624), none]) (st' := [.int p0, .ref 0, .int ((0 : Int32)), .ref 624]) rfl ?_
  exact Er_invC (q' := 0) (ci := 11) (av := [.int p0]) rfl rfl ⟨Nat.le_of_ble_eq_true rfl, Nat.le_of_ble_eq_true rfl⟩ rfl hx hr hc ⟨rfl, rfl⟩
theorem ca_183_0 : sm_ca 183 8 0 = some (some 1) := rfl
theorem ca_183_2 : sm_ca 183 8 2 = some (some 2) := rfl
theorem ca_184_0 : sm_ca 184 4 0 = some (some 1) := rfl
theorem ca_184_2 : sm_ca 184 4 2 = some (some 2) := rfl
theorem ca_185_1 : sm_ca 185 6 1 = some (some 1) := rfl
theorem ca_185_2 : sm_ca 185 6 2 = some (some 2) := rfl
theorem ca_186_0 : sm_ca 186 5 0 = some (some 1) := rfl
theorem ca_186_1 : sm_ca 186 5 1 = some (some 2) := rfl
theorem ca_186_2 : sm_ca 186 5 2 = some (some 3) := rfl
theorem ca_187_0 : sm_ca 187 8 0 = some (some 1) := rfl
theorem ca_187_1 : sm_ca 187 8 1 = some (some 2) := rfl
theorem ca_187_2 : sm_ca 187 8 2 = some (some 3) := rfl
theorem ca_188_0 : sm_ca 188 4 0 = some (some 1) := rfl
theorem ca_188_2 : sm_ca 188 4 2 = some (some 2) := rfl
theorem ca_189_2 : sm_ca 189 3 2 = some (some 1) := rfl
theorem ca_189_3 : sm_ca 189 3 3 = some (some 2) := rfl
theorem ca_190_0 : sm_ca 190 3 0 = some (some 1) := rfl
theorem ca_190_1 : sm_ca 190 3 1 = some (some 2) := rfl
theorem ca_190_2 : sm_ca 190 3 2 = some (some 3) := rfl
theorem ca_191_0 : sm_ca 191 2 0 = some (some 1) := rfl
theorem ca_191_2 : sm_ca 191 2 2 = some (some 2) := rfl
theorem ca_192_2 : sm_ca 192 3 2 = some (some 1) := rfl
theorem ca_193_2 : sm_ca 193 3 2 = some (some 1) := rfl
theorem ca_194_0 : sm_ca 194 7 0 = some (some 1) := rfl
theorem ca_194_2 : sm_ca 194 7 2 = some (some 2) := rfl
theorem ca_195_0 : sm_ca 195 4 0 = some (some 1) := rfl
theorem ca_195_2 : sm_ca 195 4 2 = some (some 2) := rfl
theorem ca_196_1 : sm_ca 196 4 1 = some (some 1) := rfl
end HELP
