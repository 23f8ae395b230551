section MILE
variable {h : sm_H} {cl : List Nat} {G : Nat → Nat → Int32} {PR : Nat → Nat → List (Int32 × Int64)} {F : Nat → Jl} {D : List (Int32 × Int64)} {L : Jn} {R : Jr} {K : Jk} {Ws : Nat → Jw} {n v : Nat} {x : Int32}
def jn_cut (L : Jn) (x : Nat) : Jn := (jx_up L.1 x [], jx_up L.2.1 x true, L.2.2)
def jn_dis (L : Jn) (a b : Int32) : Jn := (L.1, L.2.1, a &&& 65535, b &&& 65535)

theorem s_Mill_line_r {a b : Int32} (hx : isX h) (hr : gI h 0 6 = 0) : Run 144 [.ref 0, .int a, .int b] h (.inr 2) (hjunk h) := by
  refine ⟨Nat.le_of_ble_eq_true rfl, ?_⟩
  show Ev 144 0 [some (.ref 0), some (.int a), some (.int b)] [] h _
  refine Er_run 1 (pc' := 1) (ls' := [some (.ref 0), some (.int a), some (.int b)]) (st' := [.ref 0]) rfl ?_
  exact Er_invX (q' := 0) (ci := 11) (av := []) rfl rfl ⟨Nat.le_of_ble_eq_true rfl, Nat.le_of_ble_eq_true rfl⟩ rfl hx.1 (s_Mill_needRun0 hx hr) rfl ⟨rfl, rfl⟩
theorem s_Mill_line {a b : Int32} (hp : XS h cl G PR F D L R K Ws true n) : ∃ h', Run 144 [.ref 0, .int a, .int b] h (.inl none) h' ∧ XS h' cl G PR F D (jn_dis L a b) R K Ws true n ∧ SZ h h' := by
  have hx : Ev 144 0 (sm_pad (sm_ent [.ref 0, .int a, .int b]) (sm_prog.2.1 144)) [] h (fun r h1 => r = .inl none ∧ XS h1 cl G PR F D (jn_dis L a b) R K Ws true n ∧ SZ h h1) := by
    show Ev 144 0 [some (.ref 0), some (.int a), some (.int b)] [] h _
    refine Er_run 1 (pc' := 1) (ls' := [some (.ref 0), some (.int a), some (.int b)]) (st' := [.ref 0]) rfl ?_
    refine Er_inv0 (q' := 0) (ci := 11) (av := []) (rest := []) rfl rfl ⟨Nat.le_of_ble_eq_true rfl, Nat.le_of_ble_eq_true rfl⟩ rfl rfl hp.1.1.1 (s_Mill_needRun1 hp.1.1 hp.1.2.2.1) ?_
    refine Er_run 1 (pc' := 5) (ls' := [some (.ref 0), some (.int a), some (.int b)]) (st' := [.ref 0]) rfl ?_
    refine Er_getR (x := 144) rfl hp.1.1.1 hp.1.1.2.2.2.1 ?_
    refine Er_run 2 (pc' := 10) (ls' := [some (.ref 0), some (.int a), some (.int b)]) (st' := [.int b, .int a, .ref 144]) rfl ?_
    obtain ⟨h1, r1, l1, z1⟩ := s_Line_disturb (a := a) (b := b) hp.2.2.1
    have p1 := XS_line (L' := jn_dis L a b) z1 l1 hp
    refine Er_inv0 (q' := 144) (ci := 6) (av := [.int a, .int b]) (rest := []) rfl rfl ⟨Nat.le_of_ble_eq_true rfl, Nat.le_of_ble_eq_true rfl⟩ rfl rfl hp.2.2.1.1.1 r1 ?_
    exact Er_fin rfl rfl ⟨rfl, p1⟩
  obtain ⟨r, h', hr, e, hq⟩ := Run_of (Nat.le_of_ble_eq_true rfl) hx
  subst e
  exact ⟨h', hr, hq⟩
theorem s_Mill_crash_x (hf : jn_out x 7) : Run 143 [.ref 0, .int x] h (.inr 0) (hjunk h) := by
  refine ⟨Nat.le_of_ble_eq_true rfl, ?_⟩
  show Ev 143 0 [some (.ref 0), some (.int x)] [] h _
  refine Er_run 1 (pc' := 1) (ls' := [some (.ref 0), some (.int x)]) (st' := [.int x]) rfl ?_
  exact Er_staX (av := [.int x]) rfl rfl ⟨Nat.le_of_ble_eq_true rfl, Nat.le_of_ble_eq_true rfl⟩ rfl (s_Mill_needNode0 hf) rfl ⟨rfl, rfl⟩
theorem s_Mill_crash_r (hf : v < 7) (hx : isX h) (hr : gI h 0 6 = 0) : Run 143 [.ref 0, .int (Int32.ofNat v)] h (.inr 2) (hjunk h) := by
  refine ⟨Nat.le_of_ble_eq_true rfl, ?_⟩
  show Ev 143 0 [some (.ref 0), some (.int (Int32.ofNat v))] [] h _
  refine Er_run 1 (pc' := 1) (ls' := [some (.ref 0), some (.int (Int32.ofNat v))]) (st' := [.int (Int32.ofNat v)]) rfl ?_
  refine Er_sta0 (av := [.int (Int32.ofNat v)]) (rest := []) rfl rfl ⟨Nat.le_of_ble_eq_true rfl, Nat.le_of_ble_eq_true rfl⟩ rfl rfl (s_Mill_needNode1 hf) ?_
  refine Er_run 1 (pc' := 5) (ls' := [some (.ref 0), some (.int (Int32.ofNat v))]) (st' := [.ref 0]) rfl ?_
  exact Er_invX (q' := 0) (ci := 11) (av := []) rfl rfl ⟨Nat.le_of_ble_eq_true rfl, Nat.le_of_ble_eq_true rfl⟩ rfl hx.1 (s_Mill_needRun0 hx hr) rfl ⟨rfl, rfl⟩
theorem s_Mill_crash6 (hca : jc_all cl G) (hF : jf_ok F) (hp : XS h cl G PR F D L R K Ws true n) : ∃ h', Run 143 [.ref 0, .int (Int32.ofNat 6)] h (.inl none) h' ∧ XS h' cl G PR F D (jn_cut L 6) R (jk_forget cl G F K) Ws true n ∧ SZ h h' := by
  have hx : Ev 143 0 (sm_pad (sm_ent [.ref 0, .int (Int32.ofNat 6)]) (sm_prog.2.1 143)) [] h (fun r h1 => r = .inl none ∧ XS h1 cl G PR F D (jn_cut L 6) R (jk_forget cl G F K) Ws true n ∧ SZ h h1) := by
    show Ev 143 0 [some (.ref 0), some (.int (Int32.ofNat 6))] [] h _
    refine Er_run 1 (pc' := 1) (ls' := [some (.ref 0), some (.int (Int32.ofNat 6))]) (st' := [.int (Int32.ofNat 6)]) rfl ?_
    refine Er_sta0 (av := [.int (Int32.ofNat 6)]) (rest := []) rfl rfl ⟨Nat.le_of_ble_eq_true rfl, Nat.le_of_ble_eq_true rfl⟩ rfl rfl (s_Mill_needNode1 (f := 6) (by omega)) ?_
    refine Er_run 1 (pc' := 5) (ls' := [some (.ref 0), some (.int (Int32.ofNat 6))]) (st' := [.ref 0]) rfl ?_
    refine Er_inv0 (q' := 0) (ci := 11) (av := []) (rest := []) rfl rfl ⟨Nat.le_of_ble_eq_true rfl, Nat.le_of_ble_eq_true rfl⟩ rfl rfl hp.1.1.1 (s_Mill_needRun1 hp.1.1 hp.1.2.2.1) ?_
    refine Er_run 1 (pc' := 9) (ls' := [some (.ref 0), some (.int (Int32.ofNat 6))]) (st' := [.ref 0]) rfl ?_
    refine Er_getR (x := 144) rfl hp.1.1.1 hp.1.1.2.2.2.1 ?_
    refine Er_run 1 (pc' := 13) (ls' := [some (.ref 0), some (.int (Int32.ofNat 6))]) (st' := [.int (Int32.ofNat 6), .ref 144]) rfl ?_
    obtain ⟨h1, r1, l1, z1⟩ := s_Line_cut (x := 6) hp.2.2.1 (by omega)
    have p1 := XS_line (L' := jn_cut L 6) z1 l1 hp
    refine Er_inv0 (q' := 144) (ci := 6) (av := [.int (Int32.ofNat 6)]) (rest := []) rfl rfl ⟨Nat.le_of_ble_eq_true rfl, Nat.le_of_ble_eq_true rfl⟩ rfl rfl hp.2.2.1.1.1 r1 ?_
    refine Er_run 3 (pc' := bif !decide ((Int32.ofNat 6) = ((6 : Int32))) then 32 else 22) (ls' := [some (.ref 0), some (.int (Int32.ofNat 6))]) (st' := []) rfl ?_
    refine Er_pc (t := 22) (show (bif !decide ((Int32.ofNat 6) = ((6 : Int32))) then 32 else 22) = 22 from by rw [show (!decide ((Int32.ofNat 6) = ((6 : Int32)))) = false from by decide]; rfl) ?_
    refine Er_run 1 (pc' := 23) (ls' := [some (.ref 0), some (.int (Int32.ofNat 6))]) (st' := [.ref 0]) rfl ?_
    refine Er_getR (x := 379) rfl p1.1.1.1.1 p1.1.1.1.2.2.2.2.2.2.1 ?_
    obtain ⟨h2, r2, k2, l2, s2, j2, z2⟩ := s_Master_forget hca hF (by omega) (by omega) (by omega) p1.1.2.2.2.2.1 p1.1.2.2.1 p1.1.2.1 p1.1.2.2.2.1
    have p2 := XS_m z2 k2 l2 s2 j2 p1.1
    refine Er_inv0 (q' := 379) (ci := 10) (av := []) (rest := []) rfl rfl ⟨Nat.le_of_ble_eq_true rfl, Nat.le_of_ble_eq_true rfl⟩ rfl rfl p1.1.2.2.2.2.1.1.1 r2 ?_
    refine Er_run 1 (pc' := 41) (ls' := [some (.ref 0), some (.int (Int32.ofNat 6))]) (st' := []) rfl ?_
    exact Er_fin rfl rfl ⟨rfl, p2.1, p1.2.trans p2.2⟩
  obtain ⟨r, h', hr, e, hq⟩ := Run_of (Nat.le_of_ble_eq_true rfl) hx
  subst e
  exact ⟨h', hr, hq⟩
theorem s_Mill_crash (hv : v < 6) (hp : XS h cl G PR F D L R K Ws true n) : ∃ h', Run 143 [.ref 0, .int (Int32.ofNat v)] h (.inl none) h' ∧ XS h' cl G PR F D (jn_cut L v) R K (jx_up Ws v (jw_forget (Ws v))) true n ∧ SZ h h' := by
  have hx : Ev 143 0 (sm_pad (sm_ent [.ref 0, .int (Int32.ofNat v)]) (sm_prog.2.1 143)) [] h (fun r h1 => r = .inl none ∧ XS h1 cl G PR F D (jn_cut L v) R K (jx_up Ws v (jw_forget (Ws v))) true n ∧ SZ h h1) := by
    show Ev 143 0 [some (.ref 0), some (.int (Int32.ofNat v))] [] h _
    refine Er_run 1 (pc' := 1) (ls' := [some (.ref 0), some (.int (Int32.ofNat v))]) (st' := [.int (Int32.ofNat v)]) rfl ?_
    refine Er_sta0 (av := [.int (Int32.ofNat v)]) (rest := []) rfl rfl ⟨Nat.le_of_ble_eq_true rfl, Nat.le_of_ble_eq_true rfl⟩ rfl rfl (s_Mill_needNode1 (f := v) (by omega)) ?_
    refine Er_run 1 (pc' := 5) (ls' := [some (.ref 0), some (.int (Int32.ofNat v))]) (st' := [.ref 0]) rfl ?_
    refine Er_inv0 (q' := 0) (ci := 11) (av := []) (rest := []) rfl rfl ⟨Nat.le_of_ble_eq_true rfl, Nat.le_of_ble_eq_true rfl⟩ rfl rfl hp.1.1.1 (s_Mill_needRun1 hp.1.1 hp.1.2.2.1) ?_
    refine Er_run 1 (pc' := 9) (ls' := [some (.ref 0), some (.int (Int32.ofNat v))]) (st' := [.ref 0]) rfl ?_
    refine Er_getR (x := 144) rfl hp.1.1.1 hp.1.1.2.2.2.1 ?_
    refine Er_run 1 (pc' := 13) (ls' := [some (.ref 0), some (.int (Int32.ofNat v))]) (st' := [.int (Int32.ofNat v), .ref 144]) rfl ?_
    obtain ⟨h1, r1, l1, z1⟩ := s_Line_cut (x := v) hp.2.2.1 (by omega)
    have p1 := XS_line (L' := jn_cut L v) z1 l1 hp
    refine Er_inv0 (q' := 144) (ci := 6) (av := [.int (Int32.ofNat v)]) (rest := []) rfl rfl ⟨Nat.le_of_ble_eq_true rfl, Nat.le_of_ble_eq_true rfl⟩ rfl rfl hp.2.2.1.1.1 r1 ?_
    refine Er_run 3 (pc' := bif !decide ((Int32.ofNat v) = ((6 : Int32))) then 32 else 22) (ls' := [some (.ref 0), some (.int (Int32.ofNat v))]) (st' := []) rfl ?_
    refine Er_pc (t := 32) (show (bif !decide ((Int32.ofNat v) = ((6 : Int32))) then 32 else 22) = 32 from by rw [show (!decide ((Int32.ofNat v) = ((6 : Int32)))) = true from by rw [show (6 : Int32) = Int32.ofNat 6 from rfl, jx_eq (by omega) (by omega), decide_eq_false (by omega)]; rfl]; rfl) ?_
    refine Er_run 1 (pc' := 33) (ls' := [some (.ref 0), some (.int (Int32.ofNat v))]) (st' := [.ref 0]) rfl ?_
    refine Er_getR (x := 378) rfl p1.1.1.1.1 p1.1.1.1.2.2.2.2.2.1 ?_
    refine Er_run 1 (pc' := 37) (ls' := [some (.ref 0), some (.int (Int32.ofNat v))]) (st' := [.int (Int32.ofNat v), .ref 378]) rfl ?_
    refine Er_aald (x := 388 + 35 * v) rfl p1.1.1.1.2.2.2.2.2.2.2.1 (by rw [p1.1.1.1.2.2.2.2.2.2.2.2.1]; exact sm_in_of (by rw [sm_ofNat_toInt (by omega)]; omega) (by rw [sm_ofNat_toInt (by omega)]; omega)) (by rw [jx_cn (by omega)]; exact p1.1.1.1.2.2.2.2.2.2.2.2.2 v hv) ?_
    obtain ⟨h2, r2, w2, l2, s2, z2⟩ := s_Worker_forget (by omega) (by omega) (p1.1.2.2.2.2.2 v hv) p1.1.2.2.1 p1.1.2.1
    have p2 := XS_w hv z2 w2 l2 s2 p1.1
    refine Er_inv0 (q' := 388 + 35 * v) (ci := 8) (av := []) (rest := []) rfl rfl ⟨Nat.le_of_ble_eq_true rfl, Nat.le_of_ble_eq_true rfl⟩ rfl rfl (p1.1.2.2.2.2.2 v hv).1.1 r2 ?_
    exact Er_fin rfl rfl ⟨rfl, p2.1, p1.2.trans p2.2⟩
  obtain ⟨r, h', hr, e, hq⟩ := Run_of (Nat.le_of_ble_eq_true rfl) hx
  subst e
  exact ⟨h', hr, hq⟩
/-- a tick of node v -/
def TK (v : Nat) (h h' : sm_H) : Prop := (v = 6 → sm_at h 379 20 = true ∧ Run 127 [.ref 379] h (.inl none) h') ∧ (v ≠ 6 → sm_at h (388 + 35 * v) 18 = true ∧ Run 92 [.ref (388 + 35 * v)] h (.inl none) h')
theorem s_Mill_tick_x {y : Int32} (hf : jn_out x 7) : Run 142 [.ref 0, .int x, .int y] h (.inr 0) (hjunk h) := by
  refine ⟨Nat.le_of_ble_eq_true rfl, ?_⟩
  show Ev 142 0 [some (.ref 0), some (.int x), some (.int y), none] [] h _
  refine Er_run 1 (pc' := 1) (ls' := [some (.ref 0), some (.int x), some (.int y), none]) (st' := [.int x]) rfl ?_
  exact Er_staX (av := [.int x]) rfl rfl ⟨Nat.le_of_ble_eq_true rfl, Nat.le_of_ble_eq_true rfl⟩ rfl (s_Mill_needNode0 hf) rfl ⟨rfl, rfl⟩
theorem s_Mill_tick_n (hf : v < 7) (hn : x.toInt < 1 ∨ 200 < x.toInt) : Run 142 [.ref 0, .int (Int32.ofNat v), .int x] h (.inr 1) (hjunk h) := by
  have h1 : ¬ x < 1 → (200 : Int) < x.toInt := by
    intro h0
    rw [Int32.lt_iff_toInt_lt] at h0
    have h0' : ¬ x.toInt < 1 := h0
    omega
  refine ⟨Nat.le_of_ble_eq_true rfl, ?_⟩
  by_cases h0 : x < 1
  · skip
    show Ev 142 0 [some (.ref 0), some (.int (Int32.ofNat v)), some (.int x), none] [] h _
    refine Er_run 1 (pc' := 1) (ls' := [some (.ref 0), some (.int (Int32.ofNat v)), some (.int x), none]) (st' := [.int (Int32.ofNat v)]) rfl ?_
    refine Er_sta0 (av := [.int (Int32.ofNat v)]) (rest := []) rfl rfl ⟨Nat.le_of_ble_eq_true rfl, Nat.le_of_ble_eq_true rfl⟩ rfl rfl (s_Mill_needNode1 hf) ?_
    refine Er_run 3 (pc' := bif decide (x < ((1 : Int32))) then 16 else 9) (ls' := [some (.ref 0), some (.int (Int32.ofNat v)), some (.int x), none]) (st' := []) rfl ?_
    refine Er_pc (t := 16) (show (bif decide (x < ((1 : Int32))) then 16 else 9) = 16 from by rw [show (decide (x < ((1 : Int32)))) = true from decide_eq_true h0]; rfl) ?_
    exact Er_fin rfl rfl ⟨rfl, rfl⟩
  · have h2 := h1 h0
    show Ev 142 0 [some (.ref 0), some (.int (Int32.ofNat v)), some (.int x), none] [] h _
    refine Er_run 1 (pc' := 1) (ls' := [some (.ref 0), some (.int (Int32.ofNat v)), some (.int x), none]) (st' := [.int (Int32.ofNat v)]) rfl ?_
    refine Er_sta0 (av := [.int (Int32.ofNat v)]) (rest := []) rfl rfl ⟨Nat.le_of_ble_eq_true rfl, Nat.le_of_ble_eq_true rfl⟩ rfl rfl (s_Mill_needNode1 hf) ?_
    refine Er_run 3 (pc' := bif decide (x < ((1 : Int32))) then 16 else 9) (ls' := [some (.ref 0), some (.int (Int32.ofNat v)), some (.int x), none]) (st' := []) rfl ?_
    refine Er_pc (t := 9) (show (bif decide (x < ((1 : Int32))) then 16 else 9) = 9 from by rw [show (decide (x < ((1 : Int32)))) = false from decide_eq_false h0]; rfl) ?_
    refine Er_run 3 (pc' := bif decide (x ≤ ((200 : Int32))) then 26 else 16) (ls' := [some (.ref 0), some (.int (Int32.ofNat v)), some (.int x), none]) (st' := []) rfl ?_
    refine Er_pc (t := 16) (show (bif decide (x ≤ ((200 : Int32))) then 26 else 16) = 16 from by rw [show (decide (x ≤ ((200 : Int32)))) = false from decide_eq_false (by rw [Int32.le_iff_toInt_le]; show ¬ x.toInt ≤ (200 : Int); omega)]; rfl) ?_
    exact Er_fin rfl rfl ⟨rfl, rfl⟩
theorem s_Mill_tick_r (hf : v < 7) (hn1 : 1 ≤ n) (hn2 : n ≤ 200) (hx : isX h) (hr : gI h 0 6 = 0) : Run 142 [.ref 0, .int (Int32.ofNat v), .int (Int32.ofNat n)] h (.inr 2) (hjunk h) := by
  refine ⟨Nat.le_of_ble_eq_true rfl, ?_⟩
  show Ev 142 0 [some (.ref 0), some (.int (Int32.ofNat v)), some (.int (Int32.ofNat n)), none] [] h _
  refine Er_run 1 (pc' := 1) (ls' := [some (.ref 0), some (.int (Int32.ofNat v)), some (.int (Int32.ofNat n)), none]) (st' := [.int (Int32.ofNat v)]) rfl ?_
  refine Er_sta0 (av := [.int (Int32.ofNat v)]) (rest := []) rfl rfl ⟨Nat.le_of_ble_eq_true rfl, Nat.le_of_ble_eq_true rfl⟩ rfl rfl (s_Mill_needNode1 hf) ?_
  refine Er_run 3 (pc' := bif decide ((Int32.ofNat n) < ((1 : Int32))) then 16 else 9) (ls' := [some (.ref 0), some (.int (Int32.ofNat v)), some (.int (Int32.ofNat n)), none]) (st' := []) rfl ?_
  refine Er_pc (t := 9) (show (bif decide ((Int32.ofNat n) < ((1 : Int32))) then 16 else 9) = 9 from by rw [show (decide ((Int32.ofNat n) < ((1 : Int32)))) = false from by rw [show (1 : Int32) = Int32.ofNat 1 from rfl, jx_lt (by omega) (by omega)]; exact decide_eq_false (by omega)]; rfl) ?_
  refine Er_run 3 (pc' := bif decide ((Int32.ofNat n) ≤ ((200 : Int32))) then 26 else 16) (ls' := [some (.ref 0), some (.int (Int32.ofNat v)), some (.int (Int32.ofNat n)), none]) (st' := []) rfl ?_
  refine Er_pc (t := 26) (show (bif decide ((Int32.ofNat n) ≤ ((200 : Int32))) then 26 else 16) = 26 from by rw [show (decide ((Int32.ofNat n) ≤ ((200 : Int32)))) = true from by rw [show (200 : Int32) = Int32.ofNat 200 from rfl, jx_le (by omega) (by omega)]; exact decide_eq_true (by omega)]; rfl) ?_
  refine Er_run 1 (pc' := 27) (ls' := [some (.ref 0), some (.int (Int32.ofNat v)), some (.int (Int32.ofNat n)), none]) (st' := [.ref 0]) rfl ?_
  exact Er_invX (q' := 0) (ci := 11) (av := []) rfl rfl ⟨Nat.le_of_ble_eq_true rfl, Nat.le_of_ble_eq_true rfl⟩ rfl hx.1 (s_Mill_needRun0 hx hr) rfl ⟨rfl, rfl⟩
theorem l_tick {P : Nat → sm_H → Prop} (hf : v < 7) (hn2 : n ≤ 200) (hP : ∀ i h, i < n → P i h → isX h ∧ ∃ h', TK v h h' ∧ P (i + 1) h') : ∀ (k i : Nat) (h : sm_H), i + k = n → P i h → Ev 142 32 [some (.ref 0), some (.int (Int32.ofNat v)), some (.int (Int32.ofNat n)), some (.int (Int32.ofNat i))] [] h (fun r h1 => r = .inl none ∧ P n h1) := by
  intro k
  induction k with
  | zero =>
    intro i h hi h0
    refine Er_run 3 (pc' := bif decide ((Int32.ofNat n) ≤ (Int32.ofNat i)) then 68 else 37) (ls' := [some (.ref 0), some (.int (Int32.ofNat v)), some (.int (Int32.ofNat n)), some (.int (Int32.ofNat i))]) (st' := []) rfl ?_
    refine Er_pc (t := 68) (show (bif decide ((Int32.ofNat n) ≤ (Int32.ofNat i)) then 68 else 37) = 68 from by rw [show (decide ((Int32.ofNat n) ≤ (Int32.ofNat i))) = true from by rw [jx_le (by omega) (by omega)]; exact decide_eq_true (by omega)]; rfl) ?_
    exact Er_fin rfl rfl ⟨rfl, (show i = n from by omega) ▸ h0⟩
  | succ k ih =>
    intro i h hi h0
    obtain ⟨hx, h1, t1, p1⟩ := hP i h (by omega) h0
    by_cases hm : v = 6
    · skip
      refine Er_run 3 (pc' := bif decide ((Int32.ofNat n) ≤ (Int32.ofNat i)) then 68 else 37) (ls' := [some (.ref 0), some (.int (Int32.ofNat v)), some (.int (Int32.ofNat n)), some (.int (Int32.ofNat i))]) (st' := []) rfl ?_
      refine Er_pc (t := 37) (show (bif decide ((Int32.ofNat n) ≤ (Int32.ofNat i)) then 68 else 37) = 37 from by rw [show (decide ((Int32.ofNat n) ≤ (Int32.ofNat i))) = false from by rw [jx_le (by omega) (by omega)]; exact decide_eq_false (by omega)]; rfl) ?_
      refine Er_run 3 (pc' := bif !decide ((Int32.ofNat v) = ((6 : Int32))) then 53 else 43) (ls' := [some (.ref 0), some (.int (Int32.ofNat v)), some (.int (Int32.ofNat n)), some (.int (Int32.ofNat i))]) (st' := []) rfl ?_
      refine Er_pc (t := 43) (show (bif !decide ((Int32.ofNat v) = ((6 : Int32))) then 53 else 43) = 43 from by rw [show (!decide ((Int32.ofNat v) = ((6 : Int32)))) = false from by rw [hm]; rfl]; rfl) ?_
      refine Er_run 1 (pc' := 44) (ls' := [some (.ref 0), some (.int (Int32.ofNat v)), some (.int (Int32.ofNat n)), some (.int (Int32.ofNat i))]) (st' := [.ref 0]) rfl ?_
      refine Er_getR (x := 379) rfl hx.1 hx.2.2.2.2.2.2.1 ?_
      refine Er_inv0 (q' := 379) (ci := 10) (av := []) (rest := []) rfl rfl ⟨Nat.le_of_ble_eq_true rfl, Nat.le_of_ble_eq_true rfl⟩ rfl rfl (t1.1 hm).1 (t1.1 hm).2 ?_
      refine Er_run 3 (pc' := 32) (ls' := [some (.ref 0), some (.int (Int32.ofNat v)), some (.int (Int32.ofNat n)), some (.int ((Int32.ofNat i) + (1 : Int32)))]) (st' := []) rfl ?_
      rw [jx_s1]
      exact ih (i + 1) h1 (by omega) p1
    · skip
      refine Er_run 3 (pc' := bif decide ((Int32.ofNat n) ≤ (Int32.ofNat i)) then 68 else 37) (ls' := [some (.ref 0), some (.int (Int32.ofNat v)), some (.int (Int32.ofNat n)), some (.int (Int32.ofNat i))]) (st' := []) rfl ?_
      refine Er_pc (t := 37) (show (bif decide ((Int32.ofNat n) ≤ (Int32.ofNat i)) then 68 else 37) = 37 from by rw [show (decide ((Int32.ofNat n) ≤ (Int32.ofNat i))) = false from by rw [jx_le (by omega) (by omega)]; exact decide_eq_false (by omega)]; rfl) ?_
      refine Er_run 3 (pc' := bif !decide ((Int32.ofNat v) = ((6 : Int32))) then 53 else 43) (ls' := [some (.ref 0), some (.int (Int32.ofNat v)), some (.int (Int32.ofNat n)), some (.int (Int32.ofNat i))]) (st' := []) rfl ?_
      refine Er_pc (t := 53) (show (bif !decide ((Int32.ofNat v) = ((6 : Int32))) then 53 else 43) = 53 from by rw [show (!decide ((Int32.ofNat v) = ((6 : Int32)))) = true from by rw [show (6 : Int32) = Int32.ofNat 6 from rfl, jx_eq (by omega) (by omega), decide_eq_false hm]; rfl]; rfl) ?_
      refine Er_run 1 (pc' := 54) (ls' := [some (.ref 0), some (.int (Int32.ofNat v)), some (.int (Int32.ofNat n)), some (.int (Int32.ofNat i))]) (st' := [.ref 0]) rfl ?_
      refine Er_getR (x := 378) rfl hx.1 hx.2.2.2.2.2.1 ?_
      refine Er_run 1 (pc' := 58) (ls' := [some (.ref 0), some (.int (Int32.ofNat v)), some (.int (Int32.ofNat n)), some (.int (Int32.ofNat i))]) (st' := [.int (Int32.ofNat v), .ref 378]) rfl ?_
      refine Er_aald (x := 388 + 35 * v) rfl hx.2.2.2.2.2.2.2.1 (by rw [hx.2.2.2.2.2.2.2.2.1]; exact sm_in_of (by rw [sm_ofNat_toInt (by omega)]; omega) (by rw [sm_ofNat_toInt (by omega)]; omega)) (by rw [jx_cn (by omega)]; exact hx.2.2.2.2.2.2.2.2.2 v (by omega)) ?_
      refine Er_inv0 (q' := 388 + 35 * v) (ci := 8) (av := []) (rest := []) rfl rfl ⟨Nat.le_of_ble_eq_true rfl, Nat.le_of_ble_eq_true rfl⟩ rfl rfl (t1.2 hm).1 (t1.2 hm).2 ?_
      refine Er_run 2 (pc' := 32) (ls' := [some (.ref 0), some (.int (Int32.ofNat v)), some (.int (Int32.ofNat n)), some (.int ((Int32.ofNat i) + (1 : Int32)))]) (st' := []) rfl ?_
      rw [jx_s1]
      exact ih (i + 1) h1 (by omega) p1
theorem s_Mill_tick {P : Nat → sm_H → Prop} (hf : v < 7) (hn1 : 1 ≤ n) (hn2 : n ≤ 200) (hP : ∀ i h, i < n → P i h → isX h ∧ ∃ h', TK v h h' ∧ P (i + 1) h') (h0 : P 0 h) (hr : gI h 0 6 = 1) : ∃ h', Run 142 [.ref 0, .int (Int32.ofNat v), .int (Int32.ofNat n)] h (.inl none) h' ∧ P n h' := by
  have hx := (hP 0 h (by omega) h0).1
  have hx9 : Ev 142 0 (sm_pad (sm_ent [.ref 0, .int (Int32.ofNat v), .int (Int32.ofNat n)]) (sm_prog.2.1 142)) [] h (fun r h1 => r = .inl none ∧ P n h1) := by
    show Ev 142 0 [some (.ref 0), some (.int (Int32.ofNat v)), some (.int (Int32.ofNat n)), none] [] h _
    refine Er_run 1 (pc' := 1) (ls' := [some (.ref 0), some (.int (Int32.ofNat v)), some (.int (Int32.ofNat n)), none]) (st' := [.int (Int32.ofNat v)]) rfl ?_
    refine Er_sta0 (av := [.int (Int32.ofNat v)]) (rest := []) rfl rfl ⟨Nat.le_of_ble_eq_true rfl, Nat.le_of_ble_eq_true rfl⟩ rfl rfl (s_Mill_needNode1 hf) ?_
    refine Er_run 3 (pc' := bif decide ((Int32.ofNat n) < ((1 : Int32))) then 16 else 9) (ls' := [some (.ref 0), some (.int (Int32.ofNat v)), some (.int (Int32.ofNat n)), none]) (st' := []) rfl ?_
    refine Er_pc (t := 9) (show (bif decide ((Int32.ofNat n) < ((1 : Int32))) then 16 else 9) = 9 from by rw [show (decide ((Int32.ofNat n) < ((1 : Int32)))) = false from by rw [show (1 : Int32) = Int32.ofNat 1 from rfl, jx_lt (by omega) (by omega)]; exact decide_eq_false (by omega)]; rfl) ?_
    refine Er_run 3 (pc' := bif decide ((Int32.ofNat n) ≤ ((200 : Int32))) then 26 else 16) (ls' := [some (.ref 0), some (.int (Int32.ofNat v)), some (.int (Int32.ofNat n)), none]) (st' := []) rfl ?_
    refine Er_pc (t := 26) (show (bif decide ((Int32.ofNat n) ≤ ((200 : Int32))) then 26 else 16) = 26 from by rw [show (decide ((Int32.ofNat n) ≤ ((200 : Int32)))) = true from by rw [show (200 : Int32) = Int32.ofNat 200 from rfl, jx_le (by omega) (by omega)]; exact decide_eq_true (by omega)]; rfl) ?_
    refine Er_run 1 (pc' := 27) (ls' := [some (.ref 0), some (.int (Int32.ofNat v)), some (.int (Int32.ofNat n)), none]) (st' := [.ref 0]) rfl ?_
    refine Er_inv0 (q' := 0) (ci := 11) (av := []) (rest := []) rfl rfl ⟨Nat.le_of_ble_eq_true rfl, Nat.le_of_ble_eq_true rfl⟩ rfl rfl hx.1 (s_Mill_needRun1 hx hr) ?_
    refine Er_run 2 (pc' := 32) (ls' := [some (.ref 0), some (.int (Int32.ofNat v)), some (.int (Int32.ofNat n)), some (.int ((0 : Int32)))]) (st' := []) rfl ?_
    exact l_tick hf hn2 hP n 0 h (by omega) h0
  obtain ⟨r, h', hr, e, hq⟩ := Run_of (Nat.le_of_ble_eq_true rfl) hx9
  subst e
  exact ⟨h', hr, hq⟩
/-- a round: all WORKERS in turn, then the MASTER -/
def RND (h h' : sm_H) : Prop := ∃ g : Nat → sm_H, g 0 = h ∧ (∀ v, v < 6 → isX (g v) ∧ sm_at (g v) (388 + 35 * v) 18 = true ∧ Run 92 [.ref (388 + 35 * v)] (g v) (.inl none) (g (v + 1))) ∧ isX (g 6) ∧ sm_at (g 6) 379 20 = true ∧ Run 127 [.ref 379] (g 6) (.inl none) h'
theorem s_Mill_finish_r (hx : isX h) (hr : gI h 0 6 = 0) : Run 145 [.ref 0] h (.inr 2) (hjunk h) := by
  refine ⟨Nat.le_of_ble_eq_true rfl, ?_⟩
  show Ev 145 0 [some (.ref 0), none, none] [] h _
  refine Er_run 1 (pc' := 1) (ls' := [some (.ref 0), none, none]) (st' := [.ref 0]) rfl ?_
  exact Er_invX (q' := 0) (ci := 11) (av := []) rfl rfl ⟨Nat.le_of_ble_eq_true rfl, Nat.le_of_ble_eq_true rfl⟩ rfl hx.1 (s_Mill_needRun0 hx hr) rfl ⟨rfl, rfl⟩
theorem l_round {g : Nat → sm_H} {z1 : Int32} {Q : sm_R → sm_H → Prop} (hg : ∀ v, v < 6 → isX (g v) ∧ sm_at (g v) (388 + 35 * v) 18 = true ∧ Run 92 [.ref (388 + 35 * v)] (g v) (.inl none) (g (v + 1))) (kk : Ev 145 54 [some (.ref 0), some (.int z1), some (.int (Int32.ofNat 6))] [] (g 6) Q) : ∀ (k v : Nat), v + k = 6 → Ev 145 33 [some (.ref 0), some (.int z1), some (.int (Int32.ofNat v))] [] (g v) Q := by
  intro k
  induction k with
  | zero =>
    intro v hvk
    refine Er_run 3 (pc' := bif decide (((6 : Int32)) ≤ (Int32.ofNat v)) then 54 else 39) (ls' := [some (.ref 0), some (.int z1), some (.int (Int32.ofNat v))]) (st' := []) rfl ?_
    refine Er_pc (t := 54) (show (bif decide (((6 : Int32)) ≤ (Int32.ofNat v)) then 54 else 39) = 54 from by rw [show (decide (((6 : Int32)) ≤ (Int32.ofNat v))) = true from by rw [show (6 : Int32) = Int32.ofNat 6 from rfl, jx_le (by omega) (by omega)]; exact decide_eq_true (by omega)]; rfl) ?_
    have e : v = 6 := by omega
    subst e
    exact kk
  | succ k ih =>
    intro v hvk
    have hv : v < 6 := by omega
    refine Er_run 3 (pc' := bif decide (((6 : Int32)) ≤ (Int32.ofNat v)) then 54 else 39) (ls' := [some (.ref 0), some (.int z1), some (.int (Int32.ofNat v))]) (st' := []) rfl ?_
    refine Er_pc (t := 39) (show (bif decide (((6 : Int32)) ≤ (Int32.ofNat v)) then 54 else 39) = 39 from by rw [show (decide (((6 : Int32)) ≤ (Int32.ofNat v))) = false from by rw [show (6 : Int32) = Int32.ofNat 6 from rfl, jx_le (by omega) (by omega)]; exact decide_eq_false (by omega)]; rfl) ?_
    refine Er_run 1 (pc' := 40) (ls' := [some (.ref 0), some (.int z1), some (.int (Int32.ofNat v))]) (st' := [.ref 0]) rfl ?_
    refine Er_getR (x := 378) rfl (hg v hv).1.1 (hg v hv).1.2.2.2.2.2.1 ?_
    refine Er_run 1 (pc' := 44) (ls' := [some (.ref 0), some (.int z1), some (.int (Int32.ofNat v))]) (st' := [.int (Int32.ofNat v), .ref 378]) rfl ?_
    refine Er_aald (x := 388 + 35 * v) rfl (hg v hv).1.2.2.2.2.2.2.2.1 (by rw [(hg v hv).1.2.2.2.2.2.2.2.2.1]; exact sm_in_of (by rw [sm_ofNat_toInt (by omega)]; omega) (by rw [sm_ofNat_toInt (by omega)]; omega)) (by rw [jx_cn (by omega)]; exact (hg v hv).1.2.2.2.2.2.2.2.2.2 v hv) ?_
    refine Er_inv0 (q' := 388 + 35 * v) (ci := 8) (av := []) (rest := []) rfl rfl ⟨Nat.le_of_ble_eq_true rfl, Nat.le_of_ble_eq_true rfl⟩ rfl rfl (hg v hv).2.1 (hg v hv).2.2 ?_
    refine Er_run 2 (pc' := 33) (ls' := [some (.ref 0), some (.int z1), some (.int ((Int32.ofNat v) + (1 : Int32)))]) (st' := []) rfl ?_
    rw [jx_s1]
    exact ih (v + 1) (by omega)
theorem l_finish {P : Nat → sm_H → Prop} {Q : sm_R → sm_H → Prop} (hP : ∀ n h, P n h → isX h ∧ sm_at h 379 20 = true ∧ ∃ b : Bool, Run 119 [.ref 379] h (.inl (some (.int (if b then 1 else 0)))) h ∧ (b = false → ∃ m h', n = m + 1 ∧ RND h h' ∧ P m h')) (kk : ∀ h n x1 x2, P n h → Run 119 [.ref 379] h (.inl (some (.int 1))) h → Ev 145 67 [some (.ref 0), x1, x2] [] h Q) : ∀ (k i : Nat) (h : sm_H) (x2 : Option Value), i + k < 1000000 → P k h → Ev 145 15 [some (.ref 0), some (.int (Int32.ofNat i)), x2] [] h Q := by
  intro k
  induction k using Nat.strongRecOn with
  | ind k ih =>
    intro i h x2 hi h0
    obtain ⟨hx, ha, b, ho, hn⟩ := hP k h h0
    cases hb : b with
    | true =>
      refine Er_run 3 (pc' := bif decide (((1000000 : Int32)) ≤ (Int32.ofNat i)) then 67 else 21) (ls' := [some (.ref 0), some (.int (Int32.ofNat i)), x2]) (st' := []) rfl ?_
      refine Er_pc (t := 21) (show (bif decide (((1000000 : Int32)) ≤ (Int32.ofNat i)) then 67 else 21) = 21 from by rw [show (decide (((1000000 : Int32)) ≤ (Int32.ofNat i))) = false from by rw [show (1000000 : Int32) = Int32.ofNat 1000000 from rfl, jx_le (by omega) (by omega)]; exact decide_eq_false (by omega)]; rfl) ?_
      refine Er_run 1 (pc' := 22) (ls' := [some (.ref 0), some (.int (Int32.ofNat i)), x2]) (st' := [.ref 0]) rfl ?_
      refine Er_getR (x := 379) rfl hx.1 hx.2.2.2.2.2.2.1 ?_
      have hov := ho
      rw [hb] at hov
      refine Er_inv1 (q' := 379) (ci := 10) (av := []) (rest := []) rfl rfl ⟨Nat.le_of_ble_eq_true rfl, Nat.le_of_ble_eq_true rfl⟩ rfl rfl ha hov ?_
      refine Er_run 1 (pc' := bif !decide (((1 : Int32)) = 0) then 67 else 31) (ls' := [some (.ref 0), some (.int (Int32.ofNat i)), x2]) (st' := []) rfl ?_
      refine Er_pc (t := 67) (show (bif !decide (((1 : Int32)) = 0) then 67 else 31) = 67 from by rw [show (!decide (((1 : Int32)) = 0)) = true from by decide]; rfl) ?_
      exact kk h k _ _ h0 hov
    | false =>
      obtain ⟨m, h1, hm, ⟨g, g0, hg, x6, a6, rM⟩, p1⟩ := hn hb
      refine Er_run 3 (pc' := bif decide (((1000000 : Int32)) ≤ (Int32.ofNat i)) then 67 else 21) (ls' := [some (.ref 0), some (.int (Int32.ofNat i)), x2]) (st' := []) rfl ?_
      refine Er_pc (t := 21) (show (bif decide (((1000000 : Int32)) ≤ (Int32.ofNat i)) then 67 else 21) = 21 from by rw [show (decide (((1000000 : Int32)) ≤ (Int32.ofNat i))) = false from by rw [show (1000000 : Int32) = Int32.ofNat 1000000 from rfl, jx_le (by omega) (by omega)]; exact decide_eq_false (by omega)]; rfl) ?_
      refine Er_run 1 (pc' := 22) (ls' := [some (.ref 0), some (.int (Int32.ofNat i)), x2]) (st' := [.ref 0]) rfl ?_
      refine Er_getR (x := 379) rfl hx.1 hx.2.2.2.2.2.2.1 ?_
      have hov := ho
      rw [hb] at hov
      refine Er_inv1 (q' := 379) (ci := 10) (av := []) (rest := []) rfl rfl ⟨Nat.le_of_ble_eq_true rfl, Nat.le_of_ble_eq_true rfl⟩ rfl rfl ha hov ?_
      refine Er_run 1 (pc' := bif !decide (((0 : Int32)) = 0) then 67 else 31) (ls' := [some (.ref 0), some (.int (Int32.ofNat i)), x2]) (st' := []) rfl ?_
      refine Er_pc (t := 31) (show (bif !decide (((0 : Int32)) = 0) then 67 else 31) = 31 from by rw [show (!decide (((0 : Int32)) = 0)) = false from by decide]; rfl) ?_
      refine Er_run 2 (pc' := 33) (ls' := [some (.ref 0), some (.int (Int32.ofNat i)), some (.int ((0 : Int32)))]) (st' := []) rfl ?_
      subst g0
      refine l_round hg ?_ 6 0 rfl
      refine Er_run 1 (pc' := 55) (ls' := [some (.ref 0), some (.int (Int32.ofNat i)), some (.int (Int32.ofNat 6))]) (st' := [.ref 0]) rfl ?_
      refine Er_getR (x := 379) rfl x6.1 x6.2.2.2.2.2.2.1 ?_
      refine Er_inv0 (q' := 379) (ci := 10) (av := []) (rest := []) rfl rfl ⟨Nat.le_of_ble_eq_true rfl, Nat.le_of_ble_eq_true rfl⟩ rfl rfl a6 rM ?_
      refine Er_run 2 (pc' := 15) (ls' := [some (.ref 0), some (.int ((Int32.ofNat i) + (1 : Int32))), some (.int (Int32.ofNat 6))]) (st' := []) rfl ?_
      rw [jx_s1]
      exact ih m (by omega) (i + 1) h1 _ (by omega) p1
theorem s_Mill_finish {P : Nat → sm_H → Prop} {h1 : sm_H} {k : Nat} (hx : isX h) (hr : gI h 0 6 = 1) (hl : LL h 144 L) (r1 : Run 71 [.ref 144, .int 0, .int 0] h (.inl none) h1) (p1 : P k h1) (hk : k < 1000000) (hP : ∀ n h, P n h → isX h ∧ sm_at h 379 20 = true ∧ ∃ b : Bool, Run 119 [.ref 379] h (.inl (some (.int (if b then 1 else 0)))) h ∧ (b = false → ∃ m h', n = m + 1 ∧ RND h h' ∧ P m h')) (hfj : ∀ h n, P n h → Run 119 [.ref 379] h (.inl (some (.int 1))) h → ∃ x, Run 120 [.ref 379] (setI h 0 6 0) (.inl (some (.int x))) (setI h 0 6 0)) : ∃ h2 k2 x, P k2 h2 ∧ Run 119 [.ref 379] h2 (.inl (some (.int 1))) h2 ∧ Run 120 [.ref 379] (setI h2 0 6 0) (.inl (some (.int x))) (setI h2 0 6 0) ∧ Run 145 [.ref 0] h (.inl (some (.int x))) (setI h2 0 6 0) := by
  have hx' : Ev 145 0 (sm_pad (sm_ent [.ref 0]) (sm_prog.2.1 145)) [] h (fun r h' => ∃ h2 k2 x, P k2 h2 ∧ Run 119 [.ref 379] h2 (.inl (some (.int 1))) h2 ∧ Run 120 [.ref 379] (setI h2 0 6 0) (.inl (some (.int x))) (setI h2 0 6 0) ∧ r = .inl (some (.int x)) ∧ h' = setI h2 0 6 0) := by
    show Ev 145 0 [some (.ref 0), none, none] [] h _
    refine Er_run 1 (pc' := 1) (ls' := [some (.ref 0), none, none]) (st' := [.ref 0]) rfl ?_
    refine Er_inv0 (q' := 0) (ci := 11) (av := []) (rest := []) rfl rfl ⟨Nat.le_of_ble_eq_true rfl, Nat.le_of_ble_eq_true rfl⟩ rfl rfl hx.1 (s_Mill_needRun1 hx hr) ?_
    refine Er_run 1 (pc' := 5) (ls' := [some (.ref 0), none, none]) (st' := [.ref 0]) rfl ?_
    refine Er_getR (x := 144) rfl hx.1 hx.2.2.2.1 ?_
    refine Er_run 2 (pc' := 10) (ls' := [some (.ref 0), none, none]) (st' := [.int ((0 : Int32)), .int ((0 : Int32)), .ref 144]) rfl ?_
    refine Er_inv0 (q' := 144) (ci := 6) (av := [.int ((0 : Int32)), .int ((0 : Int32))]) (rest := []) rfl rfl ⟨Nat.le_of_ble_eq_true rfl, Nat.le_of_ble_eq_true rfl⟩ rfl rfl hl.1.1 r1 ?_
    refine Er_run 2 (pc' := 15) (ls' := [some (.ref 0), some (.int ((0 : Int32))), none]) (st' := []) rfl ?_
    refine l_finish hP (fun h2 k2 x1 x2 hk2 ho2 => ?_) k 0 h1 none (by omega) p1
    refine Er_run 2 (pc' := 69) (ls' := [some (.ref 0), x1, x2]) (st' := [.int ((0 : Int32)), .ref 0]) rfl ?_
    refine Er_putZ rfl (hP k2 h2 hk2).1.1 (by decide) ?_
    refine Er_run 1 (pc' := 73) (ls' := [some (.ref 0), x1, x2]) (st' := [.ref 0]) rfl ?_
    refine Er_getR (x := 379) rfl (hP k2 h2 hk2).1.1 (hP k2 h2 hk2).1.2.2.2.2.2.2.1 ?_
    obtain ⟨xx, hxx⟩ := hfj h2 k2 hk2 ho2
    refine Er_inv1 (q' := 379) (ci := 10) (av := []) (rest := []) rfl rfl ⟨Nat.le_of_ble_eq_true rfl, Nat.le_of_ble_eq_true rfl⟩ rfl rfl (hP k2 h2 hk2).2.1 hxx ?_
    exact Er_fin rfl rfl ⟨h2, k2, xx, hk2, ho2, hxx, rfl, rfl⟩
  obtain ⟨r, h', hrr, h2, k2, x, e1, e2, e3, e4, e5⟩ := Run_of (Nat.le_of_ble_eq_true rfl) hx'
  subst e4
  subst e5
  exact ⟨h2, k2, x, e1, e2, e3, hrr⟩
end MILE
