/-! class ShuffleMill at cell 0: Store 1, draft 141, Line 144, Journal 373, the workers' row 378, Master 379, Workers from 388 on (35 cells each) -/
def isX (h : sm_H) : Prop := sm_at h 0 21 = true ∧ gR h 0 0 = some 1 ∧ gR h 0 1 = some 141 ∧ gR h 0 2 = some 144 ∧ gR h 0 3 = some 373 ∧ gR h 0 4 = some 378 ∧ gR h 0 5 = some 379 ∧ sm_at h 378 7 = true ∧ (gS h 378).2 = 6 ∧ ∀ i, i < 6 → gR h 378 i = some (388 + 35 * i)
section MILL
variable {h : sm_H} {cl : List Nat} {G : Nat → Nat → Int32} {PR : Nat → Nat → List (Int32 × Int64)} {F : Nat → Jl} {f : Nat} {x : Int32}
theorem Er_staX {M pc b N j : Nat} {ls : sm_L} {Q : sm_R → sm_H → Prop} {cx : Int} {l : List Nat} {st av : List Value} {h1 : sm_H} (ho : sm_code M pc = some (69, N, b, cx, l)) (hl : l.getD 1 0 = 0) (hb : b ≤ st.length ∧ sm_wt (st.drop b) ≤ 8) (hav : (st.take b).reverse = av) (hr : Run N av h (.inr j) h1) (hc : sm_ca M pc j = some none) (hQ : Q (.inr j) h1) : Ev M pc ls st h Q := by
  refine Er_callX (av := av) (rest := st.drop b) ho ?_ hr hc hQ
  show (if b ≤ st.length ∧ sm_wt (st.drop b) ≤ 8 ∧ sm_rcv h (l.getD 1 0) (st.take b).reverse = true then some (Sum.inr (Sum.inl (N, (st.take b).reverse, st.drop b))) else (none : Option sm_N)) = _
  rw [hav, hl, if_pos ⟨hb.1, hb.2, rfl⟩]
theorem isX_fr {lo hi : Nat} {h' : sm_H} (z : Fr lo hi h h') (hd : hi ≤ 378 ∨ 379 ≤ lo) (h0 : 1 ≤ lo) (hp : isX h) : isX h' := by
  obtain ⟨a1, a2, a3, a4, a5, a6, a7, a8, a9, a10⟩ := hp
  have e := (z.2.2.2.2 0 (by omega)).2.2
  exact ⟨by rw [z.at]; exact a1, by rw [e]; exact a2, by rw [e]; exact a3, by rw [e]; exact a4, by rw [e]; exact a5, by rw [e]; exact a6, by rw [e]; exact a7, by rw [z.at]; exact a8, by rw [z.2.1]; exact a9, fun i hi => by rw [(z.2.2.2.2 378 (by omega)).2.2]; exact a10 i hi⟩
/-- an int that is one of 0 to n - 1, or not -/
def jn_out (x : Int32) (n : Nat) : Prop := x.toInt < 0 ∨ (n : Int) ≤ x.toInt
theorem jn_in (x : Int32) {n : Nat} (h : ¬ jn_out x n) : ∃ k, k < n ∧ x = Int32.ofNat k := by
  have h0 : 0 ≤ x.toInt := by rw [jn_out] at h; omega
  have h1 : x.toInt < n := by rw [jn_out] at h; omega
  refine ⟨x.toInt.toNat, by omega, ?_⟩
  rw [← Int32.ofInt_eq_ofNat, Int.toNat_of_nonneg h0]; exact (Int32.ofInt_toInt x).symm

theorem s_Mill_isFile1 (hf : f < 16) : Run 154 [.int (Int32.ofNat f)] h (.inl (some (.int ((1 : Int32))))) h := by
  refine ⟨Nat.le_of_ble_eq_true rfl, ?_⟩
  show Ev 154 0 [some (.int (Int32.ofNat f))] [] h _
  refine Er_run 2 (pc' := bif decide ((Int32.ofNat f) < 0) then 14 else 4) (ls' := [some (.int (Int32.ofNat f))]) (st' := []) rfl ?_
  refine Er_pc (t := 4) (show (bif decide ((Int32.ofNat f) < 0) then 14 else 4) = 4 from by rw [show (decide ((Int32.ofNat f) < 0)) = false from sm_nn (by rw [sm_ofNat_toInt (by omega)]; omega)]; rfl) ?_
  refine Er_run 3 (pc' := bif decide (((16 : Int32)) ≤ (Int32.ofNat f)) then 14 else 10) (ls' := [some (.int (Int32.ofNat f))]) (st' := []) rfl ?_
  refine Er_pc (t := 10) (show (bif decide (((16 : Int32)) ≤ (Int32.ofNat f)) then 14 else 10) = 10 from by rw [show (decide (((16 : Int32)) ≤ (Int32.ofNat f))) = false from by rw [show (16 : Int32) = Int32.ofNat 16 from rfl, jx_le (by omega) (by omega)]; exact decide_eq_false (by omega)]; rfl) ?_
  refine Er_run 2 (pc' := 15) (ls' := [some (.int (Int32.ofNat f))]) (st' := [.int ((1 : Int32))]) rfl ?_
  exact Er_fin rfl rfl ⟨rfl, rfl⟩
theorem s_Mill_isFile0 (hf : jn_out x 16) : Run 154 [.int x] h (.inl (some (.int 0))) h := by
  have h1 : ¬ x < 0 → (16 : Int) ≤ x.toInt := by
    intro h0
    rw [Int32.lt_iff_toInt_lt] at h0
    have h0' : ¬ x.toInt < 0 := h0
    rw [jn_out] at hf
    omega
  refine ⟨Nat.le_of_ble_eq_true rfl, ?_⟩
  by_cases h0 : x < 0
  · skip
    show Ev 154 0 [some (.int x)] [] h _
    refine Er_run 2 (pc' := bif decide (x < 0) then 14 else 4) (ls' := [some (.int x)]) (st' := []) rfl ?_
    refine Er_pc (t := 14) (show (bif decide (x < 0) then 14 else 4) = 14 from by rw [show (decide (x < 0)) = true from decide_eq_true h0]; rfl) ?_
    refine Er_run 1 (pc' := 15) (ls' := [some (.int x)]) (st' := [.int ((0 : Int32))]) rfl ?_
    exact Er_fin rfl rfl ⟨rfl, rfl⟩
  · have h2 := h1 h0
    show Ev 154 0 [some (.int x)] [] h _
    refine Er_run 2 (pc' := bif decide (x < 0) then 14 else 4) (ls' := [some (.int x)]) (st' := []) rfl ?_
    refine Er_pc (t := 4) (show (bif decide (x < 0) then 14 else 4) = 4 from by rw [show (decide (x < 0)) = false from decide_eq_false h0]; rfl) ?_
    refine Er_run 3 (pc' := bif decide (((16 : Int32)) ≤ x) then 14 else 10) (ls' := [some (.int x)]) (st' := []) rfl ?_
    refine Er_pc (t := 14) (show (bif decide (((16 : Int32)) ≤ x) then 14 else 10) = 14 from by rw [show (decide (((16 : Int32)) ≤ x)) = true from decide_eq_true (by rw [Int32.le_iff_toInt_le]; show (16 : Int) ≤ x.toInt; omega)]; rfl) ?_
    refine Er_run 1 (pc' := 15) (ls' := [some (.int x)]) (st' := [.int ((0 : Int32))]) rfl ?_
    exact Er_fin rfl rfl ⟨rfl, rfl⟩
theorem s_Mill_needFile1 (hf : f < 16) : Run 155 [.int (Int32.ofNat f)] h (.inl none) h := by
  refine ⟨Nat.le_of_ble_eq_true rfl, ?_⟩
  show Ev 155 0 [some (.int (Int32.ofNat f))] [] h _
  refine Er_run 1 (pc' := 1) (ls' := [some (.int (Int32.ofNat f))]) (st' := [.int (Int32.ofNat f)]) rfl ?_
  refine Er_sta1 (av := [.int (Int32.ofNat f)]) (rest := []) rfl rfl ⟨Nat.le_of_ble_eq_true rfl, Nat.le_of_ble_eq_true rfl⟩ rfl rfl (s_Mill_isFile1 hf) ?_
  refine Er_run 1 (pc' := bif !decide (((1 : Int32)) = 0) then 17 else 7) (ls' := [some (.int (Int32.ofNat f))]) (st' := []) rfl ?_
  refine Er_pc (t := 17) (show (bif !decide (((1 : Int32)) = 0) then 17 else 7) = 17 from by rw [show (!decide (((1 : Int32)) = 0)) = true from by decide]; rfl) ?_
  exact Er_fin rfl rfl ⟨rfl, rfl⟩
theorem s_Mill_needFile0 (hf : jn_out x 16) : Run 155 [.int x] h (.inr 0) (hjunk h) := by
  refine ⟨Nat.le_of_ble_eq_true rfl, ?_⟩
  show Ev 155 0 [some (.int x)] [] h _
  refine Er_run 1 (pc' := 1) (ls' := [some (.int x)]) (st' := [.int x]) rfl ?_
  refine Er_sta1 (av := [.int x]) (rest := []) rfl rfl ⟨Nat.le_of_ble_eq_true rfl, Nat.le_of_ble_eq_true rfl⟩ rfl rfl (s_Mill_isFile0 hf) ?_
  refine Er_run 1 (pc' := bif !decide (((0 : Int32)) = 0) then 17 else 7) (ls' := [some (.int x)]) (st' := []) rfl ?_
  refine Er_pc (t := 7) (show (bif !decide (((0 : Int32)) = 0) then 17 else 7) = 7 from by rw [show (!decide (((0 : Int32)) = 0)) = false from by decide]; rfl) ?_
  exact Er_fin rfl rfl ⟨rfl, rfl⟩
theorem s_Mill_needJobNumber1 (hf : f < 8) : Run 156 [.int (Int32.ofNat f)] h (.inl none) h := by
  refine ⟨Nat.le_of_ble_eq_true rfl, ?_⟩
  show Ev 156 0 [some (.int (Int32.ofNat f))] [] h _
  refine Er_run 2 (pc' := bif decide ((Int32.ofNat f) < 0) then 10 else 4) (ls' := [some (.int (Int32.ofNat f))]) (st' := []) rfl ?_
  refine Er_pc (t := 4) (show (bif decide ((Int32.ofNat f) < 0) then 10 else 4) = 4 from by rw [show (decide ((Int32.ofNat f) < 0)) = false from sm_nn (by rw [sm_ofNat_toInt (by omega)]; omega)]; rfl) ?_
  refine Er_run 3 (pc' := bif decide ((Int32.ofNat f) < ((8 : Int32))) then 21 else 10) (ls' := [some (.int (Int32.ofNat f))]) (st' := []) rfl ?_
  refine Er_pc (t := 21) (show (bif decide ((Int32.ofNat f) < ((8 : Int32))) then 21 else 10) = 21 from by rw [show (decide ((Int32.ofNat f) < ((8 : Int32)))) = true from by rw [show (8 : Int32) = Int32.ofNat 8 from rfl, jx_lt (by omega) (by omega)]; exact decide_eq_true (by omega)]; rfl) ?_
  exact Er_fin rfl rfl ⟨rfl, rfl⟩
theorem s_Mill_needJobNumber0 (hf : jn_out x 8) : Run 156 [.int x] h (.inr 0) (hjunk h) := by
  have h1 : ¬ x < 0 → (8 : Int) ≤ x.toInt := by
    intro h0
    rw [Int32.lt_iff_toInt_lt] at h0
    have h0' : ¬ x.toInt < 0 := h0
    rw [jn_out] at hf
    omega
  refine ⟨Nat.le_of_ble_eq_true rfl, ?_⟩
  by_cases h0 : x < 0
  · skip
    show Ev 156 0 [some (.int x)] [] h _
    refine Er_run 2 (pc' := bif decide (x < 0) then 10 else 4) (ls' := [some (.int x)]) (st' := []) rfl ?_
    refine Er_pc (t := 10) (show (bif decide (x < 0) then 10 else 4) = 10 from by rw [show (decide (x < 0)) = true from decide_eq_true h0]; rfl) ?_
    exact Er_fin rfl rfl ⟨rfl, rfl⟩
  · have h2 := h1 h0
    show Ev 156 0 [some (.int x)] [] h _
    refine Er_run 2 (pc' := bif decide (x < 0) then 10 else 4) (ls' := [some (.int x)]) (st' := []) rfl ?_
    refine Er_pc (t := 4) (show (bif decide (x < 0) then 10 else 4) = 4 from by rw [show (decide (x < 0)) = false from decide_eq_false h0]; rfl) ?_
    refine Er_run 3 (pc' := bif decide (x < ((8 : Int32))) then 21 else 10) (ls' := [some (.int x)]) (st' := []) rfl ?_
    refine Er_pc (t := 10) (show (bif decide (x < ((8 : Int32))) then 21 else 10) = 10 from by rw [show (decide (x < ((8 : Int32)))) = false from decide_eq_false (by rw [Int32.lt_iff_toInt_lt]; show ¬ x.toInt < (8 : Int); omega)]; rfl) ?_
    exact Er_fin rfl rfl ⟨rfl, rfl⟩
theorem s_Mill_needNode1 (hf : f < 7) : Run 157 [.int (Int32.ofNat f)] h (.inl none) h := by
  refine ⟨Nat.le_of_ble_eq_true rfl, ?_⟩
  show Ev 157 0 [some (.int (Int32.ofNat f))] [] h _
  refine Er_run 2 (pc' := bif decide ((Int32.ofNat f) < 0) then 10 else 4) (ls' := [some (.int (Int32.ofNat f))]) (st' := []) rfl ?_
  refine Er_pc (t := 4) (show (bif decide ((Int32.ofNat f) < 0) then 10 else 4) = 4 from by rw [show (decide ((Int32.ofNat f) < 0)) = false from sm_nn (by rw [sm_ofNat_toInt (by omega)]; omega)]; rfl) ?_
  refine Er_run 3 (pc' := bif decide ((Int32.ofNat f) < ((7 : Int32))) then 21 else 10) (ls' := [some (.int (Int32.ofNat f))]) (st' := []) rfl ?_
  refine Er_pc (t := 21) (show (bif decide ((Int32.ofNat f) < ((7 : Int32))) then 21 else 10) = 21 from by rw [show (decide ((Int32.ofNat f) < ((7 : Int32)))) = true from by rw [show (7 : Int32) = Int32.ofNat 7 from rfl, jx_lt (by omega) (by omega)]; exact decide_eq_true (by omega)]; rfl) ?_
  exact Er_fin rfl rfl ⟨rfl, rfl⟩
theorem s_Mill_needNode0 (hf : jn_out x 7) : Run 157 [.int x] h (.inr 0) (hjunk h) := by
  have h1 : ¬ x < 0 → (7 : Int) ≤ x.toInt := by
    intro h0
    rw [Int32.lt_iff_toInt_lt] at h0
    have h0' : ¬ x.toInt < 0 := h0
    rw [jn_out] at hf
    omega
  refine ⟨Nat.le_of_ble_eq_true rfl, ?_⟩
  by_cases h0 : x < 0
  · skip
    show Ev 157 0 [some (.int x)] [] h _
    refine Er_run 2 (pc' := bif decide (x < 0) then 10 else 4) (ls' := [some (.int x)]) (st' := []) rfl ?_
    refine Er_pc (t := 10) (show (bif decide (x < 0) then 10 else 4) = 10 from by rw [show (decide (x < 0)) = true from decide_eq_true h0]; rfl) ?_
    exact Er_fin rfl rfl ⟨rfl, rfl⟩
  · have h2 := h1 h0
    show Ev 157 0 [some (.int x)] [] h _
    refine Er_run 2 (pc' := bif decide (x < 0) then 10 else 4) (ls' := [some (.int x)]) (st' := []) rfl ?_
    refine Er_pc (t := 4) (show (bif decide (x < 0) then 10 else 4) = 4 from by rw [show (decide (x < 0)) = false from decide_eq_false h0]; rfl) ?_
    refine Er_run 3 (pc' := bif decide (x < ((7 : Int32))) then 21 else 10) (ls' := [some (.int x)]) (st' := []) rfl ?_
    refine Er_pc (t := 10) (show (bif decide (x < ((7 : Int32))) then 21 else 10) = 10 from by rw [show (decide (x < ((7 : Int32)))) = false from decide_eq_false (by rw [Int32.lt_iff_toInt_lt]; show ¬ x.toInt < (7 : Int); omega)]; rfl) ?_
    exact Er_fin rfl rfl ⟨rfl, rfl⟩
theorem s_Mill_needRest1 (hx : isX h) (hr : gI h 0 6 = 0) : Run 152 [.ref 0] h (.inl none) h := by
  refine ⟨Nat.le_of_ble_eq_true rfl, ?_⟩
  show Ev 152 0 [some (.ref 0)] [] h _
  refine Er_run 1 (pc' := 1) (ls' := [some (.ref 0)]) (st' := [.ref 0]) rfl ?_
  refine Er_getI (v := (0 : Int32)) rfl hx.1 hr ?_
  refine Er_run 1 (pc' := bif decide (((0 : Int32)) = 0) then 18 else 7) (ls' := [some (.ref 0)]) (st' := []) rfl ?_
  refine Er_pc (t := 18) (show (bif decide (((0 : Int32)) = 0) then 18 else 7) = 18 from by rw [show (decide (((0 : Int32)) = 0)) = true from by decide]; rfl) ?_
  exact Er_fin rfl rfl ⟨rfl, rfl⟩
theorem s_Mill_needRest0 (hx : isX h) (hr : gI h 0 6 = 1) : Run 152 [.ref 0] h (.inr 2) (hjunk h) := by
  refine ⟨Nat.le_of_ble_eq_true rfl, ?_⟩
  show Ev 152 0 [some (.ref 0)] [] h _
  refine Er_run 1 (pc' := 1) (ls' := [some (.ref 0)]) (st' := [.ref 0]) rfl ?_
  refine Er_getI (v := (1 : Int32)) rfl hx.1 hr ?_
  refine Er_run 1 (pc' := bif decide (((1 : Int32)) = 0) then 18 else 7) (ls' := [some (.ref 0)]) (st' := []) rfl ?_
  refine Er_pc (t := 7) (show (bif decide (((1 : Int32)) = 0) then 18 else 7) = 7 from by rw [show (decide (((1 : Int32)) = 0)) = false from by decide]; rfl) ?_
  exact Er_fin rfl rfl ⟨rfl, rfl⟩
theorem s_Mill_needRun1 (hx : isX h) (hr : gI h 0 6 = 1) : Run 153 [.ref 0] h (.inl none) h := by
  refine ⟨Nat.le_of_ble_eq_true rfl, ?_⟩
  show Ev 153 0 [some (.ref 0)] [] h _
  refine Er_run 1 (pc' := 1) (ls' := [some (.ref 0)]) (st' := [.ref 0]) rfl ?_
  refine Er_getI (v := (1 : Int32)) rfl hx.1 hr ?_
  refine Er_run 1 (pc' := bif !decide (((1 : Int32)) = 0) then 18 else 7) (ls' := [some (.ref 0)]) (st' := []) rfl ?_
  refine Er_pc (t := 18) (show (bif !decide (((1 : Int32)) = 0) then 18 else 7) = 18 from by rw [show (!decide (((1 : Int32)) = 0)) = true from by decide]; rfl) ?_
  exact Er_fin rfl rfl ⟨rfl, rfl⟩
theorem s_Mill_needRun0 (hx : isX h) (hr : gI h 0 6 = 0) : Run 153 [.ref 0] h (.inr 2) (hjunk h) := by
  refine ⟨Nat.le_of_ble_eq_true rfl, ?_⟩
  show Ev 153 0 [some (.ref 0)] [] h _
  refine Er_run 1 (pc' := 1) (ls' := [some (.ref 0)]) (st' := [.ref 0]) rfl ?_
  refine Er_getI (v := (0 : Int32)) rfl hx.1 hr ?_
  refine Er_run 1 (pc' := bif !decide (((0 : Int32)) = 0) then 18 else 7) (ls' := [some (.ref 0)]) (st' := []) rfl ?_
  refine Er_pc (t := 7) (show (bif !decide (((0 : Int32)) = 0) then 18 else 7) = 7 from by rw [show (!decide (((0 : Int32)) = 0)) = false from by decide]; rfl) ?_
  exact Er_fin rfl rfl ⟨rfl, rfl⟩
theorem s_Mill_record_x {k v : Int64} (hx : isX h) (hf : jn_out x 16) : Run 135 [.ref 0, .int x, .long k, .long v] h (.inr 0) (hjunk h) := by
  refine ⟨Nat.le_of_ble_eq_true rfl, ?_⟩
  show Ev 135 0 [some (.ref 0), some (.int x), some (.long k), none, some (.long v), none, none] [] h _
  refine Er_run 1 (pc' := 1) (ls' := [some (.ref 0), some (.int x), some (.long k), none, some (.long v), none, none]) (st' := [.int x]) rfl ?_
  exact Er_staX (av := [.int x]) rfl rfl ⟨Nat.le_of_ble_eq_true rfl, Nat.le_of_ble_eq_true rfl⟩ rfl (s_Mill_needFile0 hf) rfl ⟨rfl, rfl⟩
theorem s_Mill_record_r {k v : Int64} (hx : isX h) (hf : f < 16) (hr : gI h 0 6 = 1) : Run 135 [.ref 0, .int (Int32.ofNat f), .long k, .long v] h (.inr 2) (hjunk h) := by
  refine ⟨Nat.le_of_ble_eq_true rfl, ?_⟩
  show Ev 135 0 [some (.ref 0), some (.int (Int32.ofNat f)), some (.long k), none, some (.long v), none, none] [] h _
  refine Er_run 1 (pc' := 1) (ls' := [some (.ref 0), some (.int (Int32.ofNat f)), some (.long k), none, some (.long v), none, none]) (st' := [.int (Int32.ofNat f)]) rfl ?_
  refine Er_sta0 (av := [.int (Int32.ofNat f)]) (rest := []) rfl rfl ⟨Nat.le_of_ble_eq_true rfl, Nat.le_of_ble_eq_true rfl⟩ rfl rfl (s_Mill_needFile1 hf) ?_
  refine Er_run 1 (pc' := 5) (ls' := [some (.ref 0), some (.int (Int32.ofNat f)), some (.long k), none, some (.long v), none, none]) (st' := [.ref 0]) rfl ?_
  exact Er_invX (q' := 0) (ci := 11) (av := []) rfl rfl ⟨Nat.le_of_ble_eq_true rfl, Nat.le_of_ble_eq_true rfl⟩ rfl hx.1 (s_Mill_needRest0 hx hr) rfl ⟨rfl, rfl⟩
theorem s_Mill_clear_x (hx : isX h) (hf : jn_out x 16) : Run 136 [.ref 0, .int x] h (.inr 0) (hjunk h) := by
  refine ⟨Nat.le_of_ble_eq_true rfl, ?_⟩
  show Ev 136 0 [some (.ref 0), some (.int x), none, none] [] h _
  refine Er_run 1 (pc' := 1) (ls' := [some (.ref 0), some (.int x), none, none]) (st' := [.int x]) rfl ?_
  exact Er_staX (av := [.int x]) rfl rfl ⟨Nat.le_of_ble_eq_true rfl, Nat.le_of_ble_eq_true rfl⟩ rfl (s_Mill_needFile0 hf) rfl ⟨rfl, rfl⟩
theorem s_Mill_clear_r (hx : isX h) (hf : f < 16) (hr : gI h 0 6 = 1) : Run 136 [.ref 0, .int (Int32.ofNat f)] h (.inr 2) (hjunk h) := by
  refine ⟨Nat.le_of_ble_eq_true rfl, ?_⟩
  show Ev 136 0 [some (.ref 0), some (.int (Int32.ofNat f)), none, none] [] h _
  refine Er_run 1 (pc' := 1) (ls' := [some (.ref 0), some (.int (Int32.ofNat f)), none, none]) (st' := [.int (Int32.ofNat f)]) rfl ?_
  refine Er_sta0 (av := [.int (Int32.ofNat f)]) (rest := []) rfl rfl ⟨Nat.le_of_ble_eq_true rfl, Nat.le_of_ble_eq_true rfl⟩ rfl rfl (s_Mill_needFile1 hf) ?_
  refine Er_run 1 (pc' := 5) (ls' := [some (.ref 0), some (.int (Int32.ofNat f)), none, none]) (st' := [.ref 0]) rfl ?_
  exact Er_invX (q' := 0) (ci := 11) (av := []) rfl rfl ⟨Nat.le_of_ble_eq_true rfl, Nat.le_of_ble_eq_true rfl⟩ rfl hx.1 (s_Mill_needRest0 hx hr) rfl ⟨rfl, rfl⟩
theorem s_Mill_size_x (hx : isX h) (hf : jn_out x 16) : Run 147 [.ref 0, .int x] h (.inr 0) (hjunk h) := by
  refine ⟨Nat.le_of_ble_eq_true rfl, ?_⟩
  show Ev 147 0 [some (.ref 0), some (.int x)] [] h _
  refine Er_run 1 (pc' := 1) (ls' := [some (.ref 0), some (.int x)]) (st' := [.int x]) rfl ?_
  exact Er_staX (av := [.int x]) rfl rfl ⟨Nat.le_of_ble_eq_true rfl, Nat.le_of_ble_eq_true rfl⟩ rfl (s_Mill_needFile0 hf) rfl ⟨rfl, rfl⟩
theorem s_Mill_size_r (hx : isX h) (hf : f < 16) (hr : gI h 0 6 = 1) : Run 147 [.ref 0, .int (Int32.ofNat f)] h (.inr 2) (hjunk h) := by
  refine ⟨Nat.le_of_ble_eq_true rfl, ?_⟩
  show Ev 147 0 [some (.ref 0), some (.int (Int32.ofNat f))] [] h _
  refine Er_run 1 (pc' := 1) (ls' := [some (.ref 0), some (.int (Int32.ofNat f))]) (st' := [.int (Int32.ofNat f)]) rfl ?_
  refine Er_sta0 (av := [.int (Int32.ofNat f)]) (rest := []) rfl rfl ⟨Nat.le_of_ble_eq_true rfl, Nat.le_of_ble_eq_true rfl⟩ rfl rfl (s_Mill_needFile1 hf) ?_
  refine Er_run 1 (pc' := 5) (ls' := [some (.ref 0), some (.int (Int32.ofNat f))]) (st' := [.ref 0]) rfl ?_
  exact Er_invX (q' := 0) (ci := 11) (av := []) rfl rfl ⟨Nat.le_of_ble_eq_true rfl, Nat.le_of_ble_eq_true rfl⟩ rfl hx.1 (s_Mill_needRest0 hx hr) rfl ⟨rfl, rfl⟩
theorem s_Mill_told_x {i b : Int32} (hx : isX h) (hf : jn_out x 16) : Run 146 [.ref 0, .int x, .int i, .int b] h (.inr 0) (hjunk h) := by
  refine ⟨Nat.le_of_ble_eq_true rfl, ?_⟩
  show Ev 146 0 [some (.ref 0), some (.int x), some (.int i), some (.int b), none] [] h _
  refine Er_run 1 (pc' := 1) (ls' := [some (.ref 0), some (.int x), some (.int i), some (.int b), none]) (st' := [.int x]) rfl ?_
  exact Er_staX (av := [.int x]) rfl rfl ⟨Nat.le_of_ble_eq_true rfl, Nat.le_of_ble_eq_true rfl⟩ rfl (s_Mill_needFile0 hf) rfl ⟨rfl, rfl⟩
theorem s_Mill_told_r {i b : Int32} (hx : isX h) (hf : f < 16) (hr : gI h 0 6 = 1) : Run 146 [.ref 0, .int (Int32.ofNat f), .int i, .int b] h (.inr 2) (hjunk h) := by
  refine ⟨Nat.le_of_ble_eq_true rfl, ?_⟩
  show Ev 146 0 [some (.ref 0), some (.int (Int32.ofNat f)), some (.int i), some (.int b), none] [] h _
  refine Er_run 1 (pc' := 1) (ls' := [some (.ref 0), some (.int (Int32.ofNat f)), some (.int i), some (.int b), none]) (st' := [.int (Int32.ofNat f)]) rfl ?_
  refine Er_sta0 (av := [.int (Int32.ofNat f)]) (rest := []) rfl rfl ⟨Nat.le_of_ble_eq_true rfl, Nat.le_of_ble_eq_true rfl⟩ rfl rfl (s_Mill_needFile1 hf) ?_
  refine Er_run 1 (pc' := 5) (ls' := [some (.ref 0), some (.int (Int32.ofNat f)), some (.int i), some (.int b), none]) (st' := [.ref 0]) rfl ?_
  exact Er_invX (q' := 0) (ci := 11) (av := []) rfl rfl ⟨Nat.le_of_ble_eq_true rfl, Nat.le_of_ble_eq_true rfl⟩ rfl hx.1 (s_Mill_needRest0 hx hr) rfl ⟨rfl, rfl⟩
theorem s_Mill_record_f {k v : Int64} (hx : isX h) (hs : ST h 1 cl G PR F) (hf : f < 16) (hr : gI h 0 6 = 0) (hl : (F f).length = 300) : Run 135 [.ref 0, .int (Int32.ofNat f), .long k, .long v] h (.inr 2) (hjunk h) := by
  refine ⟨Nat.le_of_ble_eq_true rfl, ?_⟩
  show Ev 135 0 [some (.ref 0), some (.int (Int32.ofNat f)), some (.long k), none, some (.long v), none, none] [] h _
  refine Er_run 1 (pc' := 1) (ls' := [some (.ref 0), some (.int (Int32.ofNat f)), some (.long k), none, some (.long v), none, none]) (st' := [.int (Int32.ofNat f)]) rfl ?_
  refine Er_sta0 (av := [.int (Int32.ofNat f)]) (rest := []) rfl rfl ⟨Nat.le_of_ble_eq_true rfl, Nat.le_of_ble_eq_true rfl⟩ rfl rfl (s_Mill_needFile1 hf) ?_
  refine Er_run 1 (pc' := 5) (ls' := [some (.ref 0), some (.int (Int32.ofNat f)), some (.long k), none, some (.long v), none, none]) (st' := [.ref 0]) rfl ?_
  refine Er_inv0 (q' := 0) (ci := 11) (av := []) (rest := []) rfl rfl ⟨Nat.le_of_ble_eq_true rfl, Nat.le_of_ble_eq_true rfl⟩ rfl rfl hx.1 (s_Mill_needRest1 hx hr) ?_
  refine Er_run 1 (pc' := 9) (ls' := [some (.ref 0), some (.int (Int32.ofNat f)), some (.long k), none, some (.long v), none, none]) (st' := [.ref 0]) rfl ?_
  refine Er_getR (x := 1) rfl hx.1 hx.2.1 ?_
  refine Er_run 1 (pc' := 13) (ls' := [some (.ref 0), some (.int (Int32.ofNat f)), some (.long k), none, some (.long v), none, none]) (st' := [.int (Int32.ofNat f), .ref 1]) rfl ?_
  refine Er_inv1 (q' := 1) (ci := 3) (av := [.int (Int32.ofNat f)]) (rest := []) rfl rfl ⟨Nat.le_of_ble_eq_true rfl, Nat.le_of_ble_eq_true rfl⟩ rfl rfl hs.1.1 (s_Store_file hs.1 hf) ?_
  refine Er_run 4 (pc' := 23) (ls' := [some (.ref 0), some (.int (Int32.ofNat f)), some (.long k), none, some (.long v), none, some (.ref (1 + 4 + 3 * f))]) (st' := [.long v, .long k, .ref (1 + 4 + 3 * f)]) rfl ?_
  refine Er_inv1 (q' := 1 + 4 + 3 * f) (ci := 0) (av := [.long k, .long v]) (rest := []) rfl rfl ⟨Nat.le_of_ble_eq_true rfl, Nat.le_of_ble_eq_true rfl⟩ rfl rfl (hs.2.2.1 f hf).1.1 (s_Pairs_add0 (hs.2.2.1 f hf) hl) ?_
  refine Er_run 1 (pc' := bif !decide (((0 : Int32)) = 0) then 39 else 29) (ls' := [some (.ref 0), some (.int (Int32.ofNat f)), some (.long k), none, some (.long v), none, some (.ref (1 + 4 + 3 * f))]) (st' := []) rfl ?_
  refine Er_pc (t := 29) (show (bif !decide (((0 : Int32)) = 0) then 39 else 29) = 29 from by rw [show (!decide (((0 : Int32)) = 0)) = false from by decide]; rfl) ?_
  exact Er_fin rfl rfl ⟨rfl, rfl⟩
theorem s_Mill_record {k v : Int64} (hx : isX h) (hs : ST h 1 cl G PR F) (hf : f < 16) (hr : gI h 0 6 = 0) (hl : (F f).length < 300) : ∃ h', Run 135 [.ref 0, .int (Int32.ofNat f), .long k, .long v] h (.inl (some (.int (Int32.ofNat ((F f).length + 1))))) h' ∧ ST h' 1 cl G PR (jx_up F f (F f ++ [(k, v)])) ∧ Fr (1 + 4 + 3 * f) (1 + 4 + 3 * f + 3) h h' := by
  have hx : Ev 135 0 (sm_pad (sm_ent [.ref 0, .int (Int32.ofNat f), .long k, .long v]) (sm_prog.2.1 135)) [] h (fun r h1 => r = .inl (some (.int (Int32.ofNat ((F f).length + 1)))) ∧ ST h1 1 cl G PR (jx_up F f (F f ++ [(k, v)])) ∧ Fr (1 + 4 + 3 * f) (1 + 4 + 3 * f + 3) h h1) := by
    show Ev 135 0 [some (.ref 0), some (.int (Int32.ofNat f)), some (.long k), none, some (.long v), none, none] [] h _
    refine Er_run 1 (pc' := 1) (ls' := [some (.ref 0), some (.int (Int32.ofNat f)), some (.long k), none, some (.long v), none, none]) (st' := [.int (Int32.ofNat f)]) rfl ?_
    refine Er_sta0 (av := [.int (Int32.ofNat f)]) (rest := []) rfl rfl ⟨Nat.le_of_ble_eq_true rfl, Nat.le_of_ble_eq_true rfl⟩ rfl rfl (s_Mill_needFile1 hf) ?_
    refine Er_run 1 (pc' := 5) (ls' := [some (.ref 0), some (.int (Int32.ofNat f)), some (.long k), none, some (.long v), none, none]) (st' := [.ref 0]) rfl ?_
    refine Er_inv0 (q' := 0) (ci := 11) (av := []) (rest := []) rfl rfl ⟨Nat.le_of_ble_eq_true rfl, Nat.le_of_ble_eq_true rfl⟩ rfl rfl hx.1 (s_Mill_needRest1 hx hr) ?_
    refine Er_run 1 (pc' := 9) (ls' := [some (.ref 0), some (.int (Int32.ofNat f)), some (.long k), none, some (.long v), none, none]) (st' := [.ref 0]) rfl ?_
    refine Er_getR (x := 1) rfl hx.1 hx.2.1 ?_
    refine Er_run 1 (pc' := 13) (ls' := [some (.ref 0), some (.int (Int32.ofNat f)), some (.long k), none, some (.long v), none, none]) (st' := [.int (Int32.ofNat f), .ref 1]) rfl ?_
    refine Er_inv1 (q' := 1) (ci := 3) (av := [.int (Int32.ofNat f)]) (rest := []) rfl rfl ⟨Nat.le_of_ble_eq_true rfl, Nat.le_of_ble_eq_true rfl⟩ rfl rfl hs.1.1 (s_Store_file hs.1 hf) ?_
    refine Er_run 4 (pc' := 23) (ls' := [some (.ref 0), some (.int (Int32.ofNat f)), some (.long k), none, some (.long v), none, some (.ref (1 + 4 + 3 * f))]) (st' := [.long v, .long k, .ref (1 + 4 + 3 * f)]) rfl ?_
    obtain ⟨h1, r1, p1, f1⟩ := s_Pairs_add1 (k := k) (v := v) (hs.2.2.1 f hf) hl
    refine Er_inv1 (q' := 1 + 4 + 3 * f) (ci := 0) (av := [.long k, .long v]) (rest := []) rfl rfl ⟨Nat.le_of_ble_eq_true rfl, Nat.le_of_ble_eq_true rfl⟩ rfl rfl (hs.2.2.1 f hf).1.1 r1 ?_
    refine Er_run 1 (pc' := bif !decide (((1 : Int32)) = 0) then 39 else 29) (ls' := [some (.ref 0), some (.int (Int32.ofNat f)), some (.long k), none, some (.long v), none, some (.ref (1 + 4 + 3 * f))]) (st' := []) rfl ?_
    refine Er_pc (t := 39) (show (bif !decide (((1 : Int32)) = 0) then 39 else 29) = 39 from by rw [show (!decide (((1 : Int32)) = 0)) = true from by decide]; rfl) ?_
    refine Er_run 1 (pc' := 41) (ls' := [some (.ref 0), some (.int (Int32.ofNat f)), some (.long k), none, some (.long v), none, some (.ref (1 + 4 + 3 * f))]) (st' := [.ref (1 + 4 + 3 * f)]) rfl ?_
    have hle := s_Pairs_length p1
    rw [List.length_append, List.length_singleton] at hle
    refine Er_inv1 (q' := 1 + 4 + 3 * f) (ci := 0) (av := []) (rest := []) rfl rfl ⟨Nat.le_of_ble_eq_true rfl, Nat.le_of_ble_eq_true rfl⟩ rfl rfl p1.1.1 hle ?_
    exact Er_fin rfl rfl ⟨rfl, ST_rep hf f1 p1 hs, f1⟩
  obtain ⟨r, h', hr, e, hq⟩ := Run_of (Nat.le_of_ble_eq_true rfl) hx
  subst e
  exact ⟨h', hr, hq⟩
theorem s_Mill_clear (hx : isX h) (hs : ST h 1 cl G PR F) (hf : f < 16) (hr : gI h 0 6 = 0)  : ∃ h', Run 136 [.ref 0, .int (Int32.ofNat f)] h (.inl (some (.int (Int32.ofNat (F f).length)))) h' ∧ ST h' 1 cl G PR (jx_up F f ([])) ∧ Fr (1 + 4 + 3 * f) (1 + 4 + 3 * f + 3) h h' := by
  have hx : Ev 136 0 (sm_pad (sm_ent [.ref 0, .int (Int32.ofNat f)]) (sm_prog.2.1 136)) [] h (fun r h1 => r = .inl (some (.int (Int32.ofNat (F f).length))) ∧ ST h1 1 cl G PR (jx_up F f ([])) ∧ Fr (1 + 4 + 3 * f) (1 + 4 + 3 * f + 3) h h1) := by
    show Ev 136 0 [some (.ref 0), some (.int (Int32.ofNat f)), none, none] [] h _
    refine Er_run 1 (pc' := 1) (ls' := [some (.ref 0), some (.int (Int32.ofNat f)), none, none]) (st' := [.int (Int32.ofNat f)]) rfl ?_
    refine Er_sta0 (av := [.int (Int32.ofNat f)]) (rest := []) rfl rfl ⟨Nat.le_of_ble_eq_true rfl, Nat.le_of_ble_eq_true rfl⟩ rfl rfl (s_Mill_needFile1 hf) ?_
    refine Er_run 1 (pc' := 5) (ls' := [some (.ref 0), some (.int (Int32.ofNat f)), none, none]) (st' := [.ref 0]) rfl ?_
    refine Er_inv0 (q' := 0) (ci := 11) (av := []) (rest := []) rfl rfl ⟨Nat.le_of_ble_eq_true rfl, Nat.le_of_ble_eq_true rfl⟩ rfl rfl hx.1 (s_Mill_needRest1 hx hr) ?_
    refine Er_run 1 (pc' := 9) (ls' := [some (.ref 0), some (.int (Int32.ofNat f)), none, none]) (st' := [.ref 0]) rfl ?_
    refine Er_getR (x := 1) rfl hx.1 hx.2.1 ?_
    refine Er_run 1 (pc' := 13) (ls' := [some (.ref 0), some (.int (Int32.ofNat f)), none, none]) (st' := [.int (Int32.ofNat f), .ref 1]) rfl ?_
    refine Er_inv1 (q' := 1) (ci := 3) (av := [.int (Int32.ofNat f)]) (rest := []) rfl rfl ⟨Nat.le_of_ble_eq_true rfl, Nat.le_of_ble_eq_true rfl⟩ rfl rfl hs.1.1 (s_Store_file hs.1 hf) ?_
    refine Er_run 2 (pc' := 18) (ls' := [some (.ref 0), some (.int (Int32.ofNat f)), some (.ref (1 + 4 + 3 * f)), none]) (st' := [.ref (1 + 4 + 3 * f)]) rfl ?_
    refine Er_inv1 (q' := 1 + 4 + 3 * f) (ci := 0) (av := []) (rest := []) rfl rfl ⟨Nat.le_of_ble_eq_true rfl, Nat.le_of_ble_eq_true rfl⟩ rfl rfl (hs.2.2.1 f hf).1.1 (s_Pairs_length (hs.2.2.1 f hf)) ?_
    refine Er_run 2 (pc' := 23) (ls' := [some (.ref 0), some (.int (Int32.ofNat f)), some (.ref (1 + 4 + 3 * f)), some (.int (Int32.ofNat (F f).length))]) (st' := [.ref (1 + 4 + 3 * f)]) rfl ?_
    obtain ⟨h1, r1, p1, f1⟩ := s_Pairs_empty (hs.2.2.1 f hf)
    refine Er_inv0 (q' := 1 + 4 + 3 * f) (ci := 0) (av := []) (rest := []) rfl rfl ⟨Nat.le_of_ble_eq_true rfl, Nat.le_of_ble_eq_true rfl⟩ rfl rfl (hs.2.2.1 f hf).1.1 r1 ?_
    refine Er_run 1 (pc' := 27) (ls' := [some (.ref 0), some (.int (Int32.ofNat f)), some (.ref (1 + 4 + 3 * f)), some (.int (Int32.ofNat (F f).length))]) (st' := [.int (Int32.ofNat (F f).length)]) rfl ?_
    exact Er_fin rfl rfl ⟨rfl, ST_rep hf f1 p1 hs, f1⟩
  obtain ⟨r, h', hr, e, hq⟩ := Run_of (Nat.le_of_ble_eq_true rfl) hx
  subst e
  exact ⟨h', hr, hq⟩
theorem s_Mill_size (hx : isX h) (hs : ST h 1 cl G PR F) (hf : f < 16) (hr : gI h 0 6 = 0)  : Run 147 [.ref 0, .int (Int32.ofNat f)] h (.inl (some (.int (Int32.ofNat (F f).length)))) h := by
  refine ⟨Nat.le_of_ble_eq_true rfl, ?_⟩
  show Ev 147 0 [some (.ref 0), some (.int (Int32.ofNat f))] [] h _
  refine Er_run 1 (pc' := 1) (ls' := [some (.ref 0), some (.int (Int32.ofNat f))]) (st' := [.int (Int32.ofNat f)]) rfl ?_
  refine Er_sta0 (av := [.int (Int32.ofNat f)]) (rest := []) rfl rfl ⟨Nat.le_of_ble_eq_true rfl, Nat.le_of_ble_eq_true rfl⟩ rfl rfl (s_Mill_needFile1 hf) ?_
  refine Er_run 1 (pc' := 5) (ls' := [some (.ref 0), some (.int (Int32.ofNat f))]) (st' := [.ref 0]) rfl ?_
  refine Er_inv0 (q' := 0) (ci := 11) (av := []) (rest := []) rfl rfl ⟨Nat.le_of_ble_eq_true rfl, Nat.le_of_ble_eq_true rfl⟩ rfl rfl hx.1 (s_Mill_needRest1 hx hr) ?_
  refine Er_run 1 (pc' := 9) (ls' := [some (.ref 0), some (.int (Int32.ofNat f))]) (st' := [.ref 0]) rfl ?_
  refine Er_getR (x := 1) rfl hx.1 hx.2.1 ?_
  refine Er_run 1 (pc' := 13) (ls' := [some (.ref 0), some (.int (Int32.ofNat f))]) (st' := [.int (Int32.ofNat f), .ref 1]) rfl ?_
  refine Er_inv1 (q' := 1) (ci := 3) (av := [.int (Int32.ofNat f)]) (rest := []) rfl rfl ⟨Nat.le_of_ble_eq_true rfl, Nat.le_of_ble_eq_true rfl⟩ rfl rfl hs.1.1 (s_Store_file hs.1 hf) ?_
  refine Er_inv1 (q' := 1 + 4 + 3 * f) (ci := 0) (av := []) (rest := []) rfl rfl ⟨Nat.le_of_ble_eq_true rfl, Nat.le_of_ble_eq_true rfl⟩ rfl rfl (hs.2.2.1 f hf).1.1 (s_Pairs_length (hs.2.2.1 f hf)) ?_
  exact Er_fin rfl rfl ⟨rfl, rfl⟩
theorem s_Mill_told1 {i : Nat} {b : Int32} {p : Int64 × Int64} (hx : isX h) (hs : ST h 1 cl G PR F) (hf : f < 16) (hr : gI h 0 6 = 0) (he : (F f)[i]? = some p) (hb : ¬ b = 0) : Run 146 [.ref 0, .int (Int32.ofNat f), .int (Int32.ofNat i), .int b] h (.inl (some (.long (p.2)))) h := by
  have hi := (List.getElem?_eq_some_iff.1 he).1
  have hl := (hs.2.2.1 f hf).2.2.1
  refine ⟨Nat.le_of_ble_eq_true rfl, ?_⟩
  show Ev 146 0 [some (.ref 0), some (.int (Int32.ofNat f)), some (.int (Int32.ofNat i)), some (.int b), none] [] h _
  refine Er_run 1 (pc' := 1) (ls' := [some (.ref 0), some (.int (Int32.ofNat f)), some (.int (Int32.ofNat i)), some (.int b), none]) (st' := [.int (Int32.ofNat f)]) rfl ?_
  refine Er_sta0 (av := [.int (Int32.ofNat f)]) (rest := []) rfl rfl ⟨Nat.le_of_ble_eq_true rfl, Nat.le_of_ble_eq_true rfl⟩ rfl rfl (s_Mill_needFile1 hf) ?_
  refine Er_run 1 (pc' := 5) (ls' := [some (.ref 0), some (.int (Int32.ofNat f)), some (.int (Int32.ofNat i)), some (.int b), none]) (st' := [.ref 0]) rfl ?_
  refine Er_inv0 (q' := 0) (ci := 11) (av := []) (rest := []) rfl rfl ⟨Nat.le_of_ble_eq_true rfl, Nat.le_of_ble_eq_true rfl⟩ rfl rfl hx.1 (s_Mill_needRest1 hx hr) ?_
  refine Er_run 1 (pc' := 9) (ls' := [some (.ref 0), some (.int (Int32.ofNat f)), some (.int (Int32.ofNat i)), some (.int b), none]) (st' := [.ref 0]) rfl ?_
  refine Er_getR (x := 1) rfl hx.1 hx.2.1 ?_
  refine Er_run 1 (pc' := 13) (ls' := [some (.ref 0), some (.int (Int32.ofNat f)), some (.int (Int32.ofNat i)), some (.int b), none]) (st' := [.int (Int32.ofNat f), .ref 1]) rfl ?_
  refine Er_inv1 (q' := 1) (ci := 3) (av := [.int (Int32.ofNat f)]) (rest := []) rfl rfl ⟨Nat.le_of_ble_eq_true rfl, Nat.le_of_ble_eq_true rfl⟩ rfl rfl hs.1.1 (s_Store_file hs.1 hf) ?_
  refine Er_run 3 (pc' := bif decide ((Int32.ofNat i) < 0) then 31 else 22) (ls' := [some (.ref 0), some (.int (Int32.ofNat f)), some (.int (Int32.ofNat i)), some (.int b), some (.ref (1 + 4 + 3 * f))]) (st' := []) rfl ?_
  refine Er_pc (t := 22) (show (bif decide ((Int32.ofNat i) < 0) then 31 else 22) = 22 from by rw [show (decide ((Int32.ofNat i) < 0)) = false from sm_nn (by rw [sm_ofNat_toInt (by omega)]; omega)]; rfl) ?_
  refine Er_run 2 (pc' := 25) (ls' := [some (.ref 0), some (.int (Int32.ofNat f)), some (.int (Int32.ofNat i)), some (.int b), some (.ref (1 + 4 + 3 * f))]) (st' := [.ref (1 + 4 + 3 * f), .int (Int32.ofNat i)]) rfl ?_
  refine Er_inv1 (q' := 1 + 4 + 3 * f) (ci := 0) (av := []) (rest := [.int (Int32.ofNat i)]) rfl rfl ⟨Nat.le_of_ble_eq_true rfl, Nat.le_of_ble_eq_true rfl⟩ rfl rfl (hs.2.2.1 f hf).1.1 (s_Pairs_length (hs.2.2.1 f hf)) ?_
  refine Er_run 1 (pc' := bif decide ((Int32.ofNat i) < (Int32.ofNat (F f).length)) then 41 else 31) (ls' := [some (.ref 0), some (.int (Int32.ofNat f)), some (.int (Int32.ofNat i)), some (.int b), some (.ref (1 + 4 + 3 * f))]) (st' := []) rfl ?_
  refine Er_pc (t := 41) (show (bif decide ((Int32.ofNat i) < (Int32.ofNat (F f).length)) then 41 else 31) = 41 from by rw [show (decide ((Int32.ofNat i) < (Int32.ofNat (F f).length))) = true from by rw [jx_lt (by omega) (by omega)]; exact decide_eq_true (by omega)]; rfl) ?_
  refine Er_run 2 (pc' := bif decide (b = 0) then 54 else 45) (ls' := [some (.ref 0), some (.int (Int32.ofNat f)), some (.int (Int32.ofNat i)), some (.int b), some (.ref (1 + 4 + 3 * f))]) (st' := []) rfl ?_
  refine Er_pc (t := 45) (show (bif decide (b = 0) then 54 else 45) = 45 from by rw [show (decide (b = 0)) = false from decide_eq_false hb]; rfl) ?_
  refine Er_run 2 (pc' := 48) (ls' := [some (.ref 0), some (.int (Int32.ofNat f)), some (.int (Int32.ofNat i)), some (.int b), some (.ref (1 + 4 + 3 * f))]) (st' := [.int (Int32.ofNat i), .ref (1 + 4 + 3 * f)]) rfl ?_
  refine Er_inv1 (q' := 1 + 4 + 3 * f) (ci := 0) (av := [.int (Int32.ofNat i)]) (rest := []) rfl rfl ⟨Nat.le_of_ble_eq_true rfl, Nat.le_of_ble_eq_true rfl⟩ rfl rfl (hs.2.2.1 f hf).1.1 (s_Pairs_value (hs.2.2.1 f hf) he) ?_
  refine Er_run 1 (pc' := 60) (ls' := [some (.ref 0), some (.int (Int32.ofNat f)), some (.int (Int32.ofNat i)), some (.int b), some (.ref (1 + 4 + 3 * f))]) (st' := [.long (p.2)]) rfl ?_
  exact Er_fin rfl rfl ⟨rfl, rfl⟩
theorem s_Mill_told0 {i : Nat} {b : Int32} {p : Int64 × Int64} (hx : isX h) (hs : ST h 1 cl G PR F) (hf : f < 16) (hr : gI h 0 6 = 0) (he : (F f)[i]? = some p) (hb : b = 0) : Run 146 [.ref 0, .int (Int32.ofNat f), .int (Int32.ofNat i), .int b] h (.inl (some (.long (p.1)))) h := by
  have hi := (List.getElem?_eq_some_iff.1 he).1
  have hl := (hs.2.2.1 f hf).2.2.1
  refine ⟨Nat.le_of_ble_eq_true rfl, ?_⟩
  show Ev 146 0 [some (.ref 0), some (.int (Int32.ofNat f)), some (.int (Int32.ofNat i)), some (.int b), none] [] h _
  refine Er_run 1 (pc' := 1) (ls' := [some (.ref 0), some (.int (Int32.ofNat f)), some (.int (Int32.ofNat i)), some (.int b), none]) (st' := [.int (Int32.ofNat f)]) rfl ?_
  refine Er_sta0 (av := [.int (Int32.ofNat f)]) (rest := []) rfl rfl ⟨Nat.le_of_ble_eq_true rfl, Nat.le_of_ble_eq_true rfl⟩ rfl rfl (s_Mill_needFile1 hf) ?_
  refine Er_run 1 (pc' := 5) (ls' := [some (.ref 0), some (.int (Int32.ofNat f)), some (.int (Int32.ofNat i)), some (.int b), none]) (st' := [.ref 0]) rfl ?_
  refine Er_inv0 (q' := 0) (ci := 11) (av := []) (rest := []) rfl rfl ⟨Nat.le_of_ble_eq_true rfl, Nat.le_of_ble_eq_true rfl⟩ rfl rfl hx.1 (s_Mill_needRest1 hx hr) ?_
  refine Er_run 1 (pc' := 9) (ls' := [some (.ref 0), some (.int (Int32.ofNat f)), some (.int (Int32.ofNat i)), some (.int b), none]) (st' := [.ref 0]) rfl ?_
  refine Er_getR (x := 1) rfl hx.1 hx.2.1 ?_
  refine Er_run 1 (pc' := 13) (ls' := [some (.ref 0), some (.int (Int32.ofNat f)), some (.int (Int32.ofNat i)), some (.int b), none]) (st' := [.int (Int32.ofNat f), .ref 1]) rfl ?_
  refine Er_inv1 (q' := 1) (ci := 3) (av := [.int (Int32.ofNat f)]) (rest := []) rfl rfl ⟨Nat.le_of_ble_eq_true rfl, Nat.le_of_ble_eq_true rfl⟩ rfl rfl hs.1.1 (s_Store_file hs.1 hf) ?_
  refine Er_run 3 (pc' := bif decide ((Int32.ofNat i) < 0) then 31 else 22) (ls' := [some (.ref 0), some (.int (Int32.ofNat f)), some (.int (Int32.ofNat i)), some (.int b), some (.ref (1 + 4 + 3 * f))]) (st' := []) rfl ?_
  refine Er_pc (t := 22) (show (bif decide ((Int32.ofNat i) < 0) then 31 else 22) = 22 from by rw [show (decide ((Int32.ofNat i) < 0)) = false from sm_nn (by rw [sm_ofNat_toInt (by omega)]; omega)]; rfl) ?_
  refine Er_run 2 (pc' := 25) (ls' := [some (.ref 0), some (.int (Int32.ofNat f)), some (.int (Int32.ofNat i)), some (.int b), some (.ref (1 + 4 + 3 * f))]) (st' := [.ref (1 + 4 + 3 * f), .int (Int32.ofNat i)]) rfl ?_
  refine Er_inv1 (q' := 1 + 4 + 3 * f) (ci := 0) (av := []) (rest := [.int (Int32.ofNat i)]) rfl rfl ⟨Nat.le_of_ble_eq_true rfl, Nat.le_of_ble_eq_true rfl⟩ rfl rfl (hs.2.2.1 f hf).1.1 (s_Pairs_length (hs.2.2.1 f hf)) ?_
  refine Er_run 1 (pc' := bif decide ((Int32.ofNat i) < (Int32.ofNat (F f).length)) then 41 else 31) (ls' := [some (.ref 0), some (.int (Int32.ofNat f)), some (.int (Int32.ofNat i)), some (.int b), some (.ref (1 + 4 + 3 * f))]) (st' := []) rfl ?_
  refine Er_pc (t := 41) (show (bif decide ((Int32.ofNat i) < (Int32.ofNat (F f).length)) then 41 else 31) = 41 from by rw [show (decide ((Int32.ofNat i) < (Int32.ofNat (F f).length))) = true from by rw [jx_lt (by omega) (by omega)]; exact decide_eq_true (by omega)]; rfl) ?_
  refine Er_run 2 (pc' := bif decide (b = 0) then 54 else 45) (ls' := [some (.ref 0), some (.int (Int32.ofNat f)), some (.int (Int32.ofNat i)), some (.int b), some (.ref (1 + 4 + 3 * f))]) (st' := []) rfl ?_
  refine Er_pc (t := 54) (show (bif decide (b = 0) then 54 else 45) = 54 from by rw [show (decide (b = 0)) = true from decide_eq_true hb]; rfl) ?_
  refine Er_run 2 (pc' := 57) (ls' := [some (.ref 0), some (.int (Int32.ofNat f)), some (.int (Int32.ofNat i)), some (.int b), some (.ref (1 + 4 + 3 * f))]) (st' := [.int (Int32.ofNat i), .ref (1 + 4 + 3 * f)]) rfl ?_
  refine Er_inv1 (q' := 1 + 4 + 3 * f) (ci := 0) (av := [.int (Int32.ofNat i)]) (rest := []) rfl rfl ⟨Nat.le_of_ble_eq_true rfl, Nat.le_of_ble_eq_true rfl⟩ rfl rfl (hs.2.2.1 f hf).1.1 (s_Pairs_key (hs.2.2.1 f hf) he) ?_
  exact Er_fin rfl rfl ⟨rfl, rfl⟩
theorem s_Mill_told_o {i b : Int32} (hx : isX h) (hs : ST h 1 cl G PR F) (hf : f < 16) (hr : gI h 0 6 = 0) (ho : jn_out i (F f).length) : Run 146 [.ref 0, .int (Int32.ofNat f), .int i, .int b] h (.inr 0) (hjunk h) := by
  have hl := (hs.2.2.1 f hf).2.2.1
  have h1 : ¬ i < 0 → ((F f).length : Int) ≤ i.toInt := by
    intro h0
    rw [Int32.lt_iff_toInt_lt] at h0
    have h0' : ¬ i.toInt < 0 := h0
    rw [jn_out] at ho
    omega
  refine ⟨Nat.le_of_ble_eq_true rfl, ?_⟩
  by_cases h0 : i < 0
  · skip
    show Ev 146 0 [some (.ref 0), some (.int (Int32.ofNat f)), some (.int i), some (.int b), none] [] h _
    refine Er_run 1 (pc' := 1) (ls' := [some (.ref 0), some (.int (Int32.ofNat f)), some (.int i), some (.int b), none]) (st' := [.int (Int32.ofNat f)]) rfl ?_
    refine Er_sta0 (av := [.int (Int32.ofNat f)]) (rest := []) rfl rfl ⟨Nat.le_of_ble_eq_true rfl, Nat.le_of_ble_eq_true rfl⟩ rfl rfl (s_Mill_needFile1 hf) ?_
    refine Er_run 1 (pc' := 5) (ls' := [some (.ref 0), some (.int (Int32.ofNat f)), some (.int i), some (.int b), none]) (st' := [.ref 0]) rfl ?_
    refine Er_inv0 (q' := 0) (ci := 11) (av := []) (rest := []) rfl rfl ⟨Nat.le_of_ble_eq_true rfl, Nat.le_of_ble_eq_true rfl⟩ rfl rfl hx.1 (s_Mill_needRest1 hx hr) ?_
    refine Er_run 1 (pc' := 9) (ls' := [some (.ref 0), some (.int (Int32.ofNat f)), some (.int i), some (.int b), none]) (st' := [.ref 0]) rfl ?_
    refine Er_getR (x := 1) rfl hx.1 hx.2.1 ?_
    refine Er_run 1 (pc' := 13) (ls' := [some (.ref 0), some (.int (Int32.ofNat f)), some (.int i), some (.int b), none]) (st' := [.int (Int32.ofNat f), .ref 1]) rfl ?_
    refine Er_inv1 (q' := 1) (ci := 3) (av := [.int (Int32.ofNat f)]) (rest := []) rfl rfl ⟨Nat.le_of_ble_eq_true rfl, Nat.le_of_ble_eq_true rfl⟩ rfl rfl hs.1.1 (s_Store_file hs.1 hf) ?_
    refine Er_run 3 (pc' := bif decide (i < 0) then 31 else 22) (ls' := [some (.ref 0), some (.int (Int32.ofNat f)), some (.int i), some (.int b), some (.ref (1 + 4 + 3 * f))]) (st' := []) rfl ?_
    refine Er_pc (t := 31) (show (bif decide (i < 0) then 31 else 22) = 31 from by rw [show (decide (i < 0)) = true from decide_eq_true h0]; rfl) ?_
    exact Er_fin rfl rfl ⟨rfl, rfl⟩
  · have h2 := h1 h0
    show Ev 146 0 [some (.ref 0), some (.int (Int32.ofNat f)), some (.int i), some (.int b), none] [] h _
    refine Er_run 1 (pc' := 1) (ls' := [some (.ref 0), some (.int (Int32.ofNat f)), some (.int i), some (.int b), none]) (st' := [.int (Int32.ofNat f)]) rfl ?_
    refine Er_sta0 (av := [.int (Int32.ofNat f)]) (rest := []) rfl rfl ⟨Nat.le_of_ble_eq_true rfl, Nat.le_of_ble_eq_true rfl⟩ rfl rfl (s_Mill_needFile1 hf) ?_
    refine Er_run 1 (pc' := 5) (ls' := [some (.ref 0), some (.int (Int32.ofNat f)), some (.int i), some (.int b), none]) (st' := [.ref 0]) rfl ?_
    refine Er_inv0 (q' := 0) (ci := 11) (av := []) (rest := []) rfl rfl ⟨Nat.le_of_ble_eq_true rfl, Nat.le_of_ble_eq_true rfl⟩ rfl rfl hx.1 (s_Mill_needRest1 hx hr) ?_
    refine Er_run 1 (pc' := 9) (ls' := [some (.ref 0), some (.int (Int32.ofNat f)), some (.int i), some (.int b), none]) (st' := [.ref 0]) rfl ?_
    refine Er_getR (x := 1) rfl hx.1 hx.2.1 ?_
    refine Er_run 1 (pc' := 13) (ls' := [some (.ref 0), some (.int (Int32.ofNat f)), some (.int i), some (.int b), none]) (st' := [.int (Int32.ofNat f), .ref 1]) rfl ?_
    refine Er_inv1 (q' := 1) (ci := 3) (av := [.int (Int32.ofNat f)]) (rest := []) rfl rfl ⟨Nat.le_of_ble_eq_true rfl, Nat.le_of_ble_eq_true rfl⟩ rfl rfl hs.1.1 (s_Store_file hs.1 hf) ?_
    refine Er_run 3 (pc' := bif decide (i < 0) then 31 else 22) (ls' := [some (.ref 0), some (.int (Int32.ofNat f)), some (.int i), some (.int b), some (.ref (1 + 4 + 3 * f))]) (st' := []) rfl ?_
    refine Er_pc (t := 22) (show (bif decide (i < 0) then 31 else 22) = 22 from by rw [show (decide (i < 0)) = false from decide_eq_false h0]; rfl) ?_
    refine Er_run 2 (pc' := 25) (ls' := [some (.ref 0), some (.int (Int32.ofNat f)), some (.int i), some (.int b), some (.ref (1 + 4 + 3 * f))]) (st' := [.ref (1 + 4 + 3 * f), .int i]) rfl ?_
    refine Er_inv1 (q' := 1 + 4 + 3 * f) (ci := 0) (av := []) (rest := [.int i]) rfl rfl ⟨Nat.le_of_ble_eq_true rfl, Nat.le_of_ble_eq_true rfl⟩ rfl rfl (hs.2.2.1 f hf).1.1 (s_Pairs_length (hs.2.2.1 f hf)) ?_
    refine Er_run 1 (pc' := bif decide (i < (Int32.ofNat (F f).length)) then 41 else 31) (ls' := [some (.ref 0), some (.int (Int32.ofNat f)), some (.int i), some (.int b), some (.ref (1 + 4 + 3 * f))]) (st' := []) rfl ?_
    refine Er_pc (t := 31) (show (bif decide (i < (Int32.ofNat (F f).length)) then 41 else 31) = 31 from by rw [show (decide (i < (Int32.ofNat (F f).length))) = false from decide_eq_false (by rw [Int32.lt_iff_toInt_lt, sm_ofNat_toInt (by omega)]; omega)]; rfl) ?_
    exact Er_fin rfl rfl ⟨rfl, rfl⟩
end MILL
