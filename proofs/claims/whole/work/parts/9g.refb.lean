/-! what the reference holds -/
def RM (h : sm_H) (a : Nat) (G : Nat → Nat → Int32) (PR : Nat → Nat → List (Int32 × Int64)) (F : Nat → Jl) (D : List (Int32 × Int64)) (b : Bool) (n : Nat) : Prop :=
  mrO h a ∧ (∀ f, f < 16 → gI h (a + 3) f = Int32.ofNat (F f).length ∧ (F f).length ≤ 300 ∧ ∀ i p, (F f)[i]? = some p → gL h (a + 1) (300 * f + i) = p.1 ∧ gL h (a + 2) (300 * f + i) = p.2)
  ∧ (∀ j i, j < 8 → i < 3 → gI h (a + 5) (3 * j + i) = Int32.ofNat (PR j i).length ∧ (PR j i).length ≤ 40 ∧ ∀ k p, (PR j i)[k]? = some p → gI h (a + 4) (40 * (3 * j + i) + k) = p.1 ∧ gL h (a + 7) (40 * (3 * j + i) + k) = p.2)
  ∧ (gI h a 15 = Int32.ofNat D.length ∧ D.length ≤ 40 ∧ ∀ k p, D[k]? = some p → gI h (a + 6) k = p.1 ∧ gL h (a + 8) k = p.2)
  ∧ (∀ j, j < 8 → gI h (a + 14) j = G j 1 ∧ (G j 1 = 0 ∨ G j 1 = 1) ∧ (G j 1 = 1 → gI h (a + 9) j = G j 2 ∧ gI h (a + 10) j = G j 3 ∧ gI h (a + 11) j = G j 4 ∧ gI h (a + 12) j = G j 5))
  ∧ gI h a 19 = (if b then 1 else 0) ∧ gI h a 16 = Int32.ofNat n
section REFB
variable {h h' : sm_H} {a : Nat} {x y z t : Int32} {G : Nat → Nat → Int32} {PR : Nat → Nat → List (Int32 × Int64)} {F : Nat → Jl} {D : List (Int32 × Int64)} {b : Bool} {n f : Nat}
/-- thrown is no part of it -/
theorem RM_thr (hp : RM h a G PR F D b n) : RM (setI h a 18 t) a G PR F D b n := by
  obtain ⟨a1, a2, a3, a4, a5, a6, a7⟩ := hp
  have e : ∀ c i, 1 ≤ c → gI (setI h a 18 t) (a + c) i = gI h (a + c) i := fun c i hc => gI_ne (by omega)
  have e2 : ∀ i, i ≠ 18 → gI (setI h a 18 t) a i = gI h a i := fun i hi => gI_ne (by omega)
  refine ⟨mrO_setI a1, fun f hf => ?_, fun j i hj hi => ?_, ⟨by rw [e2 15 (by omega)]; exact a4.1, a4.2.1, fun k p hk => ⟨by rw [e 6 _ (by omega)]; exact (a4.2.2 k p hk).1, (a4.2.2 k p hk).2⟩⟩, fun j hj => ?_, by rw [e2 19 (by omega)]; exact a6, by rw [e2 16 (by omega)]; exact a7⟩
  · rw [e 3 _ (by omega)]; exact a2 f hf
  · rw [e 5 _ (by omega)]
    exact ⟨(a3 j i hj hi).1, (a3 j i hj hi).2.1, fun k p hk => ⟨by rw [e 4 _ (by omega)]; exact ((a3 j i hj hi).2.2 k p hk).1, ((a3 j i hj hi).2.2 k p hk).2⟩⟩
  · rw [e 14 _ (by omega), e 9 _ (by omega), e 10 _ (by omega), e 11 _ (by omega), e 12 _ (by omega)]; exact a5 j hj

theorem s_Ref_size1 (hm : mrO h a) (hi : jm_in x 0 15 = false) : Run 180 [.ref a, .int x] h (.inl (some (.int ((0 : Int32))))) (setI h a 18 1) := by
  refine ⟨Nat.le_of_ble_eq_true rfl, ?_⟩
  show Ev 180 0 [some (.ref a), some (.int x)] [] h _
  refine Er_run 4 (pc' := 5) (ls' := [some (.ref a), some (.int x)]) (st' := [.int ((15 : Int32)), .int ((0 : Int32)), .int x, .ref a]) rfl ?_
  refine Er_sta1 (av := [.int x, .int ((0 : Int32)), .int ((15 : Int32))]) (rest := [.ref a]) rfl rfl ⟨Nat.le_of_ble_eq_true rfl, Nat.le_of_ble_eq_true rfl⟩ rfl rfl (s_Ref_in0 hi) ?_
  refine Er_run 1 (pc' := bif !decide (((0 : Int32)) = 0) then 15 else 11) (ls' := [some (.ref a), some (.int x)]) (st' := [.ref a]) rfl ?_
  refine Er_pc (t := 11) (show (bif !decide (((0 : Int32)) = 0) then 15 else 11) = 11 from by rw [show (!decide (((0 : Int32)) = 0)) = false from by decide]; rfl) ?_
  refine Er_run 2 (pc' := 27) (ls' := [some (.ref a), some (.int x)]) (st' := [.int ((1 : Int32)), .ref a]) rfl ?_
  refine Er_putI rfl hm.1 ?_
  refine Er_run 1 (pc' := 31) (ls' := [some (.ref a), some (.int x)]) (st' := [.ref a]) rfl ?_
  refine Er_getI (v := (1 : Int32)) rfl hm.1 gI_eq ?_
  refine Er_run 1 (pc' := bif decide (((1 : Int32)) ≤ 0) then 41 else 37) (ls' := [some (.ref a), some (.int x)]) (st' := []) rfl ?_
  refine Er_pc (t := 37) (show (bif decide (((1 : Int32)) ≤ 0) then 41 else 37) = 37 from by rw [show (decide (((1 : Int32)) ≤ 0)) = false from by decide]; rfl) ?_
  refine Er_run 2 (pc' := 47) (ls' := [some (.ref a), some (.int x)]) (st' := [.int ((0 : Int32))]) rfl ?_
  exact Er_fin rfl rfl ⟨rfl, rfl⟩
theorem s_Ref_size2 (hm : mrO h a) (hi : jm_in x 0 15 = true) (ho : gI h a 19 = 1) : Run 180 [.ref a, .int x] h (.inl (some (.int ((0 : Int32))))) (setI h a 18 2) := by
  refine ⟨Nat.le_of_ble_eq_true rfl, ?_⟩
  show Ev 180 0 [some (.ref a), some (.int x)] [] h _
  refine Er_run 4 (pc' := 5) (ls' := [some (.ref a), some (.int x)]) (st' := [.int ((15 : Int32)), .int ((0 : Int32)), .int x, .ref a]) rfl ?_
  refine Er_sta1 (av := [.int x, .int ((0 : Int32)), .int ((15 : Int32))]) (rest := [.ref a]) rfl rfl ⟨Nat.le_of_ble_eq_true rfl, Nat.le_of_ble_eq_true rfl⟩ rfl rfl (s_Ref_in1 hi) ?_
  refine Er_run 1 (pc' := bif !decide (((1 : Int32)) = 0) then 15 else 11) (ls' := [some (.ref a), some (.int x)]) (st' := [.ref a]) rfl ?_
  refine Er_pc (t := 15) (show (bif !decide (((1 : Int32)) = 0) then 15 else 11) = 15 from by rw [show (!decide (((1 : Int32)) = 0)) = true from by decide]; rfl) ?_
  refine Er_run 1 (pc' := 16) (ls' := [some (.ref a), some (.int x)]) (st' := [.ref a, .ref a]) rfl ?_
  refine Er_getI (v := (1 : Int32)) rfl hm.1 ho ?_
  refine Er_run 1 (pc' := bif decide (((1 : Int32)) = 0) then 26 else 22) (ls' := [some (.ref a), some (.int x)]) (st' := [.ref a]) rfl ?_
  refine Er_pc (t := 22) (show (bif decide (((1 : Int32)) = 0) then 26 else 22) = 22 from by rw [show (decide (((1 : Int32)) = 0)) = false from by decide]; rfl) ?_
  refine Er_run 2 (pc' := 27) (ls' := [some (.ref a), some (.int x)]) (st' := [.int ((2 : Int32)), .ref a]) rfl ?_
  refine Er_putI rfl hm.1 ?_
  refine Er_run 1 (pc' := 31) (ls' := [some (.ref a), some (.int x)]) (st' := [.ref a]) rfl ?_
  refine Er_getI (v := (2 : Int32)) rfl hm.1 gI_eq ?_
  refine Er_run 1 (pc' := bif decide (((2 : Int32)) ≤ 0) then 41 else 37) (ls' := [some (.ref a), some (.int x)]) (st' := []) rfl ?_
  refine Er_pc (t := 37) (show (bif decide (((2 : Int32)) ≤ 0) then 41 else 37) = 37 from by rw [show (decide (((2 : Int32)) ≤ 0)) = false from by decide]; rfl) ?_
  refine Er_run 2 (pc' := 47) (ls' := [some (.ref a), some (.int x)]) (st' := [.int ((0 : Int32))]) rfl ?_
  exact Er_fin rfl rfl ⟨rfl, rfl⟩
theorem s_Ref_clear1 (hm : mrO h a) (hi : jm_in x 0 15 = false) : Run 169 [.ref a, .int x] h (.inl (some (.int ((0 : Int32))))) (setI h a 18 1) := by
  refine ⟨Nat.le_of_ble_eq_true rfl, ?_⟩
  show Ev 169 0 [some (.ref a), some (.int x), none] [] h _
  refine Er_run 4 (pc' := 5) (ls' := [some (.ref a), some (.int x), none]) (st' := [.int ((15 : Int32)), .int ((0 : Int32)), .int x, .ref a]) rfl ?_
  refine Er_sta1 (av := [.int x, .int ((0 : Int32)), .int ((15 : Int32))]) (rest := [.ref a]) rfl rfl ⟨Nat.le_of_ble_eq_true rfl, Nat.le_of_ble_eq_true rfl⟩ rfl rfl (s_Ref_in0 hi) ?_
  refine Er_run 1 (pc' := bif !decide (((0 : Int32)) = 0) then 15 else 11) (ls' := [some (.ref a), some (.int x), none]) (st' := [.ref a]) rfl ?_
  refine Er_pc (t := 11) (show (bif !decide (((0 : Int32)) = 0) then 15 else 11) = 11 from by rw [show (!decide (((0 : Int32)) = 0)) = false from by decide]; rfl) ?_
  refine Er_run 2 (pc' := 27) (ls' := [some (.ref a), some (.int x), none]) (st' := [.int ((1 : Int32)), .ref a]) rfl ?_
  refine Er_putI rfl hm.1 ?_
  refine Er_run 1 (pc' := 31) (ls' := [some (.ref a), some (.int x), none]) (st' := [.ref a]) rfl ?_
  refine Er_getI (v := (1 : Int32)) rfl hm.1 gI_eq ?_
  refine Er_run 1 (pc' := bif decide (((1 : Int32)) ≤ 0) then 39 else 37) (ls' := [some (.ref a), some (.int x), none]) (st' := []) rfl ?_
  refine Er_pc (t := 37) (show (bif decide (((1 : Int32)) ≤ 0) then 39 else 37) = 37 from by rw [show (decide (((1 : Int32)) ≤ 0)) = false from by decide]; rfl) ?_
  refine Er_run 1 (pc' := 38) (ls' := [some (.ref a), some (.int x), none]) (st' := [.int ((0 : Int32))]) rfl ?_
  exact Er_fin rfl rfl ⟨rfl, rfl⟩
theorem s_Ref_clear2 (hm : mrO h a) (hi : jm_in x 0 15 = true) (ho : gI h a 19 = 1) : Run 169 [.ref a, .int x] h (.inl (some (.int ((0 : Int32))))) (setI h a 18 2) := by
  refine ⟨Nat.le_of_ble_eq_true rfl, ?_⟩
  show Ev 169 0 [some (.ref a), some (.int x), none] [] h _
  refine Er_run 4 (pc' := 5) (ls' := [some (.ref a), some (.int x), none]) (st' := [.int ((15 : Int32)), .int ((0 : Int32)), .int x, .ref a]) rfl ?_
  refine Er_sta1 (av := [.int x, .int ((0 : Int32)), .int ((15 : Int32))]) (rest := [.ref a]) rfl rfl ⟨Nat.le_of_ble_eq_true rfl, Nat.le_of_ble_eq_true rfl⟩ rfl rfl (s_Ref_in1 hi) ?_
  refine Er_run 1 (pc' := bif !decide (((1 : Int32)) = 0) then 15 else 11) (ls' := [some (.ref a), some (.int x), none]) (st' := [.ref a]) rfl ?_
  refine Er_pc (t := 15) (show (bif !decide (((1 : Int32)) = 0) then 15 else 11) = 15 from by rw [show (!decide (((1 : Int32)) = 0)) = true from by decide]; rfl) ?_
  refine Er_run 1 (pc' := 16) (ls' := [some (.ref a), some (.int x), none]) (st' := [.ref a, .ref a]) rfl ?_
  refine Er_getI (v := (1 : Int32)) rfl hm.1 ho ?_
  refine Er_run 1 (pc' := bif decide (((1 : Int32)) = 0) then 26 else 22) (ls' := [some (.ref a), some (.int x), none]) (st' := [.ref a]) rfl ?_
  refine Er_pc (t := 22) (show (bif decide (((1 : Int32)) = 0) then 26 else 22) = 22 from by rw [show (decide (((1 : Int32)) = 0)) = false from by decide]; rfl) ?_
  refine Er_run 2 (pc' := 27) (ls' := [some (.ref a), some (.int x), none]) (st' := [.int ((2 : Int32)), .ref a]) rfl ?_
  refine Er_putI rfl hm.1 ?_
  refine Er_run 1 (pc' := 31) (ls' := [some (.ref a), some (.int x), none]) (st' := [.ref a]) rfl ?_
  refine Er_getI (v := (2 : Int32)) rfl hm.1 gI_eq ?_
  refine Er_run 1 (pc' := bif decide (((2 : Int32)) ≤ 0) then 39 else 37) (ls' := [some (.ref a), some (.int x), none]) (st' := []) rfl ?_
  refine Er_pc (t := 37) (show (bif decide (((2 : Int32)) ≤ 0) then 39 else 37) = 37 from by rw [show (decide (((2 : Int32)) ≤ 0)) = false from by decide]; rfl) ?_
  refine Er_run 1 (pc' := 38) (ls' := [some (.ref a), some (.int x), none]) (st' := [.int ((0 : Int32))]) rfl ?_
  exact Er_fin rfl rfl ⟨rfl, rfl⟩
theorem s_Ref_drop1 (hm : mrO h a) (hi : jm_in x 0 7 = false) : Run 173 [.ref a, .int x] h (.inl (some (.int ((0 : Int32))))) (setI h a 18 1) := by
  refine ⟨Nat.le_of_ble_eq_true rfl, ?_⟩
  show Ev 173 0 [some (.ref a), some (.int x), none] [] h _
  refine Er_run 4 (pc' := 5) (ls' := [some (.ref a), some (.int x), none]) (st' := [.int ((7 : Int32)), .int ((0 : Int32)), .int x, .ref a]) rfl ?_
  refine Er_sta1 (av := [.int x, .int ((0 : Int32)), .int ((7 : Int32))]) (rest := [.ref a]) rfl rfl ⟨Nat.le_of_ble_eq_true rfl, Nat.le_of_ble_eq_true rfl⟩ rfl rfl (s_Ref_in0 hi) ?_
  refine Er_run 1 (pc' := bif !decide (((0 : Int32)) = 0) then 15 else 11) (ls' := [some (.ref a), some (.int x), none]) (st' := [.ref a]) rfl ?_
  refine Er_pc (t := 11) (show (bif !decide (((0 : Int32)) = 0) then 15 else 11) = 11 from by rw [show (!decide (((0 : Int32)) = 0)) = false from by decide]; rfl) ?_
  refine Er_run 2 (pc' := 27) (ls' := [some (.ref a), some (.int x), none]) (st' := [.int ((1 : Int32)), .ref a]) rfl ?_
  refine Er_putI rfl hm.1 ?_
  refine Er_run 1 (pc' := 31) (ls' := [some (.ref a), some (.int x), none]) (st' := [.ref a]) rfl ?_
  refine Er_getI (v := (1 : Int32)) rfl hm.1 gI_eq ?_
  refine Er_run 1 (pc' := bif decide (((1 : Int32)) ≤ 0) then 39 else 37) (ls' := [some (.ref a), some (.int x), none]) (st' := []) rfl ?_
  refine Er_pc (t := 37) (show (bif decide (((1 : Int32)) ≤ 0) then 39 else 37) = 37 from by rw [show (decide (((1 : Int32)) ≤ 0)) = false from by decide]; rfl) ?_
  refine Er_run 1 (pc' := 38) (ls' := [some (.ref a), some (.int x), none]) (st' := [.int ((0 : Int32))]) rfl ?_
  exact Er_fin rfl rfl ⟨rfl, rfl⟩
theorem s_Ref_drop2 (hm : mrO h a) (hi : jm_in x 0 7 = true) (ho : gI h a 19 = 1) : Run 173 [.ref a, .int x] h (.inl (some (.int ((0 : Int32))))) (setI h a 18 2) := by
  refine ⟨Nat.le_of_ble_eq_true rfl, ?_⟩
  show Ev 173 0 [some (.ref a), some (.int x), none] [] h _
  refine Er_run 4 (pc' := 5) (ls' := [some (.ref a), some (.int x), none]) (st' := [.int ((7 : Int32)), .int ((0 : Int32)), .int x, .ref a]) rfl ?_
  refine Er_sta1 (av := [.int x, .int ((0 : Int32)), .int ((7 : Int32))]) (rest := [.ref a]) rfl rfl ⟨Nat.le_of_ble_eq_true rfl, Nat.le_of_ble_eq_true rfl⟩ rfl rfl (s_Ref_in1 hi) ?_
  refine Er_run 1 (pc' := bif !decide (((1 : Int32)) = 0) then 15 else 11) (ls' := [some (.ref a), some (.int x), none]) (st' := [.ref a]) rfl ?_
  refine Er_pc (t := 15) (show (bif !decide (((1 : Int32)) = 0) then 15 else 11) = 15 from by rw [show (!decide (((1 : Int32)) = 0)) = true from by decide]; rfl) ?_
  refine Er_run 1 (pc' := 16) (ls' := [some (.ref a), some (.int x), none]) (st' := [.ref a, .ref a]) rfl ?_
  refine Er_getI (v := (1 : Int32)) rfl hm.1 ho ?_
  refine Er_run 1 (pc' := bif decide (((1 : Int32)) = 0) then 26 else 22) (ls' := [some (.ref a), some (.int x), none]) (st' := [.ref a]) rfl ?_
  refine Er_pc (t := 22) (show (bif decide (((1 : Int32)) = 0) then 26 else 22) = 22 from by rw [show (decide (((1 : Int32)) = 0)) = false from by decide]; rfl) ?_
  refine Er_run 2 (pc' := 27) (ls' := [some (.ref a), some (.int x), none]) (st' := [.int ((2 : Int32)), .ref a]) rfl ?_
  refine Er_putI rfl hm.1 ?_
  refine Er_run 1 (pc' := 31) (ls' := [some (.ref a), some (.int x), none]) (st' := [.ref a]) rfl ?_
  refine Er_getI (v := (2 : Int32)) rfl hm.1 gI_eq ?_
  refine Er_run 1 (pc' := bif decide (((2 : Int32)) ≤ 0) then 39 else 37) (ls' := [some (.ref a), some (.int x), none]) (st' := []) rfl ?_
  refine Er_pc (t := 37) (show (bif decide (((2 : Int32)) ≤ 0) then 39 else 37) = 37 from by rw [show (decide (((2 : Int32)) ≤ 0)) = false from by decide]; rfl) ?_
  refine Er_run 1 (pc' := 38) (ls' := [some (.ref a), some (.int x), none]) (st' := [.int ((0 : Int32))]) rfl ?_
  exact Er_fin rfl rfl ⟨rfl, rfl⟩
end REFB
