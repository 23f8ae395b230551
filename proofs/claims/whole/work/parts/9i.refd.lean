section REFD
variable {h h' : sm_H} {a : Nat} {x y z t : Int32} {G : Nat → Nat → Int32} {PR : Nat → Nat → List (Int32 × Int64)} {F : Nat → Jl} {D : List (Int32 × Int64)} {b : Bool} {n f j : Nat}

theorem s_Ref_drop00 (hm : mrO h a) (hj : j < 8) (ho : gI h a 19 = 0) (hs : gI h (a + 14) j = 0) : Run 173 [.ref a, .int (Int32.ofNat j)] h (.inl (some (.int ((0 : Int32))))) (setI (setI h a 18 0) (a + 14) (Int32.ofNat j).toNatClampNeg 0) := by
  refine ⟨Nat.le_of_ble_eq_true rfl, ?_⟩
  show Ev 173 0 [some (.ref a), some (.int (Int32.ofNat j)), none] [] h _
  refine Er_run 4 (pc' := 5) (ls' := [some (.ref a), some (.int (Int32.ofNat j)), none]) (st' := [.int ((7 : Int32)), .int ((0 : Int32)), .int (Int32.ofNat j), .ref a]) rfl ?_
  refine Er_sta1 (av := [.int (Int32.ofNat j), .int ((0 : Int32)), .int ((7 : Int32))]) (rest := [.ref a]) rfl rfl ⟨Nat.le_of_ble_eq_true rfl, Nat.le_of_ble_eq_true rfl⟩ rfl rfl (s_Ref_in1 (jm_in_n (k := 7) (by omega) (by omega))) ?_
  refine Er_run 1 (pc' := bif !decide (((1 : Int32)) = 0) then 15 else 11) (ls' := [some (.ref a), some (.int (Int32.ofNat j)), none]) (st' := [.ref a]) rfl ?_
  refine Er_pc (t := 15) (show (bif !decide (((1 : Int32)) = 0) then 15 else 11) = 15 from by rw [show (!decide (((1 : Int32)) = 0)) = true from by decide]; rfl) ?_
  refine Er_run 1 (pc' := 16) (ls' := [some (.ref a), some (.int (Int32.ofNat j)), none]) (st' := [.ref a, .ref a]) rfl ?_
  refine Er_getI (v := (0 : Int32)) rfl hm.1 ho ?_
  refine Er_run 1 (pc' := bif decide (((0 : Int32)) = 0) then 26 else 22) (ls' := [some (.ref a), some (.int (Int32.ofNat j)), none]) (st' := [.ref a]) rfl ?_
  refine Er_pc (t := 26) (show (bif decide (((0 : Int32)) = 0) then 26 else 22) = 26 from by rw [show (decide (((0 : Int32)) = 0)) = true from by decide]; rfl) ?_
  refine Er_run 1 (pc' := 27) (ls' := [some (.ref a), some (.int (Int32.ofNat j)), none]) (st' := [.int ((0 : Int32)), .ref a]) rfl ?_
  refine Er_putI rfl hm.1 ?_
  refine Er_run 1 (pc' := 31) (ls' := [some (.ref a), some (.int (Int32.ofNat j)), none]) (st' := [.ref a]) rfl ?_
  refine Er_getI (v := (0 : Int32)) rfl hm.1 gI_eq ?_
  refine Er_run 1 (pc' := bif decide (((0 : Int32)) ≤ 0) then 39 else 37) (ls' := [some (.ref a), some (.int (Int32.ofNat j)), none]) (st' := []) rfl ?_
  refine Er_pc (t := 39) (show (bif decide (((0 : Int32)) ≤ 0) then 39 else 37) = 39 from by rw [show (decide (((0 : Int32)) ≤ 0)) = true from by decide]; rfl) ?_
  refine Er_run 1 (pc' := 40) (ls' := [some (.ref a), some (.int (Int32.ofNat j)), none]) (st' := [.ref a]) rfl ?_
  refine Er_getR (x := a + 14) rfl hm.1 (hm.2 (13, 14, 2, 8) (by decide)).1 ?_
  refine Er_run 1 (pc' := 44) (ls' := [some (.ref a), some (.int (Int32.ofNat j)), none]) (st' := [.int (Int32.ofNat j), .ref (a + 14)]) rfl ?_
  refine Er_zald (v := (0 : Int32)) rfl (hm.2 (13, 14, 2, 8) (by decide)).2.1 (mr_idx (i := j) (k := 8) hj (by omega) (hm.2 (13, 14, 2, 8) (by decide)).2.2) (show gI (setI h a 18 0) (a + 14) (Int32.ofNat j).toNatClampNeg = 0 from by rw [jx_cn (by omega), gI_ne (by omega)]; exact hs) ?_
  refine Er_run 2 (pc' := 47) (ls' := [some (.ref a), some (.int (Int32.ofNat j)), some (.int ((0 : Int32)))]) (st' := [.ref a]) rfl ?_
  refine Er_getR (x := a + 14) rfl hm.1 (hm.2 (13, 14, 2, 8) (by decide)).1 ?_
  refine Er_run 2 (pc' := 52) (ls' := [some (.ref a), some (.int (Int32.ofNat j)), some (.int ((0 : Int32)))]) (st' := [.int ((0 : Int32)), .int (Int32.ofNat j), .ref (a + 14)]) rfl ?_
  refine Er_zast rfl (hm.2 (13, 14, 2, 8) (by decide)).2.1 (mr_idx (i := j) (k := 8) hj (by omega) (hm.2 (13, 14, 2, 8) (by decide)).2.2) (by decide) ?_
  refine Er_run 1 (pc' := 54) (ls' := [some (.ref a), some (.int (Int32.ofNat j)), some (.int ((0 : Int32)))]) (st' := [.int ((0 : Int32))]) rfl ?_
  exact Er_fin rfl rfl ⟨rfl, rfl⟩
theorem s_Ref_drop01 (hm : mrO h a) (hj : j < 8) (ho : gI h a 19 = 0) (hs : gI h (a + 14) j = 1) : Run 173 [.ref a, .int (Int32.ofNat j)] h (.inl (some (.int ((1 : Int32))))) (setI (setI h a 18 0) (a + 14) (Int32.ofNat j).toNatClampNeg 0) := by
  refine ⟨Nat.le_of_ble_eq_true rfl, ?_⟩
  show Ev 173 0 [some (.ref a), some (.int (Int32.ofNat j)), none] [] h _
  refine Er_run 4 (pc' := 5) (ls' := [some (.ref a), some (.int (Int32.ofNat j)), none]) (st' := [.int ((7 : Int32)), .int ((0 : Int32)), .int (Int32.ofNat j), .ref a]) rfl ?_
  refine Er_sta1 (av := [.int (Int32.ofNat j), .int ((0 : Int32)), .int ((7 : Int32))]) (rest := [.ref a]) rfl rfl ⟨Nat.le_of_ble_eq_true rfl, Nat.le_of_ble_eq_true rfl⟩ rfl rfl (s_Ref_in1 (jm_in_n (k := 7) (by omega) (by omega))) ?_
  refine Er_run 1 (pc' := bif !decide (((1 : Int32)) = 0) then 15 else 11) (ls' := [some (.ref a), some (.int (Int32.ofNat j)), none]) (st' := [.ref a]) rfl ?_
  refine Er_pc (t := 15) (show (bif !decide (((1 : Int32)) = 0) then 15 else 11) = 15 from by rw [show (!decide (((1 : Int32)) = 0)) = true from by decide]; rfl) ?_
  refine Er_run 1 (pc' := 16) (ls' := [some (.ref a), some (.int (Int32.ofNat j)), none]) (st' := [.ref a, .ref a]) rfl ?_
  refine Er_getI (v := (0 : Int32)) rfl hm.1 ho ?_
  refine Er_run 1 (pc' := bif decide (((0 : Int32)) = 0) then 26 else 22) (ls' := [some (.ref a), some (.int (Int32.ofNat j)), none]) (st' := [.ref a]) rfl ?_
  refine Er_pc (t := 26) (show (bif decide (((0 : Int32)) = 0) then 26 else 22) = 26 from by rw [show (decide (((0 : Int32)) = 0)) = true from by decide]; rfl) ?_
  refine Er_run 1 (pc' := 27) (ls' := [some (.ref a), some (.int (Int32.ofNat j)), none]) (st' := [.int ((0 : Int32)), .ref a]) rfl ?_
  refine Er_putI rfl hm.1 ?_
  refine Er_run 1 (pc' := 31) (ls' := [some (.ref a), some (.int (Int32.ofNat j)), none]) (st' := [.ref a]) rfl ?_
  refine Er_getI (v := (0 : Int32)) rfl hm.1 gI_eq ?_
  refine Er_run 1 (pc' := bif decide (((0 : Int32)) ≤ 0) then 39 else 37) (ls' := [some (.ref a), some (.int (Int32.ofNat j)), none]) (st' := []) rfl ?_
  refine Er_pc (t := 39) (show (bif decide (((0 : Int32)) ≤ 0) then 39 else 37) = 39 from by rw [show (decide (((0 : Int32)) ≤ 0)) = true from by decide]; rfl) ?_
  refine Er_run 1 (pc' := 40) (ls' := [some (.ref a), some (.int (Int32.ofNat j)), none]) (st' := [.ref a]) rfl ?_
  refine Er_getR (x := a + 14) rfl hm.1 (hm.2 (13, 14, 2, 8) (by decide)).1 ?_
  refine Er_run 1 (pc' := 44) (ls' := [some (.ref a), some (.int (Int32.ofNat j)), none]) (st' := [.int (Int32.ofNat j), .ref (a + 14)]) rfl ?_
  refine Er_zald (v := (1 : Int32)) rfl (hm.2 (13, 14, 2, 8) (by decide)).2.1 (mr_idx (i := j) (k := 8) hj (by omega) (hm.2 (13, 14, 2, 8) (by decide)).2.2) (show gI (setI h a 18 0) (a + 14) (Int32.ofNat j).toNatClampNeg = 1 from by rw [jx_cn (by omega), gI_ne (by omega)]; exact hs) ?_
  refine Er_run 2 (pc' := 47) (ls' := [some (.ref a), some (.int (Int32.ofNat j)), some (.int ((1 : Int32)))]) (st' := [.ref a]) rfl ?_
  refine Er_getR (x := a + 14) rfl hm.1 (hm.2 (13, 14, 2, 8) (by decide)).1 ?_
  refine Er_run 2 (pc' := 52) (ls' := [some (.ref a), some (.int (Int32.ofNat j)), some (.int ((1 : Int32)))]) (st' := [.int ((0 : Int32)), .int (Int32.ofNat j), .ref (a + 14)]) rfl ?_
  refine Er_zast rfl (hm.2 (13, 14, 2, 8) (by decide)).2.1 (mr_idx (i := j) (k := 8) hj (by omega) (hm.2 (13, 14, 2, 8) (by decide)).2.2) (by decide) ?_
  refine Er_run 1 (pc' := 54) (ls' := [some (.ref a), some (.int (Int32.ofNat j)), some (.int ((1 : Int32)))]) (st' := [.int ((1 : Int32))]) rfl ?_
  exact Er_fin rfl rfl ⟨rfl, rfl⟩
/-- clear -/
theorem RM_clear (hf : f < 16) (hp : RM h a G PR F D false n) : ∃ h', Run 169 [.ref a, .int (Int32.ofNat f)] h (.inl (some (.int (Int32.ofNat (F f).length)))) h' ∧ RM h' a G PR (jx_up F f []) D false n ∧ gI h' a 18 = 0 ∧ Fr a (a + 26) h h' := by
  have r1 := s_Ref_clear0 hp.1 hf hp.2.2.2.2.2.1 (hp.2.1 f hf).1
  rw [jx_cn (by omega)] at r1
  have z : Fr a (a + 26) h (setI (setI h a 18 0) (a + 3) f 0) := (Fr.setI (by omega) (by omega)).trans (Fr.setI (by omega) (by omega))
  have hq := RM_thr (t := 0) hp
  have q18 : gI (setI h a 18 0) a 18 = 0 := gI_eq
  generalize setI h a 18 0 = h1 at r1 z hq q18
  obtain ⟨a1, a2, a3, a4, a5, a6, a7⟩ := hq
  have e : ∀ c i, c ≠ 3 → gI (setI h1 (a + 3) f 0) (a + c) i = gI h1 (a + c) i := fun c i hc => gI_ne (by omega)
  have e2 : ∀ i, gI (setI h1 (a + 3) f 0) a i = gI h1 a i := fun i => gI_ne (by omega)
  refine ⟨_, r1, ⟨mrO_setI a1, fun g hg => ?_, fun j i hj hi => ?_, ⟨by rw [e2 15]; exact a4.1, a4.2.1, fun k p hk => ⟨by rw [e 6 _ (by omega)]; exact (a4.2.2 k p hk).1, (a4.2.2 k p hk).2⟩⟩, fun j hj => ?_, by rw [e2 19]; exact a6, by rw [e2 16]; exact a7⟩, by rw [e2 18]; exact q18, z⟩
  · by_cases q : g = f
    · subst q
      rw [up_eq, gI_eq]
      exact ⟨rfl, Nat.zero_le _, fun i p hi => by simp at hi⟩
    · rw [up_ne _ _ q, gI_ne (by omega)]; exact a2 g hg
  · rw [e 5 _ (by omega)]
    exact ⟨(a3 j i hj hi).1, (a3 j i hj hi).2.1, fun k p hk => ⟨by rw [e 4 _ (by omega)]; exact ((a3 j i hj hi).2.2 k p hk).1, ((a3 j i hj hi).2.2 k p hk).2⟩⟩
  · rw [e 14 _ (by omega), e 9 _ (by omega), e 10 _ (by omega), e 11 _ (by omega), e 12 _ (by omega)]; exact a5 j hj
/-- size -/
theorem RM_size (hf : f < 16) (hp : RM h a G PR F D false n) : Run 180 [.ref a, .int (Int32.ofNat f)] h (.inl (some (.int (Int32.ofNat (F f).length)))) (setI h a 18 0) := s_Ref_size0 hp.1 hf hp.2.2.2.2.2.1 (hp.2.1 f hf).1
/-- drop -/
theorem RM_drop (hj : j < 8) (hp : RM h a G PR F D false n) : ∃ h', Run 173 [.ref a, .int (Int32.ofNat j)] h (.inl (some (.int (G j 1)))) h' ∧ RM h' a (jx_up G j (jx_up (G j) 1 0)) PR F D false n ∧ gI h' a 18 = 0 ∧ Fr a (a + 26) h h' := by
  have r1 : Run 173 [.ref a, .int (Int32.ofNat j)] h (.inl (some (.int (G j 1)))) (setI (setI h a 18 0) (a + 14) (Int32.ofNat j).toNatClampNeg 0) := by
    have hs := (hp.2.2.2.2.1 j hj).1
    rcases (hp.2.2.2.2.1 j hj).2.1 with e | e
    · rw [e] at hs ⊢; exact s_Ref_drop00 hp.1 hj hp.2.2.2.2.2.1 hs
    · rw [e] at hs ⊢; exact s_Ref_drop01 hp.1 hj hp.2.2.2.2.2.1 hs
  rw [jx_cn (by omega)] at r1
  have z : Fr a (a + 26) h (setI (setI h a 18 0) (a + 14) j 0) := (Fr.setI (by omega) (by omega)).trans (Fr.setI (by omega) (by omega))
  have hq := RM_thr (t := 0) hp
  have q18 : gI (setI h a 18 0) a 18 = 0 := gI_eq
  generalize setI h a 18 0 = h1 at r1 z hq q18
  obtain ⟨a1, a2, a3, a4, a5, a6, a7⟩ := hq
  have e : ∀ c i, c ≠ 14 → gI (setI h1 (a + 14) j 0) (a + c) i = gI h1 (a + c) i := fun c i hc => gI_ne (by omega)
  have e2 : ∀ i, gI (setI h1 (a + 14) j 0) a i = gI h1 a i := fun i => gI_ne (by omega)
  refine ⟨_, r1, ⟨mrO_setI a1, fun g hg => ?_, fun u i hu hi => ?_, ⟨by rw [e2 15]; exact a4.1, a4.2.1, fun k p hk => ⟨by rw [e 6 _ (by omega)]; exact (a4.2.2 k p hk).1, (a4.2.2 k p hk).2⟩⟩, fun u hu => ?_, by rw [e2 19]; exact a6, by rw [e2 16]; exact a7⟩, by rw [e2 18]; exact q18, z⟩
  · rw [e 3 _ (by omega)]; exact a2 g hg
  · rw [e 5 _ (by omega)]
    exact ⟨(a3 u i hu hi).1, (a3 u i hu hi).2.1, fun k p hk => ⟨by rw [e 4 _ (by omega)]; exact ((a3 u i hu hi).2.2 k p hk).1, ((a3 u i hu hi).2.2 k p hk).2⟩⟩
  · rw [e 9 _ (by omega), e 10 _ (by omega), e 11 _ (by omega), e 12 _ (by omega)]
    by_cases q : u = j
    · subst q
      rw [up_eq, up_eq, gI_eq]
      exact ⟨rfl, Or.inl rfl, fun z => absurd z (by decide)⟩
    · rw [up_ne _ _ q, gI_ne (by omega)]; exact a5 u hu
end REFD
