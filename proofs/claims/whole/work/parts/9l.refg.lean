section REFG
variable {h h' : sm_H} {a : Nat} {G : Nat → Nat → Int32} {PR : Nat → Nat → List (Int32 × Int64)} {F : Nat → Jl} {D : List (Int32 × Int64)} {n f : Nat}
/-- record -/
theorem RM_record {k v : Int64} (hf : f < 16) (hl : (F f).length < 300) (hp : RM h a G PR F D false n) : ∃ h', Run 168 [.ref a, .int (Int32.ofNat f), .long k, .long v] h (.inl (some (.int (Int32.ofNat ((F f).length + 1))))) h' ∧ RM h' a G PR (jx_up F f (F f ++ [(k, v)])) D false n ∧ gI h' a 18 = 0 ∧ Fr a (a + 26) h h' := by
  have r1 := s_Ref_record0 (k := k) (v := v) hp.1 hf hl hp.2.2.2.2.2.1 (hp.2.1 f hf).1
  rw [mr_rec, jx_cn (show f < 2147483648 by omega), jx_cn (show 300 * f + (F f).length < 2147483648 by omega), show Int32.ofNat (F f).length + 1 = Int32.ofNat ((F f).length + 1) from jx_s1 _] at r1
  have z : Fr a (a + 26) h (setI (setL (setL (setI h a 18 0) (a + 1) (300 * f + (F f).length) k) (a + 2) (300 * f + (F f).length) v) (a + 3) f (Int32.ofNat ((F f).length + 1))) := (((Fr.setI (by omega) (by omega)).trans (Fr.setL (by omega) (by omega))).trans (Fr.setL (by omega) (by omega))).trans (Fr.setI (by omega) (by omega))
  have hm4 : mrO (setI (setL (setL (setI h a 18 0) (a + 1) (300 * f + (F f).length) k) (a + 2) (300 * f + (F f).length) v) (a + 3) f (Int32.ofNat ((F f).length + 1))) a := mrO_setI (mrO_setL (mrO_setL (mrO_setI hp.1)))
  have gi : ∀ c i, gI (setI (setL (setL (setI h a 18 0) (a + 1) (300 * f + (F f).length) k) (a + 2) (300 * f + (F f).length) v) (a + 3) f (Int32.ofNat ((F f).length + 1))) c i = if c = a + 3 ∧ i = f then Int32.ofNat ((F f).length + 1) else if c = a ∧ i = 18 then 0 else gI h c i := fun c i => rfl
  have gl : ∀ c i, gL (setI (setL (setL (setI h a 18 0) (a + 1) (300 * f + (F f).length) k) (a + 2) (300 * f + (F f).length) v) (a + 3) f (Int32.ofNat ((F f).length + 1))) c i = if c = a + 2 ∧ i = 300 * f + (F f).length then v else if c = a + 1 ∧ i = 300 * f + (F f).length then k else gL h c i := fun c i => rfl
  generalize (setI (setL (setL (setI h a 18 0) (a + 1) (300 * f + (F f).length) k) (a + 2) (300 * f + (F f).length) v) (a + 3) f (Int32.ofNat ((F f).length + 1))) = h4 at r1 z hm4 gi gl
  obtain ⟨a1, a2, a3, a4, a5, a6, a7⟩ := hp
  have e : ∀ c i, 1 ≤ c → c ≠ 3 → gI h4 (a + c) i = gI h (a + c) i := fun c i h1 h3 => by rw [gi, if_neg (by omega), if_neg (by omega)]
  have e2 : ∀ i, i ≠ 18 → gI h4 a i = gI h a i := fun i hi => by rw [gi, if_neg (by omega), if_neg (by omega)]
  have l2 : ∀ c i, 3 ≤ c → gL h4 (a + c) i = gL h (a + c) i := fun c i h1 => by rw [gl, if_neg (by omega), if_neg (by omega)]
  refine ⟨h4, r1, ⟨hm4, fun g hg => ?_, fun j i hj hi => ?_, ⟨by rw [e2 15 (by omega)]; exact a4.1, a4.2.1, fun k p hk => ⟨by rw [e 6 _ (by omega) (by omega)]; exact (a4.2.2 k p hk).1, by rw [l2 8 _ (by omega)]; exact (a4.2.2 k p hk).2⟩⟩, fun j hj => ?_, by rw [e2 19 (by omega)]; exact a6, by rw [e2 16 (by omega)]; exact a7⟩, by rw [gi, if_neg (by omega), if_pos ⟨rfl, rfl⟩], z⟩
  · obtain ⟨b1, b2, b3⟩ := a2 g hg
    by_cases q : g = f
    · subst q
      rw [up_eq]
      refine ⟨by rw [gi, if_pos ⟨rfl, rfl⟩, List.length_append, List.length_singleton], by rw [List.length_append, List.length_singleton]; omega, fun i p hi => ?_⟩
      by_cases y : i < (F g).length
      · rw [List.getElem?_append_left y] at hi
        rw [gl, if_neg (by omega), if_neg (by omega), gl, if_neg (by omega), if_neg (by omega)]
        exact b3 i p hi
      · have y2 : i < (F g ++ [(k, v)]).length := (List.getElem?_eq_some_iff.1 hi).1
        rw [List.length_append, List.length_singleton] at y2
        have y3 : i = (F g).length := by omega
        subst y3
        have y4 : (k, v) = p := by simpa using hi
        subst y4
        rw [gl, if_neg (by omega), if_pos ⟨rfl, rfl⟩, gl, if_pos ⟨rfl, rfl⟩]
        exact ⟨rfl, rfl⟩
    · rw [up_ne _ _ q, gi, if_neg (by omega), if_neg (by omega)]
      refine ⟨b1, b2, fun i p hi => ?_⟩
      have y2 : i < (F g).length := (List.getElem?_eq_some_iff.1 hi).1
      rw [gl, if_neg (by omega), if_neg (by omega), gl, if_neg (by omega), if_neg (by omega)]
      exact b3 i p hi
  · rw [e 5 _ (by omega) (by omega)]
    exact ⟨(a3 j i hj hi).1, (a3 j i hj hi).2.1, fun k p hk => ⟨by rw [e 4 _ (by omega) (by omega)]; exact ((a3 j i hj hi).2.2 k p hk).1, by rw [l2 7 _ (by omega)]; exact ((a3 j i hj hi).2.2 k p hk).2⟩⟩
  · rw [e 14 _ (by omega) (by omega), e 9 _ (by omega) (by omega), e 10 _ (by omega) (by omega), e 11 _ (by omega) (by omega), e 12 _ (by omega) (by omega)]; exact a5 j hj
end REFG
