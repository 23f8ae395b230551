/-! the calls while no RUN goes on -/
section IDLE
variable {h h' : sm_H} {G : Nat → Nat → Int32} {PR : Nat → Nat → List (Int32 × Int64)} {F : Nat → Jl} {D : List (Int32 × Int64)} {n f j k : Nat} {c : Int64}
theorem jl_nat {b : Int64} {m : Nat} (h0 : 0 ≤ c) (h1 : c ≤ b) (hb : b.toInt = m) : ∃ i : Nat, i ≤ m ∧ c = Int64.ofNat i := by
  rw [Int64.le_iff_toInt_le] at h0 h1
  have e0 : (0 : Int64).toInt = 0 := rfl
  refine ⟨c.toInt.toNat, by omega, ?_⟩
  apply Int64.toInt_inj.1
  have h2 := c.toInt_lt
  rw [Int64.toInt_ofNat_of_lt (by omega)]
  omega
theorem jq_of_jc (h0 : jc_arg k c) : jq_arg k c := by
  refine ⟨fun hk => ?_, fun hk => ?_⟩
  · obtain ⟨a1, a2⟩ := h0.1 hk
    obtain ⟨i, i1, i2⟩ := jl_nat (b := 3) (m := 3) a1 (by rw [Int64.lt_iff_toInt_lt] at a2; rw [Int64.le_iff_toInt_le]; have e4 : (4 : Int64).toInt = 4 := rfl; have e3 : (3 : Int64).toInt = 3 := rfl; omega) rfl
    have : i = 0 ∨ i = 1 ∨ i = 2 ∨ i = 3 := by omega
    rcases this with e | e | e | e <;> subst e <;> subst i2
    · exact Or.inl rfl
    · exact Or.inr (Or.inl rfl)
    · exact Or.inr (Or.inr (Or.inl rfl))
    · exact Or.inr (Or.inr (Or.inr rfl))
  · obtain ⟨a1, a2⟩ := h0.2 hk
    obtain ⟨i, i1, i2⟩ := jl_nat (b := 40) (m := 40) a1 a2 rfl
    subst i2
    have hall : ∀ m : Fin 41, (Int64.ofNat m.1).toInt32 = Int32.ofNat m.1 := by decide
    exact ⟨i, i1, hall ⟨i, by omega⟩⟩
theorem XI_isX (h0 : XI h G PR F D n) : isX h ∧ gI h 0 6 = 0 ∧ GL h 141 D ∧ gI h 0 7 = Int32.ofNat n ∧ ∃ cl, ST h 1 cl G PR F := by
  obtain ⟨cl, L, R, K, Ws, hx, _⟩ := h0
  exact ⟨hx.1.1, hx.1.2.2.1, hx.1.2.1, hx.1.2.2.2, cl, hx.2.1⟩
theorem XI_junk (h0 : XI h G PR F D n) : XI (hjunk h) G PR F D n := by
  obtain ⟨cl, L, R, K, Ws, hx, h1⟩ := h0
  exact ⟨cl, L, R, K, Ws, XS_junk hx, h1⟩
theorem jf_up {l : Jl} (hF : jf_ok F) (hl : l.length ≤ 300) : jf_ok (jx_up F f l) := by
  intro g
  by_cases e : g = f
  · rw [e, up_eq]; exact hl
  · rw [up_ne _ _ e]; exact hF g
/-- record -/
theorem XI_record {a b : Int64} (hf : f < 16) (hl : (F f).length < 300) (h0 : XI h G PR F D n) : ∃ h', Run 135 [.ref 0, .int (Int32.ofNat f), .long a, .long b] h (.inl (some (.int (Int32.ofNat ((F f).length + 1))))) h' ∧ XI h' G PR (jx_up F f (F f ++ [(a, b)])) D n ∧ SZ h h' := by
  obtain ⟨cl, L, R, K, Ws, hx, h1, h2, h3⟩ := h0
  obtain ⟨h', r1, a1, a2⟩ := s_Mill_record (k := a) (v := b) hx.1.1 hx.2.1 hf hx.1.2.2.1 hl
  obtain ⟨b1, b2⟩ := XS_st a2 (by omega) (by omega) a1 hx
  exact ⟨h', r1, ⟨_, _, _, _, _, b1, h1, jf_up h2 (by rw [List.length_append, List.length_singleton]; omega), h3⟩, b2⟩
/-- clear -/
theorem XI_clear (hf : f < 16) (h0 : XI h G PR F D n) : ∃ h', Run 136 [.ref 0, .int (Int32.ofNat f)] h (.inl (some (.int (Int32.ofNat (F f).length)))) h' ∧ XI h' G PR (jx_up F f []) D n ∧ SZ h h' := by
  obtain ⟨cl, L, R, K, Ws, hx, h1, h2, h3⟩ := h0
  obtain ⟨h', r1, a1, a2⟩ := s_Mill_clear hx.1.1 hx.2.1 hf hx.1.2.2.1
  obtain ⟨b1, b2⟩ := XS_st a2 (by omega) (by omega) a1 hx
  exact ⟨h', r1, ⟨_, _, _, _, _, b1, h1, jf_up h2 (Nat.zero_le _), h3⟩, b2⟩
/-- code -/
theorem XI_code (hk : k < 19) (ha : jc_arg k c) (hl : D.length < 40) (h0 : XI h G PR F D n) : ∃ h', Run 137 [.ref 0, .int (Int32.ofNat k), .long c] h (.inl (some (.int (Int32.ofNat (D.length + 1))))) h' ∧ XI h' G PR F (D ++ [(Int32.ofNat k, c)]) n ∧ SZ h h' := by
  obtain ⟨cl, L, R, K, Ws, hx, h1, h2, h3⟩ := h0
  obtain ⟨h', r1, a1, a2⟩ := s_Mill_code hk ha hx.1.1 hx.1.2.2.1 hx.1.2.1 hl
  obtain ⟨b1, b2⟩ := XS_dr a2 a1 hx
  refine ⟨h', r1, ⟨_, _, _, _, _, b1, ⟨h1.1, fun p hp => ?_, h1.2.2⟩, h2, h3⟩, b2⟩
  rw [List.mem_append, List.mem_singleton] at hp
  rcases hp with hp | hp
  · exact h1.2.1 p hp
  · subst hp; exact ⟨k, hk, rfl, jq_of_jc ha⟩
theorem VJ_prog {i : Nat} (h1 : VJ G PR D) : VJ G (jx_up PR j (jx_up (PR j) i D)) [] := by
  have hq : ∀ u, u < 8 → ∀ m, m < 3 → jq_ok (jx_up PR j (jx_up (PR j) i D) u m) := by
    intro u hu m hm
    by_cases e : u = j
    · subst e
      rw [up_eq]
      by_cases e2 : m = i
      · subst e2; rw [up_eq]; exact h1.2.1
      · rw [up_ne _ _ e2]; exact (h1.1 u hu).2 m hm
    · rw [up_ne _ _ e]; exact (h1.1 u hu).2 m hm
  refine ⟨fun u hu => ⟨(h1.1 u hu).1, hq u hu⟩, fun p hp => (by cases hp), fun u hu e => ?_⟩
  obtain ⟨b1, b2, b3, b4, b5, b6⟩ := h1.2.2 u hu e
  exact ⟨b1, b2, b3, b4, b5, hq u hu⟩
/-- program -/
theorem XI_program {i : Nat} (hj : j < 8) (hi : i < 3) (hD : i = 1 ∨ ¬ D.length = 0) (hL : ¬ D.any (jx_lb D.length) = true) (h0 : XI h G PR F D n) : ∃ h', Run 138 [.ref 0, .int (Int32.ofNat j), .int (Int32.ofNat i)] h (.inl (some (.int (Int32.ofNat D.length)))) h' ∧ XI h' G (jx_up PR j (jx_up (PR j) i D)) F [] n ∧ SZ h h' := by
  obtain ⟨cl, L, R, K, Ws, hx, h1, h2, h3⟩ := h0
  have hh : ∃ h', Run 138 [.ref 0, .int (Int32.ofNat j), .int (Int32.ofNat i)] h (.inl (some (.int (Int32.ofNat D.length)))) h' ∧ ST h' 1 cl G (jx_up PR j (jx_up (PR j) i D)) F ∧ GL h' 141 [] ∧ isX h' ∧ (∀ c, (c < 53 ∨ 141 ≤ c) → (c < 141 ∨ 144 ≤ c) → gI h' c = gI h c ∧ gL h' c = gL h c ∧ gR h' c = gR h c) ∧ gN h' = gN h ∧ gS h' = gS h ∧ gJ h' = gJ h ∧ gD h' = gD h := by
    have : i = 0 ∨ i = 1 ∨ i = 2 := by omega
    rcases this with e | e | e <;> subst e
    · exact s_Mill_program0 hj hx.1.1 hx.1.2.1 (by omega) hx.2.1 hL hx.1.2.2.1
    · exact s_Mill_program1 hj hx.1.1 hx.1.2.1 hx.2.1 hL hx.1.2.2.1
    · exact s_Mill_program2 hj hx.1.1 hx.1.2.1 (by omega) hx.2.1 hL hx.1.2.2.1
  obtain ⟨h', r1, a1, a2, a3, a4, a5, a6, a7, a8⟩ := hh
  have z : Fr 53 144 h h' := ⟨a5, a6, a7, a8, fun c hc => a4 c (by omega) (by omega)⟩
  obtain ⟨x1, x2, x3, x4, x5, x6⟩ := hx
  have g0 := (z.2.2.2.2 0 (by omega)).1
  exact ⟨h', r1, ⟨cl, L, R, K, Ws, ⟨⟨a3, a2, by rw [g0]; exact x1.2.2.1, by rw [g0]; exact x1.2.2.2⟩, a1, LL_fr z (by omega) x3, JR_fr z (by omega) x4, KK_fr z (by omega) x5, fun u hu => WW_fr z (by omega) (x6 u hu)⟩, VJ_prog h1, h2, h3⟩, SZ.ofFr z⟩
/-- drop -/
theorem XI_drop (hj : j < 8) (h0 : XI h G PR F D n) : ∃ h', Run 140 [.ref 0, .int (Int32.ofNat j)] h (.inl (some (.int (G j 1)))) h' ∧ XI h' (jx_up G j (jx_up (G j) 1 0)) PR F D n ∧ SZ h h' := by
  obtain ⟨cl, L, R, K, Ws, hx, h1, h2, h3⟩ := h0
  obtain ⟨h', r1, a1, a2⟩ := s_Mill_drop hj hx.1.1 hx.2.1 hx.1.2.2.1
  obtain ⟨b1, b2⟩ := XS_st a2 (by omega) (by omega) a1 hx
  refine ⟨h', r1, ⟨_, _, _, _, _, b1, ⟨fun u hu => ⟨?_, (h1.1 u hu).2⟩, h1.2.1, fun u hu e => ?_⟩, h2, h3⟩, b2⟩
  · by_cases e : u = j
    · subst e; rw [up_eq, up_eq]; exact Or.inl rfl
    · rw [up_ne _ _ e]; exact (h1.1 u hu).1
  · by_cases z : u = j
    · subst z; rw [up_eq, up_eq] at e; exact absurd e (by decide)
    · have q : jx_up G j (jx_up (G j) 1 0) u = G u := up_ne _ _ z
      rw [q] at e
      have := h1.2.2 u hu e
      unfold jb_ok at *
      rw [q]; exact this
/-- job -/
theorem XI_job {a b o d : Int32} {fa fo np : Nat} (hj : j < 8) (ea : a = Int32.ofNat fa) (hfa : fa < 16) (eo : o = Int32.ofNat fo) (hfo : fo < 16) (hb : b = -1 ∨ ∃ k, k < 16 ∧ b = Int32.ofNat k) (ed : d = Int32.ofNat np) (hn1 : 1 ≤ np) (hn6 : np ≤ 6) (hp0 : ¬ (PR j 0).length = 0) (hp2 : ¬ (PR j 2).length = 0) (h0 : XI h G PR F D n) : ∃ h', Run 139 [.ref 0, .int (Int32.ofNat j), .int a, .int b, .int o, .int d] h (.inl none) h' ∧ XI h' (jx_up G j (jb_mk a b o d)) PR F D n ∧ SZ h h' := by
  obtain ⟨cl, L, R, K, Ws, hx, h1, h2, h3⟩ := h0
  obtain ⟨h', r1, a1, a2⟩ := s_Mill_job hj ea hfa eo hfo hb ed hn1 hn6 hx.1.1 hx.1.2.2.1 hx.2.1 hp0 hp2
  obtain ⟨b1, b2⟩ := XS_st a2 (by omega) (by omega) a1 hx
  refine ⟨h', r1, ⟨_, _, _, _, _, b1, ⟨fun u hu => ⟨?_, (h1.1 u hu).2⟩, h1.2.1, fun u hu e => ?_⟩, h2, h3⟩, b2⟩
  · by_cases e : u = j
    · subst e; rw [up_eq]; exact Or.inr rfl
    · rw [up_ne _ _ e]; exact (h1.1 u hu).1
  · by_cases z : u = j
    · subst z
      have q : jx_up G u (jb_mk a b o d) u = jb_mk a b o d := up_eq _ _ _
      unfold jb_ok
      rw [q]
      refine ⟨⟨⟨fa, hfa, ea⟩, hb⟩, ⟨fo, hfo, eo⟩, ?_, ?_, ?_, (h1.1 u hu).2⟩
      · show jn0 d
        rw [jn0, ed, ji_of (by omega)]
      · show 1 ≤ ji d
        rw [ed, ji_of (by omega)]; exact hn1
      · show ji d ≤ 6
        rw [ed, ji_of (by omega)]; exact hn6
    · have q : jx_up G j (jb_mk a b o d) u = G u := up_ne _ _ z
      rw [q] at e
      have := h1.2.2 u hu e
      unfold jb_ok at *
      rw [q]; exact this
end IDLE
