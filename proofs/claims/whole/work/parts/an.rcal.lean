/-! the reference: code, program, job, told, count over what it holds -/
section REF3
variable {h h' : sm_H} {a : Nat} {x y z t : Int32} {G : Nat → Nat → Int32} {PR : Nat → Nat → List (Int32 × Int64)} {F : Nat → Jl} {D : List (Int32 × Int64)} {b : Bool} {n f i j k m : Nat} {c : Int64} {Q : sm_R → sm_H → Prop}
theorem jm_out (hm : m < 2147483647) (ho : jn_out x (m + 1)) : jm_in x 0 (Int32.ofNat m) = false := by
  rw [jm_in]
  rcases ho with ho | ho
  · rw [decide_eq_false (show ¬ (0 : Int32) ≤ x from fun z => by
      rw [Int32.le_iff_toInt_le] at z
      have : (0 : Int32).toInt = 0 := rfl
      omega)]
    rfl
  · rw [decide_eq_false (show ¬ x ≤ Int32.ofNat m from fun z => by
      rw [Int32.le_iff_toInt_le, sm_ofNat_toInt (by omega)] at z
      omega)]
    cases decide ((0 : Int32) ≤ x) <;> rfl
theorem jm_rng {lo hi : Nat} (hx : k < 2147483648) (hl : lo < 2147483648) (hh : hi < 2147483648) : jm_in (Int32.ofNat k) (Int32.ofNat lo) (Int32.ofNat hi) = (decide (lo ≤ k) && decide (k ≤ hi)) := by rw [jm_in, jx_le hl hx, jx_le hx hh]
theorem jm_neg {lo hi : Nat} (hx : x.toInt < 0) (hl : lo < 2147483648) : jm_in x (Int32.ofNat lo) (Int32.ofNat hi) = false := by
  rw [jm_in, decide_eq_false (show ¬ Int32.ofNat lo ≤ x from fun z => by
      rw [Int32.le_iff_toInt_le, sm_ofNat_toInt hl] at z
      omega)]
  rfl
theorem i_nn (hx : 0 ≤ x.toInt) : ∃ k, k < 2147483648 ∧ x = Int32.ofNat k := by
  have h2 : x.toInt < 2147483648 := Int32.toInt_lt x
  obtain ⟨k, h3, h4⟩ := jn_in x (n := 2147483648) (fun z => by rcases z with z | z <;> omega)
  exact ⟨k, h3, h4⟩
/-! code -/
theorem rc_ok (hk : k < 19) (ha : jc_arg k c) (kk : Ev 170 65 [some (.ref a), some (.int (Int32.ofNat k)), some (.long c), none, none] [.int ((1 : Int32))] h Q) : Ev 170 0 [some (.ref a), some (.int (Int32.ofNat k)), some (.long c), none, none] [] h Q := by
  have lo : 0 ≤ c → ¬ c < 0 := fun z => Int64.not_lt.2 z
  have h3 : c < 4 → c ≤ 3 := fun z => by
    rw [Int64.lt_iff_toInt_lt, show (4 : Int64).toInt = 4 from rfl] at z
    rw [Int64.le_iff_toInt_le, show (3 : Int64).toInt = 3 from rfl]; omega
  by_cases e4 : k = 4
  · subst e4; exact rc_4 (lo (ha.1 (Or.inl rfl)).1) (h3 (ha.1 (Or.inl rfl)).2) kk
  · by_cases e5 : k = 5
    · subst e5; exact rc_5 (lo (ha.1 (Or.inr rfl)).1) (h3 (ha.1 (Or.inr rfl)).2) kk
    · by_cases e15 : k = 15
      · subst e15; exact rc_15 (lo (ha.2 (Or.inl rfl)).1) (ha.2 (Or.inl rfl)).2 kk
      · by_cases e16 : k = 16
        · subst e16; exact rc_16 (lo (ha.2 (Or.inr rfl)).1) (ha.2 (Or.inr rfl)).2 kk
        · exact rc_g hk e4 e5 e15 e16 kk
theorem rc_no (hk : k < 19) (ha : ¬ jc_arg k c) (kk : Ev 170 65 [some (.ref a), some (.int (Int32.ofNat k)), some (.long c), none, none] [.int ((0 : Int32))] h Q) : Ev 170 0 [some (.ref a), some (.int (Int32.ofNat k)), some (.long c), none, none] [] h Q := by
  have h3 : c ≤ 3 → c < 4 := fun z => by
    rw [Int64.le_iff_toInt_le, show (3 : Int64).toInt = 3 from rfl] at z
    rw [Int64.lt_iff_toInt_lt, show (4 : Int64).toInt = 4 from rfl]; omega
  by_cases e4 : k = 4
  · subst e4
    by_cases lo : c < 0
    · exact rc_4l lo kk
    · exact rc_4h lo (fun z => ha ⟨fun _ => ⟨Int64.not_lt.1 lo, h3 z⟩, fun y => by omega⟩) kk
  · by_cases e5 : k = 5
    · subst e5
      by_cases lo : c < 0
      · exact rc_5l lo kk
      · exact rc_5h lo (fun z => ha ⟨fun _ => ⟨Int64.not_lt.1 lo, h3 z⟩, fun y => by omega⟩) kk
    · by_cases e15 : k = 15
      · subst e15
        by_cases lo : c < 0
        · exact rc_15l lo kk
        · exact rc_15h lo (fun z => ha ⟨fun y => by omega, fun _ => ⟨Int64.not_lt.1 lo, z⟩⟩) kk
      · by_cases e16 : k = 16
        · subst e16
          by_cases lo : c < 0
          · exact rc_16l lo kk
          · exact rc_16h lo (fun z => ha ⟨fun y => by omega, fun _ => ⟨Int64.not_lt.1 lo, z⟩⟩) kk
        · exact absurd ⟨fun y => by omega, fun y => by omega⟩ ha
theorem R_code_x (m0 : mrO h a) (ho : jn_out x 19) : Run 170 [.ref a, .int x, .long c] h (.inl (some (.int 0))) (setI h a 18 1) := by
  refine ⟨Nat.le_of_ble_eq_true rfl, ?_⟩
  show Ev 170 0 [some (.ref a), some (.int x), some (.long c), none, none] [] h _
  exact rc_x (jm_out (m := 18) (by omega) ho) (rs_1 m0 rfl)
theorem R_code_a (m0 : mrO h a) (hk : k < 19) (ha : ¬ jc_arg k c) : Run 170 [.ref a, .int (Int32.ofNat k), .long c] h (.inl (some (.int 0))) (setI h a 18 1) := by
  refine ⟨Nat.le_of_ble_eq_true rfl, ?_⟩
  show Ev 170 0 [some (.ref a), some (.int (Int32.ofNat k)), some (.long c), none, none] [] h _
  exact rc_no hk ha (rs_1 m0 rfl)
theorem R_code_2 (hk : k < 19) (ha : jc_arg k c) (hp : RM h a G PR F D b n) (hb : b = true ∨ D.length = 40) : Run 170 [.ref a, .int (Int32.ofNat k), .long c] h (.inl (some (.int 0))) (setI h a 18 2) := by
  refine ⟨Nat.le_of_ble_eq_true rfl, ?_⟩
  show Ev 170 0 [some (.ref a), some (.int (Int32.ofNat k)), some (.long c), none, none] [] h _
  refine rc_ok hk ha ?_
  by_cases e : D.length = 40
  · exact rs_2f hp.1 rfl hp.2.2.2.1.1 e
  · have hb' : b = true := hb.resolve_right e
    subst hb'
    exact rs_2o hp.1 rfl hp.2.2.2.1.1 (by have := hp.2.2.2.1.2.1; omega) hp.2.2.2.2.2.1
/-- code -/
theorem RM_code (hk : k < 19) (ha : jc_arg k c) (hl : D.length < 40) (hp : RM h a G PR F D false n) : ∃ h', Run 170 [.ref a, .int (Int32.ofNat k), .long c] h (.inl (some (.int (Int32.ofNat (D.length + 1))))) h' ∧ RM h' a G PR F (D ++ [(Int32.ofNat k, c)]) false n ∧ gI h' a 18 = 0 ∧ Fr a (a + 26) h h' := by
  have r1 : Run 170 [.ref a, .int (Int32.ofNat k), .long c] h (.inl (some (.int (Int32.ofNat D.length + (1 : Int32))))) (setI (setL (setI (setI h a 18 0) (a + 6) D.length (Int32.ofNat k)) (a + 8) D.length c) a 15 (Int32.ofNat D.length + 1)) := by
    refine ⟨Nat.le_of_ble_eq_true rfl, ?_⟩
    show Ev 170 0 [some (.ref a), some (.int (Int32.ofNat k)), some (.long c), none, none] [] h _
    exact rc_ok hk ha (rs_0 hp.1 rfl hp.2.2.2.1.1 hl hp.2.2.2.2.2.1)
  rw [jx_s1] at r1
  have z : Fr a (a + 26) h (setI (setL (setI (setI h a 18 0) (a + 6) D.length (Int32.ofNat k)) (a + 8) D.length c) a 15 (Int32.ofNat (D.length + 1))) := (((Fr.setI (by omega) (by omega)).trans (Fr.setI (by omega) (by omega))).trans (Fr.setL (by omega) (by omega))).trans (Fr.setI (by omega) (by omega))
  have hm4 : mrO (setI (setL (setI (setI h a 18 0) (a + 6) D.length (Int32.ofNat k)) (a + 8) D.length c) a 15 (Int32.ofNat (D.length + 1))) a := mrO_setI (mrO_setL (mrO_setI (mrO_setI hp.1)))
  have gi : ∀ c' i, gI (setI (setL (setI (setI h a 18 0) (a + 6) D.length (Int32.ofNat k)) (a + 8) D.length c) a 15 (Int32.ofNat (D.length + 1))) c' i = if c' = a ∧ i = 15 then Int32.ofNat (D.length + 1) else if c' = a + 6 ∧ i = D.length then Int32.ofNat k else if c' = a ∧ i = 18 then 0 else gI h c' i := fun c' i => rfl
  have gl : ∀ c' i, gL (setI (setL (setI (setI h a 18 0) (a + 6) D.length (Int32.ofNat k)) (a + 8) D.length c) a 15 (Int32.ofNat (D.length + 1))) c' i = if c' = a + 8 ∧ i = D.length then c else gL h c' i := fun c' i => rfl
  generalize setI (setL (setI (setI h a 18 0) (a + 6) D.length (Int32.ofNat k)) (a + 8) D.length c) a 15 (Int32.ofNat (D.length + 1)) = h4 at r1 z hm4 gi gl
  obtain ⟨a1, a2, a3, a4, a5, a6, a7⟩ := hp
  have e : ∀ d i, 1 ≤ d → d ≠ 6 → gI h4 (a + d) i = gI h (a + d) i := fun d i h1 h3 => by rw [gi, if_neg (by omega), if_neg (by omega), if_neg (by omega)]
  have e2 : ∀ i, i ≠ 18 → i ≠ 15 → gI h4 a i = gI h a i := fun i h1 h2 => by rw [gi, if_neg (by omega), if_neg (by omega), if_neg (by omega)]
  have l2 : ∀ d i, d ≠ 8 → gL h4 (a + d) i = gL h (a + d) i := fun d i h1 => by rw [gl, if_neg (by omega)]
  refine ⟨h4, r1, ⟨hm4, fun g hg => ?_, fun j i hj hi => ?_, ⟨?_, ?_, fun k' p hk' => ?_⟩, fun j hj => ?_, by rw [e2 19 (by omega) (by omega)]; exact a6, by rw [e2 16 (by omega) (by omega)]; exact a7⟩, by rw [gi, if_neg (by omega), if_neg (by omega), if_pos ⟨rfl, rfl⟩], z⟩
  · rw [e 3 _ (by omega) (by omega)]
    exact ⟨(a2 g hg).1, (a2 g hg).2.1, fun i p hi => by rw [l2 1 _ (by omega), l2 2 _ (by omega)]; exact (a2 g hg).2.2 i p hi⟩
  · rw [e 5 _ (by omega) (by omega)]
    exact ⟨(a3 j i hj hi).1, (a3 j i hj hi).2.1, fun k p hk => ⟨by rw [e 4 _ (by omega) (by omega)]; exact ((a3 j i hj hi).2.2 k p hk).1, by rw [l2 7 _ (by omega)]; exact ((a3 j i hj hi).2.2 k p hk).2⟩⟩
  · rw [gi, if_pos ⟨rfl, rfl⟩, List.length_append, List.length_singleton]
  · rw [List.length_append, List.length_singleton]; omega
  · by_cases q : k' < D.length
    · rw [List.getElem?_append_left q] at hk'
      rw [gi, if_neg (by omega), if_neg (by omega), if_neg (by omega), gl, if_neg (by omega)]
      exact a4.2.2 k' p hk'
    · have y2 : k' < (D ++ [(Int32.ofNat k, c)]).length := (List.getElem?_eq_some_iff.1 hk').1
      rw [List.length_append, List.length_singleton] at y2
      have y3 : k' = D.length := by omega
      subst y3
      have y4 : (Int32.ofNat k, c) = p := by simpa using hk'
      subst y4
      rw [gi, if_neg (by omega), if_pos ⟨rfl, rfl⟩, gl, if_pos ⟨rfl, rfl⟩]
      exact ⟨rfl, rfl⟩
  · rw [e 14 _ (by omega) (by omega), e 9 _ (by omega) (by omega), e 10 _ (by omega) (by omega), e 11 _ (by omega) (by omega), e 12 _ (by omega) (by omega)]; exact a5 j hj
/-! program -/
/-- is the PROGRAM that was put together fine for what y is -/
def pfine (D : List (Int32 × Int64)) (y : Int32) : Prop := (jm_in y 0 2 = true ∧ (D.length ≠ 0 ∨ y = 1)) ∧ ¬ D.any (jx_lb D.length) = true
theorem rp_all (hp : RM h a G PR F D b n) : ∃ w : Int32, (pfine D y → w = 1) ∧ (¬ pfine D y → w = 0) ∧ ∀ (Q : sm_R → sm_H → Prop), Ev 171 87 [some (.ref a), some (.int x), some (.int y), some (.int w), some (.int (Int32.ofNat D.length)), none, none] [] h Q → Ev 171 0 [some (.ref a), some (.int x), some (.int y), none, none, none, none] [] h Q := by
  obtain ⟨n0, n1, n2⟩ := hp.2.2.2.1
  have dd : ∀ k d, D[k]? = some d → gI h (a + 6) k = d.1 := fun k d e => (n2 k d e).1
  have da : ∀ k d, D[k]? = some d → gL h (a + 8) k = d.2 := fun k d e => (n2 k d e).2
  by_cases h1 : jm_in y 0 2 = true
  · by_cases h2 : D.length = 0
    · by_cases h3 : y = 1
      · subst h3
        refine ⟨if D.any (jx_lb D.length) = true then 0 else (1 : Int32), fun hf => if_neg hf.2, fun hf => ?_, fun Q kk => rp_1 hp.1 n0 dd da n1 h2 kk⟩
        by_cases h4 : D.any (jx_lb D.length) = true
        · exact if_pos h4
        · exact absurd ⟨⟨h1, Or.inr rfl⟩, h4⟩ hf
      · refine ⟨if D.any (jx_lb D.length) = true then 0 else (0 : Int32), fun hf => ?_, fun hf => ?_, fun Q kk => rp_0 hp.1 n0 dd da n1 h1 h2 h3 kk⟩
        · rcases hf.1.2 with z | z
          · exact absurd h2 z
          · exact absurd z h3
        · split <;> rfl
    · refine ⟨if D.any (jx_lb D.length) = true then 0 else (1 : Int32), fun hf => if_neg hf.2, fun hf => ?_, fun Q kk => rp_n hp.1 n0 dd da n1 h1 (by omega) kk⟩
      by_cases h4 : D.any (jx_lb D.length) = true
      · exact if_pos h4
      · exact absurd ⟨⟨h1, Or.inl h2⟩, h4⟩ hf
  · refine ⟨if D.any (jx_lb D.length) = true then 0 else (0 : Int32), fun hf => absurd hf.1.1 h1, fun hf => ?_, fun Q kk => rp_x hp.1 n0 dd da n1 (by cases e : jm_in y 0 2 with | false => rfl | true => exact absurd e h1) kk⟩
    split <;> rfl
theorem R_prog_1 (hp : RM h a G PR F D b n) (ho : jn_out x 8) : Run 171 [.ref a, .int x, .int y] h (.inl (some (.int 0))) (setI h a 18 1) := by
  refine ⟨Nat.le_of_ble_eq_true rfl, ?_⟩
  obtain ⟨w, -, -, kk⟩ := rp_all (x := x) (y := y) hp
  exact kk _ (rq_1 hp.1 rfl (jm_out (m := 7) (by omega) ho))
theorem R_prog_2 (hp : RM h a G PR F D b n) (hj : j < 8) (hf : ¬ pfine D y) : Run 171 [.ref a, .int (Int32.ofNat j), .int y] h (.inl (some (.int 0))) (setI h a 18 2) := by
  refine ⟨Nat.le_of_ble_eq_true rfl, ?_⟩
  obtain ⟨w, -, e, kk⟩ := rp_all (x := Int32.ofNat j) (y := y) hp
  have e := e hf
  subst e
  exact kk _ (rq_2 hp.1 rfl hj)
theorem R_prog_3 (hp : RM h a G PR F D true n) (hj : j < 8) (hf : pfine D y) : Run 171 [.ref a, .int (Int32.ofNat j), .int y] h (.inl (some (.int 0))) (setI h a 18 3) := by
  refine ⟨Nat.le_of_ble_eq_true rfl, ?_⟩
  obtain ⟨w, e, -, kk⟩ := rp_all (x := Int32.ofNat j) (y := y) hp
  have e := e hf
  subst e
  exact kk _ (rq_3 hp.1 rfl hj hp.2.2.2.2.2.1)
/-- program -/
theorem RM_program (hj : j < 8) (hi : i < 3) (hf : pfine D (Int32.ofNat i)) (hp : RM h a G PR F D false n) : ∃ h', Run 171 [.ref a, .int (Int32.ofNat j), .int (Int32.ofNat i)] h (.inl (some (.int (Int32.ofNat D.length)))) h' ∧ RM h' a G (jx_up PR j (jx_up (PR j) i D)) F [] false n ∧ gI h' a 18 = 0 ∧ Fr a (a + 26) h h' := by
  obtain ⟨w, e, -, kk⟩ := rp_all (x := Int32.ofNat j) (y := Int32.ofNat i) hp
  have e := e hf
  subst e
  obtain ⟨n0, n1, n2⟩ := hp.2.2.2.1
  obtain ⟨r, h', hr, er, g, ⟨z, m1, q1, q2, q3, q4, q5⟩, eh⟩ := Run_of (M := 171) (av := [.ref a, .int (Int32.ofNat j), .int (Int32.ofNat i)]) (Nat.le_of_ble_eq_true rfl) (kk _ (rq_0 hp.1 n0 (fun k d e => (n2 k d e).1) (fun k d e => (n2 k d e).2) n1 rfl hj hi hp.2.2.2.2.2.1))
  subst er
  have hq := RM_thr (t := 0) hp
  have q18 : gI (setI h a 18 0) a 18 = 0 := gI_eq
  have z0 : Fr a (a + 26) h (setI h a 18 0) := Fr.setI (by omega) (by omega)
  generalize setI h a 18 0 = h1 at z q2 q4 q5 hq q18 z0
  have zz : Fr a (a + 26) h (setI (setI g (a + 5) (3 * j + i) (Int32.ofNat D.length)) a 15 0) := ((z0.trans (z.Fr (fun c hc => by simp at hc; omega) (fun c hc => by simp at hc; omega))).trans (Fr.setI (by omega) (by omega))).trans (Fr.setI (by omega) (by omega))
  have hm4 : mrO (setI (setI g (a + 5) (3 * j + i) (Int32.ofNat D.length)) a 15 0) a := mrO_setI (mrO_setI m1)
  have gi : ∀ c' u, gI (setI (setI g (a + 5) (3 * j + i) (Int32.ofNat D.length)) a 15 0) c' u = if c' = a ∧ u = 15 then 0 else if c' = a + 5 ∧ u = 3 * j + i then Int32.ofNat D.length else gI g c' u := fun c' u => rfl
  have gl : gL (setI (setI g (a + 5) (3 * j + i) (Int32.ofNat D.length)) a 15 0) = gL g := rfl
  rw [← eh] at zz hm4 gi gl
  clear eh
  obtain ⟨a1, a2, a3, a4, a5, a6, a7⟩ := hq
  have e : ∀ d u, 1 ≤ d → d ≠ 5 → d ≠ 4 → gI h' (a + d) u = gI h1 (a + d) u := fun d u h1 h2 h3 => by rw [gi, if_neg (by omega), if_neg (by omega), z.gi (by simp; omega)]
  have e2 : ∀ u, u ≠ 15 → gI h' a u = gI h1 a u := fun u h1 => by rw [gi, if_neg (by omega), if_neg (by omega), q5]
  have l2 : ∀ d u, d ≠ 7 → gL h' (a + d) u = gL h1 (a + d) u := fun d u h1 => by rw [gl, z.gl (by simp; omega)]
  refine ⟨h', hr, ⟨hm4, fun g' hg => ?_, fun j' i' hj' hi' => ?_, ⟨by rw [gi, if_pos ⟨rfl, rfl⟩]; rfl, Nat.zero_le _, fun k p hk => by simp at hk⟩, fun j' hj' => ?_, by rw [e2 19 (by omega)]; exact a6, by rw [e2 16 (by omega)]; exact a7⟩, by rw [e2 18 (by omega)]; exact q18, zz⟩
  · rw [e 3 _ (by omega) (by omega) (by omega)]
    exact ⟨(a2 g' hg).1, (a2 g' hg).2.1, fun u p hu => by rw [l2 1 _ (by omega), l2 2 _ (by omega)]; exact (a2 g' hg).2.2 u p hu⟩
  · by_cases ej : j' = j
    · subst ej
      rw [up_eq]
      by_cases ei : i' = i
      · subst ei
        rw [up_eq, gi, if_neg (by omega), if_pos ⟨rfl, rfl⟩]
        refine ⟨rfl, n1, fun k p hk => ?_⟩
        rw [gi, if_neg (by omega), if_neg (by omega), gl]
        exact ⟨q1 k p hk, q3 k p hk⟩
      · rw [up_ne _ _ ei, gi, if_neg (by omega), if_neg (by omega), z.gi (by simp)]
        obtain ⟨b1, b2, b3⟩ := a3 j' i' hj' hi'
        refine ⟨b1, b2, fun k p hk => ?_⟩
        have hkl : k < (PR j' i').length := (List.getElem?_eq_some_iff.1 hk).1
        rw [gi, if_neg (by omega), if_neg (by omega), gl, q2 _ (by omega), q4 _ (by omega)]
        exact b3 k p hk
    · rw [up_ne _ _ ej, gi, if_neg (by omega), if_neg (by omega), z.gi (by simp)]
      obtain ⟨b1, b2, b3⟩ := a3 j' i' hj' hi'
      refine ⟨b1, b2, fun k p hk => ?_⟩
      have hkl : k < (PR j' i').length := (List.getElem?_eq_some_iff.1 hk).1
      rw [gi, if_neg (by omega), if_neg (by omega), gl, q2 _ (by omega), q4 _ (by omega)]
      exact b3 k p hk
  · rw [e 14 _ (by omega) (by omega) (by omega), e 9 _ (by omega) (by omega) (by omega), e 10 _ (by omega) (by omega) (by omega), e 11 _ (by omega) (by omega) (by omega), e 12 _ (by omega) (by omega) (by omega)]; exact a5 j' hj'
/-! job -/
theorem RM_job {p q r s : Int32} (hj : j < 8) (h2 : jm_in p 0 15 = true) (h3 : jm_in r 0 15 = true) (h4 : jm_in q (-1) 15 = true) (h5 : jm_in s 1 6 = true) (hy : (PR j 0).length ≠ 0) (hz : (PR j 2).length ≠ 0) (hp : RM h a G PR F D false n) : ∃ h', Run 172 [.ref a, .int (Int32.ofNat j), .int p, .int q, .int r, .int s] h (.inl none) h' ∧ RM h' a (jx_up G j (jb_mk p q r s)) PR F D false n ∧ gI h' a 18 = 0 ∧ Fr a (a + 26) h h' := by
  have r1 := s_Ref_job0 (j := j) (n := (PR j 0).length) (i := (PR j 2).length) hp.1 rfl (hp.2.2.1 j 0 hj (by omega)).1 (hp.2.2.1 j 2 hj (by omega)).1 (hp.2.2.1 j 0 hj (by omega)).2.1 (hp.2.2.1 j 2 hj (by omega)).2.1 hj h2 h3 h4 h5 hy hz hp.2.2.2.2.2.1
  have hq := RM_thr (t := 0) hp
  have q18 : gI (setI h a 18 0) a 18 = 0 := gI_eq
  have z0 : Fr a (a + 26) h (setI h a 18 0) := Fr.setI (by omega) (by omega)
  generalize setI h a 18 0 = h1 at r1 hq q18 z0
  have z : Fr a (a + 26) h (setI (setI (setI (setI (setI h1 (a + 14) j 1) (a + 9) j p) (a + 10) j q) (a + 11) j r) (a + 12) j s) := ((((z0.trans (Fr.setI (by omega) (by omega))).trans (Fr.setI (by omega) (by omega))).trans (Fr.setI (by omega) (by omega))).trans (Fr.setI (by omega) (by omega))).trans (Fr.setI (by omega) (by omega))
  have hm4 : mrO (setI (setI (setI (setI (setI h1 (a + 14) j 1) (a + 9) j p) (a + 10) j q) (a + 11) j r) (a + 12) j s) a := mrO_setI (mrO_setI (mrO_setI (mrO_setI (mrO_setI hq.1))))
  have gi : ∀ c' u, gI (setI (setI (setI (setI (setI h1 (a + 14) j 1) (a + 9) j p) (a + 10) j q) (a + 11) j r) (a + 12) j s) c' u = if c' = a + 12 ∧ u = j then s else if c' = a + 11 ∧ u = j then r else if c' = a + 10 ∧ u = j then q else if c' = a + 9 ∧ u = j then p else if c' = a + 14 ∧ u = j then 1 else gI h1 c' u := fun c' u => rfl
  have gl : gL (setI (setI (setI (setI (setI h1 (a + 14) j 1) (a + 9) j p) (a + 10) j q) (a + 11) j r) (a + 12) j s) = gL h1 := rfl
  generalize setI (setI (setI (setI (setI h1 (a + 14) j 1) (a + 9) j p) (a + 10) j q) (a + 11) j r) (a + 12) j s = h4 at r1 z hm4 gi gl
  obtain ⟨a1, a2, a3, a4, a5, a6, a7⟩ := hq
  have e : ∀ d u, d ≤ 8 → gI h4 (a + d) u = gI h1 (a + d) u := fun d u h1 => by rw [gi, if_neg (by omega), if_neg (by omega), if_neg (by omega), if_neg (by omega), if_neg (by omega)]
  have e2 : ∀ u, gI h4 a u = gI h1 a u := fun u => e 0 u (by omega)
  have ne : ∀ c' u, u ≠ j → gI h4 c' u = gI h1 c' u := fun c' u h1 => by rw [gi, if_neg (by omega), if_neg (by omega), if_neg (by omega), if_neg (by omega), if_neg (by omega)]
  refine ⟨h4, r1, ⟨hm4, fun g hg => ?_, fun j i hj hi => ?_, ⟨by rw [e2]; exact a4.1, a4.2.1, fun k p hk => ⟨by rw [e 6 _ (by omega)]; exact (a4.2.2 k p hk).1, by rw [gl]; exact (a4.2.2 k p hk).2⟩⟩, fun j' hj' => ?_, by rw [e2]; exact a6, by rw [e2]; exact a7⟩, by rw [e2]; exact q18, z⟩
  · rw [e 3 _ (by omega), gl]; exact a2 g hg
  · rw [e 5 _ (by omega), gl]
    exact ⟨(a3 j i hj hi).1, (a3 j i hj hi).2.1, fun k p hk => ⟨by rw [e 4 _ (by omega)]; exact ((a3 j i hj hi).2.2 k p hk).1, ((a3 j i hj hi).2.2 k p hk).2⟩⟩
  · by_cases ej : j' = j
    · subst ej
      rw [up_eq]
      refine ⟨by rw [gi, if_neg (by omega), if_neg (by omega), if_neg (by omega), if_neg (by omega), if_pos ⟨rfl, rfl⟩]; rfl, Or.inr rfl, fun _ => ⟨?_, ?_, ?_, ?_⟩⟩
      · rw [gi, if_neg (by omega), if_neg (by omega), if_neg (by omega), if_pos ⟨rfl, rfl⟩]; rfl
      · rw [gi, if_neg (by omega), if_neg (by omega), if_pos ⟨rfl, rfl⟩]; rfl
      · rw [gi, if_neg (by omega), if_pos ⟨rfl, rfl⟩]; rfl
      · rw [gi, if_pos ⟨rfl, rfl⟩]; rfl
    · rw [up_ne _ _ ej, ne _ _ ej, ne _ _ ej, ne _ _ ej, ne _ _ ej, ne _ _ ej]; exact a5 j' hj'
end REF3
