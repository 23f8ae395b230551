/-- what isChain reads of the JOBS -/
def RG (g : sm_H) (a : Nat) (G : Nat → Nat → Int32) : Prop := mrO g a ∧ ∀ u, u < 8 → gI g (a + 14) u = G u 1 ∧ (G u 1 = 0 ∨ G u 1 = 1) ∧ (G u 1 = 1 → gI g (a + 9) u = G u 2 ∧ gI g (a + 10) u = G u 3 ∧ gI g (a + 11) u = G u 4)
/-- the JOBS j and i share an OUTPUT, or j is i and has its OUTPUT as INPUT -/
def rb (G : Nat → Nat → Int32) (j i : Nat) : Prop := G i 1 = 1 ∧ G j 1 = 1 ∧ ((i < j ∧ G i 4 = G j 4) ∨ (i = j ∧ (G j 2 = G j 4 ∨ G j 3 = G j 4)))
def mOP (G : Nat → Nat → Int32) (cl : List Nat) (j : Nat) : Bool := decide (G j 1 = 1) && !decide (j ∈ cl)
def mWT (G : Nat → Nat → Int32) (cl : List Nat) (j k : Nat) : Bool := decide (G k 1 = 1) && (decide (G j 2 = G k 4 ∨ G j 3 = G k 4) && !decide (k ∈ cl))
def mNC (G : Nat → Nat → Int32) (cl : List Nat) (j : Nat) : Bool := decide (G j 1 = 1) && (!decide (j ∈ cl) && !(List.range' 0 8).any (mWT G cl j))
def mSH (G : Nat → Nat → Int32) (j k : Nat) : Bool := !decide (k = j) && (decide (G k 1 = 1) && decide (G k 4 = G j 4))
/-- THE CHAIN as the class puts it in order -/
def pP (G : Nat → Nat → Int32) : Nat → List Nat → Bool × List Nat
  | 0, cl => (true, cl)
  | k + 1, cl => match (List.range' 0 8).find? (mNC G cl) with
    | none => (false, cl)
    | some j => if (List.range' 0 8).any (mSH G j) then (false, cl) else pP G k (cl ++ [j])
section REFZ
variable {h h0 g g1 : sm_H} {a : Nat} {Q : sm_R → sm_H → Prop} {n c i j k : Nat} {x y z m x1 x2 x3 x4 xo : Int32} {G : Nat → Nat → Int32} {cl : List Nat} {u1 u2 u3 u4 u5 : Option Value}
theorem RG_fr {L : List Nat} (z : FrL [a, a + 13, a + 15] L h g) (r : RG h a G) : RG g a G := by
  refine ⟨z.mrO r.1, fun u hu => ?_⟩
  rw [z.gi (by simp), z.gi (by simp), z.gi (by simp), z.gi (by simp)]
  exact r.2 u hu
theorem s_Ref_isInput (m0 : mrO h a) (hj : j < 8) (fi0 : gI h (a + 9) j = x) (se0 : gI h (a + 10) j = y) : Run 165 [.ref a, .int (Int32.ofNat j), .int z] h (.inl (some (.int (if x = z ∨ y = z then 1 else 0)))) h := by
  refine ⟨Nat.le_of_ble_eq_true rfl, ?_⟩
  by_cases h1 : x = z
  · rw [if_pos (Or.inl h1)]
    show Ev 165 0 [some (.ref a), some (.int (Int32.ofNat j)), some (.int z)] [] h _
    refine Er_run 1 (pc' := 1) (ls' := [some (.ref a), some (.int (Int32.ofNat j)), some (.int z)]) (st' := [.ref a]) rfl ?_
    refine Er_getR (x := a + 9) rfl m0.1 (m0.2 (8, 9, 0, 8) (by decide)).1 ?_
    refine Er_run 1 (pc' := 5) (ls' := [some (.ref a), some (.int (Int32.ofNat j)), some (.int z)]) (st' := [.int (Int32.ofNat j), .ref (a + 9)]) rfl ?_
    refine Er_iald (v := x) rfl (m0.2 (8, 9, 0, 8) (by decide)).2.1 (mr_in (i := j) (k := 8) rfl (by omega) (by decide) (m0.2 (8, 9, 0, 8) (by decide)).2.2) (mr_atI rfl (by omega) fi0) ?_
    refine Er_run 2 (pc' := bif decide (x = z) then 20 else 10) (ls' := [some (.ref a), some (.int (Int32.ofNat j)), some (.int z)]) (st' := []) rfl ?_
    refine Er_pc (t := 20) (show (bif decide (x = z) then 20 else 10) = 20 from by rw [show (decide (x = z)) = true from decide_eq_true h1]; rfl) ?_
    refine Er_run 2 (pc' := 25) (ls' := [some (.ref a), some (.int (Int32.ofNat j)), some (.int z)]) (st' := [.int ((1 : Int32))]) rfl ?_
    exact Er_fin rfl rfl ⟨rfl, rfl⟩
  · by_cases h2 : y = z
    · rw [if_pos (Or.inr h2)]
      show Ev 165 0 [some (.ref a), some (.int (Int32.ofNat j)), some (.int z)] [] h _
      refine Er_run 1 (pc' := 1) (ls' := [some (.ref a), some (.int (Int32.ofNat j)), some (.int z)]) (st' := [.ref a]) rfl ?_
      refine Er_getR (x := a + 9) rfl m0.1 (m0.2 (8, 9, 0, 8) (by decide)).1 ?_
      refine Er_run 1 (pc' := 5) (ls' := [some (.ref a), some (.int (Int32.ofNat j)), some (.int z)]) (st' := [.int (Int32.ofNat j), .ref (a + 9)]) rfl ?_
      refine Er_iald (v := x) rfl (m0.2 (8, 9, 0, 8) (by decide)).2.1 (mr_in (i := j) (k := 8) rfl (by omega) (by decide) (m0.2 (8, 9, 0, 8) (by decide)).2.2) (mr_atI rfl (by omega) fi0) ?_
      refine Er_run 2 (pc' := bif decide (x = z) then 20 else 10) (ls' := [some (.ref a), some (.int (Int32.ofNat j)), some (.int z)]) (st' := []) rfl ?_
      refine Er_pc (t := 10) (show (bif decide (x = z) then 20 else 10) = 10 from by rw [show (decide (x = z)) = false from decide_eq_false h1]; rfl) ?_
      refine Er_run 1 (pc' := 11) (ls' := [some (.ref a), some (.int (Int32.ofNat j)), some (.int z)]) (st' := [.ref a]) rfl ?_
      refine Er_getR (x := a + 10) rfl m0.1 (m0.2 (9, 10, 0, 8) (by decide)).1 ?_
      refine Er_run 1 (pc' := 15) (ls' := [some (.ref a), some (.int (Int32.ofNat j)), some (.int z)]) (st' := [.int (Int32.ofNat j), .ref (a + 10)]) rfl ?_
      refine Er_iald (v := y) rfl (m0.2 (9, 10, 0, 8) (by decide)).2.1 (mr_in (i := j) (k := 8) rfl (by omega) (by decide) (m0.2 (9, 10, 0, 8) (by decide)).2.2) (mr_atI rfl (by omega) se0) ?_
      refine Er_run 2 (pc' := bif !decide (y = z) then 24 else 20) (ls' := [some (.ref a), some (.int (Int32.ofNat j)), some (.int z)]) (st' := []) rfl ?_
      refine Er_pc (t := 20) (show (bif !decide (y = z) then 24 else 20) = 20 from by rw [show (!decide (y = z)) = false from by rw [decide_eq_true h2]; rfl]; rfl) ?_
      refine Er_run 2 (pc' := 25) (ls' := [some (.ref a), some (.int (Int32.ofNat j)), some (.int z)]) (st' := [.int ((1 : Int32))]) rfl ?_
      exact Er_fin rfl rfl ⟨rfl, rfl⟩
    · rw [if_neg (fun e => e.elim h1 h2)]
      show Ev 165 0 [some (.ref a), some (.int (Int32.ofNat j)), some (.int z)] [] h _
      refine Er_run 1 (pc' := 1) (ls' := [some (.ref a), some (.int (Int32.ofNat j)), some (.int z)]) (st' := [.ref a]) rfl ?_
      refine Er_getR (x := a + 9) rfl m0.1 (m0.2 (8, 9, 0, 8) (by decide)).1 ?_
      refine Er_run 1 (pc' := 5) (ls' := [some (.ref a), some (.int (Int32.ofNat j)), some (.int z)]) (st' := [.int (Int32.ofNat j), .ref (a + 9)]) rfl ?_
      refine Er_iald (v := x) rfl (m0.2 (8, 9, 0, 8) (by decide)).2.1 (mr_in (i := j) (k := 8) rfl (by omega) (by decide) (m0.2 (8, 9, 0, 8) (by decide)).2.2) (mr_atI rfl (by omega) fi0) ?_
      refine Er_run 2 (pc' := bif decide (x = z) then 20 else 10) (ls' := [some (.ref a), some (.int (Int32.ofNat j)), some (.int z)]) (st' := []) rfl ?_
      refine Er_pc (t := 10) (show (bif decide (x = z) then 20 else 10) = 10 from by rw [show (decide (x = z)) = false from decide_eq_false h1]; rfl) ?_
      refine Er_run 1 (pc' := 11) (ls' := [some (.ref a), some (.int (Int32.ofNat j)), some (.int z)]) (st' := [.ref a]) rfl ?_
      refine Er_getR (x := a + 10) rfl m0.1 (m0.2 (9, 10, 0, 8) (by decide)).1 ?_
      refine Er_run 1 (pc' := 15) (ls' := [some (.ref a), some (.int (Int32.ofNat j)), some (.int z)]) (st' := [.int (Int32.ofNat j), .ref (a + 10)]) rfl ?_
      refine Er_iald (v := y) rfl (m0.2 (9, 10, 0, 8) (by decide)).2.1 (mr_in (i := j) (k := 8) rfl (by omega) (by decide) (m0.2 (9, 10, 0, 8) (by decide)).2.2) (mr_atI rfl (by omega) se0) ?_
      refine Er_run 2 (pc' := bif !decide (y = z) then 24 else 20) (ls' := [some (.ref a), some (.int (Int32.ofNat j)), some (.int z)]) (st' := []) rfl ?_
      refine Er_pc (t := 24) (show (bif !decide (y = z) then 24 else 20) = 24 from by rw [show (!decide (y = z)) = true from by rw [decide_eq_false h2]; rfl]; rfl) ?_
      refine Er_run 1 (pc' := 25) (ls' := [some (.ref a), some (.int (Int32.ofNat j)), some (.int z)]) (st' := [.int ((0 : Int32))]) rfl ?_
      exact Er_fin rfl rfl ⟨rfl, rfl⟩
theorem s_Ref_isInput1 (m0 : mrO h a) (hj : j < 8) (fi0 : gI h (a + 9) j = x) (se0 : gI h (a + 10) j = y) (hz : x = z ∨ y = z) : Run 165 [.ref a, .int (Int32.ofNat j), .int z] h (.inl (some (.int 1))) h := by
  have := s_Ref_isInput (z := z) m0 hj fi0 se0
  rw [if_pos hz] at this; exact this
theorem s_Ref_isInput0 (m0 : mrO h a) (hj : j < 8) (fi0 : gI h (a + 9) j = x) (se0 : gI h (a + 10) j = y) (hz : ¬ (x = z ∨ y = z)) : Run 165 [.ref a, .int (Int32.ofNat j), .int z] h (.inl (some (.int 0))) h := by
  have := s_Ref_isInput (z := z) m0 hj fi0 se0
  rw [if_neg hz] at this; exact this
set_option maxRecDepth 10000 in
theorem ic_e (hi : i = 8) (kk : Ev 166 106 [some (.ref a), some (.int (Int32.ofNat j)), some (.int (Int32.ofNat i)), u3, u4, u5] [] g Q) : Ev 166 35 [some (.ref a), some (.int (Int32.ofNat j)), some (.int (Int32.ofNat i)), u3, u4, u5] [] g Q := by
  refine Er_run 3 (pc' := bif decide (((8 : Int32)) ≤ (Int32.ofNat i)) then 106 else 41) (ls' := [some (.ref a), some (.int (Int32.ofNat j)), some (.int (Int32.ofNat i)), u3, u4, u5]) (st' := []) rfl ?_
  refine Er_pc (t := 106) (show (bif decide (((8 : Int32)) ≤ (Int32.ofNat i)) then 106 else 41) = 106 from by rw [show (decide (((8 : Int32)) ≤ (Int32.ofNat i))) = true from by rw [show (8 : Int32) = Int32.ofNat 8 from rfl, jx_le (by omega) (by omega)]; exact decide_eq_true (by omega)]; rfl) ?_
  exact kk
set_option maxRecDepth 10000 in
theorem ic_a (m0 : mrO g a) (hj : j < 8) (hi : i < 8) (mi0 : gI g (a + 14) i = 0) (kk : Ev 166 35 [some (.ref a), some (.int (Int32.ofNat j)), some (.int (Int32.ofNat (i + 1))), u3, u4, u5] [] g Q) : Ev 166 35 [some (.ref a), some (.int (Int32.ofNat j)), some (.int (Int32.ofNat i)), u3, u4, u5] [] g Q := by
  refine Er_run 3 (pc' := bif decide (((8 : Int32)) ≤ (Int32.ofNat i)) then 106 else 41) (ls' := [some (.ref a), some (.int (Int32.ofNat j)), some (.int (Int32.ofNat i)), u3, u4, u5]) (st' := []) rfl ?_
  refine Er_pc (t := 41) (show (bif decide (((8 : Int32)) ≤ (Int32.ofNat i)) then 106 else 41) = 41 from by rw [show (decide (((8 : Int32)) ≤ (Int32.ofNat i))) = false from by rw [show (8 : Int32) = Int32.ofNat 8 from rfl, jx_le (by omega) (by omega)]; exact decide_eq_false (by omega)]; rfl) ?_
  refine Er_run 1 (pc' := 42) (ls' := [some (.ref a), some (.int (Int32.ofNat j)), some (.int (Int32.ofNat i)), u3, u4, u5]) (st' := [.ref a]) rfl ?_
  refine Er_getR (x := a + 14) rfl m0.1 (m0.2 (13, 14, 2, 8) (by decide)).1 ?_
  refine Er_run 1 (pc' := 46) (ls' := [some (.ref a), some (.int (Int32.ofNat j)), some (.int (Int32.ofNat i)), u3, u4, u5]) (st' := [.int (Int32.ofNat i), .ref (a + 14)]) rfl ?_
  refine Er_zald (v := (0 : Int32)) rfl (m0.2 (13, 14, 2, 8) (by decide)).2.1 (mr_in (i := i) (k := 8) rfl (by omega) (by decide) (m0.2 (13, 14, 2, 8) (by decide)).2.2) (mr_atI rfl (by omega) mi0) ?_
  refine Er_run 1 (pc' := bif decide (((0 : Int32)) = 0) then 100 else 50) (ls' := [some (.ref a), some (.int (Int32.ofNat j)), some (.int (Int32.ofNat i)), u3, u4, u5]) (st' := []) rfl ?_
  refine Er_pc (t := 100) (show (bif decide (((0 : Int32)) = 0) then 100 else 50) = 100 from by rw [show (decide (((0 : Int32)) = 0)) = true from by decide]; rfl) ?_
  refine Er_run 2 (pc' := 35) (ls' := [some (.ref a), some (.int (Int32.ofNat j)), some (.int ((Int32.ofNat i) + (1 : Int32))), u3, u4, u5]) (st' := []) rfl ?_
  rw [jx_s1]
  exact kk
set_option maxRecDepth 10000 in
theorem ic_b (m0 : mrO g a) (hj : j < 8) (hi : i < 8) (mi0 : gI g (a + 14) i = 1) (mj0 : gI g (a + 14) j = 0) (kk : Ev 166 35 [some (.ref a), some (.int (Int32.ofNat j)), some (.int (Int32.ofNat (i + 1))), u3, u4, u5] [] g Q) : Ev 166 35 [some (.ref a), some (.int (Int32.ofNat j)), some (.int (Int32.ofNat i)), u3, u4, u5] [] g Q := by
  refine Er_run 3 (pc' := bif decide (((8 : Int32)) ≤ (Int32.ofNat i)) then 106 else 41) (ls' := [some (.ref a), some (.int (Int32.ofNat j)), some (.int (Int32.ofNat i)), u3, u4, u5]) (st' := []) rfl ?_
  refine Er_pc (t := 41) (show (bif decide (((8 : Int32)) ≤ (Int32.ofNat i)) then 106 else 41) = 41 from by rw [show (decide (((8 : Int32)) ≤ (Int32.ofNat i))) = false from by rw [show (8 : Int32) = Int32.ofNat 8 from rfl, jx_le (by omega) (by omega)]; exact decide_eq_false (by omega)]; rfl) ?_
  refine Er_run 1 (pc' := 42) (ls' := [some (.ref a), some (.int (Int32.ofNat j)), some (.int (Int32.ofNat i)), u3, u4, u5]) (st' := [.ref a]) rfl ?_
  refine Er_getR (x := a + 14) rfl m0.1 (m0.2 (13, 14, 2, 8) (by decide)).1 ?_
  refine Er_run 1 (pc' := 46) (ls' := [some (.ref a), some (.int (Int32.ofNat j)), some (.int (Int32.ofNat i)), u3, u4, u5]) (st' := [.int (Int32.ofNat i), .ref (a + 14)]) rfl ?_
  refine Er_zald (v := (1 : Int32)) rfl (m0.2 (13, 14, 2, 8) (by decide)).2.1 (mr_in (i := i) (k := 8) rfl (by omega) (by decide) (m0.2 (13, 14, 2, 8) (by decide)).2.2) (mr_atI rfl (by omega) mi0) ?_
  refine Er_run 1 (pc' := bif decide (((1 : Int32)) = 0) then 100 else 50) (ls' := [some (.ref a), some (.int (Int32.ofNat j)), some (.int (Int32.ofNat i)), u3, u4, u5]) (st' := []) rfl ?_
  refine Er_pc (t := 50) (show (bif decide (((1 : Int32)) = 0) then 100 else 50) = 50 from by rw [show (decide (((1 : Int32)) = 0)) = false from by decide]; rfl) ?_
  refine Er_run 1 (pc' := 51) (ls' := [some (.ref a), some (.int (Int32.ofNat j)), some (.int (Int32.ofNat i)), u3, u4, u5]) (st' := [.ref a]) rfl ?_
  refine Er_getR (x := a + 14) rfl m0.1 (m0.2 (13, 14, 2, 8) (by decide)).1 ?_
  refine Er_run 1 (pc' := 55) (ls' := [some (.ref a), some (.int (Int32.ofNat j)), some (.int (Int32.ofNat i)), u3, u4, u5]) (st' := [.int (Int32.ofNat j), .ref (a + 14)]) rfl ?_
  refine Er_zald (v := (0 : Int32)) rfl (m0.2 (13, 14, 2, 8) (by decide)).2.1 (mr_in (i := j) (k := 8) rfl (by omega) (by decide) (m0.2 (13, 14, 2, 8) (by decide)).2.2) (mr_atI rfl (by omega) mj0) ?_
  refine Er_run 1 (pc' := bif decide (((0 : Int32)) = 0) then 100 else 59) (ls' := [some (.ref a), some (.int (Int32.ofNat j)), some (.int (Int32.ofNat i)), u3, u4, u5]) (st' := []) rfl ?_
  refine Er_pc (t := 100) (show (bif decide (((0 : Int32)) = 0) then 100 else 59) = 100 from by rw [show (decide (((0 : Int32)) = 0)) = true from by decide]; rfl) ?_
  refine Er_run 2 (pc' := 35) (ls' := [some (.ref a), some (.int (Int32.ofNat j)), some (.int ((Int32.ofNat i) + (1 : Int32))), u3, u4, u5]) (st' := []) rfl ?_
  rw [jx_s1]
  exact kk
set_option maxRecDepth 10000 in
theorem ic_c (m0 : mrO g a) (hj : j < 8) (hi : i < 8) (mi0 : gI g (a + 14) i = 1) (mj0 : gI g (a + 14) j = 1) (oi0 : gI g (a + 11) i = x) (oj0 : gI g (a + 11) j = y) (hlt : i < j) (he : x = y) (hq : Q (.inl (some (.int 0))) g) : Ev 166 35 [some (.ref a), some (.int (Int32.ofNat j)), some (.int (Int32.ofNat i)), u3, u4, u5] [] g Q := by
  refine Er_run 3 (pc' := bif decide (((8 : Int32)) ≤ (Int32.ofNat i)) then 106 else 41) (ls' := [some (.ref a), some (.int (Int32.ofNat j)), some (.int (Int32.ofNat i)), u3, u4, u5]) (st' := []) rfl ?_
  refine Er_pc (t := 41) (show (bif decide (((8 : Int32)) ≤ (Int32.ofNat i)) then 106 else 41) = 41 from by rw [show (decide (((8 : Int32)) ≤ (Int32.ofNat i))) = false from by rw [show (8 : Int32) = Int32.ofNat 8 from rfl, jx_le (by omega) (by omega)]; exact decide_eq_false (by omega)]; rfl) ?_
  refine Er_run 1 (pc' := 42) (ls' := [some (.ref a), some (.int (Int32.ofNat j)), some (.int (Int32.ofNat i)), u3, u4, u5]) (st' := [.ref a]) rfl ?_
  refine Er_getR (x := a + 14) rfl m0.1 (m0.2 (13, 14, 2, 8) (by decide)).1 ?_
  refine Er_run 1 (pc' := 46) (ls' := [some (.ref a), some (.int (Int32.ofNat j)), some (.int (Int32.ofNat i)), u3, u4, u5]) (st' := [.int (Int32.ofNat i), .ref (a + 14)]) rfl ?_
  refine Er_zald (v := (1 : Int32)) rfl (m0.2 (13, 14, 2, 8) (by decide)).2.1 (mr_in (i := i) (k := 8) rfl (by omega) (by decide) (m0.2 (13, 14, 2, 8) (by decide)).2.2) (mr_atI rfl (by omega) mi0) ?_
  refine Er_run 1 (pc' := bif decide (((1 : Int32)) = 0) then 100 else 50) (ls' := [some (.ref a), some (.int (Int32.ofNat j)), some (.int (Int32.ofNat i)), u3, u4, u5]) (st' := []) rfl ?_
  refine Er_pc (t := 50) (show (bif decide (((1 : Int32)) = 0) then 100 else 50) = 50 from by rw [show (decide (((1 : Int32)) = 0)) = false from by decide]; rfl) ?_
  refine Er_run 1 (pc' := 51) (ls' := [some (.ref a), some (.int (Int32.ofNat j)), some (.int (Int32.ofNat i)), u3, u4, u5]) (st' := [.ref a]) rfl ?_
  refine Er_getR (x := a + 14) rfl m0.1 (m0.2 (13, 14, 2, 8) (by decide)).1 ?_
  refine Er_run 1 (pc' := 55) (ls' := [some (.ref a), some (.int (Int32.ofNat j)), some (.int (Int32.ofNat i)), u3, u4, u5]) (st' := [.int (Int32.ofNat j), .ref (a + 14)]) rfl ?_
  refine Er_zald (v := (1 : Int32)) rfl (m0.2 (13, 14, 2, 8) (by decide)).2.1 (mr_in (i := j) (k := 8) rfl (by omega) (by decide) (m0.2 (13, 14, 2, 8) (by decide)).2.2) (mr_atI rfl (by omega) mj0) ?_
  refine Er_run 1 (pc' := bif decide (((1 : Int32)) = 0) then 100 else 59) (ls' := [some (.ref a), some (.int (Int32.ofNat j)), some (.int (Int32.ofNat i)), u3, u4, u5]) (st' := []) rfl ?_
  refine Er_pc (t := 59) (show (bif decide (((1 : Int32)) = 0) then 100 else 59) = 59 from by rw [show (decide (((1 : Int32)) = 0)) = false from by decide]; rfl) ?_
  refine Er_run 3 (pc' := bif decide ((Int32.ofNat j) ≤ (Int32.ofNat i)) then 79 else 64) (ls' := [some (.ref a), some (.int (Int32.ofNat j)), some (.int (Int32.ofNat i)), u3, u4, u5]) (st' := []) rfl ?_
  refine Er_pc (t := 64) (show (bif decide ((Int32.ofNat j) ≤ (Int32.ofNat i)) then 79 else 64) = 64 from by rw [show (decide ((Int32.ofNat j) ≤ (Int32.ofNat i))) = false from by rw [jx_le (by omega) (by omega)]; exact decide_eq_false (by omega)]; rfl) ?_
  refine Er_run 1 (pc' := 65) (ls' := [some (.ref a), some (.int (Int32.ofNat j)), some (.int (Int32.ofNat i)), u3, u4, u5]) (st' := [.ref a]) rfl ?_
  refine Er_getR (x := a + 11) rfl m0.1 (m0.2 (10, 11, 0, 8) (by decide)).1 ?_
  refine Er_run 1 (pc' := 69) (ls' := [some (.ref a), some (.int (Int32.ofNat j)), some (.int (Int32.ofNat i)), u3, u4, u5]) (st' := [.int (Int32.ofNat i), .ref (a + 11)]) rfl ?_
  refine Er_iald (v := x) rfl (m0.2 (10, 11, 0, 8) (by decide)).2.1 (mr_in (i := i) (k := 8) rfl (by omega) (by decide) (m0.2 (10, 11, 0, 8) (by decide)).2.2) (mr_atI rfl (by omega) oi0) ?_
  refine Er_run 1 (pc' := 71) (ls' := [some (.ref a), some (.int (Int32.ofNat j)), some (.int (Int32.ofNat i)), u3, u4, u5]) (st' := [.ref a, .int x]) rfl ?_
  refine Er_getR (x := a + 11) rfl m0.1 (m0.2 (10, 11, 0, 8) (by decide)).1 ?_
  refine Er_run 1 (pc' := 75) (ls' := [some (.ref a), some (.int (Int32.ofNat j)), some (.int (Int32.ofNat i)), u3, u4, u5]) (st' := [.int (Int32.ofNat j), .ref (a + 11), .int x]) rfl ?_
  refine Er_iald (v := y) rfl (m0.2 (10, 11, 0, 8) (by decide)).2.1 (mr_in (i := j) (k := 8) rfl (by omega) (by decide) (m0.2 (10, 11, 0, 8) (by decide)).2.2) (mr_atI rfl (by omega) oj0) ?_
  refine Er_run 1 (pc' := bif decide (x = y) then 98 else 79) (ls' := [some (.ref a), some (.int (Int32.ofNat j)), some (.int (Int32.ofNat i)), u3, u4, u5]) (st' := []) rfl ?_
  refine Er_pc (t := 98) (show (bif decide (x = y) then 98 else 79) = 98 from by rw [show (decide (x = y)) = true from decide_eq_true he]; rfl) ?_
  refine Er_run 1 (pc' := 99) (ls' := [some (.ref a), some (.int (Int32.ofNat j)), some (.int (Int32.ofNat i)), u3, u4, u5]) (st' := [.int ((0 : Int32))]) rfl ?_
  exact Er_fin rfl rfl hq
set_option maxRecDepth 10000 in
theorem ic_d (m0 : mrO g a) (hj : j < 8) (hi : i < 8) (mi0 : gI g (a + 14) i = 1) (mj0 : gI g (a + 14) j = 1) (oi0 : gI g (a + 11) i = x) (oj0 : gI g (a + 11) j = y) (hlt : i < j) (he : ¬ x = y) (kk : Ev 166 35 [some (.ref a), some (.int (Int32.ofNat j)), some (.int (Int32.ofNat (i + 1))), u3, u4, u5] [] g Q) : Ev 166 35 [some (.ref a), some (.int (Int32.ofNat j)), some (.int (Int32.ofNat i)), u3, u4, u5] [] g Q := by
  refine Er_run 3 (pc' := bif decide (((8 : Int32)) ≤ (Int32.ofNat i)) then 106 else 41) (ls' := [some (.ref a), some (.int (Int32.ofNat j)), some (.int (Int32.ofNat i)), u3, u4, u5]) (st' := []) rfl ?_
  refine Er_pc (t := 41) (show (bif decide (((8 : Int32)) ≤ (Int32.ofNat i)) then 106 else 41) = 41 from by rw [show (decide (((8 : Int32)) ≤ (Int32.ofNat i))) = false from by rw [show (8 : Int32) = Int32.ofNat 8 from rfl, jx_le (by omega) (by omega)]; exact decide_eq_false (by omega)]; rfl) ?_
  refine Er_run 1 (pc' := 42) (ls' := [some (.ref a), some (.int (Int32.ofNat j)), some (.int (Int32.ofNat i)), u3, u4, u5]) (st' := [.ref a]) rfl ?_
  refine Er_getR (x := a + 14) rfl m0.1 (m0.2 (13, 14, 2, 8) (by decide)).1 ?_
  refine Er_run 1 (pc' := 46) (ls' := [some (.ref a), some (.int (Int32.ofNat j)), some (.int (Int32.ofNat i)), u3, u4, u5]) (st' := [.int (Int32.ofNat i), .ref (a + 14)]) rfl ?_
  refine Er_zald (v := (1 : Int32)) rfl (m0.2 (13, 14, 2, 8) (by decide)).2.1 (mr_in (i := i) (k := 8) rfl (by omega) (by decide) (m0.2 (13, 14, 2, 8) (by decide)).2.2) (mr_atI rfl (by omega) mi0) ?_
  refine Er_run 1 (pc' := bif decide (((1 : Int32)) = 0) then 100 else 50) (ls' := [some (.ref a), some (.int (Int32.ofNat j)), some (.int (Int32.ofNat i)), u3, u4, u5]) (st' := []) rfl ?_
  refine Er_pc (t := 50) (show (bif decide (((1 : Int32)) = 0) then 100 else 50) = 50 from by rw [show (decide (((1 : Int32)) = 0)) = false from by decide]; rfl) ?_
  refine Er_run 1 (pc' := 51) (ls' := [some (.ref a), some (.int (Int32.ofNat j)), some (.int (Int32.ofNat i)), u3, u4, u5]) (st' := [.ref a]) rfl ?_
  refine Er_getR (x := a + 14) rfl m0.1 (m0.2 (13, 14, 2, 8) (by decide)).1 ?_
  refine Er_run 1 (pc' := 55) (ls' := [some (.ref a), some (.int (Int32.ofNat j)), some (.int (Int32.ofNat i)), u3, u4, u5]) (st' := [.int (Int32.ofNat j), .ref (a + 14)]) rfl ?_
  refine Er_zald (v := (1 : Int32)) rfl (m0.2 (13, 14, 2, 8) (by decide)).2.1 (mr_in (i := j) (k := 8) rfl (by omega) (by decide) (m0.2 (13, 14, 2, 8) (by decide)).2.2) (mr_atI rfl (by omega) mj0) ?_
  refine Er_run 1 (pc' := bif decide (((1 : Int32)) = 0) then 100 else 59) (ls' := [some (.ref a), some (.int (Int32.ofNat j)), some (.int (Int32.ofNat i)), u3, u4, u5]) (st' := []) rfl ?_
  refine Er_pc (t := 59) (show (bif decide (((1 : Int32)) = 0) then 100 else 59) = 59 from by rw [show (decide (((1 : Int32)) = 0)) = false from by decide]; rfl) ?_
  refine Er_run 3 (pc' := bif decide ((Int32.ofNat j) ≤ (Int32.ofNat i)) then 79 else 64) (ls' := [some (.ref a), some (.int (Int32.ofNat j)), some (.int (Int32.ofNat i)), u3, u4, u5]) (st' := []) rfl ?_
  refine Er_pc (t := 64) (show (bif decide ((Int32.ofNat j) ≤ (Int32.ofNat i)) then 79 else 64) = 64 from by rw [show (decide ((Int32.ofNat j) ≤ (Int32.ofNat i))) = false from by rw [jx_le (by omega) (by omega)]; exact decide_eq_false (by omega)]; rfl) ?_
  refine Er_run 1 (pc' := 65) (ls' := [some (.ref a), some (.int (Int32.ofNat j)), some (.int (Int32.ofNat i)), u3, u4, u5]) (st' := [.ref a]) rfl ?_
  refine Er_getR (x := a + 11) rfl m0.1 (m0.2 (10, 11, 0, 8) (by decide)).1 ?_
  refine Er_run 1 (pc' := 69) (ls' := [some (.ref a), some (.int (Int32.ofNat j)), some (.int (Int32.ofNat i)), u3, u4, u5]) (st' := [.int (Int32.ofNat i), .ref (a + 11)]) rfl ?_
  refine Er_iald (v := x) rfl (m0.2 (10, 11, 0, 8) (by decide)).2.1 (mr_in (i := i) (k := 8) rfl (by omega) (by decide) (m0.2 (10, 11, 0, 8) (by decide)).2.2) (mr_atI rfl (by omega) oi0) ?_
  refine Er_run 1 (pc' := 71) (ls' := [some (.ref a), some (.int (Int32.ofNat j)), some (.int (Int32.ofNat i)), u3, u4, u5]) (st' := [.ref a, .int x]) rfl ?_
  refine Er_getR (x := a + 11) rfl m0.1 (m0.2 (10, 11, 0, 8) (by decide)).1 ?_
  refine Er_run 1 (pc' := 75) (ls' := [some (.ref a), some (.int (Int32.ofNat j)), some (.int (Int32.ofNat i)), u3, u4, u5]) (st' := [.int (Int32.ofNat j), .ref (a + 11), .int x]) rfl ?_
  refine Er_iald (v := y) rfl (m0.2 (10, 11, 0, 8) (by decide)).2.1 (mr_in (i := j) (k := 8) rfl (by omega) (by decide) (m0.2 (10, 11, 0, 8) (by decide)).2.2) (mr_atI rfl (by omega) oj0) ?_
  refine Er_run 1 (pc' := bif decide (x = y) then 98 else 79) (ls' := [some (.ref a), some (.int (Int32.ofNat j)), some (.int (Int32.ofNat i)), u3, u4, u5]) (st' := []) rfl ?_
  refine Er_pc (t := 79) (show (bif decide (x = y) then 98 else 79) = 79 from by rw [show (decide (x = y)) = false from decide_eq_false he]; rfl) ?_
  refine Er_run 3 (pc' := bif !decide ((Int32.ofNat i) = (Int32.ofNat j)) then 100 else 84) (ls' := [some (.ref a), some (.int (Int32.ofNat j)), some (.int (Int32.ofNat i)), u3, u4, u5]) (st' := []) rfl ?_
  refine Er_pc (t := 100) (show (bif !decide ((Int32.ofNat i) = (Int32.ofNat j)) then 100 else 84) = 100 from by rw [show (!decide ((Int32.ofNat i) = (Int32.ofNat j))) = true from by rw [jx_eq (by omega) (by omega), decide_eq_false (show ¬ i = j by omega)]; rfl]; rfl) ?_
  refine Er_run 2 (pc' := 35) (ls' := [some (.ref a), some (.int (Int32.ofNat j)), some (.int ((Int32.ofNat i) + (1 : Int32))), u3, u4, u5]) (st' := []) rfl ?_
  rw [jx_s1]
  exact kk
set_option maxRecDepth 10000 in
theorem ic_g (m0 : mrO g a) (hj : j < 8) (hi : i < 8) (mi0 : gI g (a + 14) i = 1) (mj0 : gI g (a + 14) j = 1) (hlt : j < i) (kk : Ev 166 35 [some (.ref a), some (.int (Int32.ofNat j)), some (.int (Int32.ofNat (i + 1))), u3, u4, u5] [] g Q) : Ev 166 35 [some (.ref a), some (.int (Int32.ofNat j)), some (.int (Int32.ofNat i)), u3, u4, u5] [] g Q := by
  refine Er_run 3 (pc' := bif decide (((8 : Int32)) ≤ (Int32.ofNat i)) then 106 else 41) (ls' := [some (.ref a), some (.int (Int32.ofNat j)), some (.int (Int32.ofNat i)), u3, u4, u5]) (st' := []) rfl ?_
  refine Er_pc (t := 41) (show (bif decide (((8 : Int32)) ≤ (Int32.ofNat i)) then 106 else 41) = 41 from by rw [show (decide (((8 : Int32)) ≤ (Int32.ofNat i))) = false from by rw [show (8 : Int32) = Int32.ofNat 8 from rfl, jx_le (by omega) (by omega)]; exact decide_eq_false (by omega)]; rfl) ?_
  refine Er_run 1 (pc' := 42) (ls' := [some (.ref a), some (.int (Int32.ofNat j)), some (.int (Int32.ofNat i)), u3, u4, u5]) (st' := [.ref a]) rfl ?_
  refine Er_getR (x := a + 14) rfl m0.1 (m0.2 (13, 14, 2, 8) (by decide)).1 ?_
  refine Er_run 1 (pc' := 46) (ls' := [some (.ref a), some (.int (Int32.ofNat j)), some (.int (Int32.ofNat i)), u3, u4, u5]) (st' := [.int (Int32.ofNat i), .ref (a + 14)]) rfl ?_
  refine Er_zald (v := (1 : Int32)) rfl (m0.2 (13, 14, 2, 8) (by decide)).2.1 (mr_in (i := i) (k := 8) rfl (by omega) (by decide) (m0.2 (13, 14, 2, 8) (by decide)).2.2) (mr_atI rfl (by omega) mi0) ?_
  refine Er_run 1 (pc' := bif decide (((1 : Int32)) = 0) then 100 else 50) (ls' := [some (.ref a), some (.int (Int32.ofNat j)), some (.int (Int32.ofNat i)), u3, u4, u5]) (st' := []) rfl ?_
  refine Er_pc (t := 50) (show (bif decide (((1 : Int32)) = 0) then 100 else 50) = 50 from by rw [show (decide (((1 : Int32)) = 0)) = false from by decide]; rfl) ?_
  refine Er_run 1 (pc' := 51) (ls' := [some (.ref a), some (.int (Int32.ofNat j)), some (.int (Int32.ofNat i)), u3, u4, u5]) (st' := [.ref a]) rfl ?_
  refine Er_getR (x := a + 14) rfl m0.1 (m0.2 (13, 14, 2, 8) (by decide)).1 ?_
  refine Er_run 1 (pc' := 55) (ls' := [some (.ref a), some (.int (Int32.ofNat j)), some (.int (Int32.ofNat i)), u3, u4, u5]) (st' := [.int (Int32.ofNat j), .ref (a + 14)]) rfl ?_
  refine Er_zald (v := (1 : Int32)) rfl (m0.2 (13, 14, 2, 8) (by decide)).2.1 (mr_in (i := j) (k := 8) rfl (by omega) (by decide) (m0.2 (13, 14, 2, 8) (by decide)).2.2) (mr_atI rfl (by omega) mj0) ?_
  refine Er_run 1 (pc' := bif decide (((1 : Int32)) = 0) then 100 else 59) (ls' := [some (.ref a), some (.int (Int32.ofNat j)), some (.int (Int32.ofNat i)), u3, u4, u5]) (st' := []) rfl ?_
  refine Er_pc (t := 59) (show (bif decide (((1 : Int32)) = 0) then 100 else 59) = 59 from by rw [show (decide (((1 : Int32)) = 0)) = false from by decide]; rfl) ?_
  refine Er_run 3 (pc' := bif decide ((Int32.ofNat j) ≤ (Int32.ofNat i)) then 79 else 64) (ls' := [some (.ref a), some (.int (Int32.ofNat j)), some (.int (Int32.ofNat i)), u3, u4, u5]) (st' := []) rfl ?_
  refine Er_pc (t := 79) (show (bif decide ((Int32.ofNat j) ≤ (Int32.ofNat i)) then 79 else 64) = 79 from by rw [show (decide ((Int32.ofNat j) ≤ (Int32.ofNat i))) = true from by rw [jx_le (by omega) (by omega)]; exact decide_eq_true (by omega)]; rfl) ?_
  refine Er_run 3 (pc' := bif !decide ((Int32.ofNat i) = (Int32.ofNat j)) then 100 else 84) (ls' := [some (.ref a), some (.int (Int32.ofNat j)), some (.int (Int32.ofNat i)), u3, u4, u5]) (st' := []) rfl ?_
  refine Er_pc (t := 100) (show (bif !decide ((Int32.ofNat i) = (Int32.ofNat j)) then 100 else 84) = 100 from by rw [show (!decide ((Int32.ofNat i) = (Int32.ofNat j))) = true from by rw [jx_eq (by omega) (by omega), decide_eq_false (show ¬ i = j by omega)]; rfl]; rfl) ?_
  refine Er_run 2 (pc' := 35) (ls' := [some (.ref a), some (.int (Int32.ofNat j)), some (.int ((Int32.ofNat i) + (1 : Int32))), u3, u4, u5]) (st' := []) rfl ?_
  rw [jx_s1]
  exact kk
set_option maxRecDepth 10000 in
theorem ic_y (m0 : mrO g a) (hj : j < 8) (hi : i < 8) (mi0 : gI g (a + 14) i = 1) (mj0 : gI g (a + 14) j = 1) (oj0 : gI g (a + 11) j = y) (fi0 : gI g (a + 9) j = x1) (se0 : gI g (a + 10) j = x2) (hlt : i = j) (hz : x1 = y ∨ x2 = y) (hq : Q (.inl (some (.int 0))) g) : Ev 166 35 [some (.ref a), some (.int (Int32.ofNat j)), some (.int (Int32.ofNat i)), u3, u4, u5] [] g Q := by
  refine Er_run 3 (pc' := bif decide (((8 : Int32)) ≤ (Int32.ofNat i)) then 106 else 41) (ls' := [some (.ref a), some (.int (Int32.ofNat j)), some (.int (Int32.ofNat i)), u3, u4, u5]) (st' := []) rfl ?_
  refine Er_pc (t := 41) (show (bif decide (((8 : Int32)) ≤ (Int32.ofNat i)) then 106 else 41) = 41 from by rw [show (decide (((8 : Int32)) ≤ (Int32.ofNat i))) = false from by rw [show (8 : Int32) = Int32.ofNat 8 from rfl, jx_le (by omega) (by omega)]; exact decide_eq_false (by omega)]; rfl) ?_
  refine Er_run 1 (pc' := 42) (ls' := [some (.ref a), some (.int (Int32.ofNat j)), some (.int (Int32.ofNat i)), u3, u4, u5]) (st' := [.ref a]) rfl ?_
  refine Er_getR (x := a + 14) rfl m0.1 (m0.2 (13, 14, 2, 8) (by decide)).1 ?_
  refine Er_run 1 (pc' := 46) (ls' := [some (.ref a), some (.int (Int32.ofNat j)), some (.int (Int32.ofNat i)), u3, u4, u5]) (st' := [.int (Int32.ofNat i), .ref (a + 14)]) rfl ?_
  refine Er_zald (v := (1 : Int32)) rfl (m0.2 (13, 14, 2, 8) (by decide)).2.1 (mr_in (i := i) (k := 8) rfl (by omega) (by decide) (m0.2 (13, 14, 2, 8) (by decide)).2.2) (mr_atI rfl (by omega) mi0) ?_
  refine Er_run 1 (pc' := bif decide (((1 : Int32)) = 0) then 100 else 50) (ls' := [some (.ref a), some (.int (Int32.ofNat j)), some (.int (Int32.ofNat i)), u3, u4, u5]) (st' := []) rfl ?_
  refine Er_pc (t := 50) (show (bif decide (((1 : Int32)) = 0) then 100 else 50) = 50 from by rw [show (decide (((1 : Int32)) = 0)) = false from by decide]; rfl) ?_
  refine Er_run 1 (pc' := 51) (ls' := [some (.ref a), some (.int (Int32.ofNat j)), some (.int (Int32.ofNat i)), u3, u4, u5]) (st' := [.ref a]) rfl ?_
  refine Er_getR (x := a + 14) rfl m0.1 (m0.2 (13, 14, 2, 8) (by decide)).1 ?_
  refine Er_run 1 (pc' := 55) (ls' := [some (.ref a), some (.int (Int32.ofNat j)), some (.int (Int32.ofNat i)), u3, u4, u5]) (st' := [.int (Int32.ofNat j), .ref (a + 14)]) rfl ?_
  refine Er_zald (v := (1 : Int32)) rfl (m0.2 (13, 14, 2, 8) (by decide)).2.1 (mr_in (i := j) (k := 8) rfl (by omega) (by decide) (m0.2 (13, 14, 2, 8) (by decide)).2.2) (mr_atI rfl (by omega) mj0) ?_
  refine Er_run 1 (pc' := bif decide (((1 : Int32)) = 0) then 100 else 59) (ls' := [some (.ref a), some (.int (Int32.ofNat j)), some (.int (Int32.ofNat i)), u3, u4, u5]) (st' := []) rfl ?_
  refine Er_pc (t := 59) (show (bif decide (((1 : Int32)) = 0) then 100 else 59) = 59 from by rw [show (decide (((1 : Int32)) = 0)) = false from by decide]; rfl) ?_
  refine Er_run 3 (pc' := bif decide ((Int32.ofNat j) ≤ (Int32.ofNat i)) then 79 else 64) (ls' := [some (.ref a), some (.int (Int32.ofNat j)), some (.int (Int32.ofNat i)), u3, u4, u5]) (st' := []) rfl ?_
  refine Er_pc (t := 79) (show (bif decide ((Int32.ofNat j) ≤ (Int32.ofNat i)) then 79 else 64) = 79 from by rw [show (decide ((Int32.ofNat j) ≤ (Int32.ofNat i))) = true from by rw [jx_le (by omega) (by omega)]; exact decide_eq_true (by omega)]; rfl) ?_
  refine Er_run 3 (pc' := bif !decide ((Int32.ofNat i) = (Int32.ofNat j)) then 100 else 84) (ls' := [some (.ref a), some (.int (Int32.ofNat j)), some (.int (Int32.ofNat i)), u3, u4, u5]) (st' := []) rfl ?_
  refine Er_pc (t := 84) (show (bif !decide ((Int32.ofNat i) = (Int32.ofNat j)) then 100 else 84) = 84 from by rw [show (!decide ((Int32.ofNat i) = (Int32.ofNat j))) = false from by rw [jx_eq (by omega) (by omega), decide_eq_true (show i = j by omega)]; rfl]; rfl) ?_
  refine Er_run 3 (pc' := 87) (ls' := [some (.ref a), some (.int (Int32.ofNat j)), some (.int (Int32.ofNat i)), u3, u4, u5]) (st' := [.ref a, .int (Int32.ofNat j), .ref a]) rfl ?_
  refine Er_getR (x := a + 11) rfl m0.1 (m0.2 (10, 11, 0, 8) (by decide)).1 ?_
  refine Er_run 1 (pc' := 91) (ls' := [some (.ref a), some (.int (Int32.ofNat j)), some (.int (Int32.ofNat i)), u3, u4, u5]) (st' := [.int (Int32.ofNat j), .ref (a + 11), .int (Int32.ofNat j), .ref a]) rfl ?_
  refine Er_iald (v := y) rfl (m0.2 (10, 11, 0, 8) (by decide)).2.1 (mr_in (i := j) (k := 8) rfl (by omega) (by decide) (m0.2 (10, 11, 0, 8) (by decide)).2.2) (mr_atI rfl (by omega) oj0) ?_
  refine Er_inv1 (q' := a) (ci := 12) (av := [.int (Int32.ofNat j), .int y]) (rest := []) rfl rfl ⟨Nat.le_of_ble_eq_true rfl, Nat.le_of_ble_eq_true rfl⟩ rfl rfl m0.1 (s_Ref_isInput1 m0 hj fi0 se0 hz) ?_
  refine Er_run 1 (pc' := bif decide (((1 : Int32)) = 0) then 100 else 98) (ls' := [some (.ref a), some (.int (Int32.ofNat j)), some (.int (Int32.ofNat i)), u3, u4, u5]) (st' := []) rfl ?_
  refine Er_pc (t := 98) (show (bif decide (((1 : Int32)) = 0) then 100 else 98) = 98 from by rw [show (decide (((1 : Int32)) = 0)) = false from by decide]; rfl) ?_
  refine Er_run 1 (pc' := 99) (ls' := [some (.ref a), some (.int (Int32.ofNat j)), some (.int (Int32.ofNat i)), u3, u4, u5]) (st' := [.int ((0 : Int32))]) rfl ?_
  exact Er_fin rfl rfl hq
set_option maxRecDepth 10000 in
theorem ic_n (m0 : mrO g a) (hj : j < 8) (hi : i < 8) (mi0 : gI g (a + 14) i = 1) (mj0 : gI g (a + 14) j = 1) (oj0 : gI g (a + 11) j = y) (fi0 : gI g (a + 9) j = x1) (se0 : gI g (a + 10) j = x2) (hlt : i = j) (hz : ¬ (x1 = y ∨ x2 = y)) (kk : Ev 166 35 [some (.ref a), some (.int (Int32.ofNat j)), some (.int (Int32.ofNat (i + 1))), u3, u4, u5] [] g Q) : Ev 166 35 [some (.ref a), some (.int (Int32.ofNat j)), some (.int (Int32.ofNat i)), u3, u4, u5] [] g Q := by
  refine Er_run 3 (pc' := bif decide (((8 : Int32)) ≤ (Int32.ofNat i)) then 106 else 41) (ls' := [some (.ref a), some (.int (Int32.ofNat j)), some (.int (Int32.ofNat i)), u3, u4, u5]) (st' := []) rfl ?_
  refine Er_pc (t := 41) (show (bif decide (((8 : Int32)) ≤ (Int32.ofNat i)) then 106 else 41) = 41 from by rw [show (decide (((8 : Int32)) ≤ (Int32.ofNat i))) = false from by rw [show (8 : Int32) = Int32.ofNat 8 from rfl, jx_le (by omega) (by omega)]; exact decide_eq_false (by omega)]; rfl) ?_
  refine Er_run 1 (pc' := 42) (ls' := [some (.ref a), some (.int (Int32.ofNat j)), some (.int (Int32.ofNat i)), u3, u4, u5]) (st' := [.ref a]) rfl ?_
  refine Er_getR (x := a + 14) rfl m0.1 (m0.2 (13, 14, 2, 8) (by decide)).1 ?_
  refine Er_run 1 (pc' := 46) (ls' := [some (.ref a), some (.int (Int32.ofNat j)), some (.int (Int32.ofNat i)), u3, u4, u5]) (st' := [.int (Int32.ofNat i), .ref (a + 14)]) rfl ?_
  refine Er_zald (v := (1 : Int32)) rfl (m0.2 (13, 14, 2, 8) (by decide)).2.1 (mr_in (i := i) (k := 8) rfl (by omega) (by decide) (m0.2 (13, 14, 2, 8) (by decide)).2.2) (mr_atI rfl (by omega) mi0) ?_
  refine Er_run 1 (pc' := bif decide (((1 : Int32)) = 0) then 100 else 50) (ls' := [some (.ref a), some (.int (Int32.ofNat j)), some (.int (Int32.ofNat i)), u3, u4, u5]) (st' := []) rfl ?_
  refine Er_pc (t := 50) (show (bif decide (((1 : Int32)) = 0) then 100 else 50) = 50 from by rw [show (decide (((1 : Int32)) = 0)) = false from by decide]; rfl) ?_
  refine Er_run 1 (pc' := 51) (ls' := [some (.ref a), some (.int (Int32.ofNat j)), some (.int (Int32.ofNat i)), u3, u4, u5]) (st' := [.ref a]) rfl ?_
  refine Er_getR (x := a + 14) rfl m0.1 (m0.2 (13, 14, 2, 8) (by decide)).1 ?_
  refine Er_run 1 (pc' := 55) (ls' := [some (.ref a), some (.int (Int32.ofNat j)), some (.int (Int32.ofNat i)), u3, u4, u5]) (st' := [.int (Int32.ofNat j), .ref (a + 14)]) rfl ?_
  refine Er_zald (v := (1 : Int32)) rfl (m0.2 (13, 14, 2, 8) (by decide)).2.1 (mr_in (i := j) (k := 8) rfl (by omega) (by decide) (m0.2 (13, 14, 2, 8) (by decide)).2.2) (mr_atI rfl (by omega) mj0) ?_
  refine Er_run 1 (pc' := bif decide (((1 : Int32)) = 0) then 100 else 59) (ls' := [some (.ref a), some (.int (Int32.ofNat j)), some (.int (Int32.ofNat i)), u3, u4, u5]) (st' := []) rfl ?_
  refine Er_pc (t := 59) (show (bif decide (((1 : Int32)) = 0) then 100 else 59) = 59 from by rw [show (decide (((1 : Int32)) = 0)) = false from by decide]; rfl) ?_
  refine Er_run 3 (pc' := bif decide ((Int32.ofNat j) ≤ (Int32.ofNat i)) then 79 else 64) (ls' := [some (.ref a), some (.int (Int32.ofNat j)), some (.int (Int32.ofNat i)), u3, u4, u5]) (st' := []) rfl ?_
  refine Er_pc (t := 79) (show (bif decide ((Int32.ofNat j) ≤ (Int32.ofNat i)) then 79 else 64) = 79 from by rw [show (decide ((Int32.ofNat j) ≤ (Int32.ofNat i))) = true from by rw [jx_le (by omega) (by omega)]; exact decide_eq_true (by omega)]; rfl) ?_
  refine Er_run 3 (pc' := bif !decide ((Int32.ofNat i) = (Int32.ofNat j)) then 100 else 84) (ls' := [some (.ref a), some (.int (Int32.ofNat j)), some (.int (Int32.ofNat i)), u3, u4, u5]) (st' := []) rfl ?_
  refine Er_pc (t := 84) (show (bif !decide ((Int32.ofNat i) = (Int32.ofNat j)) then 100 else 84) = 84 from by rw [show (!decide ((Int32.ofNat i) = (Int32.ofNat j))) = false from by rw [jx_eq (by omega) (by omega), decide_eq_true (show i = j by omega)]; rfl]; rfl) ?_
  refine Er_run 3 (pc' := 87) (ls' := [some (.ref a), some (.int (Int32.ofNat j)), some (.int (Int32.ofNat i)), u3, u4, u5]) (st' := [.ref a, .int (Int32.ofNat j), .ref a]) rfl ?_
  refine Er_getR (x := a + 11) rfl m0.1 (m0.2 (10, 11, 0, 8) (by decide)).1 ?_
  refine Er_run 1 (pc' := 91) (ls' := [some (.ref a), some (.int (Int32.ofNat j)), some (.int (Int32.ofNat i)), u3, u4, u5]) (st' := [.int (Int32.ofNat j), .ref (a + 11), .int (Int32.ofNat j), .ref a]) rfl ?_
  refine Er_iald (v := y) rfl (m0.2 (10, 11, 0, 8) (by decide)).2.1 (mr_in (i := j) (k := 8) rfl (by omega) (by decide) (m0.2 (10, 11, 0, 8) (by decide)).2.2) (mr_atI rfl (by omega) oj0) ?_
  refine Er_inv1 (q' := a) (ci := 12) (av := [.int (Int32.ofNat j), .int y]) (rest := []) rfl rfl ⟨Nat.le_of_ble_eq_true rfl, Nat.le_of_ble_eq_true rfl⟩ rfl rfl m0.1 (s_Ref_isInput0 m0 hj fi0 se0 hz) ?_
  refine Er_run 1 (pc' := bif decide (((0 : Int32)) = 0) then 100 else 98) (ls' := [some (.ref a), some (.int (Int32.ofNat j)), some (.int (Int32.ofNat i)), u3, u4, u5]) (st' := []) rfl ?_
  refine Er_pc (t := 100) (show (bif decide (((0 : Int32)) = 0) then 100 else 98) = 100 from by rw [show (decide (((0 : Int32)) = 0)) = true from by decide]; rfl) ?_
  refine Er_run 2 (pc' := 35) (ls' := [some (.ref a), some (.int (Int32.ofNat j)), some (.int ((Int32.ofNat i) + (1 : Int32))), u3, u4, u5]) (st' := []) rfl ?_
  rw [jx_s1]
  exact kk
/-- the first pass, for JOB j -/
theorem l_ic (r : RG g a G) (hj : j < 8) (kF : ∀ i, i < 8 → rb G j i → Q (.inl (some (.int 0))) g) : ∀ (f i : Nat), i + f = 8 → ((∀ u, i ≤ u → u < 8 → ¬ rb G j u) → Ev 166 106 [some (.ref a), some (.int (Int32.ofNat j)), some (.int (Int32.ofNat 8)), u3, u4, u5] [] g Q) → Ev 166 35 [some (.ref a), some (.int (Int32.ofNat j)), some (.int (Int32.ofNat i)), u3, u4, u5] [] g Q := by
  obtain ⟨mj, cj, wj⟩ := r.2 j hj
  intro f
  induction f with
  | zero =>
    intro i hi kk
    have e : i = 8 := by omega
    subst e
    exact ic_e rfl (kk (fun u h1 h2 => by omega))
  | succ f ih =>
    intro i hi kk
    obtain ⟨mi, ci, wi⟩ := r.2 i (by omega)
    have go : ¬ rb G j i → Ev 166 35 [some (.ref a), some (.int (Int32.ofNat j)), some (.int (Int32.ofNat (i + 1))), u3, u4, u5] [] g Q := fun hn => ih (i + 1) (by omega) (fun hu => kk (fun u h1 h2 => by
      by_cases e : u = i
      · subst e; exact hn
      · exact hu u (by omega) h2))
    rcases ci with ci | ci
    · exact ic_a r.1 hj (by omega) (mi.trans ci) (go (fun e => by have := e.1; rw [ci] at this; exact absurd this (by decide)))
    · rcases cj with cj | cj
      · exact ic_b r.1 hj (by omega) (mi.trans ci) (mj.trans cj) (go (fun e => by have := e.2.1; rw [cj] at this; exact absurd this (by decide)))
      · obtain ⟨i1, i2, i3⟩ := wi ci
        obtain ⟨j1, j2, j3⟩ := wj cj
        rcases Nat.lt_trichotomy i j with hl | hl | hl
        · by_cases he : G i 4 = G j 4
          · exact ic_c r.1 hj (by omega) (mi.trans ci) (mj.trans cj) i3 j3 hl he (kF i (by omega) ⟨ci, cj, Or.inl ⟨hl, he⟩⟩)
          · exact ic_d r.1 hj (by omega) (mi.trans ci) (mj.trans cj) i3 j3 hl he (go (fun e => by rcases e.2.2 with z | z; exact he z.2; omega))
        · by_cases hz : G j 2 = G j 4 ∨ G j 3 = G j 4
          · exact ic_y r.1 hj (by omega) (mi.trans ci) (mj.trans cj) j3 j1 j2 hl hz (kF i (by omega) ⟨ci, cj, Or.inr ⟨hl, hz⟩⟩)
          · exact ic_n r.1 hj (by omega) (mi.trans ci) (mj.trans cj) j3 j1 j2 hl hz (go (fun e => by rcases e.2.2 with z | z; omega; exact hz z.2))
        · exact ic_g r.1 hj (by omega) (mi.trans ci) (mj.trans cj) hl (go (fun e => by rcases e.2.2 with z | z <;> omega))
set_option maxRecDepth 10000 in
theorem ij_e (hi : j = 8) (kk : Ev 166 112 [some (.ref a), some (.int (Int32.ofNat j)), u2, u3, u4, u5] [] g Q) : Ev 166 7 [some (.ref a), some (.int (Int32.ofNat j)), u2, u3, u4, u5] [] g Q := by
  refine Er_run 3 (pc' := bif decide (((8 : Int32)) ≤ (Int32.ofNat j)) then 112 else 13) (ls' := [some (.ref a), some (.int (Int32.ofNat j)), u2, u3, u4, u5]) (st' := []) rfl ?_
  refine Er_pc (t := 112) (show (bif decide (((8 : Int32)) ≤ (Int32.ofNat j)) then 112 else 13) = 112 from by rw [show (decide (((8 : Int32)) ≤ (Int32.ofNat j))) = true from by rw [show (8 : Int32) = Int32.ofNat 8 from rfl, jx_le (by omega) (by omega)]; exact decide_eq_true (by omega)]; rfl) ?_
  exact kk
set_option maxRecDepth 10000 in
theorem ij_0 (m0 : mrO g a) (hj : j < 8) (mj0 : gI g (a + 14) j = 0) (kk : Ev 166 35 [some (.ref a), some (.int (Int32.ofNat j)), some (.int (Int32.ofNat 0)), u3, u4, u5] [] (setI g (a + 15) j 1) Q) : Ev 166 7 [some (.ref a), some (.int (Int32.ofNat j)), u2, u3, u4, u5] [] g Q := by
  refine Er_run 3 (pc' := bif decide (((8 : Int32)) ≤ (Int32.ofNat j)) then 112 else 13) (ls' := [some (.ref a), some (.int (Int32.ofNat j)), u2, u3, u4, u5]) (st' := []) rfl ?_
  refine Er_pc (t := 13) (show (bif decide (((8 : Int32)) ≤ (Int32.ofNat j)) then 112 else 13) = 13 from by rw [show (decide (((8 : Int32)) ≤ (Int32.ofNat j))) = false from by rw [show (8 : Int32) = Int32.ofNat 8 from rfl, jx_le (by omega) (by omega)]; exact decide_eq_false (by omega)]; rfl) ?_
  refine Er_run 1 (pc' := 14) (ls' := [some (.ref a), some (.int (Int32.ofNat j)), u2, u3, u4, u5]) (st' := [.ref a]) rfl ?_
  refine Er_getR (x := a + 15) rfl m0.1 (m0.2 (14, 15, 2, 8) (by decide)).1 ?_
  refine Er_run 2 (pc' := 19) (ls' := [some (.ref a), some (.int (Int32.ofNat j)), u2, u3, u4, u5]) (st' := [.ref a, .int (Int32.ofNat j), .ref (a + 15)]) rfl ?_
  refine Er_getR (x := a + 14) rfl m0.1 (m0.2 (13, 14, 2, 8) (by decide)).1 ?_
  refine Er_run 1 (pc' := 23) (ls' := [some (.ref a), some (.int (Int32.ofNat j)), u2, u3, u4, u5]) (st' := [.int (Int32.ofNat j), .ref (a + 14), .int (Int32.ofNat j), .ref (a + 15)]) rfl ?_
  refine Er_zald (v := (0 : Int32)) rfl (m0.2 (13, 14, 2, 8) (by decide)).2.1 (mr_in (i := j) (k := 8) rfl (by omega) (by decide) (m0.2 (13, 14, 2, 8) (by decide)).2.2) (mr_atI rfl (by omega) mj0) ?_
  refine Er_run 1 (pc' := bif !decide (((0 : Int32)) = 0) then 31 else 27) (ls' := [some (.ref a), some (.int (Int32.ofNat j)), u2, u3, u4, u5]) (st' := [.int (Int32.ofNat j), .ref (a + 15)]) rfl ?_
  refine Er_pc (t := 27) (show (bif !decide (((0 : Int32)) = 0) then 31 else 27) = 27 from by rw [show (!decide (((0 : Int32)) = 0)) = false from by decide]; rfl) ?_
  refine Er_run 2 (pc' := 32) (ls' := [some (.ref a), some (.int (Int32.ofNat j)), u2, u3, u4, u5]) (st' := [.int ((1 : Int32)), .int (Int32.ofNat j), .ref (a + 15)]) rfl ?_
  refine Er_zast rfl (m0.2 (14, 15, 2, 8) (by decide)).2.1 (mr_in (i := j) (k := 8) rfl (by omega) (by decide) (m0.2 (14, 15, 2, 8) (by decide)).2.2) (by decide) ?_
  rw [mr_cn (x := Int32.ofNat j) (i := j) rfl (by omega)]
  refine Er_run 2 (pc' := 35) (ls' := [some (.ref a), some (.int (Int32.ofNat j)), some (.int ((0 : Int32))), u3, u4, u5]) (st' := []) rfl ?_
  exact kk
set_option maxRecDepth 10000 in
theorem ij_1 (m0 : mrO g a) (hj : j < 8) (mj0 : gI g (a + 14) j = 1) (kk : Ev 166 35 [some (.ref a), some (.int (Int32.ofNat j)), some (.int (Int32.ofNat 0)), u3, u4, u5] [] (setI g (a + 15) j 0) Q) : Ev 166 7 [some (.ref a), some (.int (Int32.ofNat j)), u2, u3, u4, u5] [] g Q := by
  refine Er_run 3 (pc' := bif decide (((8 : Int32)) ≤ (Int32.ofNat j)) then 112 else 13) (ls' := [some (.ref a), some (.int (Int32.ofNat j)), u2, u3, u4, u5]) (st' := []) rfl ?_
  refine Er_pc (t := 13) (show (bif decide (((8 : Int32)) ≤ (Int32.ofNat j)) then 112 else 13) = 13 from by rw [show (decide (((8 : Int32)) ≤ (Int32.ofNat j))) = false from by rw [show (8 : Int32) = Int32.ofNat 8 from rfl, jx_le (by omega) (by omega)]; exact decide_eq_false (by omega)]; rfl) ?_
  refine Er_run 1 (pc' := 14) (ls' := [some (.ref a), some (.int (Int32.ofNat j)), u2, u3, u4, u5]) (st' := [.ref a]) rfl ?_
  refine Er_getR (x := a + 15) rfl m0.1 (m0.2 (14, 15, 2, 8) (by decide)).1 ?_
  refine Er_run 2 (pc' := 19) (ls' := [some (.ref a), some (.int (Int32.ofNat j)), u2, u3, u4, u5]) (st' := [.ref a, .int (Int32.ofNat j), .ref (a + 15)]) rfl ?_
  refine Er_getR (x := a + 14) rfl m0.1 (m0.2 (13, 14, 2, 8) (by decide)).1 ?_
  refine Er_run 1 (pc' := 23) (ls' := [some (.ref a), some (.int (Int32.ofNat j)), u2, u3, u4, u5]) (st' := [.int (Int32.ofNat j), .ref (a + 14), .int (Int32.ofNat j), .ref (a + 15)]) rfl ?_
  refine Er_zald (v := (1 : Int32)) rfl (m0.2 (13, 14, 2, 8) (by decide)).2.1 (mr_in (i := j) (k := 8) rfl (by omega) (by decide) (m0.2 (13, 14, 2, 8) (by decide)).2.2) (mr_atI rfl (by omega) mj0) ?_
  refine Er_run 1 (pc' := bif !decide (((1 : Int32)) = 0) then 31 else 27) (ls' := [some (.ref a), some (.int (Int32.ofNat j)), u2, u3, u4, u5]) (st' := [.int (Int32.ofNat j), .ref (a + 15)]) rfl ?_
  refine Er_pc (t := 31) (show (bif !decide (((1 : Int32)) = 0) then 31 else 27) = 31 from by rw [show (!decide (((1 : Int32)) = 0)) = true from by decide]; rfl) ?_
  refine Er_run 1 (pc' := 32) (ls' := [some (.ref a), some (.int (Int32.ofNat j)), u2, u3, u4, u5]) (st' := [.int ((0 : Int32)), .int (Int32.ofNat j), .ref (a + 15)]) rfl ?_
  refine Er_zast rfl (m0.2 (14, 15, 2, 8) (by decide)).2.1 (mr_in (i := j) (k := 8) rfl (by omega) (by decide) (m0.2 (14, 15, 2, 8) (by decide)).2.2) (by decide) ?_
  rw [mr_cn (x := Int32.ofNat j) (i := j) rfl (by omega)]
  refine Er_run 2 (pc' := 35) (ls' := [some (.ref a), some (.int (Int32.ofNat j)), some (.int ((0 : Int32))), u3, u4, u5]) (st' := []) rfl ?_
  exact kk
set_option maxRecDepth 10000 in
theorem ij_n (kk : Ev 166 7 [some (.ref a), some (.int (Int32.ofNat (j + 1))), some (.int (Int32.ofNat 8)), u3, u4, u5] [] g Q) : Ev 166 106 [some (.ref a), some (.int (Int32.ofNat j)), some (.int (Int32.ofNat 8)), u3, u4, u5] [] g Q := by
  refine Er_run 2 (pc' := 7) (ls' := [some (.ref a), some (.int ((Int32.ofNat j) + (1 : Int32))), some (.int (Int32.ofNat 8)), u3, u4, u5]) (st' := []) rfl ?_
  rw [jx_s1]
  exact kk
/-- the first pass -/
theorem l_ij (r : RG h0 a G) (kF : ∀ g j i, j < 8 → i < 8 → rb G j i → FrL [a, a + 13, a + 15] [] h0 g → (∀ s, s ≠ 17 → gI g a s = gI h0 a s) → Q (.inl (some (.int 0))) g) (kS : ∀ g u2, (∀ j i, j < 8 → i < 8 → ¬ rb G j i) → FrL [a, a + 13, a + 15] [] h0 g → gI g a = gI h0 a → (∀ u, u < 8 → gI g (a + 15) u = (if mOP G [] u then 0 else 1)) → Ev 166 112 [some (.ref a), some (.int (Int32.ofNat 8)), u2, u3, u4, u5] [] g Q) : ∀ (f j : Nat) (g : sm_H) (u2 : Option Value), j + f = 8 → (∀ j' i, j' < j → i < 8 → ¬ rb G j' i) → FrL [a, a + 13, a + 15] [] h0 g → gI g a = gI h0 a → (∀ u, u < j → gI g (a + 15) u = (if mOP G [] u then 0 else 1)) → Ev 166 7 [some (.ref a), some (.int (Int32.ofNat j)), u2, u3, u4, u5] [] g Q := by
  intro f
  induction f with
  | zero =>
    intro j g u2 hj hb z e0 hd
    have : j = 8 := by omega
    subst this
    exact ij_e rfl (kS g u2 hb z e0 hd)
  | succ f ih =>
    intro j g u2 hj hb z e0 hd
    have r1 := RG_fr z r
    obtain ⟨mj, cj, -⟩ := r1.2 j (by omega)
    have go : ∀ g1, FrL [a, a + 13, a + 15] [] h0 g1 → gI g1 a = gI h0 a → (∀ u, u < j + 1 → gI g1 (a + 15) u = (if mOP G [] u then 0 else 1)) → Ev 166 35 [some (.ref a), some (.int (Int32.ofNat j)), some (.int (Int32.ofNat 0)), u3, u4, u5] [] g1 Q := by
      intro g1 z1 e1 d1
      refine l_ic (RG_fr z1 r) (by omega) (fun i hi hr => kF g1 j i (by omega) hi hr z1 (fun s _ => by rw [e1])) 8 0 (by omega) (fun hn => ij_n (ih (j + 1) g1 _ (by omega) (fun j' i h1 h2 => ?_) z1 e1 d1))
      by_cases e : j' = j
      · subst e; exact hn i (Nat.zero_le _) h2
      · exact hb j' i (by omega) h2
    have put : ∀ v : Int32, v = (if mOP G [] j then 0 else 1) → FrL [a, a + 13, a + 15] [] h0 (setI g (a + 15) j v) ∧ gI (setI g (a + 15) j v) a = gI h0 a ∧ (∀ u, u < j + 1 → gI (setI g (a + 15) j v) (a + 15) u = (if mOP G [] u then 0 else 1)) := by
      intro v hv
      refine ⟨z.trans (FrL.setI (by simp)), by rw [mr_ncI (by omega)]; exact e0, fun u hu => ?_⟩
      by_cases e : u = j
      · subst e; rw [gI_eq]; exact hv
      · rw [gI_ne (by omega)]; exact hd u (by omega)
    rcases cj with cj | cj
    · obtain ⟨p1, p2, p3⟩ := put 1 (by rw [mOP, cj]; rfl)
      exact ij_0 r1.1 (by omega) (mj.trans cj) (go _ p1 p2 p3)
    · obtain ⟨p1, p2, p3⟩ := put 0 (by rw [mOP, cj]; rfl)
      exact ij_1 r1.1 (by omega) (mj.trans cj) (go _ p1 p2 p3)
set_option maxRecDepth 10000 in
theorem id_e (hi : i = 8) (kk : Ev 166 184 [some (.ref a), some (.int x1), some (.int x2), some (.int (Int32.ofNat j)), some (.int m), some (.int (Int32.ofNat i))] [] g Q) : Ev 166 143 [some (.ref a), some (.int x1), some (.int x2), some (.int (Int32.ofNat j)), some (.int m), some (.int (Int32.ofNat i))] [] g Q := by
  refine Er_run 3 (pc' := bif decide (((8 : Int32)) ≤ (Int32.ofNat i)) then 184 else 150) (ls' := [some (.ref a), some (.int x1), some (.int x2), some (.int (Int32.ofNat j)), some (.int m), some (.int (Int32.ofNat i))]) (st' := []) rfl ?_
  refine Er_pc (t := 184) (show (bif decide (((8 : Int32)) ≤ (Int32.ofNat i)) then 184 else 150) = 184 from by rw [show (decide (((8 : Int32)) ≤ (Int32.ofNat i))) = true from by rw [show (8 : Int32) = Int32.ofNat 8 from rfl, jx_le (by omega) (by omega)]; exact decide_eq_true (by omega)]; rfl) ?_
  exact kk
set_option maxRecDepth 10000 in
theorem id_a (m0 : mrO g a) (hj : j < 8) (hi : i < 8) (di0 : gI g (a + 15) i = 1) (kk : Ev 166 143 [some (.ref a), some (.int x1), some (.int x2), some (.int (Int32.ofNat j)), some (.int m), some (.int (Int32.ofNat (i + 1)))] [] g Q) : Ev 166 143 [some (.ref a), some (.int x1), some (.int x2), some (.int (Int32.ofNat j)), some (.int m), some (.int (Int32.ofNat i))] [] g Q := by
  refine Er_run 3 (pc' := bif decide (((8 : Int32)) ≤ (Int32.ofNat i)) then 184 else 150) (ls' := [some (.ref a), some (.int x1), some (.int x2), some (.int (Int32.ofNat j)), some (.int m), some (.int (Int32.ofNat i))]) (st' := []) rfl ?_
  refine Er_pc (t := 150) (show (bif decide (((8 : Int32)) ≤ (Int32.ofNat i)) then 184 else 150) = 150 from by rw [show (decide (((8 : Int32)) ≤ (Int32.ofNat i))) = false from by rw [show (8 : Int32) = Int32.ofNat 8 from rfl, jx_le (by omega) (by omega)]; exact decide_eq_false (by omega)]; rfl) ?_
  refine Er_run 1 (pc' := 151) (ls' := [some (.ref a), some (.int x1), some (.int x2), some (.int (Int32.ofNat j)), some (.int m), some (.int (Int32.ofNat i))]) (st' := [.ref a]) rfl ?_
  refine Er_getR (x := a + 15) rfl m0.1 (m0.2 (14, 15, 2, 8) (by decide)).1 ?_
  refine Er_run 1 (pc' := 156) (ls' := [some (.ref a), some (.int x1), some (.int x2), some (.int (Int32.ofNat j)), some (.int m), some (.int (Int32.ofNat i))]) (st' := [.int (Int32.ofNat i), .ref (a + 15)]) rfl ?_
  refine Er_zald (v := (1 : Int32)) rfl (m0.2 (14, 15, 2, 8) (by decide)).2.1 (mr_in (i := i) (k := 8) rfl (by omega) (by decide) (m0.2 (14, 15, 2, 8) (by decide)).2.2) (mr_atI rfl (by omega) di0) ?_
  refine Er_run 1 (pc' := bif !decide (((1 : Int32)) = 0) then 178 else 160) (ls' := [some (.ref a), some (.int x1), some (.int x2), some (.int (Int32.ofNat j)), some (.int m), some (.int (Int32.ofNat i))]) (st' := []) rfl ?_
  refine Er_pc (t := 178) (show (bif !decide (((1 : Int32)) = 0) then 178 else 160) = 178 from by rw [show (!decide (((1 : Int32)) = 0)) = true from by decide]; rfl) ?_
  refine Er_run 2 (pc' := 143) (ls' := [some (.ref a), some (.int x1), some (.int x2), some (.int (Int32.ofNat j)), some (.int m), some (.int ((Int32.ofNat i) + (1 : Int32)))]) (st' := []) rfl ?_
  rw [jx_s1]
  exact kk
set_option maxRecDepth 10000 in
theorem id_y (m0 : mrO g a) (hj : j < 8) (hi : i < 8) (di0 : gI g (a + 15) i = 0) (oi0 : gI g (a + 11) i = x) (fi0 : gI g (a + 9) j = x3) (se0 : gI g (a + 10) j = x4) (hz : x3 = x ∨ x4 = x) (kk : Ev 166 143 [some (.ref a), some (.int x1), some (.int x2), some (.int (Int32.ofNat j)), some (.int 0), some (.int (Int32.ofNat (i + 1)))] [] g Q) : Ev 166 143 [some (.ref a), some (.int x1), some (.int x2), some (.int (Int32.ofNat j)), some (.int m), some (.int (Int32.ofNat i))] [] g Q := by
  refine Er_run 3 (pc' := bif decide (((8 : Int32)) ≤ (Int32.ofNat i)) then 184 else 150) (ls' := [some (.ref a), some (.int x1), some (.int x2), some (.int (Int32.ofNat j)), some (.int m), some (.int (Int32.ofNat i))]) (st' := []) rfl ?_
  refine Er_pc (t := 150) (show (bif decide (((8 : Int32)) ≤ (Int32.ofNat i)) then 184 else 150) = 150 from by rw [show (decide (((8 : Int32)) ≤ (Int32.ofNat i))) = false from by rw [show (8 : Int32) = Int32.ofNat 8 from rfl, jx_le (by omega) (by omega)]; exact decide_eq_false (by omega)]; rfl) ?_
  refine Er_run 1 (pc' := 151) (ls' := [some (.ref a), some (.int x1), some (.int x2), some (.int (Int32.ofNat j)), some (.int m), some (.int (Int32.ofNat i))]) (st' := [.ref a]) rfl ?_
  refine Er_getR (x := a + 15) rfl m0.1 (m0.2 (14, 15, 2, 8) (by decide)).1 ?_
  refine Er_run 1 (pc' := 156) (ls' := [some (.ref a), some (.int x1), some (.int x2), some (.int (Int32.ofNat j)), some (.int m), some (.int (Int32.ofNat i))]) (st' := [.int (Int32.ofNat i), .ref (a + 15)]) rfl ?_
  refine Er_zald (v := (0 : Int32)) rfl (m0.2 (14, 15, 2, 8) (by decide)).2.1 (mr_in (i := i) (k := 8) rfl (by omega) (by decide) (m0.2 (14, 15, 2, 8) (by decide)).2.2) (mr_atI rfl (by omega) di0) ?_
  refine Er_run 1 (pc' := bif !decide (((0 : Int32)) = 0) then 178 else 160) (ls' := [some (.ref a), some (.int x1), some (.int x2), some (.int (Int32.ofNat j)), some (.int m), some (.int (Int32.ofNat i))]) (st' := []) rfl ?_
  refine Er_pc (t := 160) (show (bif !decide (((0 : Int32)) = 0) then 178 else 160) = 160 from by rw [show (!decide (((0 : Int32)) = 0)) = false from by decide]; rfl) ?_
  refine Er_run 3 (pc' := 163) (ls' := [some (.ref a), some (.int x1), some (.int x2), some (.int (Int32.ofNat j)), some (.int m), some (.int (Int32.ofNat i))]) (st' := [.ref a, .int (Int32.ofNat j), .ref a]) rfl ?_
  refine Er_getR (x := a + 11) rfl m0.1 (m0.2 (10, 11, 0, 8) (by decide)).1 ?_
  refine Er_run 1 (pc' := 168) (ls' := [some (.ref a), some (.int x1), some (.int x2), some (.int (Int32.ofNat j)), some (.int m), some (.int (Int32.ofNat i))]) (st' := [.int (Int32.ofNat i), .ref (a + 11), .int (Int32.ofNat j), .ref a]) rfl ?_
  refine Er_iald (v := x) rfl (m0.2 (10, 11, 0, 8) (by decide)).2.1 (mr_in (i := i) (k := 8) rfl (by omega) (by decide) (m0.2 (10, 11, 0, 8) (by decide)).2.2) (mr_atI rfl (by omega) oi0) ?_
  refine Er_inv1 (q' := a) (ci := 12) (av := [.int (Int32.ofNat j), .int x]) (rest := []) rfl rfl ⟨Nat.le_of_ble_eq_true rfl, Nat.le_of_ble_eq_true rfl⟩ rfl rfl m0.1 (s_Ref_isInput1 m0 hj fi0 se0 hz) ?_
  refine Er_run 1 (pc' := bif decide (((1 : Int32)) = 0) then 178 else 175) (ls' := [some (.ref a), some (.int x1), some (.int x2), some (.int (Int32.ofNat j)), some (.int m), some (.int (Int32.ofNat i))]) (st' := []) rfl ?_
  refine Er_pc (t := 175) (show (bif decide (((1 : Int32)) = 0) then 178 else 175) = 175 from by rw [show (decide (((1 : Int32)) = 0)) = false from by decide]; rfl) ?_
  refine Er_run 4 (pc' := 143) (ls' := [some (.ref a), some (.int x1), some (.int x2), some (.int (Int32.ofNat j)), some (.int ((0 : Int32))), some (.int ((Int32.ofNat i) + (1 : Int32)))]) (st' := []) rfl ?_
  rw [jx_s1]
  exact kk
set_option maxRecDepth 10000 in
theorem id_n (m0 : mrO g a) (hj : j < 8) (hi : i < 8) (di0 : gI g (a + 15) i = 0) (oi0 : gI g (a + 11) i = x) (fi0 : gI g (a + 9) j = x3) (se0 : gI g (a + 10) j = x4) (hz : ¬ (x3 = x ∨ x4 = x)) (kk : Ev 166 143 [some (.ref a), some (.int x1), some (.int x2), some (.int (Int32.ofNat j)), some (.int m), some (.int (Int32.ofNat (i + 1)))] [] g Q) : Ev 166 143 [some (.ref a), some (.int x1), some (.int x2), some (.int (Int32.ofNat j)), some (.int m), some (.int (Int32.ofNat i))] [] g Q := by
  refine Er_run 3 (pc' := bif decide (((8 : Int32)) ≤ (Int32.ofNat i)) then 184 else 150) (ls' := [some (.ref a), some (.int x1), some (.int x2), some (.int (Int32.ofNat j)), some (.int m), some (.int (Int32.ofNat i))]) (st' := []) rfl ?_
  refine Er_pc (t := 150) (show (bif decide (((8 : Int32)) ≤ (Int32.ofNat i)) then 184 else 150) = 150 from by rw [show (decide (((8 : Int32)) ≤ (Int32.ofNat i))) = false from by rw [show (8 : Int32) = Int32.ofNat 8 from rfl, jx_le (by omega) (by omega)]; exact decide_eq_false (by omega)]; rfl) ?_
  refine Er_run 1 (pc' := 151) (ls' := [some (.ref a), some (.int x1), some (.int x2), some (.int (Int32.ofNat j)), some (.int m), some (.int (Int32.ofNat i))]) (st' := [.ref a]) rfl ?_
  refine Er_getR (x := a + 15) rfl m0.1 (m0.2 (14, 15, 2, 8) (by decide)).1 ?_
  refine Er_run 1 (pc' := 156) (ls' := [some (.ref a), some (.int x1), some (.int x2), some (.int (Int32.ofNat j)), some (.int m), some (.int (Int32.ofNat i))]) (st' := [.int (Int32.ofNat i), .ref (a + 15)]) rfl ?_
  refine Er_zald (v := (0 : Int32)) rfl (m0.2 (14, 15, 2, 8) (by decide)).2.1 (mr_in (i := i) (k := 8) rfl (by omega) (by decide) (m0.2 (14, 15, 2, 8) (by decide)).2.2) (mr_atI rfl (by omega) di0) ?_
  refine Er_run 1 (pc' := bif !decide (((0 : Int32)) = 0) then 178 else 160) (ls' := [some (.ref a), some (.int x1), some (.int x2), some (.int (Int32.ofNat j)), some (.int m), some (.int (Int32.ofNat i))]) (st' := []) rfl ?_
  refine Er_pc (t := 160) (show (bif !decide (((0 : Int32)) = 0) then 178 else 160) = 160 from by rw [show (!decide (((0 : Int32)) = 0)) = false from by decide]; rfl) ?_
  refine Er_run 3 (pc' := 163) (ls' := [some (.ref a), some (.int x1), some (.int x2), some (.int (Int32.ofNat j)), some (.int m), some (.int (Int32.ofNat i))]) (st' := [.ref a, .int (Int32.ofNat j), .ref a]) rfl ?_
  refine Er_getR (x := a + 11) rfl m0.1 (m0.2 (10, 11, 0, 8) (by decide)).1 ?_
  refine Er_run 1 (pc' := 168) (ls' := [some (.ref a), some (.int x1), some (.int x2), some (.int (Int32.ofNat j)), some (.int m), some (.int (Int32.ofNat i))]) (st' := [.int (Int32.ofNat i), .ref (a + 11), .int (Int32.ofNat j), .ref a]) rfl ?_
  refine Er_iald (v := x) rfl (m0.2 (10, 11, 0, 8) (by decide)).2.1 (mr_in (i := i) (k := 8) rfl (by omega) (by decide) (m0.2 (10, 11, 0, 8) (by decide)).2.2) (mr_atI rfl (by omega) oi0) ?_
  refine Er_inv1 (q' := a) (ci := 12) (av := [.int (Int32.ofNat j), .int x]) (rest := []) rfl rfl ⟨Nat.le_of_ble_eq_true rfl, Nat.le_of_ble_eq_true rfl⟩ rfl rfl m0.1 (s_Ref_isInput0 m0 hj fi0 se0 hz) ?_
  refine Er_run 1 (pc' := bif decide (((0 : Int32)) = 0) then 178 else 175) (ls' := [some (.ref a), some (.int x1), some (.int x2), some (.int (Int32.ofNat j)), some (.int m), some (.int (Int32.ofNat i))]) (st' := []) rfl ?_
  refine Er_pc (t := 178) (show (bif decide (((0 : Int32)) = 0) then 178 else 175) = 178 from by rw [show (decide (((0 : Int32)) = 0)) = true from by decide]; rfl) ?_
  refine Er_run 2 (pc' := 143) (ls' := [some (.ref a), some (.int x1), some (.int x2), some (.int (Int32.ofNat j)), some (.int m), some (.int ((Int32.ofNat i) + (1 : Int32)))]) (st' := []) rfl ?_
  rw [jx_s1]
  exact kk
theorem mOP_1 (h : mOP G cl j = true) : G j 1 = 1 ∧ j ∉ cl := by
  rw [mOP, Bool.and_eq_true, Bool.not_eq_true'] at h
  exact ⟨of_decide_eq_true h.1, of_decide_eq_false h.2⟩
theorem mOP_2 (h1 : G j 1 = 1) (h2 : j ∉ cl) : mOP G cl j = true := by rw [mOP, decide_eq_true h1, decide_eq_false h2]; rfl
theorem mWT_op (h : mWT G cl j i = true) : mOP G cl i = true ∧ (G j 2 = G i 4 ∨ G j 3 = G i 4) := by
  rw [mWT, Bool.and_eq_true, Bool.and_eq_true, Bool.not_eq_true'] at h
  exact ⟨mOP_2 (of_decide_eq_true h.1) (of_decide_eq_false h.2.2), of_decide_eq_true h.2.1⟩
theorem mWT_2 (h1 : mOP G cl i = true) (h2 : G j 2 = G i 4 ∨ G j 3 = G i 4) : mWT G cl j i = true := by
  obtain ⟨a1, a2⟩ := mOP_1 h1
  rw [mWT, decide_eq_true a1, decide_eq_true h2, decide_eq_false a2]; rfl
theorem mNC_eq : mNC G cl j = (mOP G cl j && !(List.range' 0 8).any (mWT G cl j)) := by rw [mNC, mOP, Bool.and_assoc]
/-- does JOB j wait -/
theorem l_id (r : RG g a G) (hj : j < 8) (hmj : G j 1 = 1) (hd : ∀ u, u < 8 → gI g (a + 15) u = (if mOP G cl u then 0 else 1)) : ∀ (f i : Nat) (m : Int32), i + f = 8 → Ev 166 184 [some (.ref a), some (.int x1), some (.int x2), some (.int (Int32.ofNat j)), some (.int ((if (List.range' i f).any (mWT G cl j) = true then (0 : Int32) else m))), some (.int (Int32.ofNat 8))] [] g Q → Ev 166 143 [some (.ref a), some (.int x1), some (.int x2), some (.int (Int32.ofNat j)), some (.int m), some (.int (Int32.ofNat i))] [] g Q := by
  obtain ⟨-, -, wj⟩ := r.2 j hj
  obtain ⟨j1, j2, j3⟩ := wj hmj
  intro f
  induction f with
  | zero =>
    intro i m hi kk
    have e : i = 8 := by omega
    subst e
    exact id_e rfl kk
  | succ f ih =>
    intro i m hi kk
    obtain ⟨mi, ci, wi⟩ := r.2 i (by omega)
    have hdi := hd i (by omega)
    have hany : (List.range' i (f + 1)).any (mWT G cl j) = (mWT G cl j i || (List.range' (i + 1) f).any (mWT G cl j)) := by rw [List.range'_succ, List.any_cons]
    rw [hany] at kk
    cases hop : mOP G cl i with
    | false =>
      rw [hop] at hdi
      have hw : mWT G cl j i = false := by
        cases hw : mWT G cl j i with
        | false => rfl
        | true => rw [(mWT_op hw).1] at hop; cases hop
      rw [hw, Bool.false_or] at kk
      exact id_a r.1 hj (by omega) hdi (ih (i + 1) m (by omega) kk)
    | true =>
      rw [hop] at hdi
      obtain ⟨i1, i2, i3⟩ := wi (mOP_1 hop).1
      by_cases hz : G j 2 = G i 4 ∨ G j 3 = G i 4
      · rw [mWT_2 hop hz, Bool.true_or, if_pos rfl] at kk
        refine id_y r.1 hj (by omega) hdi i3 j1 j2 hz (ih (i + 1) 0 (by omega) ?_)
        have e0 : (if (List.range' (i + 1) f).any (mWT G cl j) = true then (0 : Int32) else 0) = 0 := by split <;> rfl
        rw [e0]; exact kk
      · have hw : mWT G cl j i = false := by
          cases hw : mWT G cl j i with
          | false => rfl
          | true => exact absurd (mWT_op hw).2 hz
        rw [hw, Bool.false_or] at kk
        exact id_n r.1 hj (by omega) hdi i3 j1 j2 hz (ih (i + 1) m (by omega) kk)
set_option maxRecDepth 10000 in
theorem ie_e (kk : Ev 166 197 [some (.ref a), some (.int x1), some (.int x2), some (.int ((-1 : Int32))), u4, u5] [] g Q) : Ev 166 119 [some (.ref a), some (.int x1), some (.int x2), some (.int ((-1 : Int32))), u4, u5] [] g Q := by
  refine Er_run 2 (pc' := bif decide (((-1 : Int32)) < 0) then 197 else 123) (ls' := [some (.ref a), some (.int x1), some (.int x2), some (.int ((-1 : Int32))), u4, u5]) (st' := []) rfl ?_
  refine Er_pc (t := 197) (show (bif decide (((-1 : Int32)) < 0) then 197 else 123) = 197 from by rw [show (decide (((-1 : Int32)) < 0)) = true from by decide]; rfl) ?_
  exact kk
set_option maxRecDepth 10000 in
theorem ie_a (m0 : mrO g a) (hj : j < 8) (dj0 : gI g (a + 15) j = 1) (kk : Ev 166 119 [some (.ref a), some (.int x1), some (.int x2), some (.int (Int32.ofNat j + (-1 : Int32))), u4, u5] [] g Q) : Ev 166 119 [some (.ref a), some (.int x1), some (.int x2), some (.int (Int32.ofNat j)), u4, u5] [] g Q := by
  refine Er_run 2 (pc' := bif decide ((Int32.ofNat j) < 0) then 197 else 123) (ls' := [some (.ref a), some (.int x1), some (.int x2), some (.int (Int32.ofNat j)), u4, u5]) (st' := []) rfl ?_
  refine Er_pc (t := 123) (show (bif decide ((Int32.ofNat j) < 0) then 197 else 123) = 123 from by rw [show (decide ((Int32.ofNat j) < 0)) = false from by rw [show (0 : Int32) = Int32.ofNat 0 from rfl, jx_lt (by omega) (by omega)]; exact decide_eq_false (by omega)]; rfl) ?_
  refine Er_run 1 (pc' := 124) (ls' := [some (.ref a), some (.int x1), some (.int x2), some (.int (Int32.ofNat j)), u4, u5]) (st' := [.ref a]) rfl ?_
  refine Er_getR (x := a + 15) rfl m0.1 (m0.2 (14, 15, 2, 8) (by decide)).1 ?_
  refine Er_run 1 (pc' := 128) (ls' := [some (.ref a), some (.int x1), some (.int x2), some (.int (Int32.ofNat j)), u4, u5]) (st' := [.int (Int32.ofNat j), .ref (a + 15)]) rfl ?_
  refine Er_zald (v := (1 : Int32)) rfl (m0.2 (14, 15, 2, 8) (by decide)).2.1 (mr_in (i := j) (k := 8) rfl (by omega) (by decide) (m0.2 (14, 15, 2, 8) (by decide)).2.2) (mr_atI rfl (by omega) dj0) ?_
  refine Er_run 1 (pc' := bif decide (((1 : Int32)) = 0) then 135 else 132) (ls' := [some (.ref a), some (.int x1), some (.int x2), some (.int (Int32.ofNat j)), u4, u5]) (st' := []) rfl ?_
  refine Er_pc (t := 132) (show (bif decide (((1 : Int32)) = 0) then 135 else 132) = 132 from by rw [show (decide (((1 : Int32)) = 0)) = false from by decide]; rfl) ?_
  refine Er_run 3 (pc' := 119) (ls' := [some (.ref a), some (.int x1), some (.int x2), some (.int ((Int32.ofNat j) + (-1 : Int32))), u4, u5]) (st' := []) rfl ?_
  exact kk
set_option maxRecDepth 10000 in
theorem ie_b (m0 : mrO g a) (hj : j < 8) (dj0 : gI g (a + 15) j = 0) (kk : Ev 166 143 [some (.ref a), some (.int x1), some (.int 1), some (.int (Int32.ofNat j)), some (.int 1), some (.int (Int32.ofNat 0))] [] g Q) : Ev 166 119 [some (.ref a), some (.int x1), some (.int x2), some (.int (Int32.ofNat j)), u4, u5] [] g Q := by
  refine Er_run 2 (pc' := bif decide ((Int32.ofNat j) < 0) then 197 else 123) (ls' := [some (.ref a), some (.int x1), some (.int x2), some (.int (Int32.ofNat j)), u4, u5]) (st' := []) rfl ?_
  refine Er_pc (t := 123) (show (bif decide ((Int32.ofNat j) < 0) then 197 else 123) = 123 from by rw [show (decide ((Int32.ofNat j) < 0)) = false from by rw [show (0 : Int32) = Int32.ofNat 0 from rfl, jx_lt (by omega) (by omega)]; exact decide_eq_false (by omega)]; rfl) ?_
  refine Er_run 1 (pc' := 124) (ls' := [some (.ref a), some (.int x1), some (.int x2), some (.int (Int32.ofNat j)), u4, u5]) (st' := [.ref a]) rfl ?_
  refine Er_getR (x := a + 15) rfl m0.1 (m0.2 (14, 15, 2, 8) (by decide)).1 ?_
  refine Er_run 1 (pc' := 128) (ls' := [some (.ref a), some (.int x1), some (.int x2), some (.int (Int32.ofNat j)), u4, u5]) (st' := [.int (Int32.ofNat j), .ref (a + 15)]) rfl ?_
  refine Er_zald (v := (0 : Int32)) rfl (m0.2 (14, 15, 2, 8) (by decide)).2.1 (mr_in (i := j) (k := 8) rfl (by omega) (by decide) (m0.2 (14, 15, 2, 8) (by decide)).2.2) (mr_atI rfl (by omega) dj0) ?_
  refine Er_run 1 (pc' := bif decide (((0 : Int32)) = 0) then 135 else 132) (ls' := [some (.ref a), some (.int x1), some (.int x2), some (.int (Int32.ofNat j)), u4, u5]) (st' := []) rfl ?_
  refine Er_pc (t := 135) (show (bif decide (((0 : Int32)) = 0) then 135 else 132) = 135 from by rw [show (decide (((0 : Int32)) = 0)) = true from by decide]; rfl) ?_
  refine Er_run 6 (pc' := 143) (ls' := [some (.ref a), some (.int x1), some (.int ((1 : Int32))), some (.int (Int32.ofNat j)), some (.int ((1 : Int32))), some (.int ((0 : Int32)))]) (st' := []) rfl ?_
  exact kk
set_option maxRecDepth 10000 in
theorem ie_m0 (kk : Ev 166 119 [some (.ref a), some (.int x1), some (.int x2), some (.int (Int32.ofNat j + (-1 : Int32))), some (.int ((0 : Int32))), some (.int (Int32.ofNat 8))] [] g Q) : Ev 166 184 [some (.ref a), some (.int x1), some (.int x2), some (.int (Int32.ofNat j)), some (.int ((0 : Int32))), some (.int (Int32.ofNat 8))] [] g Q := by
  refine Er_run 2 (pc' := bif decide (((0 : Int32)) = 0) then 191 else 189) (ls' := [some (.ref a), some (.int x1), some (.int x2), some (.int (Int32.ofNat j)), some (.int ((0 : Int32))), some (.int (Int32.ofNat 8))]) (st' := []) rfl ?_
  refine Er_pc (t := 191) (show (bif decide (((0 : Int32)) = 0) then 191 else 189) = 191 from by rw [show (decide (((0 : Int32)) = 0)) = true from by decide]; rfl) ?_
  refine Er_run 2 (pc' := 119) (ls' := [some (.ref a), some (.int x1), some (.int x2), some (.int ((Int32.ofNat j) + (-1 : Int32))), some (.int ((0 : Int32))), some (.int (Int32.ofNat 8))]) (st' := []) rfl ?_
  exact kk
set_option maxRecDepth 10000 in
theorem ie_m1 (kk : Ev 166 119 [some (.ref a), some (.int (Int32.ofNat j)), some (.int x2), some (.int (Int32.ofNat j + (-1 : Int32))), some (.int ((1 : Int32))), some (.int (Int32.ofNat 8))] [] g Q) : Ev 166 184 [some (.ref a), some (.int x1), some (.int x2), some (.int (Int32.ofNat j)), some (.int ((1 : Int32))), some (.int (Int32.ofNat 8))] [] g Q := by
  refine Er_run 2 (pc' := bif decide (((1 : Int32)) = 0) then 191 else 189) (ls' := [some (.ref a), some (.int x1), some (.int x2), some (.int (Int32.ofNat j)), some (.int ((1 : Int32))), some (.int (Int32.ofNat 8))]) (st' := []) rfl ?_
  refine Er_pc (t := 189) (show (bif decide (((1 : Int32)) = 0) then 191 else 189) = 189 from by rw [show (decide (((1 : Int32)) = 0)) = false from by decide]; rfl) ?_
  refine Er_run 4 (pc' := 119) (ls' := [some (.ref a), some (.int (Int32.ofNat j)), some (.int x2), some (.int ((Int32.ofNat j) + (-1 : Int32))), some (.int ((1 : Int32))), some (.int (Int32.ofNat 8))]) (st' := []) rfl ?_
  exact kk
set_option maxRecDepth 10000 in
theorem ie_0 (kk : Ev 166 119 [some (.ref a), some (.int ((-1 : Int32))), some (.int ((0 : Int32))), some (.int (Int32.ofNat 7)), u4, u5] [] g Q) : Ev 166 112 [some (.ref a), u1, u2, u3, u4, u5] [] g Q := by
  refine Er_run 6 (pc' := 119) (ls' := [some (.ref a), some (.int ((-1 : Int32))), some (.int ((0 : Int32))), some (.int ((7 : Int32))), u4, u5]) (st' := []) rfl ?_
  exact kk
theorem jx_dec : Int32.ofNat (k + 1) + (-1 : Int32) = Int32.ofNat k := by rw [← jx_s1, Int32.add_assoc, show (1 : Int32) + -1 = 0 from rfl, Int32.add_zero]
/-- the second pass: the least JOB that may stand next -/
theorem l_ie (r : RG g a G) (hd : ∀ u, u < 8 → gI g (a + 15) u = (if mOP G cl u then 0 else 1)) (kk : ∀ u3 u4 u5 : Option Value, Ev 166 197 [some (.ref a), some (.int (jx_op ((List.range' 0 8).find? (mNC G cl)))), some (.int (if (List.range' 0 8).any (mOP G cl) = true then 1 else 0)), u3, u4, u5] [] g Q) : ∀ (k : Nat) (u4 u5 : Option Value), k ≤ 8 → Ev 166 119 [some (.ref a), some (.int (jx_op ((List.range' k (8 - k)).find? (mNC G cl)))), some (.int (if (List.range' k (8 - k)).any (mOP G cl) = true then 1 else 0)), some (.int (Int32.ofNat k + (-1 : Int32))), u4, u5] [] g Q := by
  intro k
  induction k with
  | zero =>
    intro u4 u5 hk
    rw [show Int32.ofNat 0 + (-1 : Int32) = -1 by decide]
    exact ie_e (kk _ _ _)
  | succ k ih =>
    intro u4 u5 hk
    have hr : List.range' k (8 - k) = k :: List.range' (k + 1) (8 - (k + 1)) := by rw [show 8 - k = (8 - (k + 1)) + 1 by omega, List.range'_succ]
    have hdk := hd k (by omega)
    have hf : (List.range' k (8 - k)).find? (mNC G cl) = (if mNC G cl k = true then some k else (List.range' (k + 1) (8 - (k + 1))).find? (mNC G cl)) := by
      rw [hr, List.find?_cons]
      cases mNC G cl k <;> rfl
    have ha : (List.range' k (8 - k)).any (mOP G cl) = (mOP G cl k || (List.range' (k + 1) (8 - (k + 1))).any (mOP G cl)) := by rw [hr, List.any_cons]
    have ih1 := fun v4 v5 => ih v4 v5 (by omega)
    rw [hf, ha] at ih1
    rw [jx_dec]
    cases hop : mOP G cl k with
    | false =>
      rw [hop] at hdk ih1
      have hn : mNC G cl k = false := by rw [mNC_eq, hop]; rfl
      rw [hn, if_neg (show ¬ (false = true) by decide), Bool.false_or] at ih1
      exact ie_a r.1 (by omega) hdk (ih1 _ _)
    | true =>
      rw [hop] at hdk ih1
      rw [Bool.true_or, if_pos (show true = true from rfl)] at ih1
      refine ie_b r.1 (by omega) hdk (l_id r (by omega) (mOP_1 hop).1 hd 8 0 1 (by omega) ?_)
      cases hw : (List.range' 0 8).any (mWT G cl k) with
      | true =>
        rw [mNC_eq, hop, hw, if_neg (show ¬ ((true && !true) = true) by decide)] at ih1
        rw [if_pos (show true = true from rfl)]
        exact ie_m0 (ih1 _ _)
      | false =>
        rw [mNC_eq, hop, hw, if_pos (show (true && !false) = true by decide)] at ih1
        rw [if_neg (show ¬ (false = true) by decide)]
        exact ie_m1 (ih1 _ _)
set_option maxRecDepth 10000 in
theorem ig_n0 (hq : Q (.inl (some (.int 1))) g) : Ev 166 197 [some (.ref a), some (.int ((-1 : Int32))), some (.int ((0 : Int32))), u3, u4, u5] [] g Q := by
  refine Er_run 2 (pc' := bif decide (0 ≤ ((-1 : Int32))) then 211 else 201) (ls' := [some (.ref a), some (.int ((-1 : Int32))), some (.int ((0 : Int32))), u3, u4, u5]) (st' := []) rfl ?_
  refine Er_pc (t := 201) (show (bif decide (0 ≤ ((-1 : Int32))) then 211 else 201) = 201 from by rw [show (decide (0 ≤ ((-1 : Int32)))) = false from by decide]; rfl) ?_
  refine Er_run 2 (pc' := bif !decide (((0 : Int32)) = 0) then 209 else 205) (ls' := [some (.ref a), some (.int ((-1 : Int32))), some (.int ((0 : Int32))), u3, u4, u5]) (st' := []) rfl ?_
  refine Er_pc (t := 205) (show (bif !decide (((0 : Int32)) = 0) then 209 else 205) = 205 from by rw [show (!decide (((0 : Int32)) = 0)) = false from by decide]; rfl) ?_
  refine Er_run 2 (pc' := 210) (ls' := [some (.ref a), some (.int ((-1 : Int32))), some (.int ((0 : Int32))), u3, u4, u5]) (st' := [.int ((1 : Int32))]) rfl ?_
  exact Er_fin rfl rfl hq
set_option maxRecDepth 10000 in
theorem ig_n1 (hq : Q (.inl (some (.int 0))) g) : Ev 166 197 [some (.ref a), some (.int ((-1 : Int32))), some (.int ((1 : Int32))), u3, u4, u5] [] g Q := by
  refine Er_run 2 (pc' := bif decide (0 ≤ ((-1 : Int32))) then 211 else 201) (ls' := [some (.ref a), some (.int ((-1 : Int32))), some (.int ((1 : Int32))), u3, u4, u5]) (st' := []) rfl ?_
  refine Er_pc (t := 201) (show (bif decide (0 ≤ ((-1 : Int32))) then 211 else 201) = 201 from by rw [show (decide (0 ≤ ((-1 : Int32)))) = false from by decide]; rfl) ?_
  refine Er_run 2 (pc' := bif !decide (((1 : Int32)) = 0) then 209 else 205) (ls' := [some (.ref a), some (.int ((-1 : Int32))), some (.int ((1 : Int32))), u3, u4, u5]) (st' := []) rfl ?_
  refine Er_pc (t := 209) (show (bif !decide (((1 : Int32)) = 0) then 209 else 205) = 209 from by rw [show (!decide (((1 : Int32)) = 0)) = true from by decide]; rfl) ?_
  refine Er_run 1 (pc' := 210) (ls' := [some (.ref a), some (.int ((-1 : Int32))), some (.int ((1 : Int32))), u3, u4, u5]) (st' := [.int ((0 : Int32))]) rfl ?_
  exact Er_fin rfl rfl hq
set_option maxRecDepth 10000 in
theorem ig_s (m0 : mrO g a) (hj : j < 8) (hc : c < 8) (ch0 : gI g a 17 = Int32.ofNat c) (kk : Ev 166 112 [some (.ref a), some (.int (Int32.ofNat j)), some (.int x2), u3, u4, u5] [] (setI (setI (setI g (a + 13) c (Int32.ofNat j)) a 17 (Int32.ofNat c + 1)) (a + 15) j 1) Q) : Ev 166 197 [some (.ref a), some (.int (Int32.ofNat j)), some (.int x2), u3, u4, u5] [] g Q := by
  refine Er_run 2 (pc' := bif decide (0 ≤ (Int32.ofNat j)) then 211 else 201) (ls' := [some (.ref a), some (.int (Int32.ofNat j)), some (.int x2), u3, u4, u5]) (st' := []) rfl ?_
  refine Er_pc (t := 211) (show (bif decide (0 ≤ (Int32.ofNat j)) then 211 else 201) = 211 from by rw [show (decide (0 ≤ (Int32.ofNat j))) = true from by rw [show (0 : Int32) = Int32.ofNat 0 from rfl, jx_le (by omega) (by omega)]; exact decide_eq_true (by omega)]; rfl) ?_
  refine Er_run 1 (pc' := 212) (ls' := [some (.ref a), some (.int (Int32.ofNat j)), some (.int x2), u3, u4, u5]) (st' := [.ref a]) rfl ?_
  refine Er_getR (x := a + 13) rfl m0.1 (m0.2 (12, 13, 0, 8) (by decide)).1 ?_
  refine Er_run 1 (pc' := 216) (ls' := [some (.ref a), some (.int (Int32.ofNat j)), some (.int x2), u3, u4, u5]) (st' := [.ref a, .ref (a + 13)]) rfl ?_
  refine Er_getI (v := Int32.ofNat c) rfl m0.1 ch0 ?_
  refine Er_run 1 (pc' := 220) (ls' := [some (.ref a), some (.int (Int32.ofNat j)), some (.int x2), u3, u4, u5]) (st' := [.int (Int32.ofNat j), .int (Int32.ofNat c), .ref (a + 13)]) rfl ?_
  refine Er_iast rfl (m0.2 (12, 13, 0, 8) (by decide)).2.1 (mr_in (i := c) (k := 8) rfl (by omega) (by decide) (m0.2 (12, 13, 0, 8) (by decide)).2.2) ?_
  rw [mr_cn (x := Int32.ofNat c) (i := c) rfl (by omega)]
  refine Er_run 2 (pc' := 223) (ls' := [some (.ref a), some (.int (Int32.ofNat j)), some (.int x2), u3, u4, u5]) (st' := [.ref a, .ref a]) rfl ?_
  refine Er_getI (v := Int32.ofNat c) rfl m0.1 (by rw [gI_ne (by omega)]; exact ch0) ?_
  refine Er_run 2 (pc' := 228) (ls' := [some (.ref a), some (.int (Int32.ofNat j)), some (.int x2), u3, u4, u5]) (st' := [.int ((Int32.ofNat c) + ((1 : Int32))), .ref a]) rfl ?_
  refine Er_putI rfl m0.1 ?_
  refine Er_run 1 (pc' := 232) (ls' := [some (.ref a), some (.int (Int32.ofNat j)), some (.int x2), u3, u4, u5]) (st' := [.ref a]) rfl ?_
  refine Er_getR (x := a + 15) rfl m0.1 (m0.2 (14, 15, 2, 8) (by decide)).1 ?_
  refine Er_run 2 (pc' := 237) (ls' := [some (.ref a), some (.int (Int32.ofNat j)), some (.int x2), u3, u4, u5]) (st' := [.int ((1 : Int32)), .int (Int32.ofNat j), .ref (a + 15)]) rfl ?_
  refine Er_zast rfl (m0.2 (14, 15, 2, 8) (by decide)).2.1 (mr_in (i := j) (k := 8) rfl (by omega) (by decide) (m0.2 (14, 15, 2, 8) (by decide)).2.2) (by decide) ?_
  rw [mr_cn (x := Int32.ofNat j) (i := j) rfl (by omega)]
  refine Er_run 1 (pc' := 112) (ls' := [some (.ref a), some (.int (Int32.ofNat j)), some (.int x2), u3, u4, u5]) (st' := []) rfl ?_
  exact kk
end REFZ
