section MILG
variable {h : sm_H} {a : Nat} {cl : List Nat} {G : Nat → Nat → Int32} {PR : Nat → Nat → List (Int32 × Int64)} {F : Nat → Jl} {D : List (Int32 × Int64)} {L : Jn} {R : Jr} {K : Jk} {Ws : Nat → Jw} {n v : Nat} {b : Bool}
/-- no task of the open JOB stands twice in the journal -/
def jr_one (R : Jr) : Prop := ∀ i k (e e' : Je), R.2.2 ≤ i → i < k → R.1[i]? = some e → R.1[k]? = some e' → ¬ (e.1 = 0 ∧ e'.1 = 0 ∧ e.2.1 = e'.2.1)

theorem l_twice1 {Q : sm_R → sm_H → Prop} {i : Nat} {e : Je} (hp : JR h a R) (ho : jr_one R) (hi : R.2.2 ≤ i) (he : R.1[i]? = some e) (kk : Ev 117 7 [some (.ref a), some (.int 0), some (.int (Int32.ofNat (i + 1))), some (.int (Int32.ofNat R.1.length))] [] h Q) : ∀ (f k : Nat), k + f = R.1.length → i < k → Ev 117 19 [some (.ref a), some (.int ((0 : Int32))), some (.int (Int32.ofNat i)), some (.int (Int32.ofNat k))] [] h Q := by
  intro f
  have hil := (List.getElem?_eq_some_iff.1 he).1
  have hrl := hp.2.1
  induction f with
  | zero =>
    intro k hk hik
    have e1 : k = R.1.length := by omega
    subst e1
    refine Er_run 2 (pc' := 21) (ls' := [some (.ref a), some (.int ((0 : Int32))), some (.int (Int32.ofNat i)), some (.int (Int32.ofNat R.1.length))]) (st' := [.ref a, .int (Int32.ofNat R.1.length)]) rfl ?_
    refine Er_getI (v := Int32.ofNat R.1.length) rfl hp.1.1 hp.2.2.1 ?_
    refine Er_run 1 (pc' := bif decide ((Int32.ofNat R.1.length) ≤ (Int32.ofNat R.1.length)) then 69 else 27) (ls' := [some (.ref a), some (.int ((0 : Int32))), some (.int (Int32.ofNat i)), some (.int (Int32.ofNat R.1.length))]) (st' := []) rfl ?_
    refine Er_pc (t := 69) (show (bif decide ((Int32.ofNat R.1.length) ≤ (Int32.ofNat R.1.length)) then 69 else 27) = 69 from by rw [show (decide ((Int32.ofNat R.1.length) ≤ (Int32.ofNat R.1.length))) = true from by rw [jx_le (by omega) (by omega)]; exact decide_eq_true (by omega)]; rfl) ?_
    refine Er_run 2 (pc' := 7) (ls' := [some (.ref a), some (.int ((0 : Int32))), some (.int ((Int32.ofNat i) + (1 : Int32))), some (.int (Int32.ofNat R.1.length))]) (st' := []) rfl ?_
    rw [jx_s1]
    exact kk
  | succ f ih0 =>
    intro k hk hik
    have ih : ∀ k, k + f = R.1.length → Ev 117 19 [some (.ref a), some (.int ((0 : Int32))), some (.int (Int32.ofNat i)), some (.int (Int32.ofNat k))] [] h Q := fun k hk2 => by
      rcases Nat.lt_or_ge i k with hlt | hge
      · exact ih0 k hk2 hlt
      · exfalso; omega
    obtain ⟨e', he'⟩ : ∃ e', R.1[k]? = some e' := ⟨_, List.getElem?_eq_getElem (show k < R.1.length by omega)⟩
    by_cases c1 : e.1 = 0
    · by_cases c2 : e'.1 = 0
      · have c3 : ¬ e.2.1 = e'.2.1 := fun c3 => ho i k e e' hi hik he he' ⟨c1, c2, c3⟩
        refine Er_run 2 (pc' := 21) (ls' := [some (.ref a), some (.int ((0 : Int32))), some (.int (Int32.ofNat i)), some (.int (Int32.ofNat k))]) (st' := [.ref a, .int (Int32.ofNat k)]) rfl ?_
        refine Er_getI (v := Int32.ofNat R.1.length) rfl hp.1.1 hp.2.2.1 ?_
        refine Er_run 1 (pc' := bif decide ((Int32.ofNat R.1.length) ≤ (Int32.ofNat k)) then 69 else 27) (ls' := [some (.ref a), some (.int ((0 : Int32))), some (.int (Int32.ofNat i)), some (.int (Int32.ofNat k))]) (st' := []) rfl ?_
        refine Er_pc (t := 27) (show (bif decide ((Int32.ofNat R.1.length) ≤ (Int32.ofNat k)) then 69 else 27) = 27 from by rw [show (decide ((Int32.ofNat R.1.length) ≤ (Int32.ofNat k))) = false from by rw [jx_le (by omega) (by omega)]; exact decide_eq_false (by omega)]; rfl) ?_
        refine Er_run 1 (pc' := 28) (ls' := [some (.ref a), some (.int ((0 : Int32))), some (.int (Int32.ofNat i)), some (.int (Int32.ofNat k))]) (st' := [.ref a]) rfl ?_
        refine Er_getR (x := a + 1) rfl hp.1.1 hp.1.2.1 ?_
        refine Er_run 1 (pc' := 32) (ls' := [some (.ref a), some (.int ((0 : Int32))), some (.int (Int32.ofNat i)), some (.int (Int32.ofNat k))]) (st' := [.int (Int32.ofNat i), .ref (a + 1)]) rfl ?_
        refine Er_iald (v := e.1) rfl hp.1.2.2.2.2.2.1 (by show sm_in _ (gS h (a + 1)).2 = true; rw [hp.1.2.2.2.2.2.2.1]; exact sm_in_of (by rw [sm_ofNat_toInt (by omega)]; omega) (by rw [sm_ofNat_toInt (by omega)]; omega)) (by rw [jx_cn (by omega)]; exact (hp.2.2.2.2.2.2.2 _ _ he).1) ?_
        refine Er_run 1 (pc' := bif !decide (e.1 = 0) then 63 else 36) (ls' := [some (.ref a), some (.int ((0 : Int32))), some (.int (Int32.ofNat i)), some (.int (Int32.ofNat k))]) (st' := []) rfl ?_
        refine Er_pc (t := 36) (show (bif !decide (e.1 = 0) then 63 else 36) = 36 from by rw [show (!decide (e.1 = 0)) = false from by rw [decide_eq_true c1]; rfl]; rfl) ?_
        refine Er_run 1 (pc' := 37) (ls' := [some (.ref a), some (.int ((0 : Int32))), some (.int (Int32.ofNat i)), some (.int (Int32.ofNat k))]) (st' := [.ref a]) rfl ?_
        refine Er_getR (x := a + 1) rfl hp.1.1 hp.1.2.1 ?_
        refine Er_run 1 (pc' := 41) (ls' := [some (.ref a), some (.int ((0 : Int32))), some (.int (Int32.ofNat i)), some (.int (Int32.ofNat k))]) (st' := [.int (Int32.ofNat k), .ref (a + 1)]) rfl ?_
        refine Er_iald (v := e'.1) rfl hp.1.2.2.2.2.2.1 (by show sm_in _ (gS h (a + 1)).2 = true; rw [hp.1.2.2.2.2.2.2.1]; exact sm_in_of (by rw [sm_ofNat_toInt (by omega)]; omega) (by rw [sm_ofNat_toInt (by omega)]; omega)) (by rw [jx_cn (by omega)]; exact (hp.2.2.2.2.2.2.2 _ _ he').1) ?_
        refine Er_run 1 (pc' := bif !decide ((e'.1) = 0) then 63 else 45) (ls' := [some (.ref a), some (.int ((0 : Int32))), some (.int (Int32.ofNat i)), some (.int (Int32.ofNat k))]) (st' := []) rfl ?_
        refine Er_pc (t := 45) (show (bif !decide ((e'.1) = 0) then 63 else 45) = 45 from by rw [show (!decide ((e'.1) = 0)) = false from by rw [decide_eq_true c2]; rfl]; rfl) ?_
        refine Er_run 1 (pc' := 46) (ls' := [some (.ref a), some (.int ((0 : Int32))), some (.int (Int32.ofNat i)), some (.int (Int32.ofNat k))]) (st' := [.ref a]) rfl ?_
        refine Er_getR (x := a + 2) rfl hp.1.1 hp.1.2.2.1 ?_
        refine Er_run 1 (pc' := 50) (ls' := [some (.ref a), some (.int ((0 : Int32))), some (.int (Int32.ofNat i)), some (.int (Int32.ofNat k))]) (st' := [.int (Int32.ofNat i), .ref (a + 2)]) rfl ?_
        refine Er_iald (v := e.2.1) rfl hp.1.2.2.2.2.2.2.2.1 (by show sm_in _ (gS h (a + 2)).2 = true; rw [hp.1.2.2.2.2.2.2.2.2.1]; exact sm_in_of (by rw [sm_ofNat_toInt (by omega)]; omega) (by rw [sm_ofNat_toInt (by omega)]; omega)) (by rw [jx_cn (by omega)]; exact (hp.2.2.2.2.2.2.2 _ _ he).2.1) ?_
        refine Er_run 1 (pc' := 52) (ls' := [some (.ref a), some (.int ((0 : Int32))), some (.int (Int32.ofNat i)), some (.int (Int32.ofNat k))]) (st' := [.ref a, .int (e.2.1)]) rfl ?_
        refine Er_getR (x := a + 2) rfl hp.1.1 hp.1.2.2.1 ?_
        refine Er_run 1 (pc' := 56) (ls' := [some (.ref a), some (.int ((0 : Int32))), some (.int (Int32.ofNat i)), some (.int (Int32.ofNat k))]) (st' := [.int (Int32.ofNat k), .ref (a + 2), .int (e.2.1)]) rfl ?_
        refine Er_iald (v := e'.2.1) rfl hp.1.2.2.2.2.2.2.2.1 (by show sm_in _ (gS h (a + 2)).2 = true; rw [hp.1.2.2.2.2.2.2.2.2.1]; exact sm_in_of (by rw [sm_ofNat_toInt (by omega)]; omega) (by rw [sm_ofNat_toInt (by omega)]; omega)) (by rw [jx_cn (by omega)]; exact (hp.2.2.2.2.2.2.2 _ _ he').2.1) ?_
        refine Er_run 1 (pc' := bif !decide (e.2.1 = (e'.2.1)) then 63 else 60) (ls' := [some (.ref a), some (.int ((0 : Int32))), some (.int (Int32.ofNat i)), some (.int (Int32.ofNat k))]) (st' := []) rfl ?_
        refine Er_pc (t := 63) (show (bif !decide (e.2.1 = (e'.2.1)) then 63 else 60) = 63 from by rw [show (!decide (e.2.1 = (e'.2.1))) = true from by rw [decide_eq_false c3]; rfl]; rfl) ?_
        refine Er_run 2 (pc' := 19) (ls' := [some (.ref a), some (.int ((0 : Int32))), some (.int (Int32.ofNat i)), some (.int ((Int32.ofNat k) + (1 : Int32)))]) (st' := []) rfl ?_
        rw [jx_s1]
        exact ih (k + 1) (by omega)
      · skip
        refine Er_run 2 (pc' := 21) (ls' := [some (.ref a), some (.int ((0 : Int32))), some (.int (Int32.ofNat i)), some (.int (Int32.ofNat k))]) (st' := [.ref a, .int (Int32.ofNat k)]) rfl ?_
        refine Er_getI (v := Int32.ofNat R.1.length) rfl hp.1.1 hp.2.2.1 ?_
        refine Er_run 1 (pc' := bif decide ((Int32.ofNat R.1.length) ≤ (Int32.ofNat k)) then 69 else 27) (ls' := [some (.ref a), some (.int ((0 : Int32))), some (.int (Int32.ofNat i)), some (.int (Int32.ofNat k))]) (st' := []) rfl ?_
        refine Er_pc (t := 27) (show (bif decide ((Int32.ofNat R.1.length) ≤ (Int32.ofNat k)) then 69 else 27) = 27 from by rw [show (decide ((Int32.ofNat R.1.length) ≤ (Int32.ofNat k))) = false from by rw [jx_le (by omega) (by omega)]; exact decide_eq_false (by omega)]; rfl) ?_
        refine Er_run 1 (pc' := 28) (ls' := [some (.ref a), some (.int ((0 : Int32))), some (.int (Int32.ofNat i)), some (.int (Int32.ofNat k))]) (st' := [.ref a]) rfl ?_
        refine Er_getR (x := a + 1) rfl hp.1.1 hp.1.2.1 ?_
        refine Er_run 1 (pc' := 32) (ls' := [some (.ref a), some (.int ((0 : Int32))), some (.int (Int32.ofNat i)), some (.int (Int32.ofNat k))]) (st' := [.int (Int32.ofNat i), .ref (a + 1)]) rfl ?_
        refine Er_iald (v := e.1) rfl hp.1.2.2.2.2.2.1 (by show sm_in _ (gS h (a + 1)).2 = true; rw [hp.1.2.2.2.2.2.2.1]; exact sm_in_of (by rw [sm_ofNat_toInt (by omega)]; omega) (by rw [sm_ofNat_toInt (by omega)]; omega)) (by rw [jx_cn (by omega)]; exact (hp.2.2.2.2.2.2.2 _ _ he).1) ?_
        refine Er_run 1 (pc' := bif !decide (e.1 = 0) then 63 else 36) (ls' := [some (.ref a), some (.int ((0 : Int32))), some (.int (Int32.ofNat i)), some (.int (Int32.ofNat k))]) (st' := []) rfl ?_
        refine Er_pc (t := 36) (show (bif !decide (e.1 = 0) then 63 else 36) = 36 from by rw [show (!decide (e.1 = 0)) = false from by rw [decide_eq_true c1]; rfl]; rfl) ?_
        refine Er_run 1 (pc' := 37) (ls' := [some (.ref a), some (.int ((0 : Int32))), some (.int (Int32.ofNat i)), some (.int (Int32.ofNat k))]) (st' := [.ref a]) rfl ?_
        refine Er_getR (x := a + 1) rfl hp.1.1 hp.1.2.1 ?_
        refine Er_run 1 (pc' := 41) (ls' := [some (.ref a), some (.int ((0 : Int32))), some (.int (Int32.ofNat i)), some (.int (Int32.ofNat k))]) (st' := [.int (Int32.ofNat k), .ref (a + 1)]) rfl ?_
        refine Er_iald (v := e'.1) rfl hp.1.2.2.2.2.2.1 (by show sm_in _ (gS h (a + 1)).2 = true; rw [hp.1.2.2.2.2.2.2.1]; exact sm_in_of (by rw [sm_ofNat_toInt (by omega)]; omega) (by rw [sm_ofNat_toInt (by omega)]; omega)) (by rw [jx_cn (by omega)]; exact (hp.2.2.2.2.2.2.2 _ _ he').1) ?_
        refine Er_run 1 (pc' := bif !decide ((e'.1) = 0) then 63 else 45) (ls' := [some (.ref a), some (.int ((0 : Int32))), some (.int (Int32.ofNat i)), some (.int (Int32.ofNat k))]) (st' := []) rfl ?_
        refine Er_pc (t := 63) (show (bif !decide ((e'.1) = 0) then 63 else 45) = 63 from by rw [show (!decide ((e'.1) = 0)) = true from by rw [decide_eq_false c2]; rfl]; rfl) ?_
        refine Er_run 2 (pc' := 19) (ls' := [some (.ref a), some (.int ((0 : Int32))), some (.int (Int32.ofNat i)), some (.int ((Int32.ofNat k) + (1 : Int32)))]) (st' := []) rfl ?_
        rw [jx_s1]
        exact ih (k + 1) (by omega)
    · skip
      refine Er_run 2 (pc' := 21) (ls' := [some (.ref a), some (.int ((0 : Int32))), some (.int (Int32.ofNat i)), some (.int (Int32.ofNat k))]) (st' := [.ref a, .int (Int32.ofNat k)]) rfl ?_
      refine Er_getI (v := Int32.ofNat R.1.length) rfl hp.1.1 hp.2.2.1 ?_
      refine Er_run 1 (pc' := bif decide ((Int32.ofNat R.1.length) ≤ (Int32.ofNat k)) then 69 else 27) (ls' := [some (.ref a), some (.int ((0 : Int32))), some (.int (Int32.ofNat i)), some (.int (Int32.ofNat k))]) (st' := []) rfl ?_
      refine Er_pc (t := 27) (show (bif decide ((Int32.ofNat R.1.length) ≤ (Int32.ofNat k)) then 69 else 27) = 27 from by rw [show (decide ((Int32.ofNat R.1.length) ≤ (Int32.ofNat k))) = false from by rw [jx_le (by omega) (by omega)]; exact decide_eq_false (by omega)]; rfl) ?_
      refine Er_run 1 (pc' := 28) (ls' := [some (.ref a), some (.int ((0 : Int32))), some (.int (Int32.ofNat i)), some (.int (Int32.ofNat k))]) (st' := [.ref a]) rfl ?_
      refine Er_getR (x := a + 1) rfl hp.1.1 hp.1.2.1 ?_
      refine Er_run 1 (pc' := 32) (ls' := [some (.ref a), some (.int ((0 : Int32))), some (.int (Int32.ofNat i)), some (.int (Int32.ofNat k))]) (st' := [.int (Int32.ofNat i), .ref (a + 1)]) rfl ?_
      refine Er_iald (v := e.1) rfl hp.1.2.2.2.2.2.1 (by show sm_in _ (gS h (a + 1)).2 = true; rw [hp.1.2.2.2.2.2.2.1]; exact sm_in_of (by rw [sm_ofNat_toInt (by omega)]; omega) (by rw [sm_ofNat_toInt (by omega)]; omega)) (by rw [jx_cn (by omega)]; exact (hp.2.2.2.2.2.2.2 _ _ he).1) ?_
      refine Er_run 1 (pc' := bif !decide (e.1 = 0) then 63 else 36) (ls' := [some (.ref a), some (.int ((0 : Int32))), some (.int (Int32.ofNat i)), some (.int (Int32.ofNat k))]) (st' := []) rfl ?_
      refine Er_pc (t := 63) (show (bif !decide (e.1 = 0) then 63 else 36) = 63 from by rw [show (!decide (e.1 = 0)) = true from by rw [decide_eq_false c1]; rfl]; rfl) ?_
      refine Er_run 2 (pc' := 19) (ls' := [some (.ref a), some (.int ((0 : Int32))), some (.int (Int32.ofNat i)), some (.int ((Int32.ofNat k) + (1 : Int32)))]) (st' := []) rfl ?_
      rw [jx_s1]
      exact ih (k + 1) (by omega)
theorem l_twice (hp : JR h a R) (ho : jr_one R) : ∀ (f i : Nat) (x3 : Option Value), R.1.length ≤ i + f → R.2.2 ≤ i → i < 2000000 → (f = 0 ∨ i + f = R.1.length) → Ev 117 7 [some (.ref a), some (.int ((0 : Int32))), some (.int (Int32.ofNat i)), x3] [] h (fun r h1 => r = .inl (some (.int 0)) ∧ h1 = h) := by
  intro f
  have hrl := hp.2.1
  induction f with
  | zero =>
    intro i x3 hf hi h2 hff
    refine Er_run 2 (pc' := 9) (ls' := [some (.ref a), some (.int ((0 : Int32))), some (.int (Int32.ofNat i)), x3]) (st' := [.ref a, .int (Int32.ofNat i)]) rfl ?_
    refine Er_getI (v := Int32.ofNat R.1.length) rfl hp.1.1 hp.2.2.1 ?_
    refine Er_run 1 (pc' := bif decide ((Int32.ofNat R.1.length) ≤ (Int32.ofNat i)) then 75 else 15) (ls' := [some (.ref a), some (.int ((0 : Int32))), some (.int (Int32.ofNat i)), x3]) (st' := []) rfl ?_
    refine Er_pc (t := 75) (show (bif decide ((Int32.ofNat R.1.length) ≤ (Int32.ofNat i)) then 75 else 15) = 75 from by rw [show (decide ((Int32.ofNat R.1.length) ≤ (Int32.ofNat i))) = true from by rw [jx_le (by omega) (by omega)]; exact decide_eq_true (by omega)]; rfl) ?_
    refine Er_run 1 (pc' := 76) (ls' := [some (.ref a), some (.int ((0 : Int32))), some (.int (Int32.ofNat i)), x3]) (st' := [.int ((0 : Int32))]) rfl ?_
    exact Er_fin rfl rfl ⟨rfl, rfl⟩
  | succ f ih0 =>
    intro i x3 hf hi h2 hff
    have ih : ∀ (i : Nat) (x3 : Option Value), i + f = R.1.length → R.2.2 ≤ i → Ev 117 7 [some (.ref a), some (.int ((0 : Int32))), some (.int (Int32.ofNat i)), x3] [] h (fun r h1 => r = .inl (some (.int 0)) ∧ h1 = h) := fun i x3 h1 h2 => ih0 i x3 (by omega) h2 (by omega) (Or.inr h1)
    obtain ⟨e, he⟩ : ∃ e, R.1[i]? = some e := ⟨_, List.getElem?_eq_getElem (show i < R.1.length by omega)⟩
    refine Er_run 2 (pc' := 9) (ls' := [some (.ref a), some (.int ((0 : Int32))), some (.int (Int32.ofNat i)), x3]) (st' := [.ref a, .int (Int32.ofNat i)]) rfl ?_
    refine Er_getI (v := Int32.ofNat R.1.length) rfl hp.1.1 hp.2.2.1 ?_
    refine Er_run 1 (pc' := bif decide ((Int32.ofNat R.1.length) ≤ (Int32.ofNat i)) then 75 else 15) (ls' := [some (.ref a), some (.int ((0 : Int32))), some (.int (Int32.ofNat i)), x3]) (st' := []) rfl ?_
    refine Er_pc (t := 15) (show (bif decide ((Int32.ofNat R.1.length) ≤ (Int32.ofNat i)) then 75 else 15) = 15 from by rw [show (decide ((Int32.ofNat R.1.length) ≤ (Int32.ofNat i))) = false from by rw [jx_le (by omega) (by omega)]; exact decide_eq_false (by omega)]; rfl) ?_
    refine Er_run 4 (pc' := 19) (ls' := [some (.ref a), some (.int ((0 : Int32))), some (.int (Int32.ofNat i)), some (.int ((Int32.ofNat i) + ((1 : Int32))))]) (st' := []) rfl ?_
    rw [jx_s1]
    exact l_twice1 hp ho hi he (ih (i + 1) _ (by omega) (by omega)) f (i + 1) (by omega) (by omega)
theorem s_Journal_entriesTwice (hp : JR h a R) (ho : jr_one R) : Run 117 [.ref a] h (.inl (some (.int 0))) h := by
  have hc := hp.2.2.2.2.2.2.1
  refine ⟨Nat.le_of_ble_eq_true rfl, ?_⟩
  show Ev 117 0 [some (.ref a), none, none, none] [] h _
  refine Er_run 3 (pc' := 3) (ls' := [some (.ref a), some (.int ((0 : Int32))), none, none]) (st' := [.ref a]) rfl ?_
  refine Er_getI (v := Int32.ofNat R.2.2) rfl hp.1.1 hp.2.2.2.2.1 ?_
  refine Er_run 1 (pc' := 7) (ls' := [some (.ref a), some (.int ((0 : Int32))), some (.int (Int32.ofNat R.2.2)), none]) (st' := []) rfl ?_
  exact l_twice hp ho (R.1.length - R.2.2) R.2.2 none (by omega) (by omega) (by omega) (by omega)
theorem s_Worker_disk {w s y : Nat} {W : Jw} (hw : WW h w s y W) : Run 88 [.ref w] h (.inl (some (.ref (w + 1)))) h := by
  refine ⟨Nat.le_of_ble_eq_true rfl, ?_⟩
  show Ev 88 0 [some (.ref w)] [] h _
  refine Er_run 1 (pc' := 1) (ls' := [some (.ref w)]) (st' := [.ref w]) rfl ?_
  refine Er_getR (x := w + 1) rfl hw.1.1 hw.1.2.2.2.1 ?_
  exact Er_fin rfl rfl ⟨rfl, rfl⟩
theorem s_Mill_lies {i t : Nat} {e : Je} (hp : XS h cl G PR F D L R K Ws b n) (he : R.1[i]? = some e) (hv : v < 6) (ht : t < 44) (ew : e.2.2.1 = Int32.ofNat v) (et : e.2.1 = Int32.ofNat t) (ep : (Ws v).2.2.2.2.1 = Int32.ofNat R.2.1) (eh : ((Ws v).2.2.2.2.2 t).isSome = true) : Run 151 [.ref 0, .int (Int32.ofNat i)] h (.inl (some (.int 1))) h := by
  refine ⟨Nat.le_of_ble_eq_true rfl, ?_⟩
  show Ev 151 0 [some (.ref 0), some (.int (Int32.ofNat i)), none, none] [] h _
  refine Er_run 1 (pc' := 1) (ls' := [some (.ref 0), some (.int (Int32.ofNat i)), none, none]) (st' := [.ref 0]) rfl ?_
  refine Er_getR (x := 373) rfl hp.1.1.1 hp.1.1.2.2.2.2.1 ?_
  refine Er_run 1 (pc' := 5) (ls' := [some (.ref 0), some (.int (Int32.ofNat i)), none, none]) (st' := [.int (Int32.ofNat i), .ref 373]) rfl ?_
  have hwk := s_Journal_worker hp.2.2.2.1 he
  rw [ew] at hwk
  refine Er_inv1 (q' := 373) (ci := 9) (av := [.int (Int32.ofNat i)]) (rest := []) rfl rfl ⟨Nat.le_of_ble_eq_true rfl, Nat.le_of_ble_eq_true rfl⟩ rfl rfl hp.2.2.2.1.1.1 hwk ?_
  refine Er_run 3 (pc' := bif decide ((Int32.ofNat v) < 0) then 19 else 13) (ls' := [some (.ref 0), some (.int (Int32.ofNat i)), some (.int (Int32.ofNat v)), none]) (st' := []) rfl ?_
  refine Er_pc (t := 13) (show (bif decide ((Int32.ofNat v) < 0) then 19 else 13) = 13 from by rw [show (decide ((Int32.ofNat v) < 0)) = false from sm_nn (by rw [sm_ofNat_toInt (by omega)]; omega)]; rfl) ?_
  refine Er_run 3 (pc' := bif decide ((Int32.ofNat v) < ((6 : Int32))) then 21 else 19) (ls' := [some (.ref 0), some (.int (Int32.ofNat i)), some (.int (Int32.ofNat v)), none]) (st' := []) rfl ?_
  refine Er_pc (t := 21) (show (bif decide ((Int32.ofNat v) < ((6 : Int32))) then 21 else 19) = 21 from by rw [show (decide ((Int32.ofNat v) < ((6 : Int32)))) = true from by rw [show (6 : Int32) = Int32.ofNat 6 from rfl, jx_lt (by omega) (by omega)]; exact decide_eq_true (by omega)]; rfl) ?_
  refine Er_run 1 (pc' := 22) (ls' := [some (.ref 0), some (.int (Int32.ofNat i)), some (.int (Int32.ofNat v)), none]) (st' := [.ref 0]) rfl ?_
  refine Er_getR (x := 378) rfl hp.1.1.1 hp.1.1.2.2.2.2.2.1 ?_
  refine Er_run 1 (pc' := 26) (ls' := [some (.ref 0), some (.int (Int32.ofNat i)), some (.int (Int32.ofNat v)), none]) (st' := [.int (Int32.ofNat v), .ref 378]) rfl ?_
  refine Er_aald (x := 388 + 35 * v) rfl hp.1.1.2.2.2.2.2.2.2.1 (by rw [hp.1.1.2.2.2.2.2.2.2.2.1]; exact sm_in_of (by rw [sm_ofNat_toInt (by omega)]; omega) (by rw [sm_ofNat_toInt (by omega)]; omega)) (by rw [jx_cn (by omega)]; exact hp.1.1.2.2.2.2.2.2.2.2.2 v hv) ?_
  refine Er_inv1 (q' := 388 + 35 * v) (ci := 8) (av := []) (rest := []) rfl rfl ⟨Nat.le_of_ble_eq_true rfl, Nat.le_of_ble_eq_true rfl⟩ rfl rfl (hp.2.2.2.2.2 v hv).1.1 (s_Worker_disk (hp.2.2.2.2.2 v hv)) ?_
  refine Er_run 2 (pc' := 32) (ls' := [some (.ref 0), some (.int (Int32.ofNat i)), some (.int (Int32.ofNat v)), some (.ref (388 + 35 * v + 1))]) (st' := [.ref (388 + 35 * v + 1)]) rfl ?_
  have hdp := s_Disk_position (hp.2.2.2.2.2 v hv).2.2.2.2.2.2.2.2.2.2
  rw [ep] at hdp
  refine Er_inv1 (q' := 388 + 35 * v + 1) (ci := 7) (av := []) (rest := []) rfl rfl ⟨Nat.le_of_ble_eq_true rfl, Nat.le_of_ble_eq_true rfl⟩ rfl rfl (hp.2.2.2.2.2 v hv).2.2.2.2.2.2.2.2.2.2.1.1 hdp ?_
  refine Er_run 1 (pc' := 36) (ls' := [some (.ref 0), some (.int (Int32.ofNat i)), some (.int (Int32.ofNat v)), some (.ref (388 + 35 * v + 1))]) (st' := [.ref 0, .int (Int32.ofNat R.2.1)]) rfl ?_
  refine Er_getR (x := 373) rfl hp.1.1.1 hp.1.1.2.2.2.2.1 ?_
  refine Er_inv1 (q' := 373) (ci := 9) (av := []) (rest := [.int (Int32.ofNat R.2.1)]) rfl rfl ⟨Nat.le_of_ble_eq_true rfl, Nat.le_of_ble_eq_true rfl⟩ rfl rfl hp.2.2.2.1.1.1 (s_Journal_commits hp.2.2.2.1) ?_
  refine Er_run 1 (pc' := bif !decide ((Int32.ofNat R.2.1) = (Int32.ofNat R.2.1)) then 64 else 45) (ls' := [some (.ref 0), some (.int (Int32.ofNat i)), some (.int (Int32.ofNat v)), some (.ref (388 + 35 * v + 1))]) (st' := []) rfl ?_
  refine Er_pc (t := 45) (show (bif !decide ((Int32.ofNat R.2.1) = (Int32.ofNat R.2.1)) then 64 else 45) = 45 from by rw [show (!decide ((Int32.ofNat R.2.1) = (Int32.ofNat R.2.1))) = false from by rw [decide_eq_true rfl]; rfl]; rfl) ?_
  refine Er_run 2 (pc' := 47) (ls' := [some (.ref 0), some (.int (Int32.ofNat i)), some (.int (Int32.ofNat v)), some (.ref (388 + 35 * v + 1))]) (st' := [.ref 0, .ref (388 + 35 * v + 1)]) rfl ?_
  refine Er_getR (x := 373) rfl hp.1.1.1 hp.1.1.2.2.2.2.1 ?_
  refine Er_run 1 (pc' := 51) (ls' := [some (.ref 0), some (.int (Int32.ofNat i)), some (.int (Int32.ofNat v)), some (.ref (388 + 35 * v + 1))]) (st' := [.int (Int32.ofNat i), .ref 373, .ref (388 + 35 * v + 1)]) rfl ?_
  have htk := s_Journal_task hp.2.2.2.1 he
  rw [et] at htk
  refine Er_inv1 (q' := 373) (ci := 9) (av := [.int (Int32.ofNat i)]) (rest := [.ref (388 + 35 * v + 1)]) rfl rfl ⟨Nat.le_of_ble_eq_true rfl, Nat.le_of_ble_eq_true rfl⟩ rfl rfl hp.2.2.2.1.1.1 htk ?_
  have hho := s_Disk_holds (hp.2.2.2.2.2 v hv).2.2.2.2.2.2.2.2.2.2 ht
  rw [if_pos eh] at hho
  refine Er_inv1 (q' := 388 + 35 * v + 1) (ci := 7) (av := [.int (Int32.ofNat t)]) (rest := []) rfl rfl ⟨Nat.le_of_ble_eq_true rfl, Nat.le_of_ble_eq_true rfl⟩ rfl rfl (hp.2.2.2.2.2 v hv).2.2.2.2.2.2.2.2.2.2.1.1 hho ?_
  refine Er_run 1 (pc' := bif decide (((1 : Int32)) = 0) then 64 else 60) (ls' := [some (.ref 0), some (.int (Int32.ofNat i)), some (.int (Int32.ofNat v)), some (.ref (388 + 35 * v + 1))]) (st' := []) rfl ?_
  refine Er_pc (t := 60) (show (bif decide (((1 : Int32)) = 0) then 64 else 60) = 60 from by rw [show (decide (((1 : Int32)) = 0)) = false from by decide]; rfl) ?_
  refine Er_run 2 (pc' := 65) (ls' := [some (.ref 0), some (.int (Int32.ofNat i)), some (.int (Int32.ofNat v)), some (.ref (388 + 35 * v + 1))]) (st' := [.int ((1 : Int32))]) rfl ?_
  exact Er_fin rfl rfl ⟨rfl, rfl⟩
/-- what is done of the open JOB lies where it was done -/
def jr_lies (R : Jr) (Ws : Nat → Jw) : Prop := ∀ i (e : Je), R.2.2 ≤ i → R.1[i]? = some e → e.1 = 0 → ∃ v t, v < 6 ∧ t < 44 ∧ e.2.2.1 = Int32.ofNat v ∧ e.2.1 = Int32.ofNat t ∧ (Ws v).2.2.2.2.1 = Int32.ofNat R.2.1 ∧ ((Ws v).2.2.2.2.2 t).isSome = true
theorem l_check2 (hp : XS h cl G PR F D L R K Ws b n) : ∀ (f v : Nat), v + f = 6 → Ev 149 57 [some (.ref 0), some (.int ((0 : Int32))), some (.int (Int32.ofNat v))] [] h (fun r h1 => r = .inl (some (.int 0)) ∧ h1 = h) := by
  intro f
  induction f with
  | zero =>
    intro v hvf
    refine Er_run 3 (pc' := bif decide (((6 : Int32)) ≤ (Int32.ofNat v)) then 84 else 63) (ls' := [some (.ref 0), some (.int ((0 : Int32))), some (.int (Int32.ofNat v))]) (st' := []) rfl ?_
    refine Er_pc (t := 84) (show (bif decide (((6 : Int32)) ≤ (Int32.ofNat v)) then 84 else 63) = 84 from by rw [show (decide (((6 : Int32)) ≤ (Int32.ofNat v))) = true from by rw [show (6 : Int32) = Int32.ofNat 6 from rfl, jx_le (by omega) (by omega)]; exact decide_eq_true (by omega)]; rfl) ?_
    refine Er_run 1 (pc' := 85) (ls' := [some (.ref 0), some (.int ((0 : Int32))), some (.int (Int32.ofNat v))]) (st' := [.int ((0 : Int32))]) rfl ?_
    exact Er_fin rfl rfl ⟨rfl, rfl⟩
  | succ f ih =>
    intro v hvf
    have hv : v < 6 := by omega
    refine Er_run 3 (pc' := bif decide (((6 : Int32)) ≤ (Int32.ofNat v)) then 84 else 63) (ls' := [some (.ref 0), some (.int ((0 : Int32))), some (.int (Int32.ofNat v))]) (st' := []) rfl ?_
    refine Er_pc (t := 63) (show (bif decide (((6 : Int32)) ≤ (Int32.ofNat v)) then 84 else 63) = 63 from by rw [show (decide (((6 : Int32)) ≤ (Int32.ofNat v))) = false from by rw [show (6 : Int32) = Int32.ofNat 6 from rfl, jx_le (by omega) (by omega)]; exact decide_eq_false (by omega)]; rfl) ?_
    refine Er_run 2 (pc' := 65) (ls' := [some (.ref 0), some (.int ((0 : Int32))), some (.int (Int32.ofNat v))]) (st' := [.ref 0, .int ((0 : Int32))]) rfl ?_
    refine Er_getR (x := 378) rfl hp.1.1.1 hp.1.1.2.2.2.2.2.1 ?_
    refine Er_run 1 (pc' := 69) (ls' := [some (.ref 0), some (.int ((0 : Int32))), some (.int (Int32.ofNat v))]) (st' := [.int (Int32.ofNat v), .ref 378, .int ((0 : Int32))]) rfl ?_
    refine Er_aald (x := 388 + 35 * v) rfl hp.1.1.2.2.2.2.2.2.2.1 (by rw [hp.1.1.2.2.2.2.2.2.2.2.1]; exact sm_in_of (by rw [sm_ofNat_toInt (by omega)]; omega) (by rw [sm_ofNat_toInt (by omega)]; omega)) (by rw [jx_cn (by omega)]; exact hp.1.1.2.2.2.2.2.2.2.2.2 v hv) ?_
    refine Er_inv1 (q' := 388 + 35 * v) (ci := 8) (av := []) (rest := [.int ((0 : Int32))]) rfl rfl ⟨Nat.le_of_ble_eq_true rfl, Nat.le_of_ble_eq_true rfl⟩ rfl rfl (hp.2.2.2.2.2 v hv).1.1 (s_Worker_disk (hp.2.2.2.2.2 v hv)) ?_
    refine Er_inv1 (q' := 388 + 35 * v + 1) (ci := 7) (av := []) (rest := [.int ((0 : Int32))]) rfl rfl ⟨Nat.le_of_ble_eq_true rfl, Nat.le_of_ble_eq_true rfl⟩ rfl rfl (hp.2.2.2.2.2 v hv).2.2.2.2.2.2.2.2.2.2.1.1 (s_Disk_wrongSums (hp.2.2.2.2.2 v hv).2.2.2.2.2.2.2.2.2.2) ?_
    refine Er_run 4 (pc' := 57) (ls' := [some (.ref 0), some (.int (((0 : Int32)) + ((0 : Int32)))), some (.int ((Int32.ofNat v) + (1 : Int32)))]) (st' := []) rfl ?_
    rw [jx_s1, show (0 : Int32) + 0 = 0 from rfl]
    exact ih (v + 1) (by omega)
theorem l_check1 (hp : XS h cl G PR F D L R K Ws b n) (hE : jr_lies R Ws) : ∀ (f i : Nat), R.1.length ≤ i + f → R.2.2 ≤ i → i < 2000000 → (f = 0 ∨ i + f = R.1.length) → Ev 149 16 [some (.ref 0), some (.int ((0 : Int32))), some (.int (Int32.ofNat i))] [] h (fun r h1 => r = .inl (some (.int 0)) ∧ h1 = h) := by
  intro f
  have hrl := hp.2.2.2.1.2.1
  induction f with
  | zero =>
    intro i hf hi h2 hff
    refine Er_run 2 (pc' := 18) (ls' := [some (.ref 0), some (.int ((0 : Int32))), some (.int (Int32.ofNat i))]) (st' := [.ref 0, .int (Int32.ofNat i)]) rfl ?_
    refine Er_getR (x := 373) rfl hp.1.1.1 hp.1.1.2.2.2.2.1 ?_
    refine Er_inv1 (q' := 373) (ci := 9) (av := []) (rest := [.int (Int32.ofNat i)]) rfl rfl ⟨Nat.le_of_ble_eq_true rfl, Nat.le_of_ble_eq_true rfl⟩ rfl rfl hp.2.2.2.1.1.1 (s_Journal_length hp.2.2.2.1) ?_
    refine Er_run 1 (pc' := bif decide ((Int32.ofNat R.1.length) ≤ (Int32.ofNat i)) then 55 else 27) (ls' := [some (.ref 0), some (.int ((0 : Int32))), some (.int (Int32.ofNat i))]) (st' := []) rfl ?_
    refine Er_pc (t := 55) (show (bif decide ((Int32.ofNat R.1.length) ≤ (Int32.ofNat i)) then 55 else 27) = 55 from by rw [show (decide ((Int32.ofNat R.1.length) ≤ (Int32.ofNat i))) = true from by rw [jx_le (by omega) (by omega)]; exact decide_eq_true (by omega)]; rfl) ?_
    refine Er_run 2 (pc' := 57) (ls' := [some (.ref 0), some (.int ((0 : Int32))), some (.int ((0 : Int32)))]) (st' := []) rfl ?_
    exact l_check2 hp 6 0 rfl
  | succ f ih0 =>
    intro i hf hi h2 hff
    have ih : ∀ i, i + f = R.1.length → R.2.2 ≤ i → Ev 149 16 [some (.ref 0), some (.int ((0 : Int32))), some (.int (Int32.ofNat i))] [] h (fun r h1 => r = .inl (some (.int 0)) ∧ h1 = h) := fun i h1 h2 => ih0 i (by omega) h2 (by omega) (Or.inr h1)
    obtain ⟨e, he⟩ : ∃ e, R.1[i]? = some e := ⟨_, List.getElem?_eq_getElem (show i < R.1.length by omega)⟩
    by_cases c1 : e.1 = 0
    · skip
      refine Er_run 2 (pc' := 18) (ls' := [some (.ref 0), some (.int ((0 : Int32))), some (.int (Int32.ofNat i))]) (st' := [.ref 0, .int (Int32.ofNat i)]) rfl ?_
      refine Er_getR (x := 373) rfl hp.1.1.1 hp.1.1.2.2.2.2.1 ?_
      refine Er_inv1 (q' := 373) (ci := 9) (av := []) (rest := [.int (Int32.ofNat i)]) rfl rfl ⟨Nat.le_of_ble_eq_true rfl, Nat.le_of_ble_eq_true rfl⟩ rfl rfl hp.2.2.2.1.1.1 (s_Journal_length hp.2.2.2.1) ?_
      refine Er_run 1 (pc' := bif decide ((Int32.ofNat R.1.length) ≤ (Int32.ofNat i)) then 55 else 27) (ls' := [some (.ref 0), some (.int ((0 : Int32))), some (.int (Int32.ofNat i))]) (st' := []) rfl ?_
      refine Er_pc (t := 27) (show (bif decide ((Int32.ofNat R.1.length) ≤ (Int32.ofNat i)) then 55 else 27) = 27 from by rw [show (decide ((Int32.ofNat R.1.length) ≤ (Int32.ofNat i))) = false from by rw [jx_le (by omega) (by omega)]; exact decide_eq_false (by omega)]; rfl) ?_
      refine Er_run 1 (pc' := 28) (ls' := [some (.ref 0), some (.int ((0 : Int32))), some (.int (Int32.ofNat i))]) (st' := [.ref 0]) rfl ?_
      refine Er_getR (x := 373) rfl hp.1.1.1 hp.1.1.2.2.2.2.1 ?_
      refine Er_run 1 (pc' := 32) (ls' := [some (.ref 0), some (.int ((0 : Int32))), some (.int (Int32.ofNat i))]) (st' := [.int (Int32.ofNat i), .ref 373]) rfl ?_
      refine Er_inv1 (q' := 373) (ci := 9) (av := [.int (Int32.ofNat i)]) (rest := []) rfl rfl ⟨Nat.le_of_ble_eq_true rfl, Nat.le_of_ble_eq_true rfl⟩ rfl rfl hp.2.2.2.1.1.1 (s_Journal_kind hp.2.2.2.1 he) ?_
      refine Er_run 1 (pc' := bif !decide (e.1 = 0) then 49 else 38) (ls' := [some (.ref 0), some (.int ((0 : Int32))), some (.int (Int32.ofNat i))]) (st' := []) rfl ?_
      refine Er_pc (t := 38) (show (bif !decide (e.1 = 0) then 49 else 38) = 38 from by rw [show (!decide (e.1 = 0)) = false from by rw [decide_eq_true c1]; rfl]; rfl) ?_
      refine Er_run 2 (pc' := 40) (ls' := [some (.ref 0), some (.int ((0 : Int32))), some (.int (Int32.ofNat i))]) (st' := [.int (Int32.ofNat i), .ref 0]) rfl ?_
      obtain ⟨v, t, hv, ht, ew, et, ep, eh⟩ := hE i e hi he c1
      refine Er_inv1 (q' := 0) (ci := 11) (av := [.int (Int32.ofNat i)]) (rest := []) rfl rfl ⟨Nat.le_of_ble_eq_true rfl, Nat.le_of_ble_eq_true rfl⟩ rfl rfl hp.1.1.1 (s_Mill_lies hp he hv ht ew et ep eh) ?_
      refine Er_run 1 (pc' := bif !decide (((1 : Int32)) = 0) then 49 else 46) (ls' := [some (.ref 0), some (.int ((0 : Int32))), some (.int (Int32.ofNat i))]) (st' := []) rfl ?_
      refine Er_pc (t := 49) (show (bif !decide (((1 : Int32)) = 0) then 49 else 46) = 49 from by rw [show (!decide (((1 : Int32)) = 0)) = true from by decide]; rfl) ?_
      refine Er_run 2 (pc' := 16) (ls' := [some (.ref 0), some (.int ((0 : Int32))), some (.int ((Int32.ofNat i) + (1 : Int32)))]) (st' := []) rfl ?_
      rw [jx_s1]
      exact ih (i + 1) (by omega) (by omega)
    · skip
      refine Er_run 2 (pc' := 18) (ls' := [some (.ref 0), some (.int ((0 : Int32))), some (.int (Int32.ofNat i))]) (st' := [.ref 0, .int (Int32.ofNat i)]) rfl ?_
      refine Er_getR (x := 373) rfl hp.1.1.1 hp.1.1.2.2.2.2.1 ?_
      refine Er_inv1 (q' := 373) (ci := 9) (av := []) (rest := [.int (Int32.ofNat i)]) rfl rfl ⟨Nat.le_of_ble_eq_true rfl, Nat.le_of_ble_eq_true rfl⟩ rfl rfl hp.2.2.2.1.1.1 (s_Journal_length hp.2.2.2.1) ?_
      refine Er_run 1 (pc' := bif decide ((Int32.ofNat R.1.length) ≤ (Int32.ofNat i)) then 55 else 27) (ls' := [some (.ref 0), some (.int ((0 : Int32))), some (.int (Int32.ofNat i))]) (st' := []) rfl ?_
      refine Er_pc (t := 27) (show (bif decide ((Int32.ofNat R.1.length) ≤ (Int32.ofNat i)) then 55 else 27) = 27 from by rw [show (decide ((Int32.ofNat R.1.length) ≤ (Int32.ofNat i))) = false from by rw [jx_le (by omega) (by omega)]; exact decide_eq_false (by omega)]; rfl) ?_
      refine Er_run 1 (pc' := 28) (ls' := [some (.ref 0), some (.int ((0 : Int32))), some (.int (Int32.ofNat i))]) (st' := [.ref 0]) rfl ?_
      refine Er_getR (x := 373) rfl hp.1.1.1 hp.1.1.2.2.2.2.1 ?_
      refine Er_run 1 (pc' := 32) (ls' := [some (.ref 0), some (.int ((0 : Int32))), some (.int (Int32.ofNat i))]) (st' := [.int (Int32.ofNat i), .ref 373]) rfl ?_
      refine Er_inv1 (q' := 373) (ci := 9) (av := [.int (Int32.ofNat i)]) (rest := []) rfl rfl ⟨Nat.le_of_ble_eq_true rfl, Nat.le_of_ble_eq_true rfl⟩ rfl rfl hp.2.2.2.1.1.1 (s_Journal_kind hp.2.2.2.1 he) ?_
      refine Er_run 1 (pc' := bif !decide (e.1 = 0) then 49 else 38) (ls' := [some (.ref 0), some (.int ((0 : Int32))), some (.int (Int32.ofNat i))]) (st' := []) rfl ?_
      refine Er_pc (t := 49) (show (bif !decide (e.1 = 0) then 49 else 38) = 49 from by rw [show (!decide (e.1 = 0)) = true from by rw [decide_eq_false c1]; rfl]; rfl) ?_
      refine Er_run 2 (pc' := 16) (ls' := [some (.ref 0), some (.int ((0 : Int32))), some (.int ((Int32.ofNat i) + (1 : Int32)))]) (st' := []) rfl ?_
      rw [jx_s1]
      exact ih (i + 1) (by omega) (by omega)
theorem s_Mill_check (hp : XS h cl G PR F D L R K Ws b n) (ho : jr_one R) (hE : jr_lies R Ws) : Run 149 [.ref 0] h (.inl (some (.int 0))) h := by
  have hc := hp.2.2.2.1.2.2.2.2.2.2.1
  refine ⟨Nat.le_of_ble_eq_true rfl, ?_⟩
  show Ev 149 0 [some (.ref 0), none, none] [] h _
  refine Er_run 1 (pc' := 1) (ls' := [some (.ref 0), none, none]) (st' := [.ref 0]) rfl ?_
  refine Er_getR (x := 373) rfl hp.1.1.1 hp.1.1.2.2.2.2.1 ?_
  refine Er_inv1 (q' := 373) (ci := 9) (av := []) (rest := []) rfl rfl ⟨Nat.le_of_ble_eq_true rfl, Nat.le_of_ble_eq_true rfl⟩ rfl rfl hp.2.2.2.1.1.1 (s_Journal_entriesTwice hp.2.2.2.1 ho) ?_
  refine Er_run 2 (pc' := 9) (ls' := [some (.ref 0), some (.int ((0 : Int32))), none]) (st' := [.ref 0]) rfl ?_
  refine Er_getR (x := 373) rfl hp.1.1.1 hp.1.1.2.2.2.2.1 ?_
  refine Er_inv1 (q' := 373) (ci := 9) (av := []) (rest := []) rfl rfl ⟨Nat.le_of_ble_eq_true rfl, Nat.le_of_ble_eq_true rfl⟩ rfl rfl hp.2.2.2.1.1.1 (s_Journal_firstOfJob hp.2.2.2.1) ?_
  refine Er_run 1 (pc' := 16) (ls' := [some (.ref 0), some (.int ((0 : Int32))), some (.int (Int32.ofNat R.2.2))]) (st' := []) rfl ?_
  exact l_check1 hp hE (R.1.length - R.2.2) R.2.2 (by omega) (by omega) (by omega) (by omega)
end MILG
