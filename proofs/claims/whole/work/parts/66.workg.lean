section WORKG
variable {h : sm_H} {w s y j : Nat} {W : Jw} {L : Jn} {cl : List Nat} {G : Nat → Nat → Int32} {PR : Nat → Nat → List (Int32 × Int64)} {F : Nat → Jl}
abbrev ji (x : Int32) : Nat := x.toNatClampNeg
/-- an int that is not below 0 -/
def jn0 (x : Int32) : Prop := x = Int32.ofNat (ji x)
def jc_j (cl : List Nat) (p : Int32) : Nat := (cl[ji p]?).getD 0
def jc_np (cl : List Nat) (G : Nat → Nat → Int32) (p : Int32) : Nat := ji (G (jc_j cl p) 5)
def jw_hear (cl : List Nat) (G : Nat → Nat → Int32) (W : Jw) (L : Jn) (m : Jm) : Jw × Jn :=
  if m.1 2 = 1 then jw_give W L m (ji (m.1 5)) (jc_j cl (m.1 5)) (ji (m.1 6)) (ji (m.1 9))
  else if m.1 2 = 4 then (W, jw_fet W L m (jc_np cl G W.2.2.2.2.1) (ji (m.1 3)) (ji (m.1 6)) (ji (m.1 8)))
  else if m.1 2 = 5 then (jw_hp W m (ji (m.1 9)) (ji (m.1 10)), L)
  else if m.1 2 = 6 then (if W.1 12 = 3 then (if m.1 5 = W.2.2.2.2.1 then jw_rest W else W) else W, L)
  else (W, L)
/-- a place of THE CHAIN -/
def jc_ok (cl : List Nat) (G : Nat → Nat → Int32) (p : Int32) : Prop := jn0 p ∧ jc_at cl G (ji p) (jc_j cl p) (jc_np cl G p)
/-- the messages that a worker may get -/
def jw_mok (cl : List Nat) (G : Nat → Nat → Int32) (W : Jw) (m : Jm) : Prop :=
  (m.1 2 = 1 ∨ m.1 2 = 4 ∨ m.1 2 = 5 ∨ m.1 2 = 6)
  ∧ (m.1 2 = 1 → jc_ok cl G (m.1 5) ∧ jn0 (m.1 6) ∧ ji (m.1 6) < 44 ∧ jn0 (m.1 9) ∧ ji (m.1 9) ≤ 38)
  ∧ (m.1 2 = 4 → jn0 (m.1 3) ∧ ji (m.1 3) < 7 ∧ jn0 (m.1 6) ∧ ji (m.1 6) < 44 ∧ jn0 (m.1 8) ∧ ji (m.1 8) < 100000 ∧ (m.1 5 = W.2.2.2.2.1 → (W.2.2.2.2.2 (ji (m.1 6))).isSome = true → jc_ok cl G W.2.2.2.2.1))
  ∧ (m.1 2 = 5 → W.1 12 = 3 → jw_an W m = true → jn0 (m.1 9) ∧ jn0 (m.1 10) ∧ (W.2.2.2.1 1).length + ji (m.1 9) ≤ 1000 ∧ ji (m.1 9) ≤ 16 ∧ ji (m.1 10) ≤ 1000 ∧ W.1 16 ≤ 2000 ∧ W.1 15 ≤ 2000)

theorem s_Worker_hear {c : Nat} {m : Jm} (hm : MG h c m) (hcc : c + 2 ≤ w) (hmk : jw_mok cl G W m) (hsy : s + 140 ≤ y) (hyw : y + 229 ≤ w) (hw : WW h w s y W) (hl : LL h y L) (hs : ST h s cl G PR F) : ∃ h', Run 93 [.ref w, .ref c] h (.inl none) h' ∧ WW h' w s y ((jw_hear cl G W L m).1) ∧ LL h' y ((jw_hear cl G W L m).2) ∧ ST h' s cl G PR F ∧ FW w y h h' := by
  have hx : Ev 93 0 (sm_pad (sm_ent [.ref w, .ref c]) (sm_prog.2.1 93)) [] h (fun r h1 => r = .inl none ∧ WW h1 w s y ((jw_hear cl G W L m).1) ∧ LL h1 y ((jw_hear cl G W L m).2) ∧ ST h1 s cl G PR F ∧ FW w y h h1) := by
    rcases hmk.1 with e2 | e2 | e2 | e2
    · skip
      have hev : jw_hear cl G W L m = jw_give W L m (ji (m.1 5)) (jc_j cl (m.1 5)) (ji (m.1 6)) (ji (m.1 9)) := by rw [jw_hear, if_pos e2]
      obtain ⟨c1, c2, c3, c4, c5⟩ := hmk.2.1 e2
      show Ev 93 0 [some (.ref w), some (.ref c)] [] h _
      refine Er_run 1 (pc' := 1) (ls' := [some (.ref w), some (.ref c)]) (st' := [.ref c]) rfl ?_
      refine Er_getI (v := (1 : Int32)) rfl hm.1.1 (by rw [← e2]; exact (hm.2.2.2.1 2 (by omega) (by omega))) ?_
      refine Er_run 3 (pc' := 46) (ls' := [some (.ref w), some (.ref c)]) (st' := [.ref c, .ref w]) rfl ?_
      obtain ⟨h1, r1, w1, l1, s1, zz1⟩ := hev ▸ s_Worker_hearGive hm hcc c1.1 c2 c4 c5 c3 c1.2.1 c1.2.2.1 c1.2.2.2.1 hsy hyw hw hl hs
      have q1 : FW w y h h1 := FW.trans (FW.refl w y h) zz1
      refine Er_inv0 (q' := w) (ci := 8) (av := [.ref c]) (rest := []) rfl rfl ⟨Nat.le_of_ble_eq_true rfl, Nat.le_of_ble_eq_true rfl⟩ rfl rfl hw.1.1 r1 ?_
      refine Er_run 1 (pc' := 97) (ls' := [some (.ref w), some (.ref c)]) (st' := []) rfl ?_
      refine Er_fin rfl rfl ?_
      skip
      exact ⟨rfl, w1, l1, s1, q1⟩
    · skip
      have hev : jw_hear cl G W L m = (W, jw_fet W L m (jc_np cl G W.2.2.2.2.1) (ji (m.1 3)) (ji (m.1 6)) (ji (m.1 8))) := by rw [jw_hear, if_neg (by rw [e2]; decide), if_pos e2]
      obtain ⟨c1, c2, c3, c4, c5, c6, c7⟩ := hmk.2.2.1 e2
      show Ev 93 0 [some (.ref w), some (.ref c)] [] h _
      refine Er_run 1 (pc' := 1) (ls' := [some (.ref w), some (.ref c)]) (st' := [.ref c]) rfl ?_
      refine Er_getI (v := (4 : Int32)) rfl hm.1.1 (by rw [← e2]; exact (hm.2.2.2.1 2 (by omega) (by omega))) ?_
      refine Er_run 3 (pc' := 54) (ls' := [some (.ref w), some (.ref c)]) (st' := [.ref c, .ref w]) rfl ?_
      obtain ⟨h1, r1, w1, l1, s1, zz1⟩ := s_Worker_hearFetch (j := jc_j cl W.2.2.2.2.1) (np := jc_np cl G W.2.2.2.2.1) hm hcc c1 c3 c5 c2 c4 c6 (fun z1 z2 => ⟨_, (c7 z1 z2).1, (c7 z1 z2).2⟩) hsy hyw hw hl hs
      have q1 : FW w y h h1 := FW.trans (FW.refl w y h) zz1
      refine Er_inv0 (q' := w) (ci := 8) (av := [.ref c]) (rest := []) rfl rfl ⟨Nat.le_of_ble_eq_true rfl, Nat.le_of_ble_eq_true rfl⟩ rfl rfl hw.1.1 r1 ?_
      refine Er_run 1 (pc' := 97) (ls' := [some (.ref w), some (.ref c)]) (st' := []) rfl ?_
      refine Er_fin rfl rfl ?_
      rw [hev]
      exact ⟨rfl, w1, l1, s1, q1⟩
    · skip
      have hev : jw_hear cl G W L m = (jw_hp W m (ji (m.1 9)) (ji (m.1 10)), L) := by rw [jw_hear, if_neg (by rw [e2]; decide), if_neg (by rw [e2]; decide), if_pos e2]
      have cA := hmk.2.2.2 e2
      show Ev 93 0 [some (.ref w), some (.ref c)] [] h _
      refine Er_run 1 (pc' := 1) (ls' := [some (.ref w), some (.ref c)]) (st' := [.ref c]) rfl ?_
      refine Er_getI (v := (5 : Int32)) rfl hm.1.1 (by rw [← e2]; exact (hm.2.2.2.1 2 (by omega) (by omega))) ?_
      refine Er_run 3 (pc' := 62) (ls' := [some (.ref w), some (.ref c)]) (st' := [.ref c, .ref w]) rfl ?_
      obtain ⟨h1, r1, w1, l1, s1, zz1⟩ := s_Worker_hearPage hm (Or.inl hcc) cA hsy hyw hw hl hs
      have q1 : FW w y h h1 := FW.trans (FW.refl w y h) zz1
      refine Er_inv0 (q' := w) (ci := 8) (av := [.ref c]) (rest := []) rfl rfl ⟨Nat.le_of_ble_eq_true rfl, Nat.le_of_ble_eq_true rfl⟩ rfl rfl hw.1.1 r1 ?_
      refine Er_run 1 (pc' := 97) (ls' := [some (.ref w), some (.ref c)]) (st' := []) rfl ?_
      refine Er_fin rfl rfl ?_
      rw [hev]
      exact ⟨rfl, w1, l1, s1, q1⟩
    · skip
      have hev : jw_hear cl G W L m = (if W.1 12 = 3 then (if m.1 5 = W.2.2.2.2.1 then jw_rest W else W) else W, L) := by rw [jw_hear, if_neg (by rw [e2]; decide), if_neg (by rw [e2]; decide), if_neg (by rw [e2]; decide), if_pos e2]
      have b12 := (hw.2.1 12 (by omega)).2
      by_cases hst : W.1 12 = 3
      · by_cases hpe : m.1 5 = W.2.2.2.2.1
        · skip
          show Ev 93 0 [some (.ref w), some (.ref c)] [] h _
          refine Er_run 1 (pc' := 1) (ls' := [some (.ref w), some (.ref c)]) (st' := [.ref c]) rfl ?_
          refine Er_getI (v := (6 : Int32)) rfl hm.1.1 (by rw [← e2]; exact (hm.2.2.2.1 2 (by omega) (by omega))) ?_
          refine Er_run 2 (pc' := 69) (ls' := [some (.ref w), some (.ref c)]) (st' := [.ref w]) rfl ?_
          refine Er_getI (v := Int32.ofNat (W.1 12)) rfl hw.1.1 (show gI h w 12 = Int32.ofNat (W.1 12) from (hw.2.1 12 (by omega)).1) ?_
          refine Er_run 2 (pc' := bif !decide ((Int32.ofNat (W.1 12)) = ((3 : Int32))) then 97 else 76) (ls' := [some (.ref w), some (.ref c)]) (st' := []) rfl ?_
          refine Er_pc (t := 76) (show (bif !decide ((Int32.ofNat (W.1 12)) = ((3 : Int32))) then 97 else 76) = 76 from by rw [show (!decide ((Int32.ofNat (W.1 12)) = ((3 : Int32)))) = false from by rw [hst]; rfl]; rfl) ?_
          refine Er_run 1 (pc' := 77) (ls' := [some (.ref w), some (.ref c)]) (st' := [.ref c]) rfl ?_
          refine Er_getI (v := m.1 5) rfl hm.1.1 (hm.2.2.2.1 5 (by omega) (by omega)) ?_
          refine Er_run 1 (pc' := 81) (ls' := [some (.ref w), some (.ref c)]) (st' := [.ref w, .int (m.1 5)]) rfl ?_
          refine Er_getR (x := w + 1) rfl hw.1.1 hw.1.2.2.2.1 ?_
          refine Er_inv1 (q' := w + 1) (ci := 7) (av := []) (rest := [.int (m.1 5)]) rfl rfl ⟨Nat.le_of_ble_eq_true rfl, Nat.le_of_ble_eq_true rfl⟩ rfl rfl hw.2.2.2.2.2.2.2.2.2.2.1.1 (s_Disk_position hw.2.2.2.2.2.2.2.2.2.2) ?_
          refine Er_run 1 (pc' := bif !decide ((m.1 5) = W.2.2.2.2.1) then 97 else 90) (ls' := [some (.ref w), some (.ref c)]) (st' := []) rfl ?_
          refine Er_pc (t := 90) (show (bif !decide ((m.1 5) = W.2.2.2.2.1) then 97 else 90) = 90 from by rw [show (!decide ((m.1 5) = W.2.2.2.2.1)) = false from by rw [decide_eq_true hpe]; rfl]; rfl) ?_
          refine Er_run 1 (pc' := 91) (ls' := [some (.ref w), some (.ref c)]) (st' := [.ref w]) rfl ?_
          obtain ⟨h1, r1, w1, l1, s1, zz1⟩ := s_Worker_rest hsy hyw hw hl hs
          have q1 : FW w y h h1 := FW.trans (FW.refl w y h) zz1
          refine Er_inv0 (q' := w) (ci := 8) (av := []) (rest := []) rfl rfl ⟨Nat.le_of_ble_eq_true rfl, Nat.le_of_ble_eq_true rfl⟩ rfl rfl hw.1.1 r1 ?_
          refine Er_run 1 (pc' := 97) (ls' := [some (.ref w), some (.ref c)]) (st' := []) rfl ?_
          refine Er_fin rfl rfl ?_
          rw [hev]
          rw [if_pos hst, if_pos hpe]
          exact ⟨rfl, w1, l1, s1, q1⟩
        · skip
          show Ev 93 0 [some (.ref w), some (.ref c)] [] h _
          refine Er_run 1 (pc' := 1) (ls' := [some (.ref w), some (.ref c)]) (st' := [.ref c]) rfl ?_
          refine Er_getI (v := (6 : Int32)) rfl hm.1.1 (by rw [← e2]; exact (hm.2.2.2.1 2 (by omega) (by omega))) ?_
          refine Er_run 2 (pc' := 69) (ls' := [some (.ref w), some (.ref c)]) (st' := [.ref w]) rfl ?_
          refine Er_getI (v := Int32.ofNat (W.1 12)) rfl hw.1.1 (show gI h w 12 = Int32.ofNat (W.1 12) from (hw.2.1 12 (by omega)).1) ?_
          refine Er_run 2 (pc' := bif !decide ((Int32.ofNat (W.1 12)) = ((3 : Int32))) then 97 else 76) (ls' := [some (.ref w), some (.ref c)]) (st' := []) rfl ?_
          refine Er_pc (t := 76) (show (bif !decide ((Int32.ofNat (W.1 12)) = ((3 : Int32))) then 97 else 76) = 76 from by rw [show (!decide ((Int32.ofNat (W.1 12)) = ((3 : Int32)))) = false from by rw [hst]; rfl]; rfl) ?_
          refine Er_run 1 (pc' := 77) (ls' := [some (.ref w), some (.ref c)]) (st' := [.ref c]) rfl ?_
          refine Er_getI (v := m.1 5) rfl hm.1.1 (hm.2.2.2.1 5 (by omega) (by omega)) ?_
          refine Er_run 1 (pc' := 81) (ls' := [some (.ref w), some (.ref c)]) (st' := [.ref w, .int (m.1 5)]) rfl ?_
          refine Er_getR (x := w + 1) rfl hw.1.1 hw.1.2.2.2.1 ?_
          refine Er_inv1 (q' := w + 1) (ci := 7) (av := []) (rest := [.int (m.1 5)]) rfl rfl ⟨Nat.le_of_ble_eq_true rfl, Nat.le_of_ble_eq_true rfl⟩ rfl rfl hw.2.2.2.2.2.2.2.2.2.2.1.1 (s_Disk_position hw.2.2.2.2.2.2.2.2.2.2) ?_
          refine Er_run 1 (pc' := bif !decide ((m.1 5) = W.2.2.2.2.1) then 97 else 90) (ls' := [some (.ref w), some (.ref c)]) (st' := []) rfl ?_
          refine Er_pc (t := 97) (show (bif !decide ((m.1 5) = W.2.2.2.2.1) then 97 else 90) = 97 from by rw [show (!decide ((m.1 5) = W.2.2.2.2.1)) = true from by rw [decide_eq_false hpe]; rfl]; rfl) ?_
          refine Er_fin rfl rfl ?_
          rw [hev]
          rw [if_pos hst, if_neg hpe]
          exact ⟨rfl, hw, hl, hs, (FW.refl w y h)⟩
      · skip
        show Ev 93 0 [some (.ref w), some (.ref c)] [] h _
        refine Er_run 1 (pc' := 1) (ls' := [some (.ref w), some (.ref c)]) (st' := [.ref c]) rfl ?_
        refine Er_getI (v := (6 : Int32)) rfl hm.1.1 (by rw [← e2]; exact (hm.2.2.2.1 2 (by omega) (by omega))) ?_
        refine Er_run 2 (pc' := 69) (ls' := [some (.ref w), some (.ref c)]) (st' := [.ref w]) rfl ?_
        refine Er_getI (v := Int32.ofNat (W.1 12)) rfl hw.1.1 (show gI h w 12 = Int32.ofNat (W.1 12) from (hw.2.1 12 (by omega)).1) ?_
        refine Er_run 2 (pc' := bif !decide ((Int32.ofNat (W.1 12)) = ((3 : Int32))) then 97 else 76) (ls' := [some (.ref w), some (.ref c)]) (st' := []) rfl ?_
        refine Er_pc (t := 97) (show (bif !decide ((Int32.ofNat (W.1 12)) = ((3 : Int32))) then 97 else 76) = 97 from by rw [show (!decide ((Int32.ofNat (W.1 12)) = ((3 : Int32)))) = true from by rw [show (3 : Int32) = Int32.ofNat 3 from rfl, jx_eq (by omega) (by omega), decide_eq_false hst]; rfl]; rfl) ?_
        refine Er_fin rfl rfl ?_
        rw [hev]
        rw [if_neg hst]
        exact ⟨rfl, hw, hl, hs, (FW.refl w y h)⟩
  obtain ⟨r, h', hr, e, hq⟩ := Run_of (Nat.le_of_ble_eq_true rfl) hx
  subst e
  exact ⟨h', hr, hq⟩
/-- the oldest message of node x is taken out -/
def jn_pop (L : Jn) (x : Nat) (l : List Jm) : Jn := (jx_up L.1 x l, L.2)
def jw_hears (cl : List Nat) (G : Nat → Nat → Int32) : Nat → Jw × Jn → Jw × Jn
  | 0, z => z
  | n + 1, z => match z.2.1 (z.1.1 0) with
    | [] => jw_hears cl G n z
    | m :: l => jw_hears cl G n (jw_hear cl G z.1 (jn_pop z.2 (z.1.1 0) l) m)
def jw_hok (cl : List Nat) (G : Nat → Nat → Int32) : Nat → Jw × Jn → Prop
  | 0, _ => True
  | n + 1, z => z.1.1 0 < 7 ∧ match z.2.1 (z.1.1 0) with
    | [] => jw_hok cl G n z
    | m :: l => jw_mok cl G z.1 m ∧ jw_hok cl G n (jw_hear cl G z.1 (jn_pop z.2 (z.1.1 0) l) m)

theorem l_work {n : Nat} {Q : sm_R → sm_H → Prop} (hn : n < 100) (hsy : s + 140 ≤ y) (hyw : y + 229 ≤ w) : ∀ (f i : Nat) (h : sm_H) (W : Jw) (L : Jn) (x3 : Option Value), i + f = n → WW h w s y W → LL h y L → ST h s cl G PR F → jw_hok cl G f (W, L) → (∀ h' x3, WW h' w s y (jw_hears cl G f (W, L)).1 → LL h' y (jw_hears cl G f (W, L)).2 → ST h' s cl G PR F → FW w y h h' → Ev 92 58 [some (.ref w), some (.int (Int32.ofNat n)), some (.int (Int32.ofNat n)), x3] [] h' Q) → Ev 92 26 [some (.ref w), some (.int (Int32.ofNat n)), some (.int (Int32.ofNat i)), x3] [] h Q := by
  intro f
  induction f with
  | zero =>
    intro i h W L x3 hi hw hl hs hok kk
    have e : i = n := by omega
    subst e
    refine Er_run 3 (pc' := bif decide ((Int32.ofNat i) ≤ (Int32.ofNat i)) then 58 else 31) (ls' := [some (.ref w), some (.int (Int32.ofNat i)), some (.int (Int32.ofNat i)), x3]) (st' := []) rfl ?_
    refine Er_pc (t := 58) (show (bif decide ((Int32.ofNat i) ≤ (Int32.ofNat i)) then 58 else 31) = 58 from by rw [show (decide ((Int32.ofNat i) ≤ (Int32.ofNat i))) = true from by rw [jx_le (by omega) (by omega)]; exact decide_eq_true (by omega)]; rfl) ?_
    exact kk h x3 hw hl hs (FW.refl w y h)
  | succ f ih =>
    intro i h W L x3 hi hw hl hs hok kk
    rw [jw_hok] at hok
    rw [jw_hears] at kk
    cases hib : L.1 (W.1 0) with
    | nil =>
      have hok : W.1 0 < 7 ∧ jw_hok cl G f (W, L) := ⟨hok.1, by have := hok.2; simp only [hib] at this; exact this⟩
      simp only [hib] at kk
      refine Er_run 3 (pc' := bif decide ((Int32.ofNat n) ≤ (Int32.ofNat i)) then 58 else 31) (ls' := [some (.ref w), some (.int (Int32.ofNat n)), some (.int (Int32.ofNat i)), x3]) (st' := []) rfl ?_
      refine Er_pc (t := 31) (show (bif decide ((Int32.ofNat n) ≤ (Int32.ofNat i)) then 58 else 31) = 31 from by rw [show (decide ((Int32.ofNat n) ≤ (Int32.ofNat i))) = false from by rw [jx_le (by omega) (by omega)]; exact decide_eq_false (by omega)]; rfl) ?_
      refine Er_run 1 (pc' := 32) (ls' := [some (.ref w), some (.int (Int32.ofNat n)), some (.int (Int32.ofNat i)), x3]) (st' := [.ref w]) rfl ?_
      refine Er_getR (x := y) rfl hw.1.1 hw.1.2.2.1 ?_
      refine Er_run 1 (pc' := 36) (ls' := [some (.ref w), some (.int (Int32.ofNat n)), some (.int (Int32.ofNat i)), x3]) (st' := [.ref w, .ref y]) rfl ?_
      refine Er_getI (v := Int32.ofNat (W.1 0)) rfl hw.1.1 (show gI h w 0 = Int32.ofNat (W.1 0) from (hw.2.1 0 (by omega)).1) ?_
      refine Er_inv1 (q' := y) (ci := 6) (av := [.int (Int32.ofNat (W.1 0))]) (rest := []) rfl rfl ⟨Nat.le_of_ble_eq_true rfl, Nat.le_of_ble_eq_true rfl⟩ rfl rfl hl.1.1 (s_Line_next0 (x := W.1 0) hl hok.1 hib) ?_
      refine Er_run 5 (pc' := 26) (ls' := [some (.ref w), some (.int (Int32.ofNat n)), some (.int ((Int32.ofNat i) + (1 : Int32))), some (.null)]) (st' := []) rfl ?_
      rw [jx_s1]
      exact ih (i + 1) h _ _ _ (by omega) hw hl hs hok.2 kk
    | cons m lr =>
      have hok : W.1 0 < 7 ∧ jw_mok cl G W m ∧ jw_hok cl G f (jw_hear cl G W (jn_pop L (W.1 0) lr) m) := ⟨hok.1, by have := hok.2; simp only [hib] at this; exact this⟩
      simp only [hib] at kk
      refine Er_run 3 (pc' := bif decide ((Int32.ofNat n) ≤ (Int32.ofNat i)) then 58 else 31) (ls' := [some (.ref w), some (.int (Int32.ofNat n)), some (.int (Int32.ofNat i)), x3]) (st' := []) rfl ?_
      refine Er_pc (t := 31) (show (bif decide ((Int32.ofNat n) ≤ (Int32.ofNat i)) then 58 else 31) = 31 from by rw [show (decide ((Int32.ofNat n) ≤ (Int32.ofNat i))) = false from by rw [jx_le (by omega) (by omega)]; exact decide_eq_false (by omega)]; rfl) ?_
      refine Er_run 1 (pc' := 32) (ls' := [some (.ref w), some (.int (Int32.ofNat n)), some (.int (Int32.ofNat i)), x3]) (st' := [.ref w]) rfl ?_
      refine Er_getR (x := y) rfl hw.1.1 hw.1.2.2.1 ?_
      refine Er_run 1 (pc' := 36) (ls' := [some (.ref w), some (.int (Int32.ofNat n)), some (.int (Int32.ofNat i)), x3]) (st' := [.ref w, .ref y]) rfl ?_
      refine Er_getI (v := Int32.ofNat (W.1 0)) rfl hw.1.1 (show gI h w 0 = Int32.ofNat (W.1 0) from (hw.2.1 0 (by omega)).1) ?_
      obtain ⟨c, h1, r1, hc1, hc2, l1, g1, z1⟩ := s_Line_next1 (x := W.1 0) hl hok.1 hib
      have w1 : WW h1 w s y W := WW_fr z1 (by omega) hw
      have s1 := ST_fr z1 (by omega) hs
      have q1 : FW w y h h1 := FW.ofY z1 (by omega) (by omega)
      have l1 : LL h1 y (jn_pop L (W.1 0) lr) := l1
      refine Er_inv1 (q' := y) (ci := 6) (av := [.int (Int32.ofNat (W.1 0))]) (rest := []) rfl rfl ⟨Nat.le_of_ble_eq_true rfl, Nat.le_of_ble_eq_true rfl⟩ rfl rfl hl.1.1 r1 ?_
      refine Er_run 5 (pc' := 49) (ls' := [some (.ref w), some (.int (Int32.ofNat n)), some (.int (Int32.ofNat i)), some (.ref c)]) (st' := [.ref c, .ref w]) rfl ?_
      obtain ⟨h2, r2, w2, l2, s2, zz2⟩ := s_Worker_hear g1 (by omega) hok.2.1 hsy hyw w1 l1 s1
      have q2 : FW w y h h2 := FW.trans q1 zz2
      refine Er_inv0 (q' := w) (ci := 8) (av := [.ref c]) (rest := []) rfl rfl ⟨Nat.le_of_ble_eq_true rfl, Nat.le_of_ble_eq_true rfl⟩ rfl rfl w1.1.1 r2 ?_
      refine Er_run 2 (pc' := 26) (ls' := [some (.ref w), some (.int (Int32.ofNat n)), some (.int ((Int32.ofNat i) + (1 : Int32))), some (.ref c)]) (st' := []) rfl ?_
      rw [jx_s1]
      exact ih (i + 1) h2 _ _ _ (by omega) w2 l2 s2 hok.2.2 (fun h9 x9 a1 a2 a3 a4 => kk h9 x9 a1 a2 a3 (FW.trans q2 a4))
def jw_fo1 (cl : List Nat) (G : Nat → Nat → Int32) (W : Jw) (L : Jn) : Jw × Jn := jw_fo W L (jc_np cl G W.2.2.2.2.1) (ji (W.2.2.1 (W.1 15))) (ji ((jw_mine W (jc_np cl G W.2.2.2.2.1)).1 9)) (ji ((jw_mine W (jc_np cl G W.2.2.2.2.1)).1 10))
def jw_act (cl : List Nat) (G : Nat → Nat → Int32) (PR : Nat → Nat → List (Int32 × Int64)) (F : Nat → Jl) (W : Jw) (L : Jn) : Jw × Jn := match W.2.1 with
  | none => jw_ask W L
  | some j => if W.1 12 = 1 then jw_map W L (jb_in G F j) (PR j) else if W.1 12 = 3 then jw_fo1 cl G W L else jw_fold W L (PR j)
/-- what a worker must hold to before it acts -/
def jw_aok (cl : List Nat) (G : Nat → Nat → Int32) (PR : Nat → Nat → List (Int32 × Int64)) (F : Nat → Jl) (W : Jw) : Prop :=
  W.1 17 < 900000 ∧ ∀ j, W.2.1 = some j → j < 8 ∧ (∀ i, i < 3 → jq_ok (PR j i)) ∧ W.1 13 < 44
  ∧ (W.1 12 = 1 → jb_ok G j ∧ (jb_in G F j).length ≤ 600
    ∧ (¬ (W.1 15 < 16 ∧ W.1 13 * 16 + W.1 15 < (jb_in G F j).length) → (W.2.2.2.1 3).length + (jx_ord 10 1 (W.2.2.2.1 0)).length ≤ 64 ∧ (W.2.2.2.1 1).length + (W.2.2.2.1 3 ++ jx_ord 10 1 (W.2.2.2.1 0)).length ≤ 1000 ∧ (jw_all W).length ≤ 1000 ∧ ((PR j 1).length = 0 → (W.2.2.2.1 2).length + (jw_all W).length ≤ 300))
    ∧ (W.1 15 < 16 ∧ W.1 13 * 16 + W.1 15 < (jb_in G F j).length → (W.2.2.2.1 0).length + (jw_mr W (jb_in G F j) (PR j 0)).2.length ≤ 24)
    ∧ (W.1 15 < 16 ∧ W.1 13 * 16 + W.1 15 < (jb_in G F j).length → 24 - (W.2.2.2.1 0 ++ (jw_mr W (jb_in G F j) (PR j 0)).2).length < 4 → (W.2.2.2.1 3).length + (jx_ord 10 1 (W.2.2.2.1 0 ++ (jw_mr W (jb_in G F j) (PR j 0)).2)).length ≤ 64))
  ∧ (W.1 12 = 3 → W.1 11 ≤ 38 ∧ W.1 16 < 100000 ∧ (W.1 15 < W.1 11 → jn0 (W.2.2.1 (W.1 15))) ∧ (W.1 15 < W.1 11 → ji (W.2.2.1 (W.1 15)) < 7) ∧ (W.1 15 < W.1 11 → ji (W.2.2.1 (W.1 15)) = W.1 0 → jc_ok cl G W.2.2.2.2.1 ∧ (jw_an W (jw_mine W (jc_np cl G W.2.2.2.2.1)) = true → jn0 ((jw_mine W (jc_np cl G W.2.2.2.2.1)).1 9) ∧ jn0 ((jw_mine W (jc_np cl G W.2.2.2.2.1)).1 10) ∧ (W.2.2.2.1 1).length + ji ((jw_mine W (jc_np cl G W.2.2.2.2.1)).1 9) ≤ 1000 ∧ ji ((jw_mine W (jc_np cl G W.2.2.2.2.1)).1 9) ≤ 16 ∧ ji ((jw_mine W (jc_np cl G W.2.2.2.2.1)).1 10) ≤ 1000 ∧ W.1 16 ≤ 2000 ∧ W.1 15 ≤ 2000)))
  ∧ (W.1 12 ≠ 1 → W.1 12 ≠ 3 → W.2.2.2.2.2 (W.1 13) = none)

theorem l_act {x1 x2 x3 : Option Value} (haok : jw_aok cl G PR F W) (hsy : s + 140 ≤ y) (hyw : y + 229 ≤ w) (hw : WW h w s y W) (hl : LL h y L) (hs : ST h s cl G PR F) : Ev 92 58 [some (.ref w), x1, x2, x3] [] h (fun r h1 => r = .inl none ∧ WW h1 w s y ((jw_act cl G PR F W L).1) ∧ LL h1 y ((jw_act cl G PR F W L).2) ∧ ST h1 s cl G PR F ∧ FW w y h h1) := by
  have b12 := (hw.2.1 12 (by omega)).2
  cases hj : W.2.1 with
  | none =>
    have hev : jw_ask W L = jw_act cl G PR F W L := by rw [jw_act, hj]
    refine Er_run 1 (pc' := 59) (ls' := [some (.ref w), x1, x2, x3]) (st' := [.ref w]) rfl ?_
    refine Er_getN rfl hw.1.1 (Eq.trans hw.2.2.1 (show (W).2.1.map (fun j => s + 52 + 11 * j) = none from by rw [show (W).2.1 = none from hj]; rfl)) ?_
    refine Er_run 2 (pc' := 66) (ls' := [some (.ref w), x1, x2, x3]) (st' := [.ref w]) rfl ?_
    obtain ⟨h1, r1, w1, l1, s1, zz1⟩ := hev ▸ s_Worker_askForTask haok.1 hsy hyw hw hl hs
    have q1 : FW w y h h1 := FW.trans (FW.refl w y h) zz1
    refine Er_inv0 (q' := w) (ci := 8) (av := []) (rest := []) rfl rfl ⟨Nat.le_of_ble_eq_true rfl, Nat.le_of_ble_eq_true rfl⟩ rfl rfl hw.1.1 r1 ?_
    refine Er_run 1 (pc' := 106) (ls' := [some (.ref w), x1, x2, x3]) (st' := []) rfl ?_
    exact Er_fin rfl rfl ⟨rfl, w1, l1, s1, q1⟩
  | some j =>
    obtain ⟨hj8, ha2, ha3, ha4, ha5, hfo⟩ := haok.2 j hj
    by_cases h12 : W.1 12 = 1
    · have hm1 := ha4 h12
      have hev : jw_map W L (jb_in G F j) (PR j) = jw_act cl G PR F W L := by rw [jw_act, hj]; show _ = (if W.1 12 = 1 then _ else _); rw [if_pos h12]
      refine Er_run 1 (pc' := 59) (ls' := [some (.ref w), x1, x2, x3]) (st' := [.ref w]) rfl ?_
      refine Er_getR (x := s + 52 + 11 * j) rfl hw.1.1 (Eq.trans hw.2.2.1 (show (W).2.1.map (fun j => s + 52 + 11 * j) = some (s + 52 + 11 * j) from by rw [show (W).2.1 = some j from hj]; rfl)) ?_
      refine Er_run 2 (pc' := 73) (ls' := [some (.ref w), x1, x2, x3]) (st' := [.ref w]) rfl ?_
      refine Er_getI (v := Int32.ofNat (W.1 12)) rfl hw.1.1 (show gI h w 12 = Int32.ofNat (W.1 12) from (hw.2.1 12 (by omega)).1) ?_
      refine Er_run 2 (pc' := bif !decide ((Int32.ofNat (W.1 12)) = ((1 : Int32))) then 87 else 80) (ls' := [some (.ref w), x1, x2, x3]) (st' := []) rfl ?_
      refine Er_pc (t := 80) (show (bif !decide ((Int32.ofNat (W.1 12)) = ((1 : Int32))) then 87 else 80) = 80 from by rw [show (!decide ((Int32.ofNat (W.1 12)) = ((1 : Int32)))) = false from by rw [h12]; rfl]; rfl) ?_
      refine Er_run 1 (pc' := 81) (ls' := [some (.ref w), x1, x2, x3]) (st' := [.ref w]) rfl ?_
      obtain ⟨h1, r1, w1, l1, s1, zz1⟩ := hev ▸ s_Worker_mapOne ha3 hm1.1 hm1.2.2.1 hm1.2.1 hm1.2.2.2.1 hm1.2.2.2.2 hj hj8 ha2 hsy hyw hw hl hs
      have q1 : FW w y h h1 := FW.trans (FW.refl w y h) zz1
      refine Er_inv0 (q' := w) (ci := 8) (av := []) (rest := []) rfl rfl ⟨Nat.le_of_ble_eq_true rfl, Nat.le_of_ble_eq_true rfl⟩ rfl rfl hw.1.1 r1 ?_
      refine Er_run 1 (pc' := 106) (ls' := [some (.ref w), x1, x2, x3]) (st' := []) rfl ?_
      exact Er_fin rfl rfl ⟨rfl, w1, l1, s1, q1⟩
    · by_cases h123 : W.1 12 = 3
      · have hf1 := ha5 h123
        have hev : jw_fo W L (jc_np cl G W.2.2.2.2.1) (ji (W.2.2.1 (W.1 15))) (ji ((jw_mine W (jc_np cl G W.2.2.2.2.1)).1 9)) (ji ((jw_mine W (jc_np cl G W.2.2.2.2.1)).1 10)) = jw_act cl G PR F W L := by rw [jw_act, hj]; show _ = (if W.1 12 = 1 then _ else if W.1 12 = 3 then _ else _); rw [if_neg h12, if_pos h123]; rfl
        refine Er_run 1 (pc' := 59) (ls' := [some (.ref w), x1, x2, x3]) (st' := [.ref w]) rfl ?_
        refine Er_getR (x := s + 52 + 11 * j) rfl hw.1.1 (Eq.trans hw.2.2.1 (show (W).2.1.map (fun j => s + 52 + 11 * j) = some (s + 52 + 11 * j) from by rw [show (W).2.1 = some j from hj]; rfl)) ?_
        refine Er_run 2 (pc' := 73) (ls' := [some (.ref w), x1, x2, x3]) (st' := [.ref w]) rfl ?_
        refine Er_getI (v := Int32.ofNat (W.1 12)) rfl hw.1.1 (show gI h w 12 = Int32.ofNat (W.1 12) from (hw.2.1 12 (by omega)).1) ?_
        refine Er_run 2 (pc' := bif !decide ((Int32.ofNat (W.1 12)) = ((1 : Int32))) then 87 else 80) (ls' := [some (.ref w), x1, x2, x3]) (st' := []) rfl ?_
        refine Er_pc (t := 87) (show (bif !decide ((Int32.ofNat (W.1 12)) = ((1 : Int32))) then 87 else 80) = 87 from by rw [show (!decide ((Int32.ofNat (W.1 12)) = ((1 : Int32)))) = true from by rw [show (1 : Int32) = Int32.ofNat 1 from rfl, jx_eq (by omega) (by omega), decide_eq_false h12]; rfl]; rfl) ?_
        refine Er_run 1 (pc' := 88) (ls' := [some (.ref w), x1, x2, x3]) (st' := [.ref w]) rfl ?_
        refine Er_getI (v := Int32.ofNat (W.1 12)) rfl hw.1.1 (show gI h w 12 = Int32.ofNat (W.1 12) from (hw.2.1 12 (by omega)).1) ?_
        refine Er_run 2 (pc' := bif !decide ((Int32.ofNat (W.1 12)) = ((3 : Int32))) then 102 else 95) (ls' := [some (.ref w), x1, x2, x3]) (st' := []) rfl ?_
        refine Er_pc (t := 95) (show (bif !decide ((Int32.ofNat (W.1 12)) = ((3 : Int32))) then 102 else 95) = 95 from by rw [show (!decide ((Int32.ofNat (W.1 12)) = ((3 : Int32)))) = false from by rw [h123]; rfl]; rfl) ?_
        refine Er_run 1 (pc' := 96) (ls' := [some (.ref w), x1, x2, x3]) (st' := [.ref w]) rfl ?_
        obtain ⟨h1, r1, w1, l1, s1, zz1⟩ := hev ▸ s_Worker_fetchOne (j := jc_j cl W.2.2.2.2.1) (np := jc_np cl G W.2.2.2.2.1) (v := ji (W.2.2.1 (W.1 15))) (k := ji ((jw_mine W (jc_np cl G W.2.2.2.2.1)).1 9)) (tt := ji ((jw_mine W (jc_np cl G W.2.2.2.2.1)).1 10)) hf1.1 haok.1 hf1.2.1 hf1.2.2.1 hf1.2.2.2.1 (fun z1 z2 => ⟨_, (hf1.2.2.2.2 z1 z2).1.1, (hf1.2.2.2.2 z1 z2).1.2⟩) (fun z1 z2 _ z4 => (hf1.2.2.2.2 z1 z2).2 z4) hsy hyw hw hl hs
        have q1 : FW w y h h1 := FW.trans (FW.refl w y h) zz1
        refine Er_inv0 (q' := w) (ci := 8) (av := []) (rest := []) rfl rfl ⟨Nat.le_of_ble_eq_true rfl, Nat.le_of_ble_eq_true rfl⟩ rfl rfl hw.1.1 r1 ?_
        refine Er_run 1 (pc' := 106) (ls' := [some (.ref w), x1, x2, x3]) (st' := []) rfl ?_
        exact Er_fin rfl rfl ⟨rfl, w1, l1, s1, q1⟩
      · have hev : jw_fold W L (PR j) = jw_act cl G PR F W L := by rw [jw_act, hj]; show _ = (if W.1 12 = 1 then _ else if W.1 12 = 3 then _ else _); rw [if_neg h12, if_neg h123]
        refine Er_run 1 (pc' := 59) (ls' := [some (.ref w), x1, x2, x3]) (st' := [.ref w]) rfl ?_
        refine Er_getR (x := s + 52 + 11 * j) rfl hw.1.1 (Eq.trans hw.2.2.1 (show (W).2.1.map (fun j => s + 52 + 11 * j) = some (s + 52 + 11 * j) from by rw [show (W).2.1 = some j from hj]; rfl)) ?_
        refine Er_run 2 (pc' := 73) (ls' := [some (.ref w), x1, x2, x3]) (st' := [.ref w]) rfl ?_
        refine Er_getI (v := Int32.ofNat (W.1 12)) rfl hw.1.1 (show gI h w 12 = Int32.ofNat (W.1 12) from (hw.2.1 12 (by omega)).1) ?_
        refine Er_run 2 (pc' := bif !decide ((Int32.ofNat (W.1 12)) = ((1 : Int32))) then 87 else 80) (ls' := [some (.ref w), x1, x2, x3]) (st' := []) rfl ?_
        refine Er_pc (t := 87) (show (bif !decide ((Int32.ofNat (W.1 12)) = ((1 : Int32))) then 87 else 80) = 87 from by rw [show (!decide ((Int32.ofNat (W.1 12)) = ((1 : Int32)))) = true from by rw [show (1 : Int32) = Int32.ofNat 1 from rfl, jx_eq (by omega) (by omega), decide_eq_false h12]; rfl]; rfl) ?_
        refine Er_run 1 (pc' := 88) (ls' := [some (.ref w), x1, x2, x3]) (st' := [.ref w]) rfl ?_
        refine Er_getI (v := Int32.ofNat (W.1 12)) rfl hw.1.1 (show gI h w 12 = Int32.ofNat (W.1 12) from (hw.2.1 12 (by omega)).1) ?_
        refine Er_run 2 (pc' := bif !decide ((Int32.ofNat (W.1 12)) = ((3 : Int32))) then 102 else 95) (ls' := [some (.ref w), x1, x2, x3]) (st' := []) rfl ?_
        refine Er_pc (t := 102) (show (bif !decide ((Int32.ofNat (W.1 12)) = ((3 : Int32))) then 102 else 95) = 102 from by rw [show (!decide ((Int32.ofNat (W.1 12)) = ((3 : Int32)))) = true from by rw [show (3 : Int32) = Int32.ofNat 3 from rfl, jx_eq (by omega) (by omega), decide_eq_false h123]; rfl]; rfl) ?_
        refine Er_run 1 (pc' := 103) (ls' := [some (.ref w), x1, x2, x3]) (st' := [.ref w]) rfl ?_
        obtain ⟨h1, r1, w1, l1, s1, zz1⟩ := hev ▸ s_Worker_foldOne ha3 (hfo h12 h123) hj hj8 ha2 hsy hyw hw hl hs
        have q1 : FW w y h h1 := FW.trans (FW.refl w y h) zz1
        refine Er_inv0 (q' := w) (ci := 8) (av := []) (rest := []) rfl rfl ⟨Nat.le_of_ble_eq_true rfl, Nat.le_of_ble_eq_true rfl⟩ rfl rfl hw.1.1 r1 ?_
        exact Er_fin rfl rfl ⟨rfl, w1, l1, s1, q1⟩
/-- a tick of a worker -/
def jn_up (L : Jn) (x : Nat) : Jn := (L.1, jx_up L.2.1 x false, L.2.2)
def jw_heard (cl : List Nat) (G : Nat → Nat → Int32) (W : Jw) (L : Jn) : Jw × Jn := jw_hears cl G (L.1 (W.1 0)).length (W, jn_up L (W.1 0))
def jw_work (cl : List Nat) (G : Nat → Nat → Int32) (PR : Nat → Nat → List (Int32 × Int64)) (F : Nat → Jl) (W : Jw) (L : Jn) : Jw × Jn := jw_act cl G PR F (jw_heard cl G W L).1 (jw_heard cl G W L).2
theorem s_Worker_work (hx7 : W.1 0 < 7) (hhk : jw_hok cl G (L.1 (W.1 0)).length (W, jn_up L (W.1 0))) (haok : jw_aok cl G PR F (jw_heard cl G W L).1) (hsy : s + 140 ≤ y) (hyw : y + 229 ≤ w) (hw : WW h w s y W) (hl : LL h y L) (hs : ST h s cl G PR F) : ∃ h', Run 92 [.ref w] h (.inl none) h' ∧ WW h' w s y ((jw_work cl G PR F W L).1) ∧ LL h' y ((jw_work cl G PR F W L).2) ∧ ST h' s cl G PR F ∧ FW w y h h' := by
  have hlen := (hl.2.1 (W.1 0) hx7).1.1
  have hx : Ev 92 0 (sm_pad (sm_ent [.ref w]) (sm_prog.2.1 92)) [] h (fun r h1 => r = .inl none ∧ WW h1 w s y ((jw_work cl G PR F W L).1) ∧ LL h1 y ((jw_work cl G PR F W L).2) ∧ ST h1 s cl G PR F ∧ FW w y h h1) := by
    show Ev 92 0 [some (.ref w), none, none, none] [] h _
    refine Er_run 1 (pc' := 1) (ls' := [some (.ref w), none, none, none]) (st' := [.ref w]) rfl ?_
    refine Er_getR (x := y) rfl hw.1.1 hw.1.2.2.1 ?_
    refine Er_run 1 (pc' := 5) (ls' := [some (.ref w), none, none, none]) (st' := [.ref w, .ref y]) rfl ?_
    refine Er_getI (v := Int32.ofNat (W.1 0)) rfl hw.1.1 (show gI h w 0 = Int32.ofNat (W.1 0) from (hw.2.1 0 (by omega)).1) ?_
    obtain ⟨h1, r1, l1, z1⟩ := s_Line_rejoin (x := W.1 0) hl hx7
    have w1 : WW h1 w s y W := WW_fr z1 (by omega) hw
    have s1 := ST_fr z1 (by omega) hs
    have q1 : FW w y h h1 := FW.ofY z1 (by omega) (by omega)
    have l1 : LL h1 y (jn_up L (W.1 0)) := l1
    refine Er_inv1 (q' := y) (ci := 6) (av := [.int (Int32.ofNat (W.1 0))]) (rest := []) rfl rfl ⟨Nat.le_of_ble_eq_true rfl, Nat.le_of_ble_eq_true rfl⟩ rfl rfl hl.1.1 r1 ?_
    refine Er_run 2 (pc' := 13) (ls' := [some (.ref w), none, none, none]) (st' := [.ref w]) rfl ?_
    refine Er_getR (x := y) rfl w1.1.1 w1.1.2.2.1 ?_
    refine Er_run 1 (pc' := 17) (ls' := [some (.ref w), none, none, none]) (st' := [.ref w, .ref y]) rfl ?_
    refine Er_getI (v := Int32.ofNat (W.1 0)) rfl w1.1.1 (show gI h1 w 0 = Int32.ofNat (W.1 0) from (w1.2.1 0 (by omega)).1) ?_
    refine Er_inv1 (q' := y) (ci := 6) (av := [.int (Int32.ofNat (W.1 0))]) (rest := []) rfl rfl ⟨Nat.le_of_ble_eq_true rfl, Nat.le_of_ble_eq_true rfl⟩ rfl rfl l1.1.1 (s_Line_waiting (x := W.1 0) l1 hx7) ?_
    refine Er_run 3 (pc' := 26) (ls' := [some (.ref w), some (.int (Int32.ofNat (L.1 (W.1 0)).length)), some (.int ((0 : Int32))), none]) (st' := []) rfl ?_
    refine l_work (by omega) hsy hyw (L.1 (W.1 0)).length 0 h1 W (jn_up L (W.1 0)) none (by omega) w1 l1 s1 hhk (fun h9 x9 a1 a2 a3 a4 => ?_)
    exact sm_Ev.mono (l_act haok hsy hyw a1 a2 a3) (fun r h2 z => ⟨z.1, z.2.1, z.2.2.1, z.2.2.2.1, (q1.trans a4).trans z.2.2.2.2⟩)
  obtain ⟨r, h', hr, e, hq⟩ := Run_of (Nat.le_of_ble_eq_true rfl) hx
  subst e
  exact ⟨h', hr, hq⟩
end WORKG
