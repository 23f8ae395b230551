section WORKF
variable {h : sm_H} {w s y j : Nat} {W : Jw} {L : Jn} {cl : List Nat} {G : Nat → Nat → Int32} {PR : Nat → Nat → List (Int32 × Int64)} {F : Nat → Jl}
/-- the RECORDS of a JOB's INPUTS -/
def jb_in (G : Nat → Nat → Int32) (F : Nat → Jl) (j : Nat) : Jl := F (G j 2).toNatClampNeg ++ (if G j 3 = -1 then [] else F (G j 3).toNatClampNeg)
def jb_ok (G : Nat → Nat → Int32) (j : Nat) : Prop := (∃ a, a < 16 ∧ G j 2 = Int32.ofNat a) ∧ (G j 3 = -1 ∨ ∃ b, b < 16 ∧ G j 3 = Int32.ofNat b)
theorem s_inLen (hs : ST h s cl G PR F) (hj8 : j < 8) (hb : jb_ok G j) : Run 45 [.ref s, .ref (s + 52 + 11 * j)] h (.inl (some (.int (Int32.ofNat (jb_in G F j).length)))) h := by
  obtain ⟨⟨a, ha, ea⟩, h3⟩ := hb
  have hj := (hs.2.2.2 j hj8)
  have e2 := hj.2.1 2 (by omega) (by omega)
  have e3 := hj.2.1 3 (by omega) (by omega)
  rw [jb_in, ea, jx_cn (by omega)]
  rcases h3 with h3 | ⟨b, hb, eb⟩
  · rw [if_pos h3, List.append_nil]
    exact s_Store_inputLength1 hs.1 hj.1 (e2.trans ea) ha (hs.2.2.1 a ha) (e3.trans h3)
  · rw [if_neg (by rw [eb]; exact jx_m1 (by omega)), eb, jx_cn (by omega), List.length_append]
    exact s_Store_inputLength2 hs.1 hj.1 (e2.trans ea) ha (hs.2.2.1 a ha) (e3.trans eb) hb (hs.2.2.1 b hb)
theorem s_inRec {i : Nat} {p : Int64 × Int64} (hs : ST h s cl G PR F) (hj8 : j < 8) (hb : jb_ok G j) (hi : (jb_in G F j)[i]? = some p) : ∃ f k, f < 16 ∧ k < 300 ∧ (F f)[k]? = some p ∧ Run 46 [.ref s, .ref (s + 52 + 11 * j), .int (Int32.ofNat i)] h (.inl (some (.ref (s + 4 + 3 * f)))) h ∧ Run 47 [.ref s, .ref (s + 52 + 11 * j), .int (Int32.ofNat i)] h (.inl (some (.int (Int32.ofNat k)))) h := by
  obtain ⟨⟨a, ha, ea⟩, h3⟩ := hb
  have hj := (hs.2.2.2 j hj8)
  have e2 := hj.2.1 2 (by omega) (by omega)
  have e3 := hj.2.1 3 (by omega) (by omega)
  rw [jb_in, ea, jx_cn (by omega)] at hi
  have hla := (hs.2.2.1 a ha).2.2.1
  by_cases hlt : i < (F a).length
  · rw [List.getElem?_append_left hlt] at hi
    exact ⟨a, i, ha, by omega, hi, s_Store_inputFile1 hs.1 hj.1 (e2.trans ea) ha (hs.2.2.1 a ha) hlt, s_Store_inputPlace1 hs.1 hj.1 (e2.trans ea) ha (hs.2.2.1 a ha) hlt⟩
  · rw [List.getElem?_append_right (by omega)] at hi
    rcases h3 with h3 | ⟨b, hb, eb⟩
    · rw [if_pos h3] at hi; simp at hi
    · rw [if_neg (by rw [eb]; exact jx_m1 (by omega)), eb, jx_cn (by omega)] at hi
      have hlb := (hs.2.2.1 b hb).2.2.1
      have hil := (List.getElem?_eq_some_iff.1 hi).1
      exact ⟨b, i - (F a).length, hb, by omega, hi, s_Store_inputFile2 hs.1 hj.1 (e2.trans ea) ha (hs.2.2.1 a ha) (e3.trans eb) hb (hs.2.2.1 b hb) (by omega) (by omega), s_Store_inputPlace2 hs.1 hj.1 (e2.trans ea) ha (hs.2.2.1 a ha) (by omega) (by omega)⟩
/-- where the KEY at place f ends -/
def jx_eok (l : Jl) (f : Nat) : Nat := f + 1 + ((l.drop (f + 1)).takeWhile (fun q => q.1 == jx_k l f)).length
theorem jx_eok_le {l : Jl} {f : Nat} (hf : f < l.length) : jx_eok l f ≤ l.length := by
  have h1 : ((l.drop (f + 1)).takeWhile (fun q => q.1 == jx_k l f)).length ≤ (l.drop (f + 1)).length := (List.takeWhile_prefix _).length_le
  rw [List.length_drop] at h1
  rw [jx_eok]; omega
def jw_wh (W : Jw) : Nat := if W.1 12 = 2 then 1 else 2
def jw_fr1 (W : Jw) (pr : Nat → List (Int32 × Int64)) : Bool × Jl := jq_grp (pr (jw_wh W)) (Int32.ofNat (jw_wh W)) (((W.2.2.2.1 1).drop (W.1 15)).take (jx_eok (W.2.2.2.1 1) (W.1 15) - W.1 15))
def jw_fold (W : Jw) (L : Jn) (pr : Nat → List (Int32 × Int64)) : Jw × Jn := if W.1 15 < (W.2.2.2.1 1).length then (if (jw_fr1 W pr).1 = true then (if (W.2.2.2.1 2).length + (jw_fr1 W pr).2.length ≤ 300 then (jw_sg (jw_sP W 2 (W.2.2.2.1 2 ++ (jw_fr1 W pr).2)) 15 (jx_eok (W.2.2.2.1 1) (W.1 15)), L) else jw_end W L 3) else jw_end W L 3) else jw_keep W L

theorem s_Worker_foldOne (ht : W.1 13 < 44) (hta : W.2.2.2.2.2 (W.1 13) = none) (hj : W.2.1 = some j) (hj8 : j < 8) (hok : ∀ i, i < 3 → jq_ok (PR j i)) (hsy : s + 140 ≤ y) (hyw : y + 229 ≤ w) (hw : WW h w s y W) (hl : LL h y L) (hs : ST h s cl G PR F) : ∃ h', Run 104 [.ref w] h (.inl none) h' ∧ WW h' w s y ((jw_fold W L (PR j)).1) ∧ LL h' y ((jw_fold W L (PR j)).2) ∧ ST h' s cl G PR F ∧ FW w y h h' := by
  have hx : Ev 104 0 (sm_pad (sm_ent [.ref w]) (sm_prog.2.1 104)) [] h (fun r h1 => r = .inl none ∧ WW h1 w s y ((jw_fold W L (PR j)).1) ∧ LL h1 y ((jw_fold W L (PR j)).2) ∧ ST h1 s cl G PR F ∧ FW w y h h1) := by
    have b12 := (hw.2.1 12 (by omega)).2
    have b15 := (hw.2.1 15 (by omega)).2
    have bga := hw.2.2.2.2.2.1.2.2.1
    by_cases hlt : W.1 15 < (W.2.2.2.1 1).length
    · obtain ⟨pa, hpa⟩ := jx_at hlt
      have hle := jx_eok_le hlt
      have hge : W.1 15 < jx_eok (W.2.2.2.1 1) (W.1 15) := by rw [jx_eok]; omega
      by_cases hst : W.1 12 = 2
      · skip
        by_cases hr1 : (jw_fr1 W (PR j)).1 = true
        · by_cases hf : (W.2.2.2.1 2).length + (jw_fr1 W (PR j)).2.length ≤ 300
          · skip
            show Ev 104 0 [some (.ref w), none, none] [] h _
            refine Er_run 1 (pc' := 1) (ls' := [some (.ref w), none, none]) (st' := [.ref w]) rfl ?_
            refine Er_getI (v := Int32.ofNat (W.1 15)) rfl hw.1.1 (show gI h w 15 = Int32.ofNat (W.1 15) from (hw.2.1 15 (by omega)).1) ?_
            refine Er_run 1 (pc' := 5) (ls' := [some (.ref w), none, none]) (st' := [.ref w, .int (Int32.ofNat (W.1 15))]) rfl ?_
            refine Er_getR (x := w + 25) rfl hw.1.1 hw.1.2.2.2.2.2.2.2.1 ?_
            refine Er_inv1 (q' := w + 25) (ci := 0) (av := []) (rest := [.int (Int32.ofNat (W.1 15))]) rfl rfl ⟨Nat.le_of_ble_eq_true rfl, Nat.le_of_ble_eq_true rfl⟩ rfl rfl hw.2.2.2.2.2.1.1.1 (s_Pairs_length (show PL h (w + 25) 1000 (W.2.2.2.1 1) from hw.2.2.2.2.2.1)) ?_
            refine Er_run 1 (pc' := bif decide ((Int32.ofNat (W.1 15)) < (Int32.ofNat (W.2.2.2.1 1).length)) then 23 else 14) (ls' := [some (.ref w), none, none]) (st' := []) rfl ?_
            refine Er_pc (t := 23) (show (bif decide ((Int32.ofNat (W.1 15)) < (Int32.ofNat (W.2.2.2.1 1).length)) then 23 else 14) = 23 from by rw [show (decide ((Int32.ofNat (W.1 15)) < (Int32.ofNat (W.2.2.2.1 1).length))) = true from by rw [jx_lt (by omega) (by omega)]; exact decide_eq_true hlt]; rfl) ?_
            refine Er_run 1 (pc' := 24) (ls' := [some (.ref w), none, none]) (st' := [.ref w]) rfl ?_
            refine Er_getI (v := Int32.ofNat (W.1 12)) rfl hw.1.1 (show gI h w 12 = Int32.ofNat (W.1 12) from (hw.2.1 12 (by omega)).1) ?_
            refine Er_run 2 (pc' := bif !decide ((Int32.ofNat (W.1 12)) = ((2 : Int32))) then 35 else 31) (ls' := [some (.ref w), none, none]) (st' := []) rfl ?_
            refine Er_pc (t := 31) (show (bif !decide ((Int32.ofNat (W.1 12)) = ((2 : Int32))) then 35 else 31) = 31 from by rw [show (!decide ((Int32.ofNat (W.1 12)) = ((2 : Int32)))) = false from by rw [hst]; rfl]; rfl) ?_
            refine Er_run 4 (pc' := 38) (ls' := [some (.ref w), some (.int ((1 : Int32))), none]) (st' := [.ref w]) rfl ?_
            refine Er_getR (x := w + 25) rfl hw.1.1 hw.1.2.2.2.2.2.2.2.1 ?_
            refine Er_run 1 (pc' := 42) (ls' := [some (.ref w), some (.int ((1 : Int32))), none]) (st' := [.ref w, .ref (w + 25)]) rfl ?_
            refine Er_getI (v := Int32.ofNat (W.1 15)) rfl hw.1.1 (show gI h w 15 = Int32.ofNat (W.1 15) from (hw.2.1 15 (by omega)).1) ?_
            have hek := s_Pairs_endOfKey (show PL h (w + 25) 1000 (W.2.2.2.1 1) from hw.2.2.2.2.2.1) hpa
            rw [← show jx_eok (W.2.2.2.1 1) (W.1 15) = W.1 15 + 1 + (((W.2.2.2.1 1).drop (W.1 15 + 1)).takeWhile (fun q => q.1 == pa.1)).length from by rw [jx_eok, jx_k, hpa]; rfl] at hek
            refine Er_inv1 (q' := w + 25) (ci := 0) (av := [.int (Int32.ofNat (W.1 15))]) (rest := []) rfl rfl ⟨Nat.le_of_ble_eq_true rfl, Nat.le_of_ble_eq_true rfl⟩ rfl rfl hw.2.2.2.2.2.1.1.1 hek ?_
            refine Er_run 2 (pc' := 50) (ls' := [some (.ref w), some (.int ((1 : Int32))), some (.int (Int32.ofNat (jx_eok (W.2.2.2.1 1) (W.1 15))))]) (st' := [.ref w]) rfl ?_
            refine Er_getR (x := w + 14) rfl hw.1.1 hw.1.2.2.2.2.1 ?_
            refine Er_run 1 (pc' := 54) (ls' := [some (.ref w), some (.int ((1 : Int32))), some (.int (Int32.ofNat (jx_eok (W.2.2.2.1 1) (W.1 15))))]) (st' := [.ref w, .ref (w + 14)]) rfl ?_
            refine Er_getR (x := s + 52 + 11 * j) rfl hw.1.1 (Eq.trans hw.2.2.1 (show (W).2.1.map (fun j => s + 52 + 11 * j) = some (s + 52 + 11 * j) from by rw [show (W).2.1 = some j from hj]; rfl)) ?_
            refine Er_run 1 (pc' := 58) (ls' := [some (.ref w), some (.int ((1 : Int32))), some (.int (Int32.ofNat (jx_eok (W.2.2.2.1 1) (W.1 15))))]) (st' := [.int ((1 : Int32)), .ref (s + 52 + 11 * j), .ref (w + 14)]) rfl ?_
            refine Er_inv1 (q' := s + 52 + 11 * j) (ci := 2) (av := [.int ((1 : Int32))]) (rest := [.ref (w + 14)]) rfl rfl ⟨Nat.le_of_ble_eq_true rfl, Nat.le_of_ble_eq_true rfl⟩ rfl rfl (hs.2.2.2 j hj8).1.1 (s_Job_programFor1 (hs.2.2.2 j hj8).1) ?_
            refine Er_run 2 (pc' := 63) (ls' := [some (.ref w), some (.int ((1 : Int32))), some (.int (Int32.ofNat (jx_eok (W.2.2.2.1 1) (W.1 15))))]) (st' := [.ref w, .int ((1 : Int32)), .ref (s + 52 + 11 * j + 5), .ref (w + 14)]) rfl ?_
            refine Er_getR (x := w + 25) rfl hw.1.1 hw.1.2.2.2.2.2.2.2.1 ?_
            refine Er_run 1 (pc' := 67) (ls' := [some (.ref w), some (.int ((1 : Int32))), some (.int (Int32.ofNat (jx_eok (W.2.2.2.1 1) (W.1 15))))]) (st' := [.ref w, .ref (w + 25), .int ((1 : Int32)), .ref (s + 52 + 11 * j + 5), .ref (w + 14)]) rfl ?_
            refine Er_getI (v := Int32.ofNat (W.1 15)) rfl hw.1.1 (show gI h w 15 = Int32.ofNat (W.1 15) from (hw.2.1 15 (by omega)).1) ?_
            refine Er_run 1 (pc' := 71) (ls' := [some (.ref w), some (.int ((1 : Int32))), some (.int (Int32.ofNat (jx_eok (W.2.2.2.1 1) (W.1 15))))]) (st' := [.int (Int32.ofNat (jx_eok (W.2.2.2.1 1) (W.1 15))), .int (Int32.ofNat (W.1 15)), .ref (w + 25), .int ((1 : Int32)), .ref (s + 52 + 11 * j + 5), .ref (w + 14)]) rfl ?_
            obtain ⟨h1, r1, a1, e1, z1⟩ := s_Machine_call (f := W.1 15) (t := jx_eok (W.2.2.2.1 1) (W.1 15)) (kd := (1 : Int32)) (show MA h (w + 14) from hw.2.2.2.2.2.2.2.2.1) (hs.2.2.2 j hj8).2.2.2.1 (hok 1 (by omega)) (show PL h (w + 25) 1000 (W.2.2.2.1 1) from hw.2.2.2.2.2.1) (by omega) (by omega) (by omega) (by omega)
            rw [show jq_call (PR j 1) (1 : Int32) (W.2.2.2.1 1) (W.1 15) (jx_eok (W.2.2.2.1 1) (W.1 15)) = jw_fr1 W (PR j) from (by rw [jq_call_grp (by rw [jx_eok]; omega) hle, jw_fr1, show jw_wh W = 1 from by rw [jw_wh, if_pos hst]]; rfl)] at r1 e1
            rw [if_pos hr1] at r1
            have w1 : WW h1 w s y W := WW_ma z1 a1 hw
            have l1 := LL_fr z1 (by omega) hl
            have s1 := ST_fr z1 (by omega) hs
            have q1 : FW w y h h1 := FW.trans (FW.refl w y h) (FW.ofW z1 (by omega) (by omega))
            refine Er_inv1 (q' := w + 14) (ci := 4) (av := [.ref (s + 52 + 11 * j + 5), .int ((1 : Int32)), .ref (w + 25), .int (Int32.ofNat (W.1 15)), .int (Int32.ofNat (jx_eok (W.2.2.2.1 1) (W.1 15)))]) (rest := []) rfl rfl ⟨Nat.le_of_ble_eq_true rfl, Nat.le_of_ble_eq_true rfl⟩ rfl rfl hw.2.2.2.2.2.2.2.2.1.1.1 r1 ?_
            refine Er_run 1 (pc' := bif decide (((1 : Int32)) = 0) then 102 else 77) (ls' := [some (.ref w), some (.int ((1 : Int32))), some (.int (Int32.ofNat (jx_eok (W.2.2.2.1 1) (W.1 15))))]) (st' := []) rfl ?_
            refine Er_pc (t := 77) (show (bif decide (((1 : Int32)) = 0) then 102 else 77) = 77 from by rw [show (decide (((1 : Int32)) = 0)) = false from by decide]; rfl) ?_
            refine Er_run 1 (pc' := 78) (ls' := [some (.ref w), some (.int ((1 : Int32))), some (.int (Int32.ofNat (jx_eok (W.2.2.2.1 1) (W.1 15))))]) (st' := [.ref w]) rfl ?_
            refine Er_getR (x := w + 31) rfl w1.1.1 w1.1.2.2.2.2.2.2.2.2.2.1 ?_
            refine Er_run 1 (pc' := 82) (ls' := [some (.ref w), some (.int ((1 : Int32))), some (.int (Int32.ofNat (jx_eok (W.2.2.2.1 1) (W.1 15))))]) (st' := [.ref w, .ref (w + 31)]) rfl ?_
            refine Er_getR (x := w + 14) rfl w1.1.1 w1.1.2.2.2.2.1 ?_
            refine Er_inv1 (q' := w + 14) (ci := 4) (av := []) (rest := [.ref (w + 31)]) rfl rfl ⟨Nat.le_of_ble_eq_true rfl, Nat.le_of_ble_eq_true rfl⟩ rfl rfl w1.2.2.2.2.2.2.2.2.1.1.1 (s_Machine_emitted (show MA h1 (w + 14) from w1.2.2.2.2.2.2.2.2.1)) ?_
            obtain ⟨h2, r2, p2, z2⟩ := s_Pairs_addAll1 (show PL h1 (w + 31) 300 (W.2.2.2.1 2) from w1.2.2.2.2.2.2.2.1) e1 (by omega) hf
            have w2 : WW h2 w s y (jw_sP W 2 ((W.2.2.2.1 2) ++ ((jw_fr1 W (PR j)).2))) := WW_P2 z2 p2 w1
            have l2 := LL_fr z2 (by omega) l1
            have s2 := ST_fr z2 (by omega) s1
            have q2 : FW w y h h2 := FW.trans q1 (FW.ofW z2 (by omega) (by omega))
            refine Er_inv1 (q' := w + 31) (ci := 0) (av := [.ref (w + 14 + 3)]) (rest := []) rfl rfl ⟨Nat.le_of_ble_eq_true rfl, Nat.le_of_ble_eq_true rfl⟩ rfl rfl w1.2.2.2.2.2.2.2.1.1.1 r2 ?_
            refine Er_run 1 (pc' := bif decide (((1 : Int32)) = 0) then 102 else 94) (ls' := [some (.ref w), some (.int ((1 : Int32))), some (.int (Int32.ofNat (jx_eok (W.2.2.2.1 1) (W.1 15))))]) (st' := []) rfl ?_
            refine Er_pc (t := 94) (show (bif decide (((1 : Int32)) = 0) then 102 else 94) = 94 from by rw [show (decide (((1 : Int32)) = 0)) = false from by decide]; rfl) ?_
            refine Er_run 2 (pc' := 96) (ls' := [some (.ref w), some (.int ((1 : Int32))), some (.int (Int32.ofNat (jx_eok (W.2.2.2.1 1) (W.1 15))))]) (st' := [.int (Int32.ofNat (jx_eok (W.2.2.2.1 1) (W.1 15))), .ref w]) rfl ?_
            refine Er_putI rfl w2.1.1 ?_
            have z3 : Fr w (w + 1) h2 (setI h2 w 15 (Int32.ofNat (jx_eok (W.2.2.2.1 1) (W.1 15)))) := Fr.setI (by omega) (by omega)
            have w3 : WW (setI h2 w 15 (Int32.ofNat (jx_eok (W.2.2.2.1 1) (W.1 15)))) w s y (jw_sg (jw_sP W 2 ((W.2.2.2.1 2) ++ ((jw_fr1 W (PR j)).2))) 15 ((jx_eok (W.2.2.2.1 1) (W.1 15)))) := WW_sg (x := (jx_eok (W.2.2.2.1 1) (W.1 15))) (by omega) w2
            generalize setI h2 w 15 (Int32.ofNat (jx_eok (W.2.2.2.1 1) (W.1 15))) = h3 at z3 w3 ⊢
            have l3 := LL_fr z3 (by omega) l2
            have s3 := ST_fr z3 (by omega) s2
            have q3 : FW w y h h3 := FW.trans q2 (FW.ofW z3 (by omega) (by omega))
            refine Er_run 1 (pc' := 111) (ls' := [some (.ref w), some (.int ((1 : Int32))), some (.int (Int32.ofNat (jx_eok (W.2.2.2.1 1) (W.1 15))))]) (st' := []) rfl ?_
            refine Er_fin rfl rfl ?_
            rw [jw_fold, if_pos hlt, if_pos hr1, if_pos hf]
            exact ⟨rfl, w3, l3, s3, q3⟩
          · skip
            show Ev 104 0 [some (.ref w), none, none] [] h _
            refine Er_run 1 (pc' := 1) (ls' := [some (.ref w), none, none]) (st' := [.ref w]) rfl ?_
            refine Er_getI (v := Int32.ofNat (W.1 15)) rfl hw.1.1 (show gI h w 15 = Int32.ofNat (W.1 15) from (hw.2.1 15 (by omega)).1) ?_
            refine Er_run 1 (pc' := 5) (ls' := [some (.ref w), none, none]) (st' := [.ref w, .int (Int32.ofNat (W.1 15))]) rfl ?_
            refine Er_getR (x := w + 25) rfl hw.1.1 hw.1.2.2.2.2.2.2.2.1 ?_
            refine Er_inv1 (q' := w + 25) (ci := 0) (av := []) (rest := [.int (Int32.ofNat (W.1 15))]) rfl rfl ⟨Nat.le_of_ble_eq_true rfl, Nat.le_of_ble_eq_true rfl⟩ rfl rfl hw.2.2.2.2.2.1.1.1 (s_Pairs_length (show PL h (w + 25) 1000 (W.2.2.2.1 1) from hw.2.2.2.2.2.1)) ?_
            refine Er_run 1 (pc' := bif decide ((Int32.ofNat (W.1 15)) < (Int32.ofNat (W.2.2.2.1 1).length)) then 23 else 14) (ls' := [some (.ref w), none, none]) (st' := []) rfl ?_
            refine Er_pc (t := 23) (show (bif decide ((Int32.ofNat (W.1 15)) < (Int32.ofNat (W.2.2.2.1 1).length)) then 23 else 14) = 23 from by rw [show (decide ((Int32.ofNat (W.1 15)) < (Int32.ofNat (W.2.2.2.1 1).length))) = true from by rw [jx_lt (by omega) (by omega)]; exact decide_eq_true hlt]; rfl) ?_
            refine Er_run 1 (pc' := 24) (ls' := [some (.ref w), none, none]) (st' := [.ref w]) rfl ?_
            refine Er_getI (v := Int32.ofNat (W.1 12)) rfl hw.1.1 (show gI h w 12 = Int32.ofNat (W.1 12) from (hw.2.1 12 (by omega)).1) ?_
            refine Er_run 2 (pc' := bif !decide ((Int32.ofNat (W.1 12)) = ((2 : Int32))) then 35 else 31) (ls' := [some (.ref w), none, none]) (st' := []) rfl ?_
            refine Er_pc (t := 31) (show (bif !decide ((Int32.ofNat (W.1 12)) = ((2 : Int32))) then 35 else 31) = 31 from by rw [show (!decide ((Int32.ofNat (W.1 12)) = ((2 : Int32)))) = false from by rw [hst]; rfl]; rfl) ?_
            refine Er_run 4 (pc' := 38) (ls' := [some (.ref w), some (.int ((1 : Int32))), none]) (st' := [.ref w]) rfl ?_
            refine Er_getR (x := w + 25) rfl hw.1.1 hw.1.2.2.2.2.2.2.2.1 ?_
            refine Er_run 1 (pc' := 42) (ls' := [some (.ref w), some (.int ((1 : Int32))), none]) (st' := [.ref w, .ref (w + 25)]) rfl ?_
            refine Er_getI (v := Int32.ofNat (W.1 15)) rfl hw.1.1 (show gI h w 15 = Int32.ofNat (W.1 15) from (hw.2.1 15 (by omega)).1) ?_
            have hek := s_Pairs_endOfKey (show PL h (w + 25) 1000 (W.2.2.2.1 1) from hw.2.2.2.2.2.1) hpa
            rw [← show jx_eok (W.2.2.2.1 1) (W.1 15) = W.1 15 + 1 + (((W.2.2.2.1 1).drop (W.1 15 + 1)).takeWhile (fun q => q.1 == pa.1)).length from by rw [jx_eok, jx_k, hpa]; rfl] at hek
            refine Er_inv1 (q' := w + 25) (ci := 0) (av := [.int (Int32.ofNat (W.1 15))]) (rest := []) rfl rfl ⟨Nat.le_of_ble_eq_true rfl, Nat.le_of_ble_eq_true rfl⟩ rfl rfl hw.2.2.2.2.2.1.1.1 hek ?_
            refine Er_run 2 (pc' := 50) (ls' := [some (.ref w), some (.int ((1 : Int32))), some (.int (Int32.ofNat (jx_eok (W.2.2.2.1 1) (W.1 15))))]) (st' := [.ref w]) rfl ?_
            refine Er_getR (x := w + 14) rfl hw.1.1 hw.1.2.2.2.2.1 ?_
            refine Er_run 1 (pc' := 54) (ls' := [some (.ref w), some (.int ((1 : Int32))), some (.int (Int32.ofNat (jx_eok (W.2.2.2.1 1) (W.1 15))))]) (st' := [.ref w, .ref (w + 14)]) rfl ?_
            refine Er_getR (x := s + 52 + 11 * j) rfl hw.1.1 (Eq.trans hw.2.2.1 (show (W).2.1.map (fun j => s + 52 + 11 * j) = some (s + 52 + 11 * j) from by rw [show (W).2.1 = some j from hj]; rfl)) ?_
            refine Er_run 1 (pc' := 58) (ls' := [some (.ref w), some (.int ((1 : Int32))), some (.int (Int32.ofNat (jx_eok (W.2.2.2.1 1) (W.1 15))))]) (st' := [.int ((1 : Int32)), .ref (s + 52 + 11 * j), .ref (w + 14)]) rfl ?_
            refine Er_inv1 (q' := s + 52 + 11 * j) (ci := 2) (av := [.int ((1 : Int32))]) (rest := [.ref (w + 14)]) rfl rfl ⟨Nat.le_of_ble_eq_true rfl, Nat.le_of_ble_eq_true rfl⟩ rfl rfl (hs.2.2.2 j hj8).1.1 (s_Job_programFor1 (hs.2.2.2 j hj8).1) ?_
            refine Er_run 2 (pc' := 63) (ls' := [some (.ref w), some (.int ((1 : Int32))), some (.int (Int32.ofNat (jx_eok (W.2.2.2.1 1) (W.1 15))))]) (st' := [.ref w, .int ((1 : Int32)), .ref (s + 52 + 11 * j + 5), .ref (w + 14)]) rfl ?_
            refine Er_getR (x := w + 25) rfl hw.1.1 hw.1.2.2.2.2.2.2.2.1 ?_
            refine Er_run 1 (pc' := 67) (ls' := [some (.ref w), some (.int ((1 : Int32))), some (.int (Int32.ofNat (jx_eok (W.2.2.2.1 1) (W.1 15))))]) (st' := [.ref w, .ref (w + 25), .int ((1 : Int32)), .ref (s + 52 + 11 * j + 5), .ref (w + 14)]) rfl ?_
            refine Er_getI (v := Int32.ofNat (W.1 15)) rfl hw.1.1 (show gI h w 15 = Int32.ofNat (W.1 15) from (hw.2.1 15 (by omega)).1) ?_
            refine Er_run 1 (pc' := 71) (ls' := [some (.ref w), some (.int ((1 : Int32))), some (.int (Int32.ofNat (jx_eok (W.2.2.2.1 1) (W.1 15))))]) (st' := [.int (Int32.ofNat (jx_eok (W.2.2.2.1 1) (W.1 15))), .int (Int32.ofNat (W.1 15)), .ref (w + 25), .int ((1 : Int32)), .ref (s + 52 + 11 * j + 5), .ref (w + 14)]) rfl ?_
            obtain ⟨h1, r1, a1, e1, z1⟩ := s_Machine_call (f := W.1 15) (t := jx_eok (W.2.2.2.1 1) (W.1 15)) (kd := (1 : Int32)) (show MA h (w + 14) from hw.2.2.2.2.2.2.2.2.1) (hs.2.2.2 j hj8).2.2.2.1 (hok 1 (by omega)) (show PL h (w + 25) 1000 (W.2.2.2.1 1) from hw.2.2.2.2.2.1) (by omega) (by omega) (by omega) (by omega)
            rw [show jq_call (PR j 1) (1 : Int32) (W.2.2.2.1 1) (W.1 15) (jx_eok (W.2.2.2.1 1) (W.1 15)) = jw_fr1 W (PR j) from (by rw [jq_call_grp (by rw [jx_eok]; omega) hle, jw_fr1, show jw_wh W = 1 from by rw [jw_wh, if_pos hst]]; rfl)] at r1 e1
            rw [if_pos hr1] at r1
            have w1 : WW h1 w s y W := WW_ma z1 a1 hw
            have l1 := LL_fr z1 (by omega) hl
            have s1 := ST_fr z1 (by omega) hs
            have q1 : FW w y h h1 := FW.trans (FW.refl w y h) (FW.ofW z1 (by omega) (by omega))
            refine Er_inv1 (q' := w + 14) (ci := 4) (av := [.ref (s + 52 + 11 * j + 5), .int ((1 : Int32)), .ref (w + 25), .int (Int32.ofNat (W.1 15)), .int (Int32.ofNat (jx_eok (W.2.2.2.1 1) (W.1 15)))]) (rest := []) rfl rfl ⟨Nat.le_of_ble_eq_true rfl, Nat.le_of_ble_eq_true rfl⟩ rfl rfl hw.2.2.2.2.2.2.2.2.1.1.1 r1 ?_
            refine Er_run 1 (pc' := bif decide (((1 : Int32)) = 0) then 102 else 77) (ls' := [some (.ref w), some (.int ((1 : Int32))), some (.int (Int32.ofNat (jx_eok (W.2.2.2.1 1) (W.1 15))))]) (st' := []) rfl ?_
            refine Er_pc (t := 77) (show (bif decide (((1 : Int32)) = 0) then 102 else 77) = 77 from by rw [show (decide (((1 : Int32)) = 0)) = false from by decide]; rfl) ?_
            refine Er_run 1 (pc' := 78) (ls' := [some (.ref w), some (.int ((1 : Int32))), some (.int (Int32.ofNat (jx_eok (W.2.2.2.1 1) (W.1 15))))]) (st' := [.ref w]) rfl ?_
            refine Er_getR (x := w + 31) rfl w1.1.1 w1.1.2.2.2.2.2.2.2.2.2.1 ?_
            refine Er_run 1 (pc' := 82) (ls' := [some (.ref w), some (.int ((1 : Int32))), some (.int (Int32.ofNat (jx_eok (W.2.2.2.1 1) (W.1 15))))]) (st' := [.ref w, .ref (w + 31)]) rfl ?_
            refine Er_getR (x := w + 14) rfl w1.1.1 w1.1.2.2.2.2.1 ?_
            refine Er_inv1 (q' := w + 14) (ci := 4) (av := []) (rest := [.ref (w + 31)]) rfl rfl ⟨Nat.le_of_ble_eq_true rfl, Nat.le_of_ble_eq_true rfl⟩ rfl rfl w1.2.2.2.2.2.2.2.2.1.1.1 (s_Machine_emitted (show MA h1 (w + 14) from w1.2.2.2.2.2.2.2.2.1)) ?_
            refine Er_inv1 (q' := w + 31) (ci := 0) (av := [.ref (w + 14 + 3)]) (rest := []) rfl rfl ⟨Nat.le_of_ble_eq_true rfl, Nat.le_of_ble_eq_true rfl⟩ rfl rfl w1.2.2.2.2.2.2.2.1.1.1 (s_Pairs_addAll0 (show PL h1 (w + 31) 300 (W.2.2.2.1 2) from w1.2.2.2.2.2.2.2.1) e1 (by omega)) ?_
            refine Er_run 1 (pc' := bif decide (((0 : Int32)) = 0) then 102 else 94) (ls' := [some (.ref w), some (.int ((1 : Int32))), some (.int (Int32.ofNat (jx_eok (W.2.2.2.1 1) (W.1 15))))]) (st' := []) rfl ?_
            refine Er_pc (t := 102) (show (bif decide (((0 : Int32)) = 0) then 102 else 94) = 102 from by rw [show (decide (((0 : Int32)) = 0)) = true from by decide]; rfl) ?_
            refine Er_run 3 (pc' := 105) (ls' := [some (.ref w), some (.int ((1 : Int32))), some (.int (Int32.ofNat (jx_eok (W.2.2.2.1 1) (W.1 15))))]) (st' := [.ref w, .int ((3 : Int32)), .ref w]) rfl ?_
            refine Er_getI (v := Int32.ofNat (W.1 13)) rfl w1.1.1 (show gI h1 w 13 = Int32.ofNat (W.1 13) from (w1.2.1 13 (by omega)).1) ?_
            obtain ⟨h2, r2, w2, l2, s2, zz2⟩ := s_Worker_report (k := 3) (t := W.1 13) ht hsy hyw w1 l1 s1
            have q2 : FW w y h h2 := FW.trans q1 zz2
            refine Er_inv0 (q' := w) (ci := 8) (av := [.int ((3 : Int32)), .int (Int32.ofNat (W.1 13))]) (rest := []) rfl rfl ⟨Nat.le_of_ble_eq_true rfl, Nat.le_of_ble_eq_true rfl⟩ rfl rfl w1.1.1 r2 ?_
            refine Er_fin rfl rfl ?_
            rw [jw_fold, if_pos hlt, if_pos hr1, if_neg hf]
            exact ⟨rfl, w2, l2, s2, q2⟩
        · skip
          show Ev 104 0 [some (.ref w), none, none] [] h _
          refine Er_run 1 (pc' := 1) (ls' := [some (.ref w), none, none]) (st' := [.ref w]) rfl ?_
          refine Er_getI (v := Int32.ofNat (W.1 15)) rfl hw.1.1 (show gI h w 15 = Int32.ofNat (W.1 15) from (hw.2.1 15 (by omega)).1) ?_
          refine Er_run 1 (pc' := 5) (ls' := [some (.ref w), none, none]) (st' := [.ref w, .int (Int32.ofNat (W.1 15))]) rfl ?_
          refine Er_getR (x := w + 25) rfl hw.1.1 hw.1.2.2.2.2.2.2.2.1 ?_
          refine Er_inv1 (q' := w + 25) (ci := 0) (av := []) (rest := [.int (Int32.ofNat (W.1 15))]) rfl rfl ⟨Nat.le_of_ble_eq_true rfl, Nat.le_of_ble_eq_true rfl⟩ rfl rfl hw.2.2.2.2.2.1.1.1 (s_Pairs_length (show PL h (w + 25) 1000 (W.2.2.2.1 1) from hw.2.2.2.2.2.1)) ?_
          refine Er_run 1 (pc' := bif decide ((Int32.ofNat (W.1 15)) < (Int32.ofNat (W.2.2.2.1 1).length)) then 23 else 14) (ls' := [some (.ref w), none, none]) (st' := []) rfl ?_
          refine Er_pc (t := 23) (show (bif decide ((Int32.ofNat (W.1 15)) < (Int32.ofNat (W.2.2.2.1 1).length)) then 23 else 14) = 23 from by rw [show (decide ((Int32.ofNat (W.1 15)) < (Int32.ofNat (W.2.2.2.1 1).length))) = true from by rw [jx_lt (by omega) (by omega)]; exact decide_eq_true hlt]; rfl) ?_
          refine Er_run 1 (pc' := 24) (ls' := [some (.ref w), none, none]) (st' := [.ref w]) rfl ?_
          refine Er_getI (v := Int32.ofNat (W.1 12)) rfl hw.1.1 (show gI h w 12 = Int32.ofNat (W.1 12) from (hw.2.1 12 (by omega)).1) ?_
          refine Er_run 2 (pc' := bif !decide ((Int32.ofNat (W.1 12)) = ((2 : Int32))) then 35 else 31) (ls' := [some (.ref w), none, none]) (st' := []) rfl ?_
          refine Er_pc (t := 31) (show (bif !decide ((Int32.ofNat (W.1 12)) = ((2 : Int32))) then 35 else 31) = 31 from by rw [show (!decide ((Int32.ofNat (W.1 12)) = ((2 : Int32)))) = false from by rw [hst]; rfl]; rfl) ?_
          refine Er_run 4 (pc' := 38) (ls' := [some (.ref w), some (.int ((1 : Int32))), none]) (st' := [.ref w]) rfl ?_
          refine Er_getR (x := w + 25) rfl hw.1.1 hw.1.2.2.2.2.2.2.2.1 ?_
          refine Er_run 1 (pc' := 42) (ls' := [some (.ref w), some (.int ((1 : Int32))), none]) (st' := [.ref w, .ref (w + 25)]) rfl ?_
          refine Er_getI (v := Int32.ofNat (W.1 15)) rfl hw.1.1 (show gI h w 15 = Int32.ofNat (W.1 15) from (hw.2.1 15 (by omega)).1) ?_
          have hek := s_Pairs_endOfKey (show PL h (w + 25) 1000 (W.2.2.2.1 1) from hw.2.2.2.2.2.1) hpa
          rw [← show jx_eok (W.2.2.2.1 1) (W.1 15) = W.1 15 + 1 + (((W.2.2.2.1 1).drop (W.1 15 + 1)).takeWhile (fun q => q.1 == pa.1)).length from by rw [jx_eok, jx_k, hpa]; rfl] at hek
          refine Er_inv1 (q' := w + 25) (ci := 0) (av := [.int (Int32.ofNat (W.1 15))]) (rest := []) rfl rfl ⟨Nat.le_of_ble_eq_true rfl, Nat.le_of_ble_eq_true rfl⟩ rfl rfl hw.2.2.2.2.2.1.1.1 hek ?_
          refine Er_run 2 (pc' := 50) (ls' := [some (.ref w), some (.int ((1 : Int32))), some (.int (Int32.ofNat (jx_eok (W.2.2.2.1 1) (W.1 15))))]) (st' := [.ref w]) rfl ?_
          refine Er_getR (x := w + 14) rfl hw.1.1 hw.1.2.2.2.2.1 ?_
          refine Er_run 1 (pc' := 54) (ls' := [some (.ref w), some (.int ((1 : Int32))), some (.int (Int32.ofNat (jx_eok (W.2.2.2.1 1) (W.1 15))))]) (st' := [.ref w, .ref (w + 14)]) rfl ?_
          refine Er_getR (x := s + 52 + 11 * j) rfl hw.1.1 (Eq.trans hw.2.2.1 (show (W).2.1.map (fun j => s + 52 + 11 * j) = some (s + 52 + 11 * j) from by rw [show (W).2.1 = some j from hj]; rfl)) ?_
          refine Er_run 1 (pc' := 58) (ls' := [some (.ref w), some (.int ((1 : Int32))), some (.int (Int32.ofNat (jx_eok (W.2.2.2.1 1) (W.1 15))))]) (st' := [.int ((1 : Int32)), .ref (s + 52 + 11 * j), .ref (w + 14)]) rfl ?_
          refine Er_inv1 (q' := s + 52 + 11 * j) (ci := 2) (av := [.int ((1 : Int32))]) (rest := [.ref (w + 14)]) rfl rfl ⟨Nat.le_of_ble_eq_true rfl, Nat.le_of_ble_eq_true rfl⟩ rfl rfl (hs.2.2.2 j hj8).1.1 (s_Job_programFor1 (hs.2.2.2 j hj8).1) ?_
          refine Er_run 2 (pc' := 63) (ls' := [some (.ref w), some (.int ((1 : Int32))), some (.int (Int32.ofNat (jx_eok (W.2.2.2.1 1) (W.1 15))))]) (st' := [.ref w, .int ((1 : Int32)), .ref (s + 52 + 11 * j + 5), .ref (w + 14)]) rfl ?_
          refine Er_getR (x := w + 25) rfl hw.1.1 hw.1.2.2.2.2.2.2.2.1 ?_
          refine Er_run 1 (pc' := 67) (ls' := [some (.ref w), some (.int ((1 : Int32))), some (.int (Int32.ofNat (jx_eok (W.2.2.2.1 1) (W.1 15))))]) (st' := [.ref w, .ref (w + 25), .int ((1 : Int32)), .ref (s + 52 + 11 * j + 5), .ref (w + 14)]) rfl ?_
          refine Er_getI (v := Int32.ofNat (W.1 15)) rfl hw.1.1 (show gI h w 15 = Int32.ofNat (W.1 15) from (hw.2.1 15 (by omega)).1) ?_
          refine Er_run 1 (pc' := 71) (ls' := [some (.ref w), some (.int ((1 : Int32))), some (.int (Int32.ofNat (jx_eok (W.2.2.2.1 1) (W.1 15))))]) (st' := [.int (Int32.ofNat (jx_eok (W.2.2.2.1 1) (W.1 15))), .int (Int32.ofNat (W.1 15)), .ref (w + 25), .int ((1 : Int32)), .ref (s + 52 + 11 * j + 5), .ref (w + 14)]) rfl ?_
          obtain ⟨h1, r1, a1, e1, z1⟩ := s_Machine_call (f := W.1 15) (t := jx_eok (W.2.2.2.1 1) (W.1 15)) (kd := (1 : Int32)) (show MA h (w + 14) from hw.2.2.2.2.2.2.2.2.1) (hs.2.2.2 j hj8).2.2.2.1 (hok 1 (by omega)) (show PL h (w + 25) 1000 (W.2.2.2.1 1) from hw.2.2.2.2.2.1) (by omega) (by omega) (by omega) (by omega)
          rw [show jq_call (PR j 1) (1 : Int32) (W.2.2.2.1 1) (W.1 15) (jx_eok (W.2.2.2.1 1) (W.1 15)) = jw_fr1 W (PR j) from (by rw [jq_call_grp (by rw [jx_eok]; omega) hle, jw_fr1, show jw_wh W = 1 from by rw [jw_wh, if_pos hst]]; rfl)] at r1 e1
          rw [if_neg hr1] at r1
          have w1 : WW h1 w s y W := WW_ma z1 a1 hw
          have l1 := LL_fr z1 (by omega) hl
          have s1 := ST_fr z1 (by omega) hs
          have q1 : FW w y h h1 := FW.trans (FW.refl w y h) (FW.ofW z1 (by omega) (by omega))
          refine Er_inv1 (q' := w + 14) (ci := 4) (av := [.ref (s + 52 + 11 * j + 5), .int ((1 : Int32)), .ref (w + 25), .int (Int32.ofNat (W.1 15)), .int (Int32.ofNat (jx_eok (W.2.2.2.1 1) (W.1 15)))]) (rest := []) rfl rfl ⟨Nat.le_of_ble_eq_true rfl, Nat.le_of_ble_eq_true rfl⟩ rfl rfl hw.2.2.2.2.2.2.2.2.1.1.1 r1 ?_
          refine Er_run 1 (pc' := bif decide (((0 : Int32)) = 0) then 102 else 77) (ls' := [some (.ref w), some (.int ((1 : Int32))), some (.int (Int32.ofNat (jx_eok (W.2.2.2.1 1) (W.1 15))))]) (st' := []) rfl ?_
          refine Er_pc (t := 102) (show (bif decide (((0 : Int32)) = 0) then 102 else 77) = 102 from by rw [show (decide (((0 : Int32)) = 0)) = true from by decide]; rfl) ?_
          refine Er_run 3 (pc' := 105) (ls' := [some (.ref w), some (.int ((1 : Int32))), some (.int (Int32.ofNat (jx_eok (W.2.2.2.1 1) (W.1 15))))]) (st' := [.ref w, .int ((3 : Int32)), .ref w]) rfl ?_
          refine Er_getI (v := Int32.ofNat (W.1 13)) rfl w1.1.1 (show gI h1 w 13 = Int32.ofNat (W.1 13) from (w1.2.1 13 (by omega)).1) ?_
          obtain ⟨h2, r2, w2, l2, s2, zz2⟩ := s_Worker_report (k := 3) (t := W.1 13) ht hsy hyw w1 l1 s1
          have q2 : FW w y h h2 := FW.trans q1 zz2
          refine Er_inv0 (q' := w) (ci := 8) (av := [.int ((3 : Int32)), .int (Int32.ofNat (W.1 13))]) (rest := []) rfl rfl ⟨Nat.le_of_ble_eq_true rfl, Nat.le_of_ble_eq_true rfl⟩ rfl rfl w1.1.1 r2 ?_
          refine Er_fin rfl rfl ?_
          rw [jw_fold, if_pos hlt, if_neg hr1]
          exact ⟨rfl, w2, l2, s2, q2⟩
      · skip
        by_cases hr1 : (jw_fr1 W (PR j)).1 = true
        · by_cases hf : (W.2.2.2.1 2).length + (jw_fr1 W (PR j)).2.length ≤ 300
          · skip
            show Ev 104 0 [some (.ref w), none, none] [] h _
            refine Er_run 1 (pc' := 1) (ls' := [some (.ref w), none, none]) (st' := [.ref w]) rfl ?_
            refine Er_getI (v := Int32.ofNat (W.1 15)) rfl hw.1.1 (show gI h w 15 = Int32.ofNat (W.1 15) from (hw.2.1 15 (by omega)).1) ?_
            refine Er_run 1 (pc' := 5) (ls' := [some (.ref w), none, none]) (st' := [.ref w, .int (Int32.ofNat (W.1 15))]) rfl ?_
            refine Er_getR (x := w + 25) rfl hw.1.1 hw.1.2.2.2.2.2.2.2.1 ?_
            refine Er_inv1 (q' := w + 25) (ci := 0) (av := []) (rest := [.int (Int32.ofNat (W.1 15))]) rfl rfl ⟨Nat.le_of_ble_eq_true rfl, Nat.le_of_ble_eq_true rfl⟩ rfl rfl hw.2.2.2.2.2.1.1.1 (s_Pairs_length (show PL h (w + 25) 1000 (W.2.2.2.1 1) from hw.2.2.2.2.2.1)) ?_
            refine Er_run 1 (pc' := bif decide ((Int32.ofNat (W.1 15)) < (Int32.ofNat (W.2.2.2.1 1).length)) then 23 else 14) (ls' := [some (.ref w), none, none]) (st' := []) rfl ?_
            refine Er_pc (t := 23) (show (bif decide ((Int32.ofNat (W.1 15)) < (Int32.ofNat (W.2.2.2.1 1).length)) then 23 else 14) = 23 from by rw [show (decide ((Int32.ofNat (W.1 15)) < (Int32.ofNat (W.2.2.2.1 1).length))) = true from by rw [jx_lt (by omega) (by omega)]; exact decide_eq_true hlt]; rfl) ?_
            refine Er_run 1 (pc' := 24) (ls' := [some (.ref w), none, none]) (st' := [.ref w]) rfl ?_
            refine Er_getI (v := Int32.ofNat (W.1 12)) rfl hw.1.1 (show gI h w 12 = Int32.ofNat (W.1 12) from (hw.2.1 12 (by omega)).1) ?_
            refine Er_run 2 (pc' := bif !decide ((Int32.ofNat (W.1 12)) = ((2 : Int32))) then 35 else 31) (ls' := [some (.ref w), none, none]) (st' := []) rfl ?_
            refine Er_pc (t := 35) (show (bif !decide ((Int32.ofNat (W.1 12)) = ((2 : Int32))) then 35 else 31) = 35 from by rw [show (!decide ((Int32.ofNat (W.1 12)) = ((2 : Int32)))) = true from by rw [show (2 : Int32) = Int32.ofNat 2 from rfl, jx_eq (by omega) (by omega), decide_eq_false hst]; rfl]; rfl) ?_
            refine Er_run 3 (pc' := 38) (ls' := [some (.ref w), some (.int ((2 : Int32))), none]) (st' := [.ref w]) rfl ?_
            refine Er_getR (x := w + 25) rfl hw.1.1 hw.1.2.2.2.2.2.2.2.1 ?_
            refine Er_run 1 (pc' := 42) (ls' := [some (.ref w), some (.int ((2 : Int32))), none]) (st' := [.ref w, .ref (w + 25)]) rfl ?_
            refine Er_getI (v := Int32.ofNat (W.1 15)) rfl hw.1.1 (show gI h w 15 = Int32.ofNat (W.1 15) from (hw.2.1 15 (by omega)).1) ?_
            have hek := s_Pairs_endOfKey (show PL h (w + 25) 1000 (W.2.2.2.1 1) from hw.2.2.2.2.2.1) hpa
            rw [← show jx_eok (W.2.2.2.1 1) (W.1 15) = W.1 15 + 1 + (((W.2.2.2.1 1).drop (W.1 15 + 1)).takeWhile (fun q => q.1 == pa.1)).length from by rw [jx_eok, jx_k, hpa]; rfl] at hek
            refine Er_inv1 (q' := w + 25) (ci := 0) (av := [.int (Int32.ofNat (W.1 15))]) (rest := []) rfl rfl ⟨Nat.le_of_ble_eq_true rfl, Nat.le_of_ble_eq_true rfl⟩ rfl rfl hw.2.2.2.2.2.1.1.1 hek ?_
            refine Er_run 2 (pc' := 50) (ls' := [some (.ref w), some (.int ((2 : Int32))), some (.int (Int32.ofNat (jx_eok (W.2.2.2.1 1) (W.1 15))))]) (st' := [.ref w]) rfl ?_
            refine Er_getR (x := w + 14) rfl hw.1.1 hw.1.2.2.2.2.1 ?_
            refine Er_run 1 (pc' := 54) (ls' := [some (.ref w), some (.int ((2 : Int32))), some (.int (Int32.ofNat (jx_eok (W.2.2.2.1 1) (W.1 15))))]) (st' := [.ref w, .ref (w + 14)]) rfl ?_
            refine Er_getR (x := s + 52 + 11 * j) rfl hw.1.1 (Eq.trans hw.2.2.1 (show (W).2.1.map (fun j => s + 52 + 11 * j) = some (s + 52 + 11 * j) from by rw [show (W).2.1 = some j from hj]; rfl)) ?_
            refine Er_run 1 (pc' := 58) (ls' := [some (.ref w), some (.int ((2 : Int32))), some (.int (Int32.ofNat (jx_eok (W.2.2.2.1 1) (W.1 15))))]) (st' := [.int ((2 : Int32)), .ref (s + 52 + 11 * j), .ref (w + 14)]) rfl ?_
            refine Er_inv1 (q' := s + 52 + 11 * j) (ci := 2) (av := [.int ((2 : Int32))]) (rest := [.ref (w + 14)]) rfl rfl ⟨Nat.le_of_ble_eq_true rfl, Nat.le_of_ble_eq_true rfl⟩ rfl rfl (hs.2.2.2 j hj8).1.1 (s_Job_programFor2 (hs.2.2.2 j hj8).1) ?_
            refine Er_run 2 (pc' := 63) (ls' := [some (.ref w), some (.int ((2 : Int32))), some (.int (Int32.ofNat (jx_eok (W.2.2.2.1 1) (W.1 15))))]) (st' := [.ref w, .int ((2 : Int32)), .ref (s + 52 + 11 * j + 8), .ref (w + 14)]) rfl ?_
            refine Er_getR (x := w + 25) rfl hw.1.1 hw.1.2.2.2.2.2.2.2.1 ?_
            refine Er_run 1 (pc' := 67) (ls' := [some (.ref w), some (.int ((2 : Int32))), some (.int (Int32.ofNat (jx_eok (W.2.2.2.1 1) (W.1 15))))]) (st' := [.ref w, .ref (w + 25), .int ((2 : Int32)), .ref (s + 52 + 11 * j + 8), .ref (w + 14)]) rfl ?_
            refine Er_getI (v := Int32.ofNat (W.1 15)) rfl hw.1.1 (show gI h w 15 = Int32.ofNat (W.1 15) from (hw.2.1 15 (by omega)).1) ?_
            refine Er_run 1 (pc' := 71) (ls' := [some (.ref w), some (.int ((2 : Int32))), some (.int (Int32.ofNat (jx_eok (W.2.2.2.1 1) (W.1 15))))]) (st' := [.int (Int32.ofNat (jx_eok (W.2.2.2.1 1) (W.1 15))), .int (Int32.ofNat (W.1 15)), .ref (w + 25), .int ((2 : Int32)), .ref (s + 52 + 11 * j + 8), .ref (w + 14)]) rfl ?_
            obtain ⟨h1, r1, a1, e1, z1⟩ := s_Machine_call (f := W.1 15) (t := jx_eok (W.2.2.2.1 1) (W.1 15)) (kd := (2 : Int32)) (show MA h (w + 14) from hw.2.2.2.2.2.2.2.2.1) (hs.2.2.2 j hj8).2.2.2.2 (hok 2 (by omega)) (show PL h (w + 25) 1000 (W.2.2.2.1 1) from hw.2.2.2.2.2.1) (by omega) (by omega) (by omega) (by omega)
            rw [show jq_call (PR j 2) (2 : Int32) (W.2.2.2.1 1) (W.1 15) (jx_eok (W.2.2.2.1 1) (W.1 15)) = jw_fr1 W (PR j) from (by rw [jq_call_grp (by rw [jx_eok]; omega) hle, jw_fr1, show jw_wh W = 2 from by rw [jw_wh, if_neg hst]]; rfl)] at r1 e1
            rw [if_pos hr1] at r1
            have w1 : WW h1 w s y W := WW_ma z1 a1 hw
            have l1 := LL_fr z1 (by omega) hl
            have s1 := ST_fr z1 (by omega) hs
            have q1 : FW w y h h1 := FW.trans (FW.refl w y h) (FW.ofW z1 (by omega) (by omega))
            refine Er_inv1 (q' := w + 14) (ci := 4) (av := [.ref (s + 52 + 11 * j + 8), .int ((2 : Int32)), .ref (w + 25), .int (Int32.ofNat (W.1 15)), .int (Int32.ofNat (jx_eok (W.2.2.2.1 1) (W.1 15)))]) (rest := []) rfl rfl ⟨Nat.le_of_ble_eq_true rfl, Nat.le_of_ble_eq_true rfl⟩ rfl rfl hw.2.2.2.2.2.2.2.2.1.1.1 r1 ?_
            refine Er_run 1 (pc' := bif decide (((1 : Int32)) = 0) then 102 else 77) (ls' := [some (.ref w), some (.int ((2 : Int32))), some (.int (Int32.ofNat (jx_eok (W.2.2.2.1 1) (W.1 15))))]) (st' := []) rfl ?_
            refine Er_pc (t := 77) (show (bif decide (((1 : Int32)) = 0) then 102 else 77) = 77 from by rw [show (decide (((1 : Int32)) = 0)) = false from by decide]; rfl) ?_
            refine Er_run 1 (pc' := 78) (ls' := [some (.ref w), some (.int ((2 : Int32))), some (.int (Int32.ofNat (jx_eok (W.2.2.2.1 1) (W.1 15))))]) (st' := [.ref w]) rfl ?_
            refine Er_getR (x := w + 31) rfl w1.1.1 w1.1.2.2.2.2.2.2.2.2.2.1 ?_
            refine Er_run 1 (pc' := 82) (ls' := [some (.ref w), some (.int ((2 : Int32))), some (.int (Int32.ofNat (jx_eok (W.2.2.2.1 1) (W.1 15))))]) (st' := [.ref w, .ref (w + 31)]) rfl ?_
            refine Er_getR (x := w + 14) rfl w1.1.1 w1.1.2.2.2.2.1 ?_
            refine Er_inv1 (q' := w + 14) (ci := 4) (av := []) (rest := [.ref (w + 31)]) rfl rfl ⟨Nat.le_of_ble_eq_true rfl, Nat.le_of_ble_eq_true rfl⟩ rfl rfl w1.2.2.2.2.2.2.2.2.1.1.1 (s_Machine_emitted (show MA h1 (w + 14) from w1.2.2.2.2.2.2.2.2.1)) ?_
            obtain ⟨h2, r2, p2, z2⟩ := s_Pairs_addAll1 (show PL h1 (w + 31) 300 (W.2.2.2.1 2) from w1.2.2.2.2.2.2.2.1) e1 (by omega) hf
            have w2 : WW h2 w s y (jw_sP W 2 ((W.2.2.2.1 2) ++ ((jw_fr1 W (PR j)).2))) := WW_P2 z2 p2 w1
            have l2 := LL_fr z2 (by omega) l1
            have s2 := ST_fr z2 (by omega) s1
            have q2 : FW w y h h2 := FW.trans q1 (FW.ofW z2 (by omega) (by omega))
            refine Er_inv1 (q' := w + 31) (ci := 0) (av := [.ref (w + 14 + 3)]) (rest := []) rfl rfl ⟨Nat.le_of_ble_eq_true rfl, Nat.le_of_ble_eq_true rfl⟩ rfl rfl w1.2.2.2.2.2.2.2.1.1.1 r2 ?_
            refine Er_run 1 (pc' := bif decide (((1 : Int32)) = 0) then 102 else 94) (ls' := [some (.ref w), some (.int ((2 : Int32))), some (.int (Int32.ofNat (jx_eok (W.2.2.2.1 1) (W.1 15))))]) (st' := []) rfl ?_
            refine Er_pc (t := 94) (show (bif decide (((1 : Int32)) = 0) then 102 else 94) = 94 from by rw [show (decide (((1 : Int32)) = 0)) = false from by decide]; rfl) ?_
            refine Er_run 2 (pc' := 96) (ls' := [some (.ref w), some (.int ((2 : Int32))), some (.int (Int32.ofNat (jx_eok (W.2.2.2.1 1) (W.1 15))))]) (st' := [.int (Int32.ofNat (jx_eok (W.2.2.2.1 1) (W.1 15))), .ref w]) rfl ?_
            refine Er_putI rfl w2.1.1 ?_
            have z3 : Fr w (w + 1) h2 (setI h2 w 15 (Int32.ofNat (jx_eok (W.2.2.2.1 1) (W.1 15)))) := Fr.setI (by omega) (by omega)
            have w3 : WW (setI h2 w 15 (Int32.ofNat (jx_eok (W.2.2.2.1 1) (W.1 15)))) w s y (jw_sg (jw_sP W 2 ((W.2.2.2.1 2) ++ ((jw_fr1 W (PR j)).2))) 15 ((jx_eok (W.2.2.2.1 1) (W.1 15)))) := WW_sg (x := (jx_eok (W.2.2.2.1 1) (W.1 15))) (by omega) w2
            generalize setI h2 w 15 (Int32.ofNat (jx_eok (W.2.2.2.1 1) (W.1 15))) = h3 at z3 w3 ⊢
            have l3 := LL_fr z3 (by omega) l2
            have s3 := ST_fr z3 (by omega) s2
            have q3 : FW w y h h3 := FW.trans q2 (FW.ofW z3 (by omega) (by omega))
            refine Er_run 1 (pc' := 111) (ls' := [some (.ref w), some (.int ((2 : Int32))), some (.int (Int32.ofNat (jx_eok (W.2.2.2.1 1) (W.1 15))))]) (st' := []) rfl ?_
            refine Er_fin rfl rfl ?_
            rw [jw_fold, if_pos hlt, if_pos hr1, if_pos hf]
            exact ⟨rfl, w3, l3, s3, q3⟩
          · skip
            show Ev 104 0 [some (.ref w), none, none] [] h _
            refine Er_run 1 (pc' := 1) (ls' := [some (.ref w), none, none]) (st' := [.ref w]) rfl ?_
            refine Er_getI (v := Int32.ofNat (W.1 15)) rfl hw.1.1 (show gI h w 15 = Int32.ofNat (W.1 15) from (hw.2.1 15 (by omega)).1) ?_
            refine Er_run 1 (pc' := 5) (ls' := [some (.ref w), none, none]) (st' := [.ref w, .int (Int32.ofNat (W.1 15))]) rfl ?_
            refine Er_getR (x := w + 25) rfl hw.1.1 hw.1.2.2.2.2.2.2.2.1 ?_
            refine Er_inv1 (q' := w + 25) (ci := 0) (av := []) (rest := [.int (Int32.ofNat (W.1 15))]) rfl rfl ⟨Nat.le_of_ble_eq_true rfl, Nat.le_of_ble_eq_true rfl⟩ rfl rfl hw.2.2.2.2.2.1.1.1 (s_Pairs_length (show PL h (w + 25) 1000 (W.2.2.2.1 1) from hw.2.2.2.2.2.1)) ?_
            refine Er_run 1 (pc' := bif decide ((Int32.ofNat (W.1 15)) < (Int32.ofNat (W.2.2.2.1 1).length)) then 23 else 14) (ls' := [some (.ref w), none, none]) (st' := []) rfl ?_
            refine Er_pc (t := 23) (show (bif decide ((Int32.ofNat (W.1 15)) < (Int32.ofNat (W.2.2.2.1 1).length)) then 23 else 14) = 23 from by rw [show (decide ((Int32.ofNat (W.1 15)) < (Int32.ofNat (W.2.2.2.1 1).length))) = true from by rw [jx_lt (by omega) (by omega)]; exact decide_eq_true hlt]; rfl) ?_
            refine Er_run 1 (pc' := 24) (ls' := [some (.ref w), none, none]) (st' := [.ref w]) rfl ?_
            refine Er_getI (v := Int32.ofNat (W.1 12)) rfl hw.1.1 (show gI h w 12 = Int32.ofNat (W.1 12) from (hw.2.1 12 (by omega)).1) ?_
            refine Er_run 2 (pc' := bif !decide ((Int32.ofNat (W.1 12)) = ((2 : Int32))) then 35 else 31) (ls' := [some (.ref w), none, none]) (st' := []) rfl ?_
            refine Er_pc (t := 35) (show (bif !decide ((Int32.ofNat (W.1 12)) = ((2 : Int32))) then 35 else 31) = 35 from by rw [show (!decide ((Int32.ofNat (W.1 12)) = ((2 : Int32)))) = true from by rw [show (2 : Int32) = Int32.ofNat 2 from rfl, jx_eq (by omega) (by omega), decide_eq_false hst]; rfl]; rfl) ?_
            refine Er_run 3 (pc' := 38) (ls' := [some (.ref w), some (.int ((2 : Int32))), none]) (st' := [.ref w]) rfl ?_
            refine Er_getR (x := w + 25) rfl hw.1.1 hw.1.2.2.2.2.2.2.2.1 ?_
            refine Er_run 1 (pc' := 42) (ls' := [some (.ref w), some (.int ((2 : Int32))), none]) (st' := [.ref w, .ref (w + 25)]) rfl ?_
            refine Er_getI (v := Int32.ofNat (W.1 15)) rfl hw.1.1 (show gI h w 15 = Int32.ofNat (W.1 15) from (hw.2.1 15 (by omega)).1) ?_
            have hek := s_Pairs_endOfKey (show PL h (w + 25) 1000 (W.2.2.2.1 1) from hw.2.2.2.2.2.1) hpa
            rw [← show jx_eok (W.2.2.2.1 1) (W.1 15) = W.1 15 + 1 + (((W.2.2.2.1 1).drop (W.1 15 + 1)).takeWhile (fun q => q.1 == pa.1)).length from by rw [jx_eok, jx_k, hpa]; rfl] at hek
            refine Er_inv1 (q' := w + 25) (ci := 0) (av := [.int (Int32.ofNat (W.1 15))]) (rest := []) rfl rfl ⟨Nat.le_of_ble_eq_true rfl, Nat.le_of_ble_eq_true rfl⟩ rfl rfl hw.2.2.2.2.2.1.1.1 hek ?_
            refine Er_run 2 (pc' := 50) (ls' := [some (.ref w), some (.int ((2 : Int32))), some (.int (Int32.ofNat (jx_eok (W.2.2.2.1 1) (W.1 15))))]) (st' := [.ref w]) rfl ?_
            refine Er_getR (x := w + 14) rfl hw.1.1 hw.1.2.2.2.2.1 ?_
            refine Er_run 1 (pc' := 54) (ls' := [some (.ref w), some (.int ((2 : Int32))), some (.int (Int32.ofNat (jx_eok (W.2.2.2.1 1) (W.1 15))))]) (st' := [.ref w, .ref (w + 14)]) rfl ?_
            refine Er_getR (x := s + 52 + 11 * j) rfl hw.1.1 (Eq.trans hw.2.2.1 (show (W).2.1.map (fun j => s + 52 + 11 * j) = some (s + 52 + 11 * j) from by rw [show (W).2.1 = some j from hj]; rfl)) ?_
            refine Er_run 1 (pc' := 58) (ls' := [some (.ref w), some (.int ((2 : Int32))), some (.int (Int32.ofNat (jx_eok (W.2.2.2.1 1) (W.1 15))))]) (st' := [.int ((2 : Int32)), .ref (s + 52 + 11 * j), .ref (w + 14)]) rfl ?_
            refine Er_inv1 (q' := s + 52 + 11 * j) (ci := 2) (av := [.int ((2 : Int32))]) (rest := [.ref (w + 14)]) rfl rfl ⟨Nat.le_of_ble_eq_true rfl, Nat.le_of_ble_eq_true rfl⟩ rfl rfl (hs.2.2.2 j hj8).1.1 (s_Job_programFor2 (hs.2.2.2 j hj8).1) ?_
            refine Er_run 2 (pc' := 63) (ls' := [some (.ref w), some (.int ((2 : Int32))), some (.int (Int32.ofNat (jx_eok (W.2.2.2.1 1) (W.1 15))))]) (st' := [.ref w, .int ((2 : Int32)), .ref (s + 52 + 11 * j + 8), .ref (w + 14)]) rfl ?_
            refine Er_getR (x := w + 25) rfl hw.1.1 hw.1.2.2.2.2.2.2.2.1 ?_
            refine Er_run 1 (pc' := 67) (ls' := [some (.ref w), some (.int ((2 : Int32))), some (.int (Int32.ofNat (jx_eok (W.2.2.2.1 1) (W.1 15))))]) (st' := [.ref w, .ref (w + 25), .int ((2 : Int32)), .ref (s + 52 + 11 * j + 8), .ref (w + 14)]) rfl ?_
            refine Er_getI (v := Int32.ofNat (W.1 15)) rfl hw.1.1 (show gI h w 15 = Int32.ofNat (W.1 15) from (hw.2.1 15 (by omega)).1) ?_
            refine Er_run 1 (pc' := 71) (ls' := [some (.ref w), some (.int ((2 : Int32))), some (.int (Int32.ofNat (jx_eok (W.2.2.2.1 1) (W.1 15))))]) (st' := [.int (Int32.ofNat (jx_eok (W.2.2.2.1 1) (W.1 15))), .int (Int32.ofNat (W.1 15)), .ref (w + 25), .int ((2 : Int32)), .ref (s + 52 + 11 * j + 8), .ref (w + 14)]) rfl ?_
            obtain ⟨h1, r1, a1, e1, z1⟩ := s_Machine_call (f := W.1 15) (t := jx_eok (W.2.2.2.1 1) (W.1 15)) (kd := (2 : Int32)) (show MA h (w + 14) from hw.2.2.2.2.2.2.2.2.1) (hs.2.2.2 j hj8).2.2.2.2 (hok 2 (by omega)) (show PL h (w + 25) 1000 (W.2.2.2.1 1) from hw.2.2.2.2.2.1) (by omega) (by omega) (by omega) (by omega)
            rw [show jq_call (PR j 2) (2 : Int32) (W.2.2.2.1 1) (W.1 15) (jx_eok (W.2.2.2.1 1) (W.1 15)) = jw_fr1 W (PR j) from (by rw [jq_call_grp (by rw [jx_eok]; omega) hle, jw_fr1, show jw_wh W = 2 from by rw [jw_wh, if_neg hst]]; rfl)] at r1 e1
            rw [if_pos hr1] at r1
            have w1 : WW h1 w s y W := WW_ma z1 a1 hw
            have l1 := LL_fr z1 (by omega) hl
            have s1 := ST_fr z1 (by omega) hs
            have q1 : FW w y h h1 := FW.trans (FW.refl w y h) (FW.ofW z1 (by omega) (by omega))
            refine Er_inv1 (q' := w + 14) (ci := 4) (av := [.ref (s + 52 + 11 * j + 8), .int ((2 : Int32)), .ref (w + 25), .int (Int32.ofNat (W.1 15)), .int (Int32.ofNat (jx_eok (W.2.2.2.1 1) (W.1 15)))]) (rest := []) rfl rfl ⟨Nat.le_of_ble_eq_true rfl, Nat.le_of_ble_eq_true rfl⟩ rfl rfl hw.2.2.2.2.2.2.2.2.1.1.1 r1 ?_
            refine Er_run 1 (pc' := bif decide (((1 : Int32)) = 0) then 102 else 77) (ls' := [some (.ref w), some (.int ((2 : Int32))), some (.int (Int32.ofNat (jx_eok (W.2.2.2.1 1) (W.1 15))))]) (st' := []) rfl ?_
            refine Er_pc (t := 77) (show (bif decide (((1 : Int32)) = 0) then 102 else 77) = 77 from by rw [show (decide (((1 : Int32)) = 0)) = false from by decide]; rfl) ?_
            refine Er_run 1 (pc' := 78) (ls' := [some (.ref w), some (.int ((2 : Int32))), some (.int (Int32.ofNat (jx_eok (W.2.2.2.1 1) (W.1 15))))]) (st' := [.ref w]) rfl ?_
            refine Er_getR (x := w + 31) rfl w1.1.1 w1.1.2.2.2.2.2.2.2.2.2.1 ?_
            refine Er_run 1 (pc' := 82) (ls' := [some (.ref w), some (.int ((2 : Int32))), some (.int (Int32.ofNat (jx_eok (W.2.2.2.1 1) (W.1 15))))]) (st' := [.ref w, .ref (w + 31)]) rfl ?_
            refine Er_getR (x := w + 14) rfl w1.1.1 w1.1.2.2.2.2.1 ?_
            refine Er_inv1 (q' := w + 14) (ci := 4) (av := []) (rest := [.ref (w + 31)]) rfl rfl ⟨Nat.le_of_ble_eq_true rfl, Nat.le_of_ble_eq_true rfl⟩ rfl rfl w1.2.2.2.2.2.2.2.2.1.1.1 (s_Machine_emitted (show MA h1 (w + 14) from w1.2.2.2.2.2.2.2.2.1)) ?_
            refine Er_inv1 (q' := w + 31) (ci := 0) (av := [.ref (w + 14 + 3)]) (rest := []) rfl rfl ⟨Nat.le_of_ble_eq_true rfl, Nat.le_of_ble_eq_true rfl⟩ rfl rfl w1.2.2.2.2.2.2.2.1.1.1 (s_Pairs_addAll0 (show PL h1 (w + 31) 300 (W.2.2.2.1 2) from w1.2.2.2.2.2.2.2.1) e1 (by omega)) ?_
            refine Er_run 1 (pc' := bif decide (((0 : Int32)) = 0) then 102 else 94) (ls' := [some (.ref w), some (.int ((2 : Int32))), some (.int (Int32.ofNat (jx_eok (W.2.2.2.1 1) (W.1 15))))]) (st' := []) rfl ?_
            refine Er_pc (t := 102) (show (bif decide (((0 : Int32)) = 0) then 102 else 94) = 102 from by rw [show (decide (((0 : Int32)) = 0)) = true from by decide]; rfl) ?_
            refine Er_run 3 (pc' := 105) (ls' := [some (.ref w), some (.int ((2 : Int32))), some (.int (Int32.ofNat (jx_eok (W.2.2.2.1 1) (W.1 15))))]) (st' := [.ref w, .int ((3 : Int32)), .ref w]) rfl ?_
            refine Er_getI (v := Int32.ofNat (W.1 13)) rfl w1.1.1 (show gI h1 w 13 = Int32.ofNat (W.1 13) from (w1.2.1 13 (by omega)).1) ?_
            obtain ⟨h2, r2, w2, l2, s2, zz2⟩ := s_Worker_report (k := 3) (t := W.1 13) ht hsy hyw w1 l1 s1
            have q2 : FW w y h h2 := FW.trans q1 zz2
            refine Er_inv0 (q' := w) (ci := 8) (av := [.int ((3 : Int32)), .int (Int32.ofNat (W.1 13))]) (rest := []) rfl rfl ⟨Nat.le_of_ble_eq_true rfl, Nat.le_of_ble_eq_true rfl⟩ rfl rfl w1.1.1 r2 ?_
            refine Er_fin rfl rfl ?_
            rw [jw_fold, if_pos hlt, if_pos hr1, if_neg hf]
            exact ⟨rfl, w2, l2, s2, q2⟩
        · skip
          show Ev 104 0 [some (.ref w), none, none] [] h _
          refine Er_run 1 (pc' := 1) (ls' := [some (.ref w), none, none]) (st' := [.ref w]) rfl ?_
          refine Er_getI (v := Int32.ofNat (W.1 15)) rfl hw.1.1 (show gI h w 15 = Int32.ofNat (W.1 15) from (hw.2.1 15 (by omega)).1) ?_
          refine Er_run 1 (pc' := 5) (ls' := [some (.ref w), none, none]) (st' := [.ref w, .int (Int32.ofNat (W.1 15))]) rfl ?_
          refine Er_getR (x := w + 25) rfl hw.1.1 hw.1.2.2.2.2.2.2.2.1 ?_
          refine Er_inv1 (q' := w + 25) (ci := 0) (av := []) (rest := [.int (Int32.ofNat (W.1 15))]) rfl rfl ⟨Nat.le_of_ble_eq_true rfl, Nat.le_of_ble_eq_true rfl⟩ rfl rfl hw.2.2.2.2.2.1.1.1 (s_Pairs_length (show PL h (w + 25) 1000 (W.2.2.2.1 1) from hw.2.2.2.2.2.1)) ?_
          refine Er_run 1 (pc' := bif decide ((Int32.ofNat (W.1 15)) < (Int32.ofNat (W.2.2.2.1 1).length)) then 23 else 14) (ls' := [some (.ref w), none, none]) (st' := []) rfl ?_
          refine Er_pc (t := 23) (show (bif decide ((Int32.ofNat (W.1 15)) < (Int32.ofNat (W.2.2.2.1 1).length)) then 23 else 14) = 23 from by rw [show (decide ((Int32.ofNat (W.1 15)) < (Int32.ofNat (W.2.2.2.1 1).length))) = true from by rw [jx_lt (by omega) (by omega)]; exact decide_eq_true hlt]; rfl) ?_
          refine Er_run 1 (pc' := 24) (ls' := [some (.ref w), none, none]) (st' := [.ref w]) rfl ?_
          refine Er_getI (v := Int32.ofNat (W.1 12)) rfl hw.1.1 (show gI h w 12 = Int32.ofNat (W.1 12) from (hw.2.1 12 (by omega)).1) ?_
          refine Er_run 2 (pc' := bif !decide ((Int32.ofNat (W.1 12)) = ((2 : Int32))) then 35 else 31) (ls' := [some (.ref w), none, none]) (st' := []) rfl ?_
          refine Er_pc (t := 35) (show (bif !decide ((Int32.ofNat (W.1 12)) = ((2 : Int32))) then 35 else 31) = 35 from by rw [show (!decide ((Int32.ofNat (W.1 12)) = ((2 : Int32)))) = true from by rw [show (2 : Int32) = Int32.ofNat 2 from rfl, jx_eq (by omega) (by omega), decide_eq_false hst]; rfl]; rfl) ?_
          refine Er_run 3 (pc' := 38) (ls' := [some (.ref w), some (.int ((2 : Int32))), none]) (st' := [.ref w]) rfl ?_
          refine Er_getR (x := w + 25) rfl hw.1.1 hw.1.2.2.2.2.2.2.2.1 ?_
          refine Er_run 1 (pc' := 42) (ls' := [some (.ref w), some (.int ((2 : Int32))), none]) (st' := [.ref w, .ref (w + 25)]) rfl ?_
          refine Er_getI (v := Int32.ofNat (W.1 15)) rfl hw.1.1 (show gI h w 15 = Int32.ofNat (W.1 15) from (hw.2.1 15 (by omega)).1) ?_
          have hek := s_Pairs_endOfKey (show PL h (w + 25) 1000 (W.2.2.2.1 1) from hw.2.2.2.2.2.1) hpa
          rw [← show jx_eok (W.2.2.2.1 1) (W.1 15) = W.1 15 + 1 + (((W.2.2.2.1 1).drop (W.1 15 + 1)).takeWhile (fun q => q.1 == pa.1)).length from by rw [jx_eok, jx_k, hpa]; rfl] at hek
          refine Er_inv1 (q' := w + 25) (ci := 0) (av := [.int (Int32.ofNat (W.1 15))]) (rest := []) rfl rfl ⟨Nat.le_of_ble_eq_true rfl, Nat.le_of_ble_eq_true rfl⟩ rfl rfl hw.2.2.2.2.2.1.1.1 hek ?_
          refine Er_run 2 (pc' := 50) (ls' := [some (.ref w), some (.int ((2 : Int32))), some (.int (Int32.ofNat (jx_eok (W.2.2.2.1 1) (W.1 15))))]) (st' := [.ref w]) rfl ?_
          refine Er_getR (x := w + 14) rfl hw.1.1 hw.1.2.2.2.2.1 ?_
          refine Er_run 1 (pc' := 54) (ls' := [some (.ref w), some (.int ((2 : Int32))), some (.int (Int32.ofNat (jx_eok (W.2.2.2.1 1) (W.1 15))))]) (st' := [.ref w, .ref (w + 14)]) rfl ?_
          refine Er_getR (x := s + 52 + 11 * j) rfl hw.1.1 (Eq.trans hw.2.2.1 (show (W).2.1.map (fun j => s + 52 + 11 * j) = some (s + 52 + 11 * j) from by rw [show (W).2.1 = some j from hj]; rfl)) ?_
          refine Er_run 1 (pc' := 58) (ls' := [some (.ref w), some (.int ((2 : Int32))), some (.int (Int32.ofNat (jx_eok (W.2.2.2.1 1) (W.1 15))))]) (st' := [.int ((2 : Int32)), .ref (s + 52 + 11 * j), .ref (w + 14)]) rfl ?_
          refine Er_inv1 (q' := s + 52 + 11 * j) (ci := 2) (av := [.int ((2 : Int32))]) (rest := [.ref (w + 14)]) rfl rfl ⟨Nat.le_of_ble_eq_true rfl, Nat.le_of_ble_eq_true rfl⟩ rfl rfl (hs.2.2.2 j hj8).1.1 (s_Job_programFor2 (hs.2.2.2 j hj8).1) ?_
          refine Er_run 2 (pc' := 63) (ls' := [some (.ref w), some (.int ((2 : Int32))), some (.int (Int32.ofNat (jx_eok (W.2.2.2.1 1) (W.1 15))))]) (st' := [.ref w, .int ((2 : Int32)), .ref (s + 52 + 11 * j + 8), .ref (w + 14)]) rfl ?_
          refine Er_getR (x := w + 25) rfl hw.1.1 hw.1.2.2.2.2.2.2.2.1 ?_
          refine Er_run 1 (pc' := 67) (ls' := [some (.ref w), some (.int ((2 : Int32))), some (.int (Int32.ofNat (jx_eok (W.2.2.2.1 1) (W.1 15))))]) (st' := [.ref w, .ref (w + 25), .int ((2 : Int32)), .ref (s + 52 + 11 * j + 8), .ref (w + 14)]) rfl ?_
          refine Er_getI (v := Int32.ofNat (W.1 15)) rfl hw.1.1 (show gI h w 15 = Int32.ofNat (W.1 15) from (hw.2.1 15 (by omega)).1) ?_
          refine Er_run 1 (pc' := 71) (ls' := [some (.ref w), some (.int ((2 : Int32))), some (.int (Int32.ofNat (jx_eok (W.2.2.2.1 1) (W.1 15))))]) (st' := [.int (Int32.ofNat (jx_eok (W.2.2.2.1 1) (W.1 15))), .int (Int32.ofNat (W.1 15)), .ref (w + 25), .int ((2 : Int32)), .ref (s + 52 + 11 * j + 8), .ref (w + 14)]) rfl ?_
          obtain ⟨h1, r1, a1, e1, z1⟩ := s_Machine_call (f := W.1 15) (t := jx_eok (W.2.2.2.1 1) (W.1 15)) (kd := (2 : Int32)) (show MA h (w + 14) from hw.2.2.2.2.2.2.2.2.1) (hs.2.2.2 j hj8).2.2.2.2 (hok 2 (by omega)) (show PL h (w + 25) 1000 (W.2.2.2.1 1) from hw.2.2.2.2.2.1) (by omega) (by omega) (by omega) (by omega)
          rw [show jq_call (PR j 2) (2 : Int32) (W.2.2.2.1 1) (W.1 15) (jx_eok (W.2.2.2.1 1) (W.1 15)) = jw_fr1 W (PR j) from (by rw [jq_call_grp (by rw [jx_eok]; omega) hle, jw_fr1, show jw_wh W = 2 from by rw [jw_wh, if_neg hst]]; rfl)] at r1 e1
          rw [if_neg hr1] at r1
          have w1 : WW h1 w s y W := WW_ma z1 a1 hw
          have l1 := LL_fr z1 (by omega) hl
          have s1 := ST_fr z1 (by omega) hs
          have q1 : FW w y h h1 := FW.trans (FW.refl w y h) (FW.ofW z1 (by omega) (by omega))
          refine Er_inv1 (q' := w + 14) (ci := 4) (av := [.ref (s + 52 + 11 * j + 8), .int ((2 : Int32)), .ref (w + 25), .int (Int32.ofNat (W.1 15)), .int (Int32.ofNat (jx_eok (W.2.2.2.1 1) (W.1 15)))]) (rest := []) rfl rfl ⟨Nat.le_of_ble_eq_true rfl, Nat.le_of_ble_eq_true rfl⟩ rfl rfl hw.2.2.2.2.2.2.2.2.1.1.1 r1 ?_
          refine Er_run 1 (pc' := bif decide (((0 : Int32)) = 0) then 102 else 77) (ls' := [some (.ref w), some (.int ((2 : Int32))), some (.int (Int32.ofNat (jx_eok (W.2.2.2.1 1) (W.1 15))))]) (st' := []) rfl ?_
          refine Er_pc (t := 102) (show (bif decide (((0 : Int32)) = 0) then 102 else 77) = 102 from by rw [show (decide (((0 : Int32)) = 0)) = true from by decide]; rfl) ?_
          refine Er_run 3 (pc' := 105) (ls' := [some (.ref w), some (.int ((2 : Int32))), some (.int (Int32.ofNat (jx_eok (W.2.2.2.1 1) (W.1 15))))]) (st' := [.ref w, .int ((3 : Int32)), .ref w]) rfl ?_
          refine Er_getI (v := Int32.ofNat (W.1 13)) rfl w1.1.1 (show gI h1 w 13 = Int32.ofNat (W.1 13) from (w1.2.1 13 (by omega)).1) ?_
          obtain ⟨h2, r2, w2, l2, s2, zz2⟩ := s_Worker_report (k := 3) (t := W.1 13) ht hsy hyw w1 l1 s1
          have q2 : FW w y h h2 := FW.trans q1 zz2
          refine Er_inv0 (q' := w) (ci := 8) (av := [.int ((3 : Int32)), .int (Int32.ofNat (W.1 13))]) (rest := []) rfl rfl ⟨Nat.le_of_ble_eq_true rfl, Nat.le_of_ble_eq_true rfl⟩ rfl rfl w1.1.1 r2 ?_
          refine Er_fin rfl rfl ?_
          rw [jw_fold, if_pos hlt, if_neg hr1]
          exact ⟨rfl, w2, l2, s2, q2⟩
    · skip
      show Ev 104 0 [some (.ref w), none, none] [] h _
      refine Er_run 1 (pc' := 1) (ls' := [some (.ref w), none, none]) (st' := [.ref w]) rfl ?_
      refine Er_getI (v := Int32.ofNat (W.1 15)) rfl hw.1.1 (show gI h w 15 = Int32.ofNat (W.1 15) from (hw.2.1 15 (by omega)).1) ?_
      refine Er_run 1 (pc' := 5) (ls' := [some (.ref w), none, none]) (st' := [.ref w, .int (Int32.ofNat (W.1 15))]) rfl ?_
      refine Er_getR (x := w + 25) rfl hw.1.1 hw.1.2.2.2.2.2.2.2.1 ?_
      refine Er_inv1 (q' := w + 25) (ci := 0) (av := []) (rest := [.int (Int32.ofNat (W.1 15))]) rfl rfl ⟨Nat.le_of_ble_eq_true rfl, Nat.le_of_ble_eq_true rfl⟩ rfl rfl hw.2.2.2.2.2.1.1.1 (s_Pairs_length (show PL h (w + 25) 1000 (W.2.2.2.1 1) from hw.2.2.2.2.2.1)) ?_
      refine Er_run 1 (pc' := bif decide ((Int32.ofNat (W.1 15)) < (Int32.ofNat (W.2.2.2.1 1).length)) then 23 else 14) (ls' := [some (.ref w), none, none]) (st' := []) rfl ?_
      refine Er_pc (t := 14) (show (bif decide ((Int32.ofNat (W.1 15)) < (Int32.ofNat (W.2.2.2.1 1).length)) then 23 else 14) = 14 from by rw [show (decide ((Int32.ofNat (W.1 15)) < (Int32.ofNat (W.2.2.2.1 1).length))) = false from by rw [jx_lt (by omega) (by omega)]; exact decide_eq_false hlt]; rfl) ?_
      refine Er_run 2 (pc' := 16) (ls' := [some (.ref w), none, none]) (st' := [.ref w, .ref w]) rfl ?_
      refine Er_getR (x := w + 31) rfl hw.1.1 hw.1.2.2.2.2.2.2.2.2.2.1 ?_
      obtain ⟨h1, r1, w1, l1, s1, zz1⟩ := s_Worker_keep ht hta hsy hyw hw hl hs
      have q1 : FW w y h h1 := FW.trans (FW.refl w y h) zz1
      refine Er_inv0 (q' := w) (ci := 8) (av := [.ref (w + 31)]) (rest := []) rfl rfl ⟨Nat.le_of_ble_eq_true rfl, Nat.le_of_ble_eq_true rfl⟩ rfl rfl hw.1.1 r1 ?_
      refine Er_fin rfl rfl ?_
      rw [jw_fold, if_neg hlt]
      exact ⟨rfl, w1, l1, s1, q1⟩
  obtain ⟨r, h', hr, e, hq⟩ := Run_of (Nat.le_of_ble_eq_true rfl) hx
  subst e
  exact ⟨h', hr, hq⟩
def jw_rc (W : Jw) (l : Jl) : Int64 × Int64 := (l[W.1 13 * 16 + W.1 15]?).getD (0, 0)
def jw_mr (W : Jw) (l : Jl) (mp : List (Int32 × Int64)) : Bool × Jl := jq_grp mp 0 [jw_rc W l]
def jw_m1 (W : Jw) (l : Jl) (mp : List (Int32 × Int64)) : Jw := jw_sg (jw_sP W 0 (W.2.2.2.1 0 ++ (jw_mr W l mp).2)) 15 (W.1 15 + 1)
/-- mapOne over the INPUTS l -/
def jw_map (W : Jw) (L : Jn) (l : Jl) (pr : Nat → List (Int32 × Int64)) : Jw × Jn := if W.1 15 < 16 ∧ W.1 13 * 16 + W.1 15 < l.length then (if (jw_mr W l (pr 0)).1 = true then (if 24 - (W.2.2.2.1 0 ++ (jw_mr W l (pr 0)).2).length < 4 then (jw_spill (jw_m1 W l (pr 0)), L) else (jw_m1 W l (pr 0), L)) else jw_end W L 3) else (jw_merge W (pr 1), L)
theorem s_Worker_mapOne (ht : W.1 13 < 44) (hbo : jb_ok G j) (hmg : ¬ (W.1 15 < 16 ∧ W.1 13 * 16 + W.1 15 < (jb_in G F j).length) → (W.2.2.2.1 3).length + (jx_ord 10 1 (W.2.2.2.1 0)).length ≤ 64 ∧ (W.2.2.2.1 1).length + (W.2.2.2.1 3 ++ jx_ord 10 1 (W.2.2.2.1 0)).length ≤ 1000 ∧ (jw_all W).length ≤ 1000 ∧ ((PR j 1).length = 0 → (W.2.2.2.1 2).length + (jw_all W).length ≤ 300)) (hil : (jb_in G F j).length ≤ 600) (hbu0 : W.1 15 < 16 ∧ W.1 13 * 16 + W.1 15 < (jb_in G F j).length → (W.2.2.2.1 0).length + (jw_mr W (jb_in G F j) (PR j 0)).2.length ≤ 24) (hsp : W.1 15 < 16 ∧ W.1 13 * 16 + W.1 15 < (jb_in G F j).length → 24 - (W.2.2.2.1 0 ++ (jw_mr W (jb_in G F j) (PR j 0)).2).length < 4 → (W.2.2.2.1 3).length + (jx_ord 10 1 (W.2.2.2.1 0 ++ (jw_mr W (jb_in G F j) (PR j 0)).2)).length ≤ 64) (hj : W.2.1 = some j) (hj8 : j < 8) (hok : ∀ i, i < 3 → jq_ok (PR j i)) (hsy : s + 140 ≤ y) (hyw : y + 229 ≤ w) (hw : WW h w s y W) (hl : LL h y L) (hs : ST h s cl G PR F) : ∃ h', Run 100 [.ref w] h (.inl none) h' ∧ WW h' w s y ((jw_map W L (jb_in G F j) (PR j)).1) ∧ LL h' y ((jw_map W L (jb_in G F j) (PR j)).2) ∧ ST h' s cl G PR F ∧ FW w y h h' := by
  have hx : Ev 100 0 (sm_pad (sm_ent [.ref w]) (sm_prog.2.1 100)) [] h (fun r h1 => r = .inl none ∧ WW h1 w s y ((jw_map W L (jb_in G F j) (PR j)).1) ∧ LL h1 y ((jw_map W L (jb_in G F j) (PR j)).2) ∧ ST h1 s cl G PR F ∧ FW w y h h1) := by
    have b15 := (hw.2.1 15 (by omega)).2
    by_cases hc : W.1 15 < 16 ∧ W.1 13 * 16 + W.1 15 < (jb_in G F j).length
    · obtain ⟨hc1, hc2⟩ := hc
      have hc : W.1 15 < 16 ∧ W.1 13 * 16 + W.1 15 < (jb_in G F j).length := ⟨hc1, hc2⟩
      obtain ⟨pr, hpr⟩ := jx_at hc2
      by_cases hr1 : (jw_mr W (jb_in G F j) (PR j 0)).1 = true
      · have hbu := hbu0 hc
        by_cases hsl : 24 - (W.2.2.2.1 0 ++ (jw_mr W (jb_in G F j) (PR j 0)).2).length < 4
        · skip
          show Ev 100 0 [some (.ref w), none, none, none] [] h _
          refine Er_run 1 (pc' := 1) (ls' := [some (.ref w), none, none, none]) (st' := [.ref w]) rfl ?_
          refine Er_getI (v := Int32.ofNat (W.1 13)) rfl hw.1.1 (show gI h w 13 = Int32.ofNat (W.1 13) from (hw.2.1 13 (by omega)).1) ?_
          refine Er_run 3 (pc' := 8) (ls' := [some (.ref w), none, none, none]) (st' := [.ref w, .int ((Int32.ofNat (W.1 13)) * ((16 : Int32)))]) rfl ?_
          refine Er_getI (v := Int32.ofNat (W.1 15)) rfl hw.1.1 (show gI h w 15 = Int32.ofNat (W.1 15) from (hw.2.1 15 (by omega)).1) ?_
          refine Er_run 3 (pc' := 14) (ls' := [some (.ref w), some (.int (((Int32.ofNat (W.1 13)) * ((16 : Int32))) + (Int32.ofNat (W.1 15)))), none, none]) (st' := [.ref w]) rfl ?_
          refine Er_getI (v := Int32.ofNat (W.1 15)) rfl hw.1.1 (show gI h w 15 = Int32.ofNat (W.1 15) from (hw.2.1 15 (by omega)).1) ?_
          refine Er_run 2 (pc' := bif decide (((16 : Int32)) ≤ (Int32.ofNat (W.1 15))) then 37 else 22) (ls' := [some (.ref w), some (.int (((Int32.ofNat (W.1 13)) * ((16 : Int32))) + (Int32.ofNat (W.1 15)))), none, none]) (st' := []) rfl ?_
          refine Er_pc (t := 22) (show (bif decide (((16 : Int32)) ≤ (Int32.ofNat (W.1 15))) then 37 else 22) = 22 from by rw [show (decide (((16 : Int32)) ≤ (Int32.ofNat (W.1 15)))) = false from by rw [show (16 : Int32) = Int32.ofNat 16 from rfl, jx_le (by omega) (by omega)]; exact decide_eq_false (by omega)]; rfl) ?_
          refine Er_run 2 (pc' := 24) (ls' := [some (.ref w), some (.int (((Int32.ofNat (W.1 13)) * ((16 : Int32))) + (Int32.ofNat (W.1 15)))), none, none]) (st' := [.ref w, .int (((Int32.ofNat (W.1 13)) * ((16 : Int32))) + (Int32.ofNat (W.1 15)))]) rfl ?_
          refine Er_getR (x := s) rfl hw.1.1 hw.1.2.1 ?_
          refine Er_run 1 (pc' := 28) (ls' := [some (.ref w), some (.int (((Int32.ofNat (W.1 13)) * ((16 : Int32))) + (Int32.ofNat (W.1 15)))), none, none]) (st' := [.ref w, .ref s, .int (((Int32.ofNat (W.1 13)) * ((16 : Int32))) + (Int32.ofNat (W.1 15)))]) rfl ?_
          refine Er_getR (x := s + 52 + 11 * j) rfl hw.1.1 (Eq.trans hw.2.2.1 (show (W).2.1.map (fun j => s + 52 + 11 * j) = some (s + 52 + 11 * j) from by rw [show (W).2.1 = some j from hj]; rfl)) ?_
          refine Er_inv1 (q' := s) (ci := 3) (av := [.ref (s + 52 + 11 * j)]) (rest := [.int (((Int32.ofNat (W.1 13)) * ((16 : Int32))) + (Int32.ofNat (W.1 15)))]) rfl rfl ⟨Nat.le_of_ble_eq_true rfl, Nat.le_of_ble_eq_true rfl⟩ rfl rfl hs.1.1 (s_inLen hs hj8 hbo) ?_
          refine Er_run 1 (pc' := bif decide ((((Int32.ofNat (W.1 13)) * ((16 : Int32))) + (Int32.ofNat (W.1 15))) < (Int32.ofNat (jb_in G F j).length)) then 42 else 37) (ls' := [some (.ref w), some (.int (((Int32.ofNat (W.1 13)) * ((16 : Int32))) + (Int32.ofNat (W.1 15)))), none, none]) (st' := []) rfl ?_
          refine Er_pc (t := 42) (show (bif decide ((((Int32.ofNat (W.1 13)) * ((16 : Int32))) + (Int32.ofNat (W.1 15))) < (Int32.ofNat (jb_in G F j).length)) then 42 else 37) = 42 from by rw [show (decide ((((Int32.ofNat (W.1 13)) * ((16 : Int32))) + (Int32.ofNat (W.1 15))) < (Int32.ofNat (jb_in G F j).length))) = true from by rw [(show Int32.ofNat (W.1 13) * (16 : Int32) + Int32.ofNat (W.1 15) = Int32.ofNat (W.1 13 * 16 + W.1 15) from by rw [show (16 : Int32) = Int32.ofNat 16 from rfl, jx_mul, jx_add]), jx_lt (by omega) (by omega)]; exact decide_eq_true (by omega)]; rfl) ?_
          refine Er_run 1 (pc' := 43) (ls' := [some (.ref w), some (.int (((Int32.ofNat (W.1 13)) * ((16 : Int32))) + (Int32.ofNat (W.1 15)))), none, none]) (st' := [.ref w]) rfl ?_
          refine Er_getR (x := s) rfl hw.1.1 hw.1.2.1 ?_
          refine Er_run 1 (pc' := 47) (ls' := [some (.ref w), some (.int (((Int32.ofNat (W.1 13)) * ((16 : Int32))) + (Int32.ofNat (W.1 15)))), none, none]) (st' := [.ref w, .ref s]) rfl ?_
          refine Er_getR (x := s + 52 + 11 * j) rfl hw.1.1 (Eq.trans hw.2.2.1 (show (W).2.1.map (fun j => s + 52 + 11 * j) = some (s + 52 + 11 * j) from by rw [show (W).2.1 = some j from hj]; rfl)) ?_
          refine Er_run 1 (pc' := 51) (ls' := [some (.ref w), some (.int (((Int32.ofNat (W.1 13)) * ((16 : Int32))) + (Int32.ofNat (W.1 15)))), none, none]) (st' := [.int (((Int32.ofNat (W.1 13)) * ((16 : Int32))) + (Int32.ofNat (W.1 15))), .ref (s + 52 + 11 * j), .ref s]) rfl ?_
          obtain ⟨f, k, hf16, hk300, hfk, hr46, hr47⟩ := s_inRec hs hj8 hbo hpr
          refine Er_inv1 (q' := s) (ci := 3) (av := [.ref (s + 52 + 11 * j), .int (((Int32.ofNat (W.1 13)) * ((16 : Int32))) + (Int32.ofNat (W.1 15)))]) (rest := []) rfl rfl ⟨Nat.le_of_ble_eq_true rfl, Nat.le_of_ble_eq_true rfl⟩ rfl rfl hs.1.1 (by rw [(show Int32.ofNat (W.1 13) * (16 : Int32) + Int32.ofNat (W.1 15) = Int32.ofNat (W.1 13 * 16 + W.1 15) from by rw [show (16 : Int32) = Int32.ofNat 16 from rfl, jx_mul, jx_add])]; exact hr46) ?_
          refine Er_run 2 (pc' := 56) (ls' := [some (.ref w), some (.int (((Int32.ofNat (W.1 13)) * ((16 : Int32))) + (Int32.ofNat (W.1 15)))), some (.ref (s + 4 + 3 * f)), none]) (st' := [.ref w]) rfl ?_
          refine Er_getR (x := s) rfl hw.1.1 hw.1.2.1 ?_
          refine Er_run 1 (pc' := 60) (ls' := [some (.ref w), some (.int (((Int32.ofNat (W.1 13)) * ((16 : Int32))) + (Int32.ofNat (W.1 15)))), some (.ref (s + 4 + 3 * f)), none]) (st' := [.ref w, .ref s]) rfl ?_
          refine Er_getR (x := s + 52 + 11 * j) rfl hw.1.1 (Eq.trans hw.2.2.1 (show (W).2.1.map (fun j => s + 52 + 11 * j) = some (s + 52 + 11 * j) from by rw [show (W).2.1 = some j from hj]; rfl)) ?_
          refine Er_run 1 (pc' := 64) (ls' := [some (.ref w), some (.int (((Int32.ofNat (W.1 13)) * ((16 : Int32))) + (Int32.ofNat (W.1 15)))), some (.ref (s + 4 + 3 * f)), none]) (st' := [.int (((Int32.ofNat (W.1 13)) * ((16 : Int32))) + (Int32.ofNat (W.1 15))), .ref (s + 52 + 11 * j), .ref s]) rfl ?_
          refine Er_inv1 (q' := s) (ci := 3) (av := [.ref (s + 52 + 11 * j), .int (((Int32.ofNat (W.1 13)) * ((16 : Int32))) + (Int32.ofNat (W.1 15)))]) (rest := []) rfl rfl ⟨Nat.le_of_ble_eq_true rfl, Nat.le_of_ble_eq_true rfl⟩ rfl rfl hs.1.1 (by rw [(show Int32.ofNat (W.1 13) * (16 : Int32) + Int32.ofNat (W.1 15) = Int32.ofNat (W.1 13 * 16 + W.1 15) from by rw [show (16 : Int32) = Int32.ofNat 16 from rfl, jx_mul, jx_add])]; exact hr47) ?_
          refine Er_run 2 (pc' := 69) (ls' := [some (.ref w), some (.int (((Int32.ofNat (W.1 13)) * ((16 : Int32))) + (Int32.ofNat (W.1 15)))), some (.ref (s + 4 + 3 * f)), some (.int (Int32.ofNat k))]) (st' := [.ref w]) rfl ?_
          refine Er_getR (x := w + 14) rfl hw.1.1 hw.1.2.2.2.2.1 ?_
          refine Er_run 1 (pc' := 73) (ls' := [some (.ref w), some (.int (((Int32.ofNat (W.1 13)) * ((16 : Int32))) + (Int32.ofNat (W.1 15)))), some (.ref (s + 4 + 3 * f)), some (.int (Int32.ofNat k))]) (st' := [.ref w, .ref (w + 14)]) rfl ?_
          refine Er_getR (x := s + 52 + 11 * j) rfl hw.1.1 (Eq.trans hw.2.2.1 (show (W).2.1.map (fun j => s + 52 + 11 * j) = some (s + 52 + 11 * j) from by rw [show (W).2.1 = some j from hj]; rfl)) ?_
          refine Er_run 1 (pc' := 77) (ls' := [some (.ref w), some (.int (((Int32.ofNat (W.1 13)) * ((16 : Int32))) + (Int32.ofNat (W.1 15)))), some (.ref (s + 4 + 3 * f)), some (.int (Int32.ofNat k))]) (st' := [.int ((0 : Int32)), .ref (s + 52 + 11 * j), .ref (w + 14)]) rfl ?_
          refine Er_inv1 (q' := s + 52 + 11 * j) (ci := 2) (av := [.int ((0 : Int32))]) (rest := [.ref (w + 14)]) rfl rfl ⟨Nat.le_of_ble_eq_true rfl, Nat.le_of_ble_eq_true rfl⟩ rfl rfl (hs.2.2.2 j hj8).1.1 (s_Job_programFor0 (hs.2.2.2 j hj8).1) ?_
          refine Er_run 6 (pc' := 86) (ls' := [some (.ref w), some (.int (((Int32.ofNat (W.1 13)) * ((16 : Int32))) + (Int32.ofNat (W.1 15)))), some (.ref (s + 4 + 3 * f)), some (.int (Int32.ofNat k))]) (st' := [.int ((Int32.ofNat k) + ((1 : Int32))), .int (Int32.ofNat k), .ref (s + 4 + 3 * f), .int ((0 : Int32)), .ref (s + 52 + 11 * j + 2), .ref (w + 14)]) rfl ?_
          obtain ⟨h1, r1, a1, e1, z1⟩ := s_Machine_call (f := k) (t := k + 1) (kd := (0 : Int32)) (show MA h (w + 14) from hw.2.2.2.2.2.2.2.2.1) (hs.2.2.2 j hj8).2.2.1 (hok 0 (by omega)) (hs.2.2.1 f hf16) (by omega) (by omega) (by omega) (by omega)
          rw [show jq_call (PR j 0) (0 : Int32) (F f) k (k + 1) = jw_mr W (jb_in G F j) (PR j 0) from (by rw [jq_call_one hfk, jw_mr, jw_rc, hpr]; rfl)] at r1 e1
          rw [if_pos hr1] at r1
          have w1 : WW h1 w s y W := WW_ma z1 a1 hw
          have l1 := LL_fr z1 (by omega) hl
          have s1 := ST_fr z1 (by omega) hs
          have q1 : FW w y h h1 := FW.trans (FW.refl w y h) (FW.ofW z1 (by omega) (by omega))
          refine Er_inv1 (q' := w + 14) (ci := 4) (av := [.ref (s + 52 + 11 * j + 2), .int ((0 : Int32)), .ref (s + 4 + 3 * f), .int (Int32.ofNat k), .int ((Int32.ofNat k) + ((1 : Int32)))]) (rest := []) rfl rfl ⟨Nat.le_of_ble_eq_true rfl, Nat.le_of_ble_eq_true rfl⟩ rfl rfl hw.2.2.2.2.2.2.2.2.1.1.1 (show Run 51 [.ref (w + 14), .ref (s + 52 + 11 * j + 2), .int 0, .ref (s + 4 + 3 * f), .int (Int32.ofNat k), .int (Int32.ofNat k + 1)] _ _ _ from by rw [jx_s1]; exact r1) ?_
          refine Er_run 1 (pc' := bif !decide (((1 : Int32)) = 0) then 102 else 92) (ls' := [some (.ref w), some (.int (((Int32.ofNat (W.1 13)) * ((16 : Int32))) + (Int32.ofNat (W.1 15)))), some (.ref (s + 4 + 3 * f)), some (.int (Int32.ofNat k))]) (st' := []) rfl ?_
          refine Er_pc (t := 102) (show (bif !decide (((1 : Int32)) = 0) then 102 else 92) = 102 from by rw [show (!decide (((1 : Int32)) = 0)) = true from by decide]; rfl) ?_
          refine Er_run 1 (pc' := 103) (ls' := [some (.ref w), some (.int (((Int32.ofNat (W.1 13)) * ((16 : Int32))) + (Int32.ofNat (W.1 15)))), some (.ref (s + 4 + 3 * f)), some (.int (Int32.ofNat k))]) (st' := [.ref w]) rfl ?_
          refine Er_getR (x := w + 22) rfl w1.1.1 w1.1.2.2.2.2.2.2.1 ?_
          refine Er_run 1 (pc' := 107) (ls' := [some (.ref w), some (.int (((Int32.ofNat (W.1 13)) * ((16 : Int32))) + (Int32.ofNat (W.1 15)))), some (.ref (s + 4 + 3 * f)), some (.int (Int32.ofNat k))]) (st' := [.ref w, .ref (w + 22)]) rfl ?_
          refine Er_getR (x := w + 14) rfl w1.1.1 w1.1.2.2.2.2.1 ?_
          refine Er_inv1 (q' := w + 14) (ci := 4) (av := []) (rest := [.ref (w + 22)]) rfl rfl ⟨Nat.le_of_ble_eq_true rfl, Nat.le_of_ble_eq_true rfl⟩ rfl rfl w1.2.2.2.2.2.2.2.2.1.1.1 (s_Machine_emitted (show MA h1 (w + 14) from w1.2.2.2.2.2.2.2.2.1)) ?_
          obtain ⟨h2, r2, p2, z2⟩ := s_Pairs_addAll1 (show PL h1 (w + 22) 24 (W.2.2.2.1 0) from w1.2.2.2.2.1) e1 (by omega) hbu
          have w2 : WW h2 w s y (jw_sP W 0 ((W.2.2.2.1 0) ++ ((jw_mr W (jb_in G F j) (PR j 0)).2))) := WW_P0 z2 p2 w1
          have l2 := LL_fr z2 (by omega) l1
          have s2 := ST_fr z2 (by omega) s1
          have q2 : FW w y h h2 := FW.trans q1 (FW.ofW z2 (by omega) (by omega))
          refine Er_inv1 (q' := w + 22) (ci := 0) (av := [.ref (w + 14 + 3)]) (rest := []) rfl rfl ⟨Nat.le_of_ble_eq_true rfl, Nat.le_of_ble_eq_true rfl⟩ rfl rfl w1.2.2.2.2.1.1.1 r2 ?_
          refine Er_run 3 (pc' := 119) (ls' := [some (.ref w), some (.int (((Int32.ofNat (W.1 13)) * ((16 : Int32))) + (Int32.ofNat (W.1 15)))), some (.ref (s + 4 + 3 * f)), some (.int (Int32.ofNat k))]) (st' := [.ref w, .ref w]) rfl ?_
          refine Er_getI (v := Int32.ofNat (W.1 15)) rfl w2.1.1 (show gI h2 w 15 = Int32.ofNat (W.1 15) from (w2.2.1 15 (by omega)).1) ?_
          refine Er_run 2 (pc' := 124) (ls' := [some (.ref w), some (.int (((Int32.ofNat (W.1 13)) * ((16 : Int32))) + (Int32.ofNat (W.1 15)))), some (.ref (s + 4 + 3 * f)), some (.int (Int32.ofNat k))]) (st' := [.int ((Int32.ofNat (W.1 15)) + ((1 : Int32))), .ref w]) rfl ?_
          refine Er_putI rfl w2.1.1 ?_
          rw [jx_s1]
          have z3 : Fr w (w + 1) h2 (setI h2 w 15 (Int32.ofNat (W.1 15 + 1))) := Fr.setI (by omega) (by omega)
          have w3 : WW (setI h2 w 15 (Int32.ofNat (W.1 15 + 1))) w s y (jw_sg (jw_sP W 0 ((W.2.2.2.1 0) ++ ((jw_mr W (jb_in G F j) (PR j 0)).2))) 15 (W.1 15 + 1)) := WW_sg (x := W.1 15 + 1) (by omega) w2
          generalize setI h2 w 15 (Int32.ofNat (W.1 15 + 1)) = h3 at z3 w3 ⊢
          have l3 := LL_fr z3 (by omega) l2
          have s3 := ST_fr z3 (by omega) s2
          have q3 : FW w y h h3 := FW.trans q2 (FW.ofW z3 (by omega) (by omega))
          refine Er_run 1 (pc' := 128) (ls' := [some (.ref w), some (.int (((Int32.ofNat (W.1 13)) * ((16 : Int32))) + (Int32.ofNat (W.1 15)))), some (.ref (s + 4 + 3 * f)), some (.int (Int32.ofNat k))]) (st' := [.ref w]) rfl ?_
          refine Er_getR (x := w + 22) rfl w3.1.1 w3.1.2.2.2.2.2.2.1 ?_
          have hro := r_Pairs_room (n := 24) (show isP h3 (w + 22) 24 from w3.2.2.2.2.1.1)
          rw [show gI h3 (w + 22) 2 = Int32.ofNat (W.2.2.2.1 0 ++ (jw_mr W (jb_in G F j) (PR j 0)).2).length from w3.2.2.2.2.1.2.2.2.1, jx_sub (by rw [List.length_append]; omega)] at hro
          refine Er_inv1 (q' := w + 22) (ci := 0) (av := []) (rest := []) rfl rfl ⟨Nat.le_of_ble_eq_true rfl, Nat.le_of_ble_eq_true rfl⟩ rfl rfl w3.2.2.2.2.1.1.1 hro ?_
          refine Er_run 2 (pc' := bif decide (((4 : Int32)) ≤ (Int32.ofNat (24 - (W.2.2.2.1 0 ++ (jw_mr W (jb_in G F j) (PR j 0)).2).length))) then 142 else 138) (ls' := [some (.ref w), some (.int (((Int32.ofNat (W.1 13)) * ((16 : Int32))) + (Int32.ofNat (W.1 15)))), some (.ref (s + 4 + 3 * f)), some (.int (Int32.ofNat k))]) (st' := []) rfl ?_
          refine Er_pc (t := 138) (show (bif decide (((4 : Int32)) ≤ (Int32.ofNat (24 - (W.2.2.2.1 0 ++ (jw_mr W (jb_in G F j) (PR j 0)).2).length))) then 142 else 138) = 138 from by rw [show (decide (((4 : Int32)) ≤ (Int32.ofNat (24 - (W.2.2.2.1 0 ++ (jw_mr W (jb_in G F j) (PR j 0)).2).length)))) = false from by rw [show (4 : Int32) = Int32.ofNat 4 from rfl, jx_le (by omega) (by omega)]; exact decide_eq_false (by omega)]; rfl) ?_
          refine Er_run 1 (pc' := 139) (ls' := [some (.ref w), some (.int (((Int32.ofNat (W.1 13)) * ((16 : Int32))) + (Int32.ofNat (W.1 15)))), some (.ref (s + 4 + 3 * f)), some (.int (Int32.ofNat k))]) (st' := [.ref w]) rfl ?_
          obtain ⟨h4, r4, w4, l4, s4, zz4⟩ := s_Worker_spill (W := jw_m1 W (jb_in G F j) (PR j 0)) (hsp hc hsl) hsy hyw w3 l3 s3
          have q4 : FW w y h h4 := FW.trans q3 zz4
          refine Er_inv0 (q' := w) (ci := 8) (av := []) (rest := []) rfl rfl ⟨Nat.le_of_ble_eq_true rfl, Nat.le_of_ble_eq_true rfl⟩ rfl rfl w3.1.1 r4 ?_
          refine Er_fin rfl rfl ?_
          rw [jw_map, if_pos hc, if_pos hr1, if_pos hsl]
          exact ⟨rfl, w4, l4, s4, q4⟩
        · skip
          show Ev 100 0 [some (.ref w), none, none, none] [] h _
          refine Er_run 1 (pc' := 1) (ls' := [some (.ref w), none, none, none]) (st' := [.ref w]) rfl ?_
          refine Er_getI (v := Int32.ofNat (W.1 13)) rfl hw.1.1 (show gI h w 13 = Int32.ofNat (W.1 13) from (hw.2.1 13 (by omega)).1) ?_
          refine Er_run 3 (pc' := 8) (ls' := [some (.ref w), none, none, none]) (st' := [.ref w, .int ((Int32.ofNat (W.1 13)) * ((16 : Int32)))]) rfl ?_
          refine Er_getI (v := Int32.ofNat (W.1 15)) rfl hw.1.1 (show gI h w 15 = Int32.ofNat (W.1 15) from (hw.2.1 15 (by omega)).1) ?_
          refine Er_run 3 (pc' := 14) (ls' := [some (.ref w), some (.int (((Int32.ofNat (W.1 13)) * ((16 : Int32))) + (Int32.ofNat (W.1 15)))), none, none]) (st' := [.ref w]) rfl ?_
          refine Er_getI (v := Int32.ofNat (W.1 15)) rfl hw.1.1 (show gI h w 15 = Int32.ofNat (W.1 15) from (hw.2.1 15 (by omega)).1) ?_
          refine Er_run 2 (pc' := bif decide (((16 : Int32)) ≤ (Int32.ofNat (W.1 15))) then 37 else 22) (ls' := [some (.ref w), some (.int (((Int32.ofNat (W.1 13)) * ((16 : Int32))) + (Int32.ofNat (W.1 15)))), none, none]) (st' := []) rfl ?_
          refine Er_pc (t := 22) (show (bif decide (((16 : Int32)) ≤ (Int32.ofNat (W.1 15))) then 37 else 22) = 22 from by rw [show (decide (((16 : Int32)) ≤ (Int32.ofNat (W.1 15)))) = false from by rw [show (16 : Int32) = Int32.ofNat 16 from rfl, jx_le (by omega) (by omega)]; exact decide_eq_false (by omega)]; rfl) ?_
          refine Er_run 2 (pc' := 24) (ls' := [some (.ref w), some (.int (((Int32.ofNat (W.1 13)) * ((16 : Int32))) + (Int32.ofNat (W.1 15)))), none, none]) (st' := [.ref w, .int (((Int32.ofNat (W.1 13)) * ((16 : Int32))) + (Int32.ofNat (W.1 15)))]) rfl ?_
          refine Er_getR (x := s) rfl hw.1.1 hw.1.2.1 ?_
          refine Er_run 1 (pc' := 28) (ls' := [some (.ref w), some (.int (((Int32.ofNat (W.1 13)) * ((16 : Int32))) + (Int32.ofNat (W.1 15)))), none, none]) (st' := [.ref w, .ref s, .int (((Int32.ofNat (W.1 13)) * ((16 : Int32))) + (Int32.ofNat (W.1 15)))]) rfl ?_
          refine Er_getR (x := s + 52 + 11 * j) rfl hw.1.1 (Eq.trans hw.2.2.1 (show (W).2.1.map (fun j => s + 52 + 11 * j) = some (s + 52 + 11 * j) from by rw [show (W).2.1 = some j from hj]; rfl)) ?_
          refine Er_inv1 (q' := s) (ci := 3) (av := [.ref (s + 52 + 11 * j)]) (rest := [.int (((Int32.ofNat (W.1 13)) * ((16 : Int32))) + (Int32.ofNat (W.1 15)))]) rfl rfl ⟨Nat.le_of_ble_eq_true rfl, Nat.le_of_ble_eq_true rfl⟩ rfl rfl hs.1.1 (s_inLen hs hj8 hbo) ?_
          refine Er_run 1 (pc' := bif decide ((((Int32.ofNat (W.1 13)) * ((16 : Int32))) + (Int32.ofNat (W.1 15))) < (Int32.ofNat (jb_in G F j).length)) then 42 else 37) (ls' := [some (.ref w), some (.int (((Int32.ofNat (W.1 13)) * ((16 : Int32))) + (Int32.ofNat (W.1 15)))), none, none]) (st' := []) rfl ?_
          refine Er_pc (t := 42) (show (bif decide ((((Int32.ofNat (W.1 13)) * ((16 : Int32))) + (Int32.ofNat (W.1 15))) < (Int32.ofNat (jb_in G F j).length)) then 42 else 37) = 42 from by rw [show (decide ((((Int32.ofNat (W.1 13)) * ((16 : Int32))) + (Int32.ofNat (W.1 15))) < (Int32.ofNat (jb_in G F j).length))) = true from by rw [(show Int32.ofNat (W.1 13) * (16 : Int32) + Int32.ofNat (W.1 15) = Int32.ofNat (W.1 13 * 16 + W.1 15) from by rw [show (16 : Int32) = Int32.ofNat 16 from rfl, jx_mul, jx_add]), jx_lt (by omega) (by omega)]; exact decide_eq_true (by omega)]; rfl) ?_
          refine Er_run 1 (pc' := 43) (ls' := [some (.ref w), some (.int (((Int32.ofNat (W.1 13)) * ((16 : Int32))) + (Int32.ofNat (W.1 15)))), none, none]) (st' := [.ref w]) rfl ?_
          refine Er_getR (x := s) rfl hw.1.1 hw.1.2.1 ?_
          refine Er_run 1 (pc' := 47) (ls' := [some (.ref w), some (.int (((Int32.ofNat (W.1 13)) * ((16 : Int32))) + (Int32.ofNat (W.1 15)))), none, none]) (st' := [.ref w, .ref s]) rfl ?_
          refine Er_getR (x := s + 52 + 11 * j) rfl hw.1.1 (Eq.trans hw.2.2.1 (show (W).2.1.map (fun j => s + 52 + 11 * j) = some (s + 52 + 11 * j) from by rw [show (W).2.1 = some j from hj]; rfl)) ?_
          refine Er_run 1 (pc' := 51) (ls' := [some (.ref w), some (.int (((Int32.ofNat (W.1 13)) * ((16 : Int32))) + (Int32.ofNat (W.1 15)))), none, none]) (st' := [.int (((Int32.ofNat (W.1 13)) * ((16 : Int32))) + (Int32.ofNat (W.1 15))), .ref (s + 52 + 11 * j), .ref s]) rfl ?_
          obtain ⟨f, k, hf16, hk300, hfk, hr46, hr47⟩ := s_inRec hs hj8 hbo hpr
          refine Er_inv1 (q' := s) (ci := 3) (av := [.ref (s + 52 + 11 * j), .int (((Int32.ofNat (W.1 13)) * ((16 : Int32))) + (Int32.ofNat (W.1 15)))]) (rest := []) rfl rfl ⟨Nat.le_of_ble_eq_true rfl, Nat.le_of_ble_eq_true rfl⟩ rfl rfl hs.1.1 (by rw [(show Int32.ofNat (W.1 13) * (16 : Int32) + Int32.ofNat (W.1 15) = Int32.ofNat (W.1 13 * 16 + W.1 15) from by rw [show (16 : Int32) = Int32.ofNat 16 from rfl, jx_mul, jx_add])]; exact hr46) ?_
          refine Er_run 2 (pc' := 56) (ls' := [some (.ref w), some (.int (((Int32.ofNat (W.1 13)) * ((16 : Int32))) + (Int32.ofNat (W.1 15)))), some (.ref (s + 4 + 3 * f)), none]) (st' := [.ref w]) rfl ?_
          refine Er_getR (x := s) rfl hw.1.1 hw.1.2.1 ?_
          refine Er_run 1 (pc' := 60) (ls' := [some (.ref w), some (.int (((Int32.ofNat (W.1 13)) * ((16 : Int32))) + (Int32.ofNat (W.1 15)))), some (.ref (s + 4 + 3 * f)), none]) (st' := [.ref w, .ref s]) rfl ?_
          refine Er_getR (x := s + 52 + 11 * j) rfl hw.1.1 (Eq.trans hw.2.2.1 (show (W).2.1.map (fun j => s + 52 + 11 * j) = some (s + 52 + 11 * j) from by rw [show (W).2.1 = some j from hj]; rfl)) ?_
          refine Er_run 1 (pc' := 64) (ls' := [some (.ref w), some (.int (((Int32.ofNat (W.1 13)) * ((16 : Int32))) + (Int32.ofNat (W.1 15)))), some (.ref (s + 4 + 3 * f)), none]) (st' := [.int (((Int32.ofNat (W.1 13)) * ((16 : Int32))) + (Int32.ofNat (W.1 15))), .ref (s + 52 + 11 * j), .ref s]) rfl ?_
          refine Er_inv1 (q' := s) (ci := 3) (av := [.ref (s + 52 + 11 * j), .int (((Int32.ofNat (W.1 13)) * ((16 : Int32))) + (Int32.ofNat (W.1 15)))]) (rest := []) rfl rfl ⟨Nat.le_of_ble_eq_true rfl, Nat.le_of_ble_eq_true rfl⟩ rfl rfl hs.1.1 (by rw [(show Int32.ofNat (W.1 13) * (16 : Int32) + Int32.ofNat (W.1 15) = Int32.ofNat (W.1 13 * 16 + W.1 15) from by rw [show (16 : Int32) = Int32.ofNat 16 from rfl, jx_mul, jx_add])]; exact hr47) ?_
          refine Er_run 2 (pc' := 69) (ls' := [some (.ref w), some (.int (((Int32.ofNat (W.1 13)) * ((16 : Int32))) + (Int32.ofNat (W.1 15)))), some (.ref (s + 4 + 3 * f)), some (.int (Int32.ofNat k))]) (st' := [.ref w]) rfl ?_
          refine Er_getR (x := w + 14) rfl hw.1.1 hw.1.2.2.2.2.1 ?_
          refine Er_run 1 (pc' := 73) (ls' := [some (.ref w), some (.int (((Int32.ofNat (W.1 13)) * ((16 : Int32))) + (Int32.ofNat (W.1 15)))), some (.ref (s + 4 + 3 * f)), some (.int (Int32.ofNat k))]) (st' := [.ref w, .ref (w + 14)]) rfl ?_
          refine Er_getR (x := s + 52 + 11 * j) rfl hw.1.1 (Eq.trans hw.2.2.1 (show (W).2.1.map (fun j => s + 52 + 11 * j) = some (s + 52 + 11 * j) from by rw [show (W).2.1 = some j from hj]; rfl)) ?_
          refine Er_run 1 (pc' := 77) (ls' := [some (.ref w), some (.int (((Int32.ofNat (W.1 13)) * ((16 : Int32))) + (Int32.ofNat (W.1 15)))), some (.ref (s + 4 + 3 * f)), some (.int (Int32.ofNat k))]) (st' := [.int ((0 : Int32)), .ref (s + 52 + 11 * j), .ref (w + 14)]) rfl ?_
          refine Er_inv1 (q' := s + 52 + 11 * j) (ci := 2) (av := [.int ((0 : Int32))]) (rest := [.ref (w + 14)]) rfl rfl ⟨Nat.le_of_ble_eq_true rfl, Nat.le_of_ble_eq_true rfl⟩ rfl rfl (hs.2.2.2 j hj8).1.1 (s_Job_programFor0 (hs.2.2.2 j hj8).1) ?_
          refine Er_run 6 (pc' := 86) (ls' := [some (.ref w), some (.int (((Int32.ofNat (W.1 13)) * ((16 : Int32))) + (Int32.ofNat (W.1 15)))), some (.ref (s + 4 + 3 * f)), some (.int (Int32.ofNat k))]) (st' := [.int ((Int32.ofNat k) + ((1 : Int32))), .int (Int32.ofNat k), .ref (s + 4 + 3 * f), .int ((0 : Int32)), .ref (s + 52 + 11 * j + 2), .ref (w + 14)]) rfl ?_
          obtain ⟨h1, r1, a1, e1, z1⟩ := s_Machine_call (f := k) (t := k + 1) (kd := (0 : Int32)) (show MA h (w + 14) from hw.2.2.2.2.2.2.2.2.1) (hs.2.2.2 j hj8).2.2.1 (hok 0 (by omega)) (hs.2.2.1 f hf16) (by omega) (by omega) (by omega) (by omega)
          rw [show jq_call (PR j 0) (0 : Int32) (F f) k (k + 1) = jw_mr W (jb_in G F j) (PR j 0) from (by rw [jq_call_one hfk, jw_mr, jw_rc, hpr]; rfl)] at r1 e1
          rw [if_pos hr1] at r1
          have w1 : WW h1 w s y W := WW_ma z1 a1 hw
          have l1 := LL_fr z1 (by omega) hl
          have s1 := ST_fr z1 (by omega) hs
          have q1 : FW w y h h1 := FW.trans (FW.refl w y h) (FW.ofW z1 (by omega) (by omega))
          refine Er_inv1 (q' := w + 14) (ci := 4) (av := [.ref (s + 52 + 11 * j + 2), .int ((0 : Int32)), .ref (s + 4 + 3 * f), .int (Int32.ofNat k), .int ((Int32.ofNat k) + ((1 : Int32)))]) (rest := []) rfl rfl ⟨Nat.le_of_ble_eq_true rfl, Nat.le_of_ble_eq_true rfl⟩ rfl rfl hw.2.2.2.2.2.2.2.2.1.1.1 (show Run 51 [.ref (w + 14), .ref (s + 52 + 11 * j + 2), .int 0, .ref (s + 4 + 3 * f), .int (Int32.ofNat k), .int (Int32.ofNat k + 1)] _ _ _ from by rw [jx_s1]; exact r1) ?_
          refine Er_run 1 (pc' := bif !decide (((1 : Int32)) = 0) then 102 else 92) (ls' := [some (.ref w), some (.int (((Int32.ofNat (W.1 13)) * ((16 : Int32))) + (Int32.ofNat (W.1 15)))), some (.ref (s + 4 + 3 * f)), some (.int (Int32.ofNat k))]) (st' := []) rfl ?_
          refine Er_pc (t := 102) (show (bif !decide (((1 : Int32)) = 0) then 102 else 92) = 102 from by rw [show (!decide (((1 : Int32)) = 0)) = true from by decide]; rfl) ?_
          refine Er_run 1 (pc' := 103) (ls' := [some (.ref w), some (.int (((Int32.ofNat (W.1 13)) * ((16 : Int32))) + (Int32.ofNat (W.1 15)))), some (.ref (s + 4 + 3 * f)), some (.int (Int32.ofNat k))]) (st' := [.ref w]) rfl ?_
          refine Er_getR (x := w + 22) rfl w1.1.1 w1.1.2.2.2.2.2.2.1 ?_
          refine Er_run 1 (pc' := 107) (ls' := [some (.ref w), some (.int (((Int32.ofNat (W.1 13)) * ((16 : Int32))) + (Int32.ofNat (W.1 15)))), some (.ref (s + 4 + 3 * f)), some (.int (Int32.ofNat k))]) (st' := [.ref w, .ref (w + 22)]) rfl ?_
          refine Er_getR (x := w + 14) rfl w1.1.1 w1.1.2.2.2.2.1 ?_
          refine Er_inv1 (q' := w + 14) (ci := 4) (av := []) (rest := [.ref (w + 22)]) rfl rfl ⟨Nat.le_of_ble_eq_true rfl, Nat.le_of_ble_eq_true rfl⟩ rfl rfl w1.2.2.2.2.2.2.2.2.1.1.1 (s_Machine_emitted (show MA h1 (w + 14) from w1.2.2.2.2.2.2.2.2.1)) ?_
          obtain ⟨h2, r2, p2, z2⟩ := s_Pairs_addAll1 (show PL h1 (w + 22) 24 (W.2.2.2.1 0) from w1.2.2.2.2.1) e1 (by omega) hbu
          have w2 : WW h2 w s y (jw_sP W 0 ((W.2.2.2.1 0) ++ ((jw_mr W (jb_in G F j) (PR j 0)).2))) := WW_P0 z2 p2 w1
          have l2 := LL_fr z2 (by omega) l1
          have s2 := ST_fr z2 (by omega) s1
          have q2 : FW w y h h2 := FW.trans q1 (FW.ofW z2 (by omega) (by omega))
          refine Er_inv1 (q' := w + 22) (ci := 0) (av := [.ref (w + 14 + 3)]) (rest := []) rfl rfl ⟨Nat.le_of_ble_eq_true rfl, Nat.le_of_ble_eq_true rfl⟩ rfl rfl w1.2.2.2.2.1.1.1 r2 ?_
          refine Er_run 3 (pc' := 119) (ls' := [some (.ref w), some (.int (((Int32.ofNat (W.1 13)) * ((16 : Int32))) + (Int32.ofNat (W.1 15)))), some (.ref (s + 4 + 3 * f)), some (.int (Int32.ofNat k))]) (st' := [.ref w, .ref w]) rfl ?_
          refine Er_getI (v := Int32.ofNat (W.1 15)) rfl w2.1.1 (show gI h2 w 15 = Int32.ofNat (W.1 15) from (w2.2.1 15 (by omega)).1) ?_
          refine Er_run 2 (pc' := 124) (ls' := [some (.ref w), some (.int (((Int32.ofNat (W.1 13)) * ((16 : Int32))) + (Int32.ofNat (W.1 15)))), some (.ref (s + 4 + 3 * f)), some (.int (Int32.ofNat k))]) (st' := [.int ((Int32.ofNat (W.1 15)) + ((1 : Int32))), .ref w]) rfl ?_
          refine Er_putI rfl w2.1.1 ?_
          rw [jx_s1]
          have z3 : Fr w (w + 1) h2 (setI h2 w 15 (Int32.ofNat (W.1 15 + 1))) := Fr.setI (by omega) (by omega)
          have w3 : WW (setI h2 w 15 (Int32.ofNat (W.1 15 + 1))) w s y (jw_sg (jw_sP W 0 ((W.2.2.2.1 0) ++ ((jw_mr W (jb_in G F j) (PR j 0)).2))) 15 (W.1 15 + 1)) := WW_sg (x := W.1 15 + 1) (by omega) w2
          generalize setI h2 w 15 (Int32.ofNat (W.1 15 + 1)) = h3 at z3 w3 ⊢
          have l3 := LL_fr z3 (by omega) l2
          have s3 := ST_fr z3 (by omega) s2
          have q3 : FW w y h h3 := FW.trans q2 (FW.ofW z3 (by omega) (by omega))
          refine Er_run 1 (pc' := 128) (ls' := [some (.ref w), some (.int (((Int32.ofNat (W.1 13)) * ((16 : Int32))) + (Int32.ofNat (W.1 15)))), some (.ref (s + 4 + 3 * f)), some (.int (Int32.ofNat k))]) (st' := [.ref w]) rfl ?_
          refine Er_getR (x := w + 22) rfl w3.1.1 w3.1.2.2.2.2.2.2.1 ?_
          have hro := r_Pairs_room (n := 24) (show isP h3 (w + 22) 24 from w3.2.2.2.2.1.1)
          rw [show gI h3 (w + 22) 2 = Int32.ofNat (W.2.2.2.1 0 ++ (jw_mr W (jb_in G F j) (PR j 0)).2).length from w3.2.2.2.2.1.2.2.2.1, jx_sub (by rw [List.length_append]; omega)] at hro
          refine Er_inv1 (q' := w + 22) (ci := 0) (av := []) (rest := []) rfl rfl ⟨Nat.le_of_ble_eq_true rfl, Nat.le_of_ble_eq_true rfl⟩ rfl rfl w3.2.2.2.2.1.1.1 hro ?_
          refine Er_run 2 (pc' := bif decide (((4 : Int32)) ≤ (Int32.ofNat (24 - (W.2.2.2.1 0 ++ (jw_mr W (jb_in G F j) (PR j 0)).2).length))) then 142 else 138) (ls' := [some (.ref w), some (.int (((Int32.ofNat (W.1 13)) * ((16 : Int32))) + (Int32.ofNat (W.1 15)))), some (.ref (s + 4 + 3 * f)), some (.int (Int32.ofNat k))]) (st' := []) rfl ?_
          refine Er_pc (t := 142) (show (bif decide (((4 : Int32)) ≤ (Int32.ofNat (24 - (W.2.2.2.1 0 ++ (jw_mr W (jb_in G F j) (PR j 0)).2).length))) then 142 else 138) = 142 from by rw [show (decide (((4 : Int32)) ≤ (Int32.ofNat (24 - (W.2.2.2.1 0 ++ (jw_mr W (jb_in G F j) (PR j 0)).2).length)))) = true from by rw [show (4 : Int32) = Int32.ofNat 4 from rfl, jx_le (by omega) (by omega)]; exact decide_eq_true (by omega)]; rfl) ?_
          refine Er_fin rfl rfl ?_
          rw [jw_map, if_pos hc, if_pos hr1, if_neg hsl]
          exact ⟨rfl, w3, l3, s3, q3⟩
      · skip
        show Ev 100 0 [some (.ref w), none, none, none] [] h _
        refine Er_run 1 (pc' := 1) (ls' := [some (.ref w), none, none, none]) (st' := [.ref w]) rfl ?_
        refine Er_getI (v := Int32.ofNat (W.1 13)) rfl hw.1.1 (show gI h w 13 = Int32.ofNat (W.1 13) from (hw.2.1 13 (by omega)).1) ?_
        refine Er_run 3 (pc' := 8) (ls' := [some (.ref w), none, none, none]) (st' := [.ref w, .int ((Int32.ofNat (W.1 13)) * ((16 : Int32)))]) rfl ?_
        refine Er_getI (v := Int32.ofNat (W.1 15)) rfl hw.1.1 (show gI h w 15 = Int32.ofNat (W.1 15) from (hw.2.1 15 (by omega)).1) ?_
        refine Er_run 3 (pc' := 14) (ls' := [some (.ref w), some (.int (((Int32.ofNat (W.1 13)) * ((16 : Int32))) + (Int32.ofNat (W.1 15)))), none, none]) (st' := [.ref w]) rfl ?_
        refine Er_getI (v := Int32.ofNat (W.1 15)) rfl hw.1.1 (show gI h w 15 = Int32.ofNat (W.1 15) from (hw.2.1 15 (by omega)).1) ?_
        refine Er_run 2 (pc' := bif decide (((16 : Int32)) ≤ (Int32.ofNat (W.1 15))) then 37 else 22) (ls' := [some (.ref w), some (.int (((Int32.ofNat (W.1 13)) * ((16 : Int32))) + (Int32.ofNat (W.1 15)))), none, none]) (st' := []) rfl ?_
        refine Er_pc (t := 22) (show (bif decide (((16 : Int32)) ≤ (Int32.ofNat (W.1 15))) then 37 else 22) = 22 from by rw [show (decide (((16 : Int32)) ≤ (Int32.ofNat (W.1 15)))) = false from by rw [show (16 : Int32) = Int32.ofNat 16 from rfl, jx_le (by omega) (by omega)]; exact decide_eq_false (by omega)]; rfl) ?_
        refine Er_run 2 (pc' := 24) (ls' := [some (.ref w), some (.int (((Int32.ofNat (W.1 13)) * ((16 : Int32))) + (Int32.ofNat (W.1 15)))), none, none]) (st' := [.ref w, .int (((Int32.ofNat (W.1 13)) * ((16 : Int32))) + (Int32.ofNat (W.1 15)))]) rfl ?_
        refine Er_getR (x := s) rfl hw.1.1 hw.1.2.1 ?_
        refine Er_run 1 (pc' := 28) (ls' := [some (.ref w), some (.int (((Int32.ofNat (W.1 13)) * ((16 : Int32))) + (Int32.ofNat (W.1 15)))), none, none]) (st' := [.ref w, .ref s, .int (((Int32.ofNat (W.1 13)) * ((16 : Int32))) + (Int32.ofNat (W.1 15)))]) rfl ?_
        refine Er_getR (x := s + 52 + 11 * j) rfl hw.1.1 (Eq.trans hw.2.2.1 (show (W).2.1.map (fun j => s + 52 + 11 * j) = some (s + 52 + 11 * j) from by rw [show (W).2.1 = some j from hj]; rfl)) ?_
        refine Er_inv1 (q' := s) (ci := 3) (av := [.ref (s + 52 + 11 * j)]) (rest := [.int (((Int32.ofNat (W.1 13)) * ((16 : Int32))) + (Int32.ofNat (W.1 15)))]) rfl rfl ⟨Nat.le_of_ble_eq_true rfl, Nat.le_of_ble_eq_true rfl⟩ rfl rfl hs.1.1 (s_inLen hs hj8 hbo) ?_
        refine Er_run 1 (pc' := bif decide ((((Int32.ofNat (W.1 13)) * ((16 : Int32))) + (Int32.ofNat (W.1 15))) < (Int32.ofNat (jb_in G F j).length)) then 42 else 37) (ls' := [some (.ref w), some (.int (((Int32.ofNat (W.1 13)) * ((16 : Int32))) + (Int32.ofNat (W.1 15)))), none, none]) (st' := []) rfl ?_
        refine Er_pc (t := 42) (show (bif decide ((((Int32.ofNat (W.1 13)) * ((16 : Int32))) + (Int32.ofNat (W.1 15))) < (Int32.ofNat (jb_in G F j).length)) then 42 else 37) = 42 from by rw [show (decide ((((Int32.ofNat (W.1 13)) * ((16 : Int32))) + (Int32.ofNat (W.1 15))) < (Int32.ofNat (jb_in G F j).length))) = true from by rw [(show Int32.ofNat (W.1 13) * (16 : Int32) + Int32.ofNat (W.1 15) = Int32.ofNat (W.1 13 * 16 + W.1 15) from by rw [show (16 : Int32) = Int32.ofNat 16 from rfl, jx_mul, jx_add]), jx_lt (by omega) (by omega)]; exact decide_eq_true (by omega)]; rfl) ?_
        refine Er_run 1 (pc' := 43) (ls' := [some (.ref w), some (.int (((Int32.ofNat (W.1 13)) * ((16 : Int32))) + (Int32.ofNat (W.1 15)))), none, none]) (st' := [.ref w]) rfl ?_
        refine Er_getR (x := s) rfl hw.1.1 hw.1.2.1 ?_
        refine Er_run 1 (pc' := 47) (ls' := [some (.ref w), some (.int (((Int32.ofNat (W.1 13)) * ((16 : Int32))) + (Int32.ofNat (W.1 15)))), none, none]) (st' := [.ref w, .ref s]) rfl ?_
        refine Er_getR (x := s + 52 + 11 * j) rfl hw.1.1 (Eq.trans hw.2.2.1 (show (W).2.1.map (fun j => s + 52 + 11 * j) = some (s + 52 + 11 * j) from by rw [show (W).2.1 = some j from hj]; rfl)) ?_
        refine Er_run 1 (pc' := 51) (ls' := [some (.ref w), some (.int (((Int32.ofNat (W.1 13)) * ((16 : Int32))) + (Int32.ofNat (W.1 15)))), none, none]) (st' := [.int (((Int32.ofNat (W.1 13)) * ((16 : Int32))) + (Int32.ofNat (W.1 15))), .ref (s + 52 + 11 * j), .ref s]) rfl ?_
        obtain ⟨f, k, hf16, hk300, hfk, hr46, hr47⟩ := s_inRec hs hj8 hbo hpr
        refine Er_inv1 (q' := s) (ci := 3) (av := [.ref (s + 52 + 11 * j), .int (((Int32.ofNat (W.1 13)) * ((16 : Int32))) + (Int32.ofNat (W.1 15)))]) (rest := []) rfl rfl ⟨Nat.le_of_ble_eq_true rfl, Nat.le_of_ble_eq_true rfl⟩ rfl rfl hs.1.1 (by rw [(show Int32.ofNat (W.1 13) * (16 : Int32) + Int32.ofNat (W.1 15) = Int32.ofNat (W.1 13 * 16 + W.1 15) from by rw [show (16 : Int32) = Int32.ofNat 16 from rfl, jx_mul, jx_add])]; exact hr46) ?_
        refine Er_run 2 (pc' := 56) (ls' := [some (.ref w), some (.int (((Int32.ofNat (W.1 13)) * ((16 : Int32))) + (Int32.ofNat (W.1 15)))), some (.ref (s + 4 + 3 * f)), none]) (st' := [.ref w]) rfl ?_
        refine Er_getR (x := s) rfl hw.1.1 hw.1.2.1 ?_
        refine Er_run 1 (pc' := 60) (ls' := [some (.ref w), some (.int (((Int32.ofNat (W.1 13)) * ((16 : Int32))) + (Int32.ofNat (W.1 15)))), some (.ref (s + 4 + 3 * f)), none]) (st' := [.ref w, .ref s]) rfl ?_
        refine Er_getR (x := s + 52 + 11 * j) rfl hw.1.1 (Eq.trans hw.2.2.1 (show (W).2.1.map (fun j => s + 52 + 11 * j) = some (s + 52 + 11 * j) from by rw [show (W).2.1 = some j from hj]; rfl)) ?_
        refine Er_run 1 (pc' := 64) (ls' := [some (.ref w), some (.int (((Int32.ofNat (W.1 13)) * ((16 : Int32))) + (Int32.ofNat (W.1 15)))), some (.ref (s + 4 + 3 * f)), none]) (st' := [.int (((Int32.ofNat (W.1 13)) * ((16 : Int32))) + (Int32.ofNat (W.1 15))), .ref (s + 52 + 11 * j), .ref s]) rfl ?_
        refine Er_inv1 (q' := s) (ci := 3) (av := [.ref (s + 52 + 11 * j), .int (((Int32.ofNat (W.1 13)) * ((16 : Int32))) + (Int32.ofNat (W.1 15)))]) (rest := []) rfl rfl ⟨Nat.le_of_ble_eq_true rfl, Nat.le_of_ble_eq_true rfl⟩ rfl rfl hs.1.1 (by rw [(show Int32.ofNat (W.1 13) * (16 : Int32) + Int32.ofNat (W.1 15) = Int32.ofNat (W.1 13 * 16 + W.1 15) from by rw [show (16 : Int32) = Int32.ofNat 16 from rfl, jx_mul, jx_add])]; exact hr47) ?_
        refine Er_run 2 (pc' := 69) (ls' := [some (.ref w), some (.int (((Int32.ofNat (W.1 13)) * ((16 : Int32))) + (Int32.ofNat (W.1 15)))), some (.ref (s + 4 + 3 * f)), some (.int (Int32.ofNat k))]) (st' := [.ref w]) rfl ?_
        refine Er_getR (x := w + 14) rfl hw.1.1 hw.1.2.2.2.2.1 ?_
        refine Er_run 1 (pc' := 73) (ls' := [some (.ref w), some (.int (((Int32.ofNat (W.1 13)) * ((16 : Int32))) + (Int32.ofNat (W.1 15)))), some (.ref (s + 4 + 3 * f)), some (.int (Int32.ofNat k))]) (st' := [.ref w, .ref (w + 14)]) rfl ?_
        refine Er_getR (x := s + 52 + 11 * j) rfl hw.1.1 (Eq.trans hw.2.2.1 (show (W).2.1.map (fun j => s + 52 + 11 * j) = some (s + 52 + 11 * j) from by rw [show (W).2.1 = some j from hj]; rfl)) ?_
        refine Er_run 1 (pc' := 77) (ls' := [some (.ref w), some (.int (((Int32.ofNat (W.1 13)) * ((16 : Int32))) + (Int32.ofNat (W.1 15)))), some (.ref (s + 4 + 3 * f)), some (.int (Int32.ofNat k))]) (st' := [.int ((0 : Int32)), .ref (s + 52 + 11 * j), .ref (w + 14)]) rfl ?_
        refine Er_inv1 (q' := s + 52 + 11 * j) (ci := 2) (av := [.int ((0 : Int32))]) (rest := [.ref (w + 14)]) rfl rfl ⟨Nat.le_of_ble_eq_true rfl, Nat.le_of_ble_eq_true rfl⟩ rfl rfl (hs.2.2.2 j hj8).1.1 (s_Job_programFor0 (hs.2.2.2 j hj8).1) ?_
        refine Er_run 6 (pc' := 86) (ls' := [some (.ref w), some (.int (((Int32.ofNat (W.1 13)) * ((16 : Int32))) + (Int32.ofNat (W.1 15)))), some (.ref (s + 4 + 3 * f)), some (.int (Int32.ofNat k))]) (st' := [.int ((Int32.ofNat k) + ((1 : Int32))), .int (Int32.ofNat k), .ref (s + 4 + 3 * f), .int ((0 : Int32)), .ref (s + 52 + 11 * j + 2), .ref (w + 14)]) rfl ?_
        obtain ⟨h1, r1, a1, e1, z1⟩ := s_Machine_call (f := k) (t := k + 1) (kd := (0 : Int32)) (show MA h (w + 14) from hw.2.2.2.2.2.2.2.2.1) (hs.2.2.2 j hj8).2.2.1 (hok 0 (by omega)) (hs.2.2.1 f hf16) (by omega) (by omega) (by omega) (by omega)
        rw [show jq_call (PR j 0) (0 : Int32) (F f) k (k + 1) = jw_mr W (jb_in G F j) (PR j 0) from (by rw [jq_call_one hfk, jw_mr, jw_rc, hpr]; rfl)] at r1 e1
        rw [if_neg hr1] at r1
        have w1 : WW h1 w s y W := WW_ma z1 a1 hw
        have l1 := LL_fr z1 (by omega) hl
        have s1 := ST_fr z1 (by omega) hs
        have q1 : FW w y h h1 := FW.trans (FW.refl w y h) (FW.ofW z1 (by omega) (by omega))
        refine Er_inv1 (q' := w + 14) (ci := 4) (av := [.ref (s + 52 + 11 * j + 2), .int ((0 : Int32)), .ref (s + 4 + 3 * f), .int (Int32.ofNat k), .int ((Int32.ofNat k) + ((1 : Int32)))]) (rest := []) rfl rfl ⟨Nat.le_of_ble_eq_true rfl, Nat.le_of_ble_eq_true rfl⟩ rfl rfl hw.2.2.2.2.2.2.2.2.1.1.1 (show Run 51 [.ref (w + 14), .ref (s + 52 + 11 * j + 2), .int 0, .ref (s + 4 + 3 * f), .int (Int32.ofNat k), .int (Int32.ofNat k + 1)] _ _ _ from by rw [jx_s1]; exact r1) ?_
        refine Er_run 1 (pc' := bif !decide (((0 : Int32)) = 0) then 102 else 92) (ls' := [some (.ref w), some (.int (((Int32.ofNat (W.1 13)) * ((16 : Int32))) + (Int32.ofNat (W.1 15)))), some (.ref (s + 4 + 3 * f)), some (.int (Int32.ofNat k))]) (st' := []) rfl ?_
        refine Er_pc (t := 92) (show (bif !decide (((0 : Int32)) = 0) then 102 else 92) = 92 from by rw [show (!decide (((0 : Int32)) = 0)) = false from by decide]; rfl) ?_
        refine Er_run 3 (pc' := 95) (ls' := [some (.ref w), some (.int (((Int32.ofNat (W.1 13)) * ((16 : Int32))) + (Int32.ofNat (W.1 15)))), some (.ref (s + 4 + 3 * f)), some (.int (Int32.ofNat k))]) (st' := [.ref w, .int ((3 : Int32)), .ref w]) rfl ?_
        refine Er_getI (v := Int32.ofNat (W.1 13)) rfl w1.1.1 (show gI h1 w 13 = Int32.ofNat (W.1 13) from (w1.2.1 13 (by omega)).1) ?_
        obtain ⟨h2, r2, w2, l2, s2, zz2⟩ := s_Worker_report (k := 3) (t := W.1 13) ht hsy hyw w1 l1 s1
        have q2 : FW w y h h2 := FW.trans q1 zz2
        refine Er_inv0 (q' := w) (ci := 8) (av := [.int ((3 : Int32)), .int (Int32.ofNat (W.1 13))]) (rest := []) rfl rfl ⟨Nat.le_of_ble_eq_true rfl, Nat.le_of_ble_eq_true rfl⟩ rfl rfl w1.1.1 r2 ?_
        refine Er_fin rfl rfl ?_
        rw [jw_map, if_pos hc, if_neg hr1]
        exact ⟨rfl, w2, l2, s2, q2⟩
    · by_cases h16 : 16 ≤ W.1 15
      · skip
        show Ev 100 0 [some (.ref w), none, none, none] [] h _
        refine Er_run 1 (pc' := 1) (ls' := [some (.ref w), none, none, none]) (st' := [.ref w]) rfl ?_
        refine Er_getI (v := Int32.ofNat (W.1 13)) rfl hw.1.1 (show gI h w 13 = Int32.ofNat (W.1 13) from (hw.2.1 13 (by omega)).1) ?_
        refine Er_run 3 (pc' := 8) (ls' := [some (.ref w), none, none, none]) (st' := [.ref w, .int ((Int32.ofNat (W.1 13)) * ((16 : Int32)))]) rfl ?_
        refine Er_getI (v := Int32.ofNat (W.1 15)) rfl hw.1.1 (show gI h w 15 = Int32.ofNat (W.1 15) from (hw.2.1 15 (by omega)).1) ?_
        refine Er_run 3 (pc' := 14) (ls' := [some (.ref w), some (.int (((Int32.ofNat (W.1 13)) * ((16 : Int32))) + (Int32.ofNat (W.1 15)))), none, none]) (st' := [.ref w]) rfl ?_
        refine Er_getI (v := Int32.ofNat (W.1 15)) rfl hw.1.1 (show gI h w 15 = Int32.ofNat (W.1 15) from (hw.2.1 15 (by omega)).1) ?_
        refine Er_run 2 (pc' := bif decide (((16 : Int32)) ≤ (Int32.ofNat (W.1 15))) then 37 else 22) (ls' := [some (.ref w), some (.int (((Int32.ofNat (W.1 13)) * ((16 : Int32))) + (Int32.ofNat (W.1 15)))), none, none]) (st' := []) rfl ?_
        refine Er_pc (t := 37) (show (bif decide (((16 : Int32)) ≤ (Int32.ofNat (W.1 15))) then 37 else 22) = 37 from by rw [show (decide (((16 : Int32)) ≤ (Int32.ofNat (W.1 15)))) = true from by rw [show (16 : Int32) = Int32.ofNat 16 from rfl, jx_le (by omega) (by omega)]; exact decide_eq_true (by omega)]; rfl) ?_
        refine Er_run 1 (pc' := 38) (ls' := [some (.ref w), some (.int (((Int32.ofNat (W.1 13)) * ((16 : Int32))) + (Int32.ofNat (W.1 15)))), none, none]) (st' := [.ref w]) rfl ?_
        obtain ⟨h1, r1, w1, l1, s1, zz1⟩ := s_Worker_mergeSpills (hmg hc).1 (hmg hc).2.1 (hmg hc).2.2.1 (hmg hc).2.2.2 hj hj8 hsy hyw hw hl hs
        have q1 : FW w y h h1 := FW.trans (FW.refl w y h) zz1
        refine Er_inv0 (q' := w) (ci := 8) (av := []) (rest := []) rfl rfl ⟨Nat.le_of_ble_eq_true rfl, Nat.le_of_ble_eq_true rfl⟩ rfl rfl hw.1.1 r1 ?_
        refine Er_fin rfl rfl ?_
        rw [jw_map, if_neg hc]
        exact ⟨rfl, w1, l1, s1, q1⟩
      · have hge : (jb_in G F j).length ≤ W.1 13 * 16 + W.1 15 := by omega
        show Ev 100 0 [some (.ref w), none, none, none] [] h _
        refine Er_run 1 (pc' := 1) (ls' := [some (.ref w), none, none, none]) (st' := [.ref w]) rfl ?_
        refine Er_getI (v := Int32.ofNat (W.1 13)) rfl hw.1.1 (show gI h w 13 = Int32.ofNat (W.1 13) from (hw.2.1 13 (by omega)).1) ?_
        refine Er_run 3 (pc' := 8) (ls' := [some (.ref w), none, none, none]) (st' := [.ref w, .int ((Int32.ofNat (W.1 13)) * ((16 : Int32)))]) rfl ?_
        refine Er_getI (v := Int32.ofNat (W.1 15)) rfl hw.1.1 (show gI h w 15 = Int32.ofNat (W.1 15) from (hw.2.1 15 (by omega)).1) ?_
        refine Er_run 3 (pc' := 14) (ls' := [some (.ref w), some (.int (((Int32.ofNat (W.1 13)) * ((16 : Int32))) + (Int32.ofNat (W.1 15)))), none, none]) (st' := [.ref w]) rfl ?_
        refine Er_getI (v := Int32.ofNat (W.1 15)) rfl hw.1.1 (show gI h w 15 = Int32.ofNat (W.1 15) from (hw.2.1 15 (by omega)).1) ?_
        refine Er_run 2 (pc' := bif decide (((16 : Int32)) ≤ (Int32.ofNat (W.1 15))) then 37 else 22) (ls' := [some (.ref w), some (.int (((Int32.ofNat (W.1 13)) * ((16 : Int32))) + (Int32.ofNat (W.1 15)))), none, none]) (st' := []) rfl ?_
        refine Er_pc (t := 22) (show (bif decide (((16 : Int32)) ≤ (Int32.ofNat (W.1 15))) then 37 else 22) = 22 from by rw [show (decide (((16 : Int32)) ≤ (Int32.ofNat (W.1 15)))) = false from by rw [show (16 : Int32) = Int32.ofNat 16 from rfl, jx_le (by omega) (by omega)]; exact decide_eq_false (by omega)]; rfl) ?_
        refine Er_run 2 (pc' := 24) (ls' := [some (.ref w), some (.int (((Int32.ofNat (W.1 13)) * ((16 : Int32))) + (Int32.ofNat (W.1 15)))), none, none]) (st' := [.ref w, .int (((Int32.ofNat (W.1 13)) * ((16 : Int32))) + (Int32.ofNat (W.1 15)))]) rfl ?_
        refine Er_getR (x := s) rfl hw.1.1 hw.1.2.1 ?_
        refine Er_run 1 (pc' := 28) (ls' := [some (.ref w), some (.int (((Int32.ofNat (W.1 13)) * ((16 : Int32))) + (Int32.ofNat (W.1 15)))), none, none]) (st' := [.ref w, .ref s, .int (((Int32.ofNat (W.1 13)) * ((16 : Int32))) + (Int32.ofNat (W.1 15)))]) rfl ?_
        refine Er_getR (x := s + 52 + 11 * j) rfl hw.1.1 (Eq.trans hw.2.2.1 (show (W).2.1.map (fun j => s + 52 + 11 * j) = some (s + 52 + 11 * j) from by rw [show (W).2.1 = some j from hj]; rfl)) ?_
        refine Er_inv1 (q' := s) (ci := 3) (av := [.ref (s + 52 + 11 * j)]) (rest := [.int (((Int32.ofNat (W.1 13)) * ((16 : Int32))) + (Int32.ofNat (W.1 15)))]) rfl rfl ⟨Nat.le_of_ble_eq_true rfl, Nat.le_of_ble_eq_true rfl⟩ rfl rfl hs.1.1 (s_inLen hs hj8 hbo) ?_
        refine Er_run 1 (pc' := bif decide ((((Int32.ofNat (W.1 13)) * ((16 : Int32))) + (Int32.ofNat (W.1 15))) < (Int32.ofNat (jb_in G F j).length)) then 42 else 37) (ls' := [some (.ref w), some (.int (((Int32.ofNat (W.1 13)) * ((16 : Int32))) + (Int32.ofNat (W.1 15)))), none, none]) (st' := []) rfl ?_
        refine Er_pc (t := 37) (show (bif decide ((((Int32.ofNat (W.1 13)) * ((16 : Int32))) + (Int32.ofNat (W.1 15))) < (Int32.ofNat (jb_in G F j).length)) then 42 else 37) = 37 from by rw [show (decide ((((Int32.ofNat (W.1 13)) * ((16 : Int32))) + (Int32.ofNat (W.1 15))) < (Int32.ofNat (jb_in G F j).length))) = false from by rw [(show Int32.ofNat (W.1 13) * (16 : Int32) + Int32.ofNat (W.1 15) = Int32.ofNat (W.1 13 * 16 + W.1 15) from by rw [show (16 : Int32) = Int32.ofNat 16 from rfl, jx_mul, jx_add]), jx_lt (by omega) (by omega)]; exact decide_eq_false (by omega)]; rfl) ?_
        refine Er_run 1 (pc' := 38) (ls' := [some (.ref w), some (.int (((Int32.ofNat (W.1 13)) * ((16 : Int32))) + (Int32.ofNat (W.1 15)))), none, none]) (st' := [.ref w]) rfl ?_
        obtain ⟨h1, r1, w1, l1, s1, zz1⟩ := s_Worker_mergeSpills (hmg hc).1 (hmg hc).2.1 (hmg hc).2.2.1 (hmg hc).2.2.2 hj hj8 hsy hyw hw hl hs
        have q1 : FW w y h h1 := FW.trans (FW.refl w y h) zz1
        refine Er_inv0 (q' := w) (ci := 8) (av := []) (rest := []) rfl rfl ⟨Nat.le_of_ble_eq_true rfl, Nat.le_of_ble_eq_true rfl⟩ rfl rfl hw.1.1 r1 ?_
        refine Er_fin rfl rfl ?_
        rw [jw_map, if_neg hc]
        exact ⟨rfl, w1, l1, s1, q1⟩
  obtain ⟨r, h', hr, e, hq⟩ := Run_of (Nat.le_of_ble_eq_true rfl) hx
  subst e
  exact ⟨h', hr, hq⟩
end WORKF
