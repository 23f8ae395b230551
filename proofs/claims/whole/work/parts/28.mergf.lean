section MERGF
variable {h : sm_H} {a b n m : Nat} {l : List (Int64 × Int64)}
/-- the scratch row at b holds the list first -/
def SC (h : sm_H) (b : Nat) (l : List (Int64 × Int64)) : Prop := ∀ j p, l[j]? = some p → gL h (b + 1) j = p.1 ∧ gL h (b + 2) j = p.2
def jx_kle (p q : Int64 × Int64) : Bool := decide (p.1 ≤ q.1)
theorem jx_cmpP (x y : Int64) : decide (0 < lg_cmp x y) = !decide (x ≤ y) := by
  rw [lg_cmp]
  by_cases h1 : x > y
  · rw [if_pos h1, decide_eq_false (p := x ≤ y) (fun h2 => Int64.lt_irrefl (Int64.lt_of_lt_of_le h1 h2))]; rfl
  · rw [if_neg h1, decide_eq_true (p := x ≤ y) (Int64.not_lt.1 h1)]
    by_cases h2 : x = y
    · rw [if_pos h2]; rfl
    · rw [if_neg h2]; rfl
theorem SC_add {out : List (Int64 × Int64)} {p : Int64 × Int64} (hs : SC h b out) : SC (setL (setL h (b + 1) out.length p.1) (b + 2) out.length p.2) b (out ++ [p]) := by
  intro i q e
  have e1 : gL (setL (setL h (b + 1) out.length p.1) (b + 2) out.length p.2) (b + 1) i = if i = out.length then p.1 else gL h (b + 1) i := by
    show (if b + 1 = b + 2 ∧ i = out.length then _ else if b + 1 = b + 1 ∧ i = out.length then p.1 else gL h (b + 1) i) = _
    rw [if_neg (by omega)]; simp
  have e2 : gL (setL (setL h (b + 1) out.length p.1) (b + 2) out.length p.2) (b + 2) i = if i = out.length then p.2 else gL h (b + 2) i := by
    show (if b + 2 = b + 2 ∧ i = out.length then p.2 else if b + 2 = b + 1 ∧ i = out.length then _ else gL h (b + 2) i) = _
    rw [if_neg (c := b + 2 = b + 1 ∧ i = out.length) (by omega)]; simp
  rw [e1, e2]
  by_cases hi : i = out.length
  · subst hi
    simp at e
    subst e
    simp
  · have hlt : i < out.length := by
      have := (List.getElem?_eq_some_iff.1 e).1
      simp at this
      omega
    rw [List.getElem?_append_left hlt] at e
    rw [if_neg hi, if_neg hi]
    exact hs i q e
theorem SC_post {M pc : Nat} {ls : sm_L} {st : List Value} {h2 : sm_H} {out X Y : List (Int64 × Int64)} {p : Int64 × Int64} (hf : Fr (b + 1) (b + 3) h h2) (hxy : p :: X = Y) (k : Ev M pc ls st h2 (fun r h1 => r = .inl none ∧ SC h1 b (out ++ [p] ++ X) ∧ Fr (b + 1) (b + 3) h2 h1)) : Ev M pc ls st h2 (fun r h1 => r = .inl none ∧ SC h1 b (out ++ Y) ∧ Fr (b + 1) (b + 3) h h1) :=
  k.mono (fun r h' hq => ⟨hq.1, by have := hq.2.1; rw [List.append_assoc] at this; rw [← hxy]; exact this, hf.trans hq.2.2⟩)
theorem jx_slice {l : List (Int64 × Int64)} {i e : Nat} {p : Int64 × Int64} (hi : l[i]? = some p) (he : i < e) : (l.drop i).take (e - i) = p :: (l.drop (i + 1)).take (e - (i + 1)) := by
  have h1 := List.getElem?_eq_some_iff.1 hi
  rw [List.drop_eq_getElem_cons h1.1, show e - i = (e - (i + 1)) + 1 from by omega, List.take_succ_cons, h1.2]

theorem l_merge {f w : Int32} {md en : Nat} (hm : m ≤ 100000) (hd : a + 3 ≤ b ∨ b + 3 ≤ a) (hen : en ≤ l.length) (hml : l.length ≤ m) (hme : md ≤ en) : ∀ (k : Nat) (h : sm_H) (lf rt : Nat) (out : List (Int64 × Int64)) (x9 x10 : Option Value), PL h a n l → isP h b m → SC h b out → lf ≤ md → rt ≤ en → (md - lf) + (en - rt) = k → out.length + k = en → Ev 11 35 [some (.ref a), some (.ref b), some (.int f), some (.int w), some (.int (Int32.ofNat md)), some (.int (Int32.ofNat en)), some (.int (Int32.ofNat lf)), some (.int (Int32.ofNat rt)), some (.int (Int32.ofNat out.length)), x9, x10] [] h (fun r h1 => r = .inl none ∧ SC h1 b (out ++ List.merge ((l.drop lf).take (md - lf)) ((l.drop rt).take (en - rt)) jx_kle) ∧ Fr (b + 1) (b + 3) h h1) := by
  intro k
  induction k with
  | zero =>
    intro h lf rt out x9 x10 hp hb hs h1 h2 h3 h4
    have hn := hp.2.1
    have hln := hp.2.2.1
    refine Er_run 3 (pc' := bif decide ((Int32.ofNat en) ≤ (Int32.ofNat out.length)) then 143 else 42) (ls' := [some (.ref a), some (.ref b), some (.int f), some (.int w), some (.int (Int32.ofNat md)), some (.int (Int32.ofNat en)), some (.int (Int32.ofNat lf)), some (.int (Int32.ofNat rt)), some (.int (Int32.ofNat out.length)), x9, x10]) (st' := []) rfl ?_
    refine Er_pc (t := 143) (show (bif decide ((Int32.ofNat en) ≤ (Int32.ofNat out.length)) then 143 else 42) = 143 from by rw [show (decide ((Int32.ofNat en) ≤ (Int32.ofNat out.length))) = true from by rw [jx_le (by omega) (by omega)]; exact decide_eq_true (by omega)]; rfl) ?_
    exact Er_fin rfl rfl ⟨rfl, by rw [show md - lf = 0 from by omega, show en - rt = 0 from by omega, List.take_zero, List.take_zero]; simpa [List.merge] using hs, Fr.refl _ _ _⟩
  | succ k ih =>
    intro h lf rt out x9 x10 hp hb hs h1 h2 h3 h4
    have hn := hp.2.1
    have hln := hp.2.2.1
    by_cases hr : en ≤ rt
    · obtain ⟨p, e1⟩ := jx_at (l := l) (i := lf) (by omega)
      refine Er_run 3 (pc' := bif decide ((Int32.ofNat en) ≤ (Int32.ofNat out.length)) then 143 else 42) (ls' := [some (.ref a), some (.ref b), some (.int f), some (.int w), some (.int (Int32.ofNat md)), some (.int (Int32.ofNat en)), some (.int (Int32.ofNat lf)), some (.int (Int32.ofNat rt)), some (.int (Int32.ofNat out.length)), x9, x10]) (st' := []) rfl ?_
      refine Er_pc (t := 42) (show (bif decide ((Int32.ofNat en) ≤ (Int32.ofNat out.length)) then 143 else 42) = 42 from by rw [show (decide ((Int32.ofNat en) ≤ (Int32.ofNat out.length))) = false from by rw [jx_le (by omega) (by omega)]; exact decide_eq_false (by omega)]; rfl) ?_
      refine Er_run 3 (pc' := bif decide ((Int32.ofNat en) ≤ (Int32.ofNat rt)) then 74 else 49) (ls' := [some (.ref a), some (.ref b), some (.int f), some (.int w), some (.int (Int32.ofNat md)), some (.int (Int32.ofNat en)), some (.int (Int32.ofNat lf)), some (.int (Int32.ofNat rt)), some (.int (Int32.ofNat out.length)), x9, x10]) (st' := []) rfl ?_
      refine Er_pc (t := 74) (show (bif decide ((Int32.ofNat en) ≤ (Int32.ofNat rt)) then 74 else 49) = 74 from by rw [show (decide ((Int32.ofNat en) ≤ (Int32.ofNat rt))) = true from by rw [jx_le (by omega) (by omega)]; exact decide_eq_true (by omega)]; rfl) ?_
      refine Er_run 2 (pc' := 79) (ls' := [some (.ref a), some (.ref b), some (.int f), some (.int w), some (.int (Int32.ofNat md)), some (.int (Int32.ofNat en)), some (.int (Int32.ofNat lf)), some (.int (Int32.ofNat rt)), some (.int (Int32.ofNat out.length)), x9, x10]) (st' := [.int ((1 : Int32))]) rfl ?_
      have fr : Fr (b + 1) (b + 3) h (setL (setL h (b + 1) out.length p.1) (b + 2) out.length p.2) := (Fr.setL (by omega) (by omega)).trans (Fr.setL (by omega) (by omega))
      have ik := ih (setL (setL h (b + 1) out.length p.1) (b + 2) out.length p.2) (lf + 1) (rt) (out ++ [p]) (some (.int (1 : Int32))) (some (.int (Int32.ofNat lf))) (PL_fr fr (by omega) hp) hb (SC_add hs) (by omega) (by omega) (by omega) (by simp; omega)
      rw [show (out ++ [p]).length = out.length + 1 from by simp] at ik
      exact l_mergeL hp hb hm hd (by omega) e1 (SC_post fr (by rw [show en - rt = 0 from by omega, jx_slice e1 (by omega), List.take_zero, List.merge_right, List.merge_right]) ik)
    · obtain ⟨q, e2⟩ := jx_at (l := l) (i := rt) (by omega)
      by_cases hlf : md ≤ lf
      · skip
        refine Er_run 3 (pc' := bif decide ((Int32.ofNat en) ≤ (Int32.ofNat out.length)) then 143 else 42) (ls' := [some (.ref a), some (.ref b), some (.int f), some (.int w), some (.int (Int32.ofNat md)), some (.int (Int32.ofNat en)), some (.int (Int32.ofNat lf)), some (.int (Int32.ofNat rt)), some (.int (Int32.ofNat out.length)), x9, x10]) (st' := []) rfl ?_
        refine Er_pc (t := 42) (show (bif decide ((Int32.ofNat en) ≤ (Int32.ofNat out.length)) then 143 else 42) = 42 from by rw [show (decide ((Int32.ofNat en) ≤ (Int32.ofNat out.length))) = false from by rw [jx_le (by omega) (by omega)]; exact decide_eq_false (by omega)]; rfl) ?_
        refine Er_run 3 (pc' := bif decide ((Int32.ofNat en) ≤ (Int32.ofNat rt)) then 74 else 49) (ls' := [some (.ref a), some (.ref b), some (.int f), some (.int w), some (.int (Int32.ofNat md)), some (.int (Int32.ofNat en)), some (.int (Int32.ofNat lf)), some (.int (Int32.ofNat rt)), some (.int (Int32.ofNat out.length)), x9, x10]) (st' := []) rfl ?_
        refine Er_pc (t := 49) (show (bif decide ((Int32.ofNat en) ≤ (Int32.ofNat rt)) then 74 else 49) = 49 from by rw [show (decide ((Int32.ofNat en) ≤ (Int32.ofNat rt))) = false from by rw [jx_le (by omega) (by omega)]; exact decide_eq_false (by omega)]; rfl) ?_
        refine Er_run 3 (pc' := bif decide ((Int32.ofNat md) ≤ (Int32.ofNat lf)) then 78 else 56) (ls' := [some (.ref a), some (.ref b), some (.int f), some (.int w), some (.int (Int32.ofNat md)), some (.int (Int32.ofNat en)), some (.int (Int32.ofNat lf)), some (.int (Int32.ofNat rt)), some (.int (Int32.ofNat out.length)), x9, x10]) (st' := []) rfl ?_
        refine Er_pc (t := 78) (show (bif decide ((Int32.ofNat md) ≤ (Int32.ofNat lf)) then 78 else 56) = 78 from by rw [show (decide ((Int32.ofNat md) ≤ (Int32.ofNat lf))) = true from by rw [jx_le (by omega) (by omega)]; exact decide_eq_true (by omega)]; rfl) ?_
        refine Er_run 1 (pc' := 79) (ls' := [some (.ref a), some (.ref b), some (.int f), some (.int w), some (.int (Int32.ofNat md)), some (.int (Int32.ofNat en)), some (.int (Int32.ofNat lf)), some (.int (Int32.ofNat rt)), some (.int (Int32.ofNat out.length)), x9, x10]) (st' := [.int ((0 : Int32))]) rfl ?_
        have fr : Fr (b + 1) (b + 3) h (setL (setL h (b + 1) out.length q.1) (b + 2) out.length q.2) := (Fr.setL (by omega) (by omega)).trans (Fr.setL (by omega) (by omega))
        have ik := ih (setL (setL h (b + 1) out.length q.1) (b + 2) out.length q.2) (lf) (rt + 1) (out ++ [q]) (some (.int (0 : Int32))) (some (.int (Int32.ofNat rt))) (PL_fr fr (by omega) hp) hb (SC_add hs) (by omega) (by omega) (by omega) (by simp; omega)
        rw [show (out ++ [q]).length = out.length + 1 from by simp] at ik
        exact l_mergeR hp hb hm hd (by omega) e2 (SC_post fr (by rw [show md - lf = 0 from by omega, jx_slice e2 (by omega), List.take_zero, List.nil_merge, List.nil_merge]) ik)
      · obtain ⟨p, e1⟩ := jx_at (l := l) (i := lf) (by omega)
        by_cases hpq : p.1 ≤ q.1
        · skip
          refine Er_run 3 (pc' := bif decide ((Int32.ofNat en) ≤ (Int32.ofNat out.length)) then 143 else 42) (ls' := [some (.ref a), some (.ref b), some (.int f), some (.int w), some (.int (Int32.ofNat md)), some (.int (Int32.ofNat en)), some (.int (Int32.ofNat lf)), some (.int (Int32.ofNat rt)), some (.int (Int32.ofNat out.length)), x9, x10]) (st' := []) rfl ?_
          refine Er_pc (t := 42) (show (bif decide ((Int32.ofNat en) ≤ (Int32.ofNat out.length)) then 143 else 42) = 42 from by rw [show (decide ((Int32.ofNat en) ≤ (Int32.ofNat out.length))) = false from by rw [jx_le (by omega) (by omega)]; exact decide_eq_false (by omega)]; rfl) ?_
          refine Er_run 3 (pc' := bif decide ((Int32.ofNat en) ≤ (Int32.ofNat rt)) then 74 else 49) (ls' := [some (.ref a), some (.ref b), some (.int f), some (.int w), some (.int (Int32.ofNat md)), some (.int (Int32.ofNat en)), some (.int (Int32.ofNat lf)), some (.int (Int32.ofNat rt)), some (.int (Int32.ofNat out.length)), x9, x10]) (st' := []) rfl ?_
          refine Er_pc (t := 49) (show (bif decide ((Int32.ofNat en) ≤ (Int32.ofNat rt)) then 74 else 49) = 49 from by rw [show (decide ((Int32.ofNat en) ≤ (Int32.ofNat rt))) = false from by rw [jx_le (by omega) (by omega)]; exact decide_eq_false (by omega)]; rfl) ?_
          refine Er_run 3 (pc' := bif decide ((Int32.ofNat md) ≤ (Int32.ofNat lf)) then 78 else 56) (ls' := [some (.ref a), some (.ref b), some (.int f), some (.int w), some (.int (Int32.ofNat md)), some (.int (Int32.ofNat en)), some (.int (Int32.ofNat lf)), some (.int (Int32.ofNat rt)), some (.int (Int32.ofNat out.length)), x9, x10]) (st' := []) rfl ?_
          refine Er_pc (t := 56) (show (bif decide ((Int32.ofNat md) ≤ (Int32.ofNat lf)) then 78 else 56) = 56 from by rw [show (decide ((Int32.ofNat md) ≤ (Int32.ofNat lf))) = false from by rw [jx_le (by omega) (by omega)]; exact decide_eq_false (by omega)]; rfl) ?_
          refine Er_run 1 (pc' := 57) (ls' := [some (.ref a), some (.ref b), some (.int f), some (.int w), some (.int (Int32.ofNat md)), some (.int (Int32.ofNat en)), some (.int (Int32.ofNat lf)), some (.int (Int32.ofNat rt)), some (.int (Int32.ofNat out.length)), x9, x10]) (st' := [.ref a]) rfl ?_
          refine Er_getR (x := a + 1) rfl hp.1.1 hp.1.2.1 ?_
          refine Er_run 1 (pc' := 62) (ls' := [some (.ref a), some (.ref b), some (.int f), some (.int w), some (.int (Int32.ofNat md)), some (.int (Int32.ofNat en)), some (.int (Int32.ofNat lf)), some (.int (Int32.ofNat rt)), some (.int (Int32.ofNat out.length)), x9, x10]) (st' := [.int (Int32.ofNat lf), .ref (a + 1)]) rfl ?_
          refine Er_lald (v := p.1) rfl hp.1.2.2.2.1 (by show sm_in _ (gS h (a + 1)).2 = true; rw [hp.1.2.2.2.2.1]; exact sm_in_of (by rw [sm_ofNat_toInt (by omega)]; omega) (by rw [sm_ofNat_toInt (by omega)]; omega)) (by rw [jx_cn (by omega)]; exact (hp.2.2.2.2 lf p e1).1) ?_
          refine Er_run 1 (pc' := 64) (ls' := [some (.ref a), some (.ref b), some (.int f), some (.int w), some (.int (Int32.ofNat md)), some (.int (Int32.ofNat en)), some (.int (Int32.ofNat lf)), some (.int (Int32.ofNat rt)), some (.int (Int32.ofNat out.length)), x9, x10]) (st' := [.ref a, .long (p.1)]) rfl ?_
          refine Er_getR (x := a + 1) rfl hp.1.1 hp.1.2.1 ?_
          refine Er_run 1 (pc' := 69) (ls' := [some (.ref a), some (.ref b), some (.int f), some (.int w), some (.int (Int32.ofNat md)), some (.int (Int32.ofNat en)), some (.int (Int32.ofNat lf)), some (.int (Int32.ofNat rt)), some (.int (Int32.ofNat out.length)), x9, x10]) (st' := [.int (Int32.ofNat rt), .ref (a + 1), .long (p.1)]) rfl ?_
          refine Er_lald (v := q.1) rfl hp.1.2.2.2.1 (by show sm_in _ (gS h (a + 1)).2 = true; rw [hp.1.2.2.2.2.1]; exact sm_in_of (by rw [sm_ofNat_toInt (by omega)]; omega) (by rw [sm_ofNat_toInt (by omega)]; omega)) (by rw [jx_cn (by omega)]; exact (hp.2.2.2.2 rt q e2).1) ?_
          refine Er_run 2 (pc' := bif decide (0 < (lg_cmp p.1 q.1)) then 78 else 74) (ls' := [some (.ref a), some (.ref b), some (.int f), some (.int w), some (.int (Int32.ofNat md)), some (.int (Int32.ofNat en)), some (.int (Int32.ofNat lf)), some (.int (Int32.ofNat rt)), some (.int (Int32.ofNat out.length)), x9, x10]) (st' := []) rfl ?_
          refine Er_pc (t := 74) (show (bif decide (0 < (lg_cmp p.1 q.1)) then 78 else 74) = 74 from by rw [show (decide (0 < (lg_cmp p.1 q.1))) = false from by rw [jx_cmpP, decide_eq_true hpq]; rfl]; rfl) ?_
          refine Er_run 2 (pc' := 79) (ls' := [some (.ref a), some (.ref b), some (.int f), some (.int w), some (.int (Int32.ofNat md)), some (.int (Int32.ofNat en)), some (.int (Int32.ofNat lf)), some (.int (Int32.ofNat rt)), some (.int (Int32.ofNat out.length)), x9, x10]) (st' := [.int ((1 : Int32))]) rfl ?_
          have fr : Fr (b + 1) (b + 3) h (setL (setL h (b + 1) out.length p.1) (b + 2) out.length p.2) := (Fr.setL (by omega) (by omega)).trans (Fr.setL (by omega) (by omega))
          have ik := ih (setL (setL h (b + 1) out.length p.1) (b + 2) out.length p.2) (lf + 1) (rt) (out ++ [p]) (some (.int (1 : Int32))) (some (.int (Int32.ofNat lf))) (PL_fr fr (by omega) hp) hb (SC_add hs) (by omega) (by omega) (by omega) (by simp; omega)
          rw [show (out ++ [p]).length = out.length + 1 from by simp] at ik
          exact l_mergeL hp hb hm hd (by omega) e1 (SC_post fr (by rw [jx_slice e1 (by omega), jx_slice e2 (by omega), List.cons_merge_cons, if_pos (show jx_kle p q = true from decide_eq_true hpq)]) ik)
        · skip
          refine Er_run 3 (pc' := bif decide ((Int32.ofNat en) ≤ (Int32.ofNat out.length)) then 143 else 42) (ls' := [some (.ref a), some (.ref b), some (.int f), some (.int w), some (.int (Int32.ofNat md)), some (.int (Int32.ofNat en)), some (.int (Int32.ofNat lf)), some (.int (Int32.ofNat rt)), some (.int (Int32.ofNat out.length)), x9, x10]) (st' := []) rfl ?_
          refine Er_pc (t := 42) (show (bif decide ((Int32.ofNat en) ≤ (Int32.ofNat out.length)) then 143 else 42) = 42 from by rw [show (decide ((Int32.ofNat en) ≤ (Int32.ofNat out.length))) = false from by rw [jx_le (by omega) (by omega)]; exact decide_eq_false (by omega)]; rfl) ?_
          refine Er_run 3 (pc' := bif decide ((Int32.ofNat en) ≤ (Int32.ofNat rt)) then 74 else 49) (ls' := [some (.ref a), some (.ref b), some (.int f), some (.int w), some (.int (Int32.ofNat md)), some (.int (Int32.ofNat en)), some (.int (Int32.ofNat lf)), some (.int (Int32.ofNat rt)), some (.int (Int32.ofNat out.length)), x9, x10]) (st' := []) rfl ?_
          refine Er_pc (t := 49) (show (bif decide ((Int32.ofNat en) ≤ (Int32.ofNat rt)) then 74 else 49) = 49 from by rw [show (decide ((Int32.ofNat en) ≤ (Int32.ofNat rt))) = false from by rw [jx_le (by omega) (by omega)]; exact decide_eq_false (by omega)]; rfl) ?_
          refine Er_run 3 (pc' := bif decide ((Int32.ofNat md) ≤ (Int32.ofNat lf)) then 78 else 56) (ls' := [some (.ref a), some (.ref b), some (.int f), some (.int w), some (.int (Int32.ofNat md)), some (.int (Int32.ofNat en)), some (.int (Int32.ofNat lf)), some (.int (Int32.ofNat rt)), some (.int (Int32.ofNat out.length)), x9, x10]) (st' := []) rfl ?_
          refine Er_pc (t := 56) (show (bif decide ((Int32.ofNat md) ≤ (Int32.ofNat lf)) then 78 else 56) = 56 from by rw [show (decide ((Int32.ofNat md) ≤ (Int32.ofNat lf))) = false from by rw [jx_le (by omega) (by omega)]; exact decide_eq_false (by omega)]; rfl) ?_
          refine Er_run 1 (pc' := 57) (ls' := [some (.ref a), some (.ref b), some (.int f), some (.int w), some (.int (Int32.ofNat md)), some (.int (Int32.ofNat en)), some (.int (Int32.ofNat lf)), some (.int (Int32.ofNat rt)), some (.int (Int32.ofNat out.length)), x9, x10]) (st' := [.ref a]) rfl ?_
          refine Er_getR (x := a + 1) rfl hp.1.1 hp.1.2.1 ?_
          refine Er_run 1 (pc' := 62) (ls' := [some (.ref a), some (.ref b), some (.int f), some (.int w), some (.int (Int32.ofNat md)), some (.int (Int32.ofNat en)), some (.int (Int32.ofNat lf)), some (.int (Int32.ofNat rt)), some (.int (Int32.ofNat out.length)), x9, x10]) (st' := [.int (Int32.ofNat lf), .ref (a + 1)]) rfl ?_
          refine Er_lald (v := p.1) rfl hp.1.2.2.2.1 (by show sm_in _ (gS h (a + 1)).2 = true; rw [hp.1.2.2.2.2.1]; exact sm_in_of (by rw [sm_ofNat_toInt (by omega)]; omega) (by rw [sm_ofNat_toInt (by omega)]; omega)) (by rw [jx_cn (by omega)]; exact (hp.2.2.2.2 lf p e1).1) ?_
          refine Er_run 1 (pc' := 64) (ls' := [some (.ref a), some (.ref b), some (.int f), some (.int w), some (.int (Int32.ofNat md)), some (.int (Int32.ofNat en)), some (.int (Int32.ofNat lf)), some (.int (Int32.ofNat rt)), some (.int (Int32.ofNat out.length)), x9, x10]) (st' := [.ref a, .long (p.1)]) rfl ?_
          refine Er_getR (x := a + 1) rfl hp.1.1 hp.1.2.1 ?_
          refine Er_run 1 (pc' := 69) (ls' := [some (.ref a), some (.ref b), some (.int f), some (.int w), some (.int (Int32.ofNat md)), some (.int (Int32.ofNat en)), some (.int (Int32.ofNat lf)), some (.int (Int32.ofNat rt)), some (.int (Int32.ofNat out.length)), x9, x10]) (st' := [.int (Int32.ofNat rt), .ref (a + 1), .long (p.1)]) rfl ?_
          refine Er_lald (v := q.1) rfl hp.1.2.2.2.1 (by show sm_in _ (gS h (a + 1)).2 = true; rw [hp.1.2.2.2.2.1]; exact sm_in_of (by rw [sm_ofNat_toInt (by omega)]; omega) (by rw [sm_ofNat_toInt (by omega)]; omega)) (by rw [jx_cn (by omega)]; exact (hp.2.2.2.2 rt q e2).1) ?_
          refine Er_run 2 (pc' := bif decide (0 < (lg_cmp p.1 q.1)) then 78 else 74) (ls' := [some (.ref a), some (.ref b), some (.int f), some (.int w), some (.int (Int32.ofNat md)), some (.int (Int32.ofNat en)), some (.int (Int32.ofNat lf)), some (.int (Int32.ofNat rt)), some (.int (Int32.ofNat out.length)), x9, x10]) (st' := []) rfl ?_
          refine Er_pc (t := 78) (show (bif decide (0 < (lg_cmp p.1 q.1)) then 78 else 74) = 78 from by rw [show (decide (0 < (lg_cmp p.1 q.1))) = true from by rw [jx_cmpP, decide_eq_false hpq]; rfl]; rfl) ?_
          refine Er_run 1 (pc' := 79) (ls' := [some (.ref a), some (.ref b), some (.int f), some (.int w), some (.int (Int32.ofNat md)), some (.int (Int32.ofNat en)), some (.int (Int32.ofNat lf)), some (.int (Int32.ofNat rt)), some (.int (Int32.ofNat out.length)), x9, x10]) (st' := [.int ((0 : Int32))]) rfl ?_
          have fr : Fr (b + 1) (b + 3) h (setL (setL h (b + 1) out.length q.1) (b + 2) out.length q.2) := (Fr.setL (by omega) (by omega)).trans (Fr.setL (by omega) (by omega))
          have ik := ih (setL (setL h (b + 1) out.length q.1) (b + 2) out.length q.2) (lf) (rt + 1) (out ++ [q]) (some (.int (0 : Int32))) (some (.int (Int32.ofNat rt))) (PL_fr fr (by omega) hp) hb (SC_add hs) (by omega) (by omega) (by omega) (by simp; omega)
          rw [show (out ++ [q]).length = out.length + 1 from by simp] at ik
          exact l_mergeR hp hb hm hd (by omega) e2 (SC_post fr (by rw [jx_slice e1 (by omega), jx_slice e2 (by omega), List.cons_merge_cons, if_neg (by rw [show jx_kle p q = false from decide_eq_false hpq]; decide)]) ik)
end MERGF
