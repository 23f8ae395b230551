section REFV
variable {h h0 g g1 : sm_H} {a : Nat} {Q : sm_R → sm_H → Prop} {n c i j t r np made : Nat} {k v : Int64} {e em l T S' : Jl} {p : Int64 × Int64} {u5 u6 u7 : Option Value} {pg : List (Int32 × Int64)} {x4 x5 x6 : Int32}
theorem tw_split (k : Int64) : ∀ (t : Jl), ∃ g rest, t = g ++ rest ∧ g.length = (t.takeWhile (fun q => q.1 == k)).length ∧ (∀ d, d ∈ g → d.1 = k) ∧ ∀ d, rest.head? = some d → ¬ d.1 = k := by
  intro t
  induction t with
  | nil => exact ⟨[], [], rfl, rfl, fun d hd => (by cases hd), fun d hd => (by cases hd)⟩
  | cons y t ih =>
    by_cases e : y.1 = k
    · obtain ⟨g, rest, h1, h2, h3, h4⟩ := ih
      refine ⟨y :: g, rest, by rw [List.cons_append, ← h1], ?_, fun d hd => ?_, h4⟩
      · rw [List.takeWhile_cons, if_pos (by simpa using e), List.length_cons, List.length_cons, h2]
      · rcases List.mem_cons.1 hd with z | z
        · rw [z]; exact e
        · exact h3 d z
    · refine ⟨[], y :: t, rfl, ?_, fun d hd => (by cases hd), fun d hd => ?_⟩
      · rw [List.takeWhile_cons, if_neg (by simpa using e)]
      · cases hd; exact e
/-- a sorted row: the first KEY's pairs, then greater KEYS -/
theorem mk_split {x : Int64 × Int64} {t : Jl} (hs : jx_so (x :: t)) : ∃ g rest, x :: t = g ++ rest ∧ g.length = me_k (x :: t) ∧ (∀ d, d ∈ g → d.1 = x.1) ∧ (∀ d, d ∈ rest → ¬ d.1 = x.1) ∧ g[0]? = some x := by
  obtain ⟨g, rest, h1, h2, h3, h4⟩ := tw_split x.1 t
  refine ⟨x :: g, rest, by rw [List.cons_append, ← h1], ?_, fun d hd => ?_, fun d hd => ?_, rfl⟩
  · show g.length + 1 = 1 + _
    rw [h2]; omega
  · rcases List.mem_cons.1 hd with z | z
    · rw [z]
    · exact h3 d z
  · have hs' : List.Pairwise (fun (p q : Int64 × Int64) => p.1 ≤ q.1) (x :: t) := hs
    rw [h1, List.pairwise_cons, List.pairwise_append] at hs'
    rcases rest with _ | ⟨d0, rest⟩
    · cases hd
    · have e0 := h4 d0 rfl
      have e1 : x.1 ≤ d0.1 := hs'.1 d0 (List.mem_append_right _ List.mem_cons_self)
      rcases List.mem_cons.1 hd with z | z
      · rw [z]; exact e0
      · have e2 : d0.1 ≤ d.1 := (List.pairwise_cons.1 hs'.2.2.1).1 d z
        intro e3
        rw [e3] at e2
        exact e0 (Int64.le_antisymm e2 e1)
theorem flt_no {x : Int64 × Int64} {t : Jl} (hs : jx_so (x :: t)) (hq : pq np r x = false) : (x :: t).filter (pq np r) = ((x :: t).drop (me_k (x :: t))).filter (pq np r) := by
  obtain ⟨g, rest, h1, h2, h3, h4, _⟩ := mk_split hs
  rw [← h2, h1, List.drop_left, List.filter_append]
  have : g.filter (pq np r) = [] := by
    rw [List.filter_eq_nil_iff]
    intro d hd e
    have : pq np r d = pq np r x := by rw [pq, pq, h3 d hd]
    rw [this, hq] at e; cases e
  rw [this, List.nil_append]
theorem flt_yes {x : Int64 × Int64} {t : Jl} (hs : jx_so (x :: t)) (hq : pq np r x = true) : (x :: t).filter (pq np r) ≠ [] ∧ ((x :: t).filter (pq np r)).take (me_k ((x :: t).filter (pq np r))) = (x :: t).take (me_k (x :: t)) ∧ ((x :: t).filter (pq np r)).drop (me_k ((x :: t).filter (pq np r))) = ((x :: t).drop (me_k (x :: t))).filter (pq np r) := by
  obtain ⟨g, rest, h1, h2, h3, h4, h5⟩ := mk_split hs
  have hg : g.filter (pq np r) = g := by
    rw [List.filter_eq_self]
    intro d hd
    have : pq np r d = pq np r x := by rw [pq, pq, h3 d hd]
    rw [this, hq]
  have hf : (x :: t).filter (pq np r) = g ++ rest.filter (pq np r) := by rw [h1, List.filter_append, hg]
  have hgl : 1 ≤ g.length := by
    rcases g with _ | ⟨y, g⟩
    · cases h5
    · rw [List.length_cons]; omega
  have hk : me_k (g ++ rest.filter (pq np r)) = g.length := by
    refine me_k_at (x := x) (by rw [List.getElem?_append_left (by omega)]; exact h5) hgl (by rw [List.length_append]; omega) (fun u d hu hd => ?_) ?_
    · rw [List.getElem?_append_left hu] at hd
      exact h3 d (List.mem_of_getElem? hd)
    · cases hr : (rest.filter (pq np r))[0]? with
      | none =>
        left
        have := List.getElem?_eq_none_iff.1 hr
        rw [List.length_append]; omega
      | some d =>
        refine Or.inr ⟨d, by rw [List.getElem?_append_right (Nat.le_refl _), Nat.sub_self]; exact hr, h4 d ?_⟩
        exact (List.mem_filter.1 (List.mem_of_getElem? hr)).1
  refine ⟨?_, ?_, ?_⟩
  · rw [hf]
    intro z
    have := congrArg List.length z
    rw [List.length_append, List.length_nil] at this
    omega
  · rw [hf, hk, List.take_left, ← h2, h1, List.take_left]
  · rw [hf, hk, List.drop_left, ← h2, h1, List.drop_left]

set_option maxRecDepth 10000 in
theorem flt_sum : ∀ (S' : Jl) (m : Nat), m ≤ 100 → sumOn (fun r => (S'.filter (pq np r)).length) m ≤ S'.length := by
  intro S'
  induction S' with
  | nil => intro m _; exact Nat.le_of_eq (sumOn_zero (f := fun r => (List.filter (pq np r) []).length) m (fun i _ => rfl))
  | cons x t ih =>
    intro m hm
    rw [List.length_cons]
    have h1 := ih m hm
    have key : ∀ m, m ≤ 100 → sumOn (fun r => ((x :: t).filter (pq np r)).length) m ≤ sumOn (fun r => (t.filter (pq np r)).length) m + 1 ∧ ((∀ s, s < m → ¬ pq np s x = true) → sumOn (fun r => ((x :: t).filter (pq np r)).length) m = sumOn (fun r => (t.filter (pq np r)).length) m) := by
      intro m
      induction m with
      | zero => intro _; exact ⟨Nat.zero_le _, fun _ => rfl⟩
      | succ m ih2 =>
        intro hm2
        obtain ⟨i1, i2⟩ := ih2 (by omega)
        rw [sumOn, sumOn]
        by_cases hx : pq np m x = true
        · have hno : ∀ s, s < m → ¬ pq np s x = true := by
            intro s hs z
            have e1 := of_decide_eq_true hx
            have e2 := of_decide_eq_true z
            have := jx_inj (by omega) (by omega) (e2.symm.trans e1)
            omega
          rw [i2 hno, List.filter_cons, if_pos hx, List.length_cons]
          exact ⟨by omega, fun z => absurd hx (z m (by omega))⟩
        · rw [List.filter_cons, if_neg hx]
          exact ⟨by omega, fun z => by rw [i2 (fun s hs => z s (by omega))]⟩
    have := (key m hm).1
    omega

set_option maxRecDepth 10000 in
theorem l_wE (he : e.length + em.length ≤ 4000) (hem : em.length ≤ 4) (kk : ∀ g, mrO g a → FrL [] [a + 20, a + 21] h0 g → (∀ u d, (e ++ em)[u]? = some d → gL g (a + 20) u = d.1) → (∀ u d, (e ++ em)[u]? = some d → gL g (a + 21) u = d.2) → Ev 164 273 [some (.ref a), some (.int (Int32.ofNat j)), some (.int (Int32.ofNat n)), some (.int (Int32.ofNat (e.length + em.length))), some (.int x4), some (.int x5), some (.int x6), some (.int (Int32.ofNat em.length))] [] g Q) : ∀ (f c : Nat) (g : sm_H), c + f = em.length → mrO g a → gI g a 31 = Int32.ofNat em.length → (∀ u d, em[u]? = some d → gL g (a + 24) u = d.1) → (∀ u d, em[u]? = some d → gL g (a + 25) u = d.2) → (∀ u d, (e ++ em.take c)[u]? = some d → gL g (a + 20) u = d.1) → (∀ u d, (e ++ em.take c)[u]? = some d → gL g (a + 21) u = d.2) → FrL [] [a + 20, a + 21] h0 g → Ev 164 229 [some (.ref a), some (.int (Int32.ofNat j)), some (.int (Int32.ofNat n)), some (.int (Int32.ofNat (e.length + c))), some (.int x4), some (.int x5), some (.int x6), some (.int (Int32.ofNat c))] [] g Q := by
  intro f
  induction f with
  | zero =>
    intro c g hc m0 em0 ek0 ew0 dk0 dv0 zz
    have e0 : c = em.length := by omega
    subst e0
    refine Er_run 2 (pc' := 232) (ls' := [some (.ref a), some (.int (Int32.ofNat j)), some (.int (Int32.ofNat n)), some (.int (Int32.ofNat (e.length + em.length))), some (.int x4), some (.int x5), some (.int x6), some (.int (Int32.ofNat em.length))]) (st' := [.ref a, .int (Int32.ofNat em.length)]) rfl ?_
    refine Er_getI (v := Int32.ofNat em.length) rfl m0.1 em0 ?_
    refine Er_run 1 (pc' := bif decide ((Int32.ofNat em.length) ≤ (Int32.ofNat em.length)) then 273 else 238) (ls' := [some (.ref a), some (.int (Int32.ofNat j)), some (.int (Int32.ofNat n)), some (.int (Int32.ofNat (e.length + em.length))), some (.int x4), some (.int x5), some (.int x6), some (.int (Int32.ofNat em.length))]) (st' := []) rfl ?_
    refine Er_pc (t := 273) (show (bif decide ((Int32.ofNat em.length) ≤ (Int32.ofNat em.length)) then 273 else 238) = 273 from by rw [show (decide ((Int32.ofNat em.length) ≤ (Int32.ofNat em.length))) = true from by rw [jx_le (by omega) (by omega)]; exact decide_eq_true (Nat.le_refl _)]; rfl) ?_
    exact kk g m0 zz (by rw [List.take_length] at dk0; exact dk0) (by rw [List.take_length] at dv0; exact dv0)
  | succ f ih =>
    intro c g hc m0 em0 ek0 ew0 dk0 dv0 zz
    obtain ⟨p, hp⟩ : ∃ p, em[c]? = some p := ⟨em[c]'(by omega), List.getElem?_eq_getElem (by omega)⟩
    have z0 : FrL [] [a + 20, a + 21] g g := FrL.refl g
    refine Er_run 2 (pc' := 232) (ls' := [some (.ref a), some (.int (Int32.ofNat j)), some (.int (Int32.ofNat n)), some (.int (Int32.ofNat (e.length + c))), some (.int x4), some (.int x5), some (.int x6), some (.int (Int32.ofNat c))]) (st' := [.ref a, .int (Int32.ofNat c)]) rfl ?_
    refine Er_getI (v := Int32.ofNat em.length) rfl m0.1 em0 ?_
    refine Er_run 1 (pc' := bif decide ((Int32.ofNat em.length) ≤ (Int32.ofNat c)) then 273 else 238) (ls' := [some (.ref a), some (.int (Int32.ofNat j)), some (.int (Int32.ofNat n)), some (.int (Int32.ofNat (e.length + c))), some (.int x4), some (.int x5), some (.int x6), some (.int (Int32.ofNat c))]) (st' := []) rfl ?_
    refine Er_pc (t := 238) (show (bif decide ((Int32.ofNat em.length) ≤ (Int32.ofNat c)) then 273 else 238) = 238 from by rw [show (decide ((Int32.ofNat em.length) ≤ (Int32.ofNat c))) = false from by rw [jx_le (by omega) (by omega)]; exact decide_eq_false (by omega)]; rfl) ?_
    refine Er_run 1 (pc' := 239) (ls' := [some (.ref a), some (.int (Int32.ofNat j)), some (.int (Int32.ofNat n)), some (.int (Int32.ofNat (e.length + c))), some (.int x4), some (.int x5), some (.int x6), some (.int (Int32.ofNat c))]) (st' := [.ref a]) rfl ?_
    refine Er_getR (x := a + 20) rfl m0.1 (m0.2 (24, 20, 1, 4000) (by decide)).1 ?_
    refine Er_run 2 (pc' := 244) (ls' := [some (.ref a), some (.int (Int32.ofNat j)), some (.int (Int32.ofNat n)), some (.int (Int32.ofNat (e.length + c))), some (.int x4), some (.int x5), some (.int x6), some (.int (Int32.ofNat c))]) (st' := [.ref a, .int (Int32.ofNat (e.length + c)), .ref (a + 20)]) rfl ?_
    refine Er_getR (x := a + 24) rfl m0.1 (m0.2 (28, 24, 1, 4) (by decide)).1 ?_
    refine Er_run 1 (pc' := 249) (ls' := [some (.ref a), some (.int (Int32.ofNat j)), some (.int (Int32.ofNat n)), some (.int (Int32.ofNat (e.length + c))), some (.int x4), some (.int x5), some (.int x6), some (.int (Int32.ofNat c))]) (st' := [.int (Int32.ofNat c), .ref (a + 24), .int (Int32.ofNat (e.length + c)), .ref (a + 20)]) rfl ?_
    refine Er_lald (v := p.1) rfl (m0.2 (28, 24, 1, 4) (by decide)).2.1 (mr_in (i := c) (k := 4) rfl (by omega) (by decide) (m0.2 (28, 24, 1, 4) (by decide)).2.2) (mr_atL rfl (by omega) (ek0 c p hp)) ?_
    refine Er_last rfl (m0.2 (24, 20, 1, 4000) (by decide)).2.1 (mr_in (i := (e.length + c)) (k := 4000) rfl (by omega) (by decide) (m0.2 (24, 20, 1, 4000) (by decide)).2.2) ?_
    rw [mr_cn (x := Int32.ofNat (e.length + c)) (i := (e.length + c)) rfl (by omega)]
    have m1 : mrO (setL g (a + 20) ((e.length + c)) p.1) a := mrO_setL m0
    have z1 : FrL [] [a + 20, a + 21] g (setL g (a + 20) ((e.length + c)) p.1) := z0.trans (FrL.setL (by simp))
    have em1 : gI (setL g (a + 20) ((e.length + c)) p.1) a 31 = Int32.ofNat em.length := em0
    have ek1 : ∀ u d, em[u]? = some d → gL (setL g (a + 20) ((e.length + c)) p.1) (a + 24) u = d.1 := by rw [show gL (setL g (a + 20) ((e.length + c)) p.1) (a + 24) = gL g (a + 24) from mr_ncL (by omega)]; exact ek0
    have ew1 : ∀ u d, em[u]? = some d → gL (setL g (a + 20) ((e.length + c)) p.1) (a + 25) u = d.2 := by rw [show gL (setL g (a + 20) ((e.length + c)) p.1) (a + 25) = gL g (a + 25) from mr_ncL (by omega)]; exact ew0
    have dk1 : ∀ u d, (e ++ em.take (c + 1))[u]? = some d → gL (setL g (a + 20) ((e.length + c)) p.1) (a + 20) u = d.1 := (by rw [take_snoc hp, ← take_len (e := e) (em := em) (c := c) (by omega)]; exact row_k dk0)
    have dv1 : ∀ u d, (e ++ em.take c)[u]? = some d → gL (setL g (a + 20) ((e.length + c)) p.1) (a + 21) u = d.2 := by rw [show gL (setL g (a + 20) ((e.length + c)) p.1) (a + 21) = gL g (a + 21) from mr_ncL (by omega)]; exact dv0
    generalize (setL g (a + 20) ((e.length + c)) p.1) = h1 at m1 z1 em1 ek1 ew1 dk1 dv1 ⊢
    refine Er_run 1 (pc' := 252) (ls' := [some (.ref a), some (.int (Int32.ofNat j)), some (.int (Int32.ofNat n)), some (.int (Int32.ofNat (e.length + c))), some (.int x4), some (.int x5), some (.int x6), some (.int (Int32.ofNat c))]) (st' := [.ref a]) rfl ?_
    refine Er_getR (x := a + 21) rfl m1.1 (m1.2 (25, 21, 1, 4000) (by decide)).1 ?_
    refine Er_run 2 (pc' := 257) (ls' := [some (.ref a), some (.int (Int32.ofNat j)), some (.int (Int32.ofNat n)), some (.int (Int32.ofNat (e.length + c))), some (.int x4), some (.int x5), some (.int x6), some (.int (Int32.ofNat c))]) (st' := [.ref a, .int (Int32.ofNat (e.length + c)), .ref (a + 21)]) rfl ?_
    refine Er_getR (x := a + 25) rfl m1.1 (m1.2 (29, 25, 1, 4) (by decide)).1 ?_
    refine Er_run 1 (pc' := 262) (ls' := [some (.ref a), some (.int (Int32.ofNat j)), some (.int (Int32.ofNat n)), some (.int (Int32.ofNat (e.length + c))), some (.int x4), some (.int x5), some (.int x6), some (.int (Int32.ofNat c))]) (st' := [.int (Int32.ofNat c), .ref (a + 25), .int (Int32.ofNat (e.length + c)), .ref (a + 21)]) rfl ?_
    refine Er_lald (v := p.2) rfl (m1.2 (29, 25, 1, 4) (by decide)).2.1 (mr_in (i := c) (k := 4) rfl (by omega) (by decide) (m1.2 (29, 25, 1, 4) (by decide)).2.2) (mr_atL rfl (by omega) (ew1 c p hp)) ?_
    refine Er_last rfl (m1.2 (25, 21, 1, 4000) (by decide)).2.1 (mr_in (i := (e.length + c)) (k := 4000) rfl (by omega) (by decide) (m1.2 (25, 21, 1, 4000) (by decide)).2.2) ?_
    rw [mr_cn (x := Int32.ofNat (e.length + c)) (i := (e.length + c)) rfl (by omega)]
    have m2 : mrO (setL h1 (a + 21) ((e.length + c)) p.2) a := mrO_setL m1
    have z2 : FrL [] [a + 20, a + 21] g (setL h1 (a + 21) ((e.length + c)) p.2) := z1.trans (FrL.setL (by simp))
    have em2 : gI (setL h1 (a + 21) ((e.length + c)) p.2) a 31 = Int32.ofNat em.length := em1
    have ek2 : ∀ u d, em[u]? = some d → gL (setL h1 (a + 21) ((e.length + c)) p.2) (a + 24) u = d.1 := by rw [show gL (setL h1 (a + 21) ((e.length + c)) p.2) (a + 24) = gL h1 (a + 24) from mr_ncL (by omega)]; exact ek1
    have ew2 : ∀ u d, em[u]? = some d → gL (setL h1 (a + 21) ((e.length + c)) p.2) (a + 25) u = d.2 := by rw [show gL (setL h1 (a + 21) ((e.length + c)) p.2) (a + 25) = gL h1 (a + 25) from mr_ncL (by omega)]; exact ew1
    have dk2 : ∀ u d, (e ++ em.take (c + 1))[u]? = some d → gL (setL h1 (a + 21) ((e.length + c)) p.2) (a + 20) u = d.1 := by rw [show gL (setL h1 (a + 21) ((e.length + c)) p.2) (a + 20) = gL h1 (a + 20) from mr_ncL (by omega)]; exact dk1
    have dv2 : ∀ u d, (e ++ em.take (c + 1))[u]? = some d → gL (setL h1 (a + 21) ((e.length + c)) p.2) (a + 21) u = d.2 := (by rw [take_snoc hp, ← take_len (e := e) (em := em) (c := c) (by omega)]; exact row_v dv1)
    generalize (setL h1 (a + 21) ((e.length + c)) p.2) = h2 at m2 z2 em2 ek2 ew2 dk2 dv2 ⊢
    refine Er_run 3 (pc' := 229) (ls' := [some (.ref a), some (.int (Int32.ofNat j)), some (.int (Int32.ofNat n)), some (.int ((Int32.ofNat (e.length + c)) + (1 : Int32))), some (.int x4), some (.int x5), some (.int x6), some (.int ((Int32.ofNat c) + (1 : Int32)))]) (st' := []) rfl ?_
    rw [jx_s1, jx_s1]
    exact ih (c + 1) h2 (by omega) m2 em2 ek2 ew2 dk2 dv2 (zz.trans z2)
set_option maxRecDepth 10000 in
theorem lw_138 {c0 : Nat} (m0 : mrO g a) (pn0 : gI g a 30 = Int32.ofNat c0) (sk0 : ∀ u d, S'[u]? = some d → gL g (a + 18) u = d.1) (hn : c0 ≤ 1000) (hin : i < c0) (hk : gL g (a + 18) i = k) (hi : c < c0) (hp : S'[c]? = some p) (hkk : p.1 = k) (kk : Ev 164 138 [some (.ref a), some (.int (Int32.ofNat j)), some (.int (Int32.ofNat n)), some (.int (Int32.ofNat made)), some (.int (Int32.ofNat r)), some (.int (Int32.ofNat i)), some (.int (Int32.ofNat (c + 1))), u7] [] g Q) : Ev 164 138 [some (.ref a), some (.int (Int32.ofNat j)), some (.int (Int32.ofNat n)), some (.int (Int32.ofNat made)), some (.int (Int32.ofNat r)), some (.int (Int32.ofNat i)), some (.int (Int32.ofNat c)), u7] [] g Q := by
  refine Er_run 2 (pc' := 141) (ls' := [some (.ref a), some (.int (Int32.ofNat j)), some (.int (Int32.ofNat n)), some (.int (Int32.ofNat made)), some (.int (Int32.ofNat r)), some (.int (Int32.ofNat i)), some (.int (Int32.ofNat c)), u7]) (st' := [.ref a, .int (Int32.ofNat c)]) rfl ?_
  refine Er_getI (v := Int32.ofNat c0) rfl m0.1 pn0 ?_
  refine Er_run 1 (pc' := bif decide ((Int32.ofNat c0) ≤ (Int32.ofNat c)) then 171 else 147) (ls' := [some (.ref a), some (.int (Int32.ofNat j)), some (.int (Int32.ofNat n)), some (.int (Int32.ofNat made)), some (.int (Int32.ofNat r)), some (.int (Int32.ofNat i)), some (.int (Int32.ofNat c)), u7]) (st' := []) rfl ?_
  refine Er_pc (t := 147) (show (bif decide ((Int32.ofNat c0) ≤ (Int32.ofNat c)) then 171 else 147) = 147 from by rw [show (decide ((Int32.ofNat c0) ≤ (Int32.ofNat c))) = false from by rw [jx_le (by omega) (by omega)]; exact decide_eq_false (by omega)]; rfl) ?_
  refine Er_run 1 (pc' := 148) (ls' := [some (.ref a), some (.int (Int32.ofNat j)), some (.int (Int32.ofNat n)), some (.int (Int32.ofNat made)), some (.int (Int32.ofNat r)), some (.int (Int32.ofNat i)), some (.int (Int32.ofNat c)), u7]) (st' := [.ref a]) rfl ?_
  refine Er_getR (x := a + 18) rfl m0.1 (m0.2 (22, 18, 1, 4000) (by decide)).1 ?_
  refine Er_run 1 (pc' := 153) (ls' := [some (.ref a), some (.int (Int32.ofNat j)), some (.int (Int32.ofNat n)), some (.int (Int32.ofNat made)), some (.int (Int32.ofNat r)), some (.int (Int32.ofNat i)), some (.int (Int32.ofNat c)), u7]) (st' := [.int (Int32.ofNat c), .ref (a + 18)]) rfl ?_
  refine Er_lald (v := p.1) rfl (m0.2 (22, 18, 1, 4000) (by decide)).2.1 (mr_in (i := c) (k := 4000) rfl (by omega) (by decide) (m0.2 (22, 18, 1, 4000) (by decide)).2.2) (mr_atL rfl (by omega) (sk0 c p hp)) ?_
  refine Er_run 1 (pc' := 155) (ls' := [some (.ref a), some (.int (Int32.ofNat j)), some (.int (Int32.ofNat n)), some (.int (Int32.ofNat made)), some (.int (Int32.ofNat r)), some (.int (Int32.ofNat i)), some (.int (Int32.ofNat c)), u7]) (st' := [.ref a, .long (p.1)]) rfl ?_
  refine Er_getR (x := a + 18) rfl m0.1 (m0.2 (22, 18, 1, 4000) (by decide)).1 ?_
  refine Er_run 1 (pc' := 160) (ls' := [some (.ref a), some (.int (Int32.ofNat j)), some (.int (Int32.ofNat n)), some (.int (Int32.ofNat made)), some (.int (Int32.ofNat r)), some (.int (Int32.ofNat i)), some (.int (Int32.ofNat c)), u7]) (st' := [.int (Int32.ofNat i), .ref (a + 18), .long (p.1)]) rfl ?_
  refine Er_lald (v := k) rfl (m0.2 (22, 18, 1, 4000) (by decide)).2.1 (mr_in (i := i) (k := 4000) rfl (by omega) (by decide) (m0.2 (22, 18, 1, 4000) (by decide)).2.2) (mr_atL rfl (by omega) hk) ?_
  refine Er_run 2 (pc' := bif !decide ((lg_cmp p.1 k) = 0) then 171 else 165) (ls' := [some (.ref a), some (.int (Int32.ofNat j)), some (.int (Int32.ofNat n)), some (.int (Int32.ofNat made)), some (.int (Int32.ofNat r)), some (.int (Int32.ofNat i)), some (.int (Int32.ofNat c)), u7]) (st' := []) rfl ?_
  refine Er_pc (t := 165) (show (bif !decide ((lg_cmp p.1 k) = 0) then 171 else 165) = 165 from by rw [show (!decide ((lg_cmp p.1 k) = 0)) = false from by rw [jx_cmp0, decide_eq_true hkk]; rfl]; rfl) ?_
  refine Er_run 2 (pc' := 138) (ls' := [some (.ref a), some (.int (Int32.ofNat j)), some (.int (Int32.ofNat n)), some (.int (Int32.ofNat made)), some (.int (Int32.ofNat r)), some (.int (Int32.ofNat i)), some (.int ((Int32.ofNat c) + (1 : Int32))), u7]) (st' := []) rfl ?_
  rw [jx_s1]
  exact kk
set_option maxRecDepth 10000 in
theorem lw_138n {c0 : Nat} (m0 : mrO g a) (pn0 : gI g a 30 = Int32.ofNat c0) (sk0 : ∀ u d, S'[u]? = some d → gL g (a + 18) u = d.1) (hn : c0 ≤ 1000) (hin : i < c0) (hk : gL g (a + 18) i = k) (hi : c < c0) (hp : S'[c]? = some p) (hkk : ¬ p.1 = k) (kk : Ev 164 171 [some (.ref a), some (.int (Int32.ofNat j)), some (.int (Int32.ofNat n)), some (.int (Int32.ofNat made)), some (.int (Int32.ofNat r)), some (.int (Int32.ofNat i)), some (.int (Int32.ofNat c)), u7] [] g Q) : Ev 164 138 [some (.ref a), some (.int (Int32.ofNat j)), some (.int (Int32.ofNat n)), some (.int (Int32.ofNat made)), some (.int (Int32.ofNat r)), some (.int (Int32.ofNat i)), some (.int (Int32.ofNat c)), u7] [] g Q := by
  refine Er_run 2 (pc' := 141) (ls' := [some (.ref a), some (.int (Int32.ofNat j)), some (.int (Int32.ofNat n)), some (.int (Int32.ofNat made)), some (.int (Int32.ofNat r)), some (.int (Int32.ofNat i)), some (.int (Int32.ofNat c)), u7]) (st' := [.ref a, .int (Int32.ofNat c)]) rfl ?_
  refine Er_getI (v := Int32.ofNat c0) rfl m0.1 pn0 ?_
  refine Er_run 1 (pc' := bif decide ((Int32.ofNat c0) ≤ (Int32.ofNat c)) then 171 else 147) (ls' := [some (.ref a), some (.int (Int32.ofNat j)), some (.int (Int32.ofNat n)), some (.int (Int32.ofNat made)), some (.int (Int32.ofNat r)), some (.int (Int32.ofNat i)), some (.int (Int32.ofNat c)), u7]) (st' := []) rfl ?_
  refine Er_pc (t := 147) (show (bif decide ((Int32.ofNat c0) ≤ (Int32.ofNat c)) then 171 else 147) = 147 from by rw [show (decide ((Int32.ofNat c0) ≤ (Int32.ofNat c))) = false from by rw [jx_le (by omega) (by omega)]; exact decide_eq_false (by omega)]; rfl) ?_
  refine Er_run 1 (pc' := 148) (ls' := [some (.ref a), some (.int (Int32.ofNat j)), some (.int (Int32.ofNat n)), some (.int (Int32.ofNat made)), some (.int (Int32.ofNat r)), some (.int (Int32.ofNat i)), some (.int (Int32.ofNat c)), u7]) (st' := [.ref a]) rfl ?_
  refine Er_getR (x := a + 18) rfl m0.1 (m0.2 (22, 18, 1, 4000) (by decide)).1 ?_
  refine Er_run 1 (pc' := 153) (ls' := [some (.ref a), some (.int (Int32.ofNat j)), some (.int (Int32.ofNat n)), some (.int (Int32.ofNat made)), some (.int (Int32.ofNat r)), some (.int (Int32.ofNat i)), some (.int (Int32.ofNat c)), u7]) (st' := [.int (Int32.ofNat c), .ref (a + 18)]) rfl ?_
  refine Er_lald (v := p.1) rfl (m0.2 (22, 18, 1, 4000) (by decide)).2.1 (mr_in (i := c) (k := 4000) rfl (by omega) (by decide) (m0.2 (22, 18, 1, 4000) (by decide)).2.2) (mr_atL rfl (by omega) (sk0 c p hp)) ?_
  refine Er_run 1 (pc' := 155) (ls' := [some (.ref a), some (.int (Int32.ofNat j)), some (.int (Int32.ofNat n)), some (.int (Int32.ofNat made)), some (.int (Int32.ofNat r)), some (.int (Int32.ofNat i)), some (.int (Int32.ofNat c)), u7]) (st' := [.ref a, .long (p.1)]) rfl ?_
  refine Er_getR (x := a + 18) rfl m0.1 (m0.2 (22, 18, 1, 4000) (by decide)).1 ?_
  refine Er_run 1 (pc' := 160) (ls' := [some (.ref a), some (.int (Int32.ofNat j)), some (.int (Int32.ofNat n)), some (.int (Int32.ofNat made)), some (.int (Int32.ofNat r)), some (.int (Int32.ofNat i)), some (.int (Int32.ofNat c)), u7]) (st' := [.int (Int32.ofNat i), .ref (a + 18), .long (p.1)]) rfl ?_
  refine Er_lald (v := k) rfl (m0.2 (22, 18, 1, 4000) (by decide)).2.1 (mr_in (i := i) (k := 4000) rfl (by omega) (by decide) (m0.2 (22, 18, 1, 4000) (by decide)).2.2) (mr_atL rfl (by omega) hk) ?_
  refine Er_run 2 (pc' := bif !decide ((lg_cmp p.1 k) = 0) then 171 else 165) (ls' := [some (.ref a), some (.int (Int32.ofNat j)), some (.int (Int32.ofNat n)), some (.int (Int32.ofNat made)), some (.int (Int32.ofNat r)), some (.int (Int32.ofNat i)), some (.int (Int32.ofNat c)), u7]) (st' := []) rfl ?_
  refine Er_pc (t := 171) (show (bif !decide ((lg_cmp p.1 k) = 0) then 171 else 165) = 171 from by rw [show (!decide ((lg_cmp p.1 k) = 0)) = true from by rw [jx_cmp0, decide_eq_false hkk]; rfl]; rfl) ?_
  exact kk
set_option maxRecDepth 10000 in
theorem lw_138e {c0 : Nat} (m0 : mrO g a) (pn0 : gI g a 30 = Int32.ofNat c0) (hn : c0 ≤ 1000) (hi : c0 ≤ c) (hc : c ≤ c0) (kk : Ev 164 171 [some (.ref a), some (.int (Int32.ofNat j)), some (.int (Int32.ofNat n)), some (.int (Int32.ofNat made)), some (.int (Int32.ofNat r)), some (.int (Int32.ofNat i)), some (.int (Int32.ofNat c)), u7] [] g Q) : Ev 164 138 [some (.ref a), some (.int (Int32.ofNat j)), some (.int (Int32.ofNat n)), some (.int (Int32.ofNat made)), some (.int (Int32.ofNat r)), some (.int (Int32.ofNat i)), some (.int (Int32.ofNat c)), u7] [] g Q := by
  refine Er_run 2 (pc' := 141) (ls' := [some (.ref a), some (.int (Int32.ofNat j)), some (.int (Int32.ofNat n)), some (.int (Int32.ofNat made)), some (.int (Int32.ofNat r)), some (.int (Int32.ofNat i)), some (.int (Int32.ofNat c)), u7]) (st' := [.ref a, .int (Int32.ofNat c)]) rfl ?_
  refine Er_getI (v := Int32.ofNat c0) rfl m0.1 pn0 ?_
  refine Er_run 1 (pc' := bif decide ((Int32.ofNat c0) ≤ (Int32.ofNat c)) then 171 else 147) (ls' := [some (.ref a), some (.int (Int32.ofNat j)), some (.int (Int32.ofNat n)), some (.int (Int32.ofNat made)), some (.int (Int32.ofNat r)), some (.int (Int32.ofNat i)), some (.int (Int32.ofNat c)), u7]) (st' := []) rfl ?_
  refine Er_pc (t := 171) (show (bif decide ((Int32.ofNat c0) ≤ (Int32.ofNat c)) then 171 else 147) = 171 from by rw [show (decide ((Int32.ofNat c0) ≤ (Int32.ofNat c))) = true from by rw [jx_le (by omega) (by omega)]; exact decide_eq_true (by omega)]; rfl) ?_
  exact kk
set_option maxRecDepth 10000 in
theorem l_wD {c0 : Nat} {x : Int64 × Int64} (m0 : mrO g a) (pn0 : gI g a 30 = Int32.ofNat c0) (sk0 : ∀ u d, S'[u]? = some d → gL g (a + 18) u = d.1) (hS : S'.length = c0) (hn : c0 ≤ 1000) (hx : S'[i]? = some x) (kk : Ev 164 171 [some (.ref a), some (.int (Int32.ofNat j)), some (.int (Int32.ofNat n)), some (.int (Int32.ofNat made)), some (.int (Int32.ofNat r)), some (.int (Int32.ofNat i)), some (.int (Int32.ofNat (i + me_k (S'.drop i)))), u7] [] g Q) : ∀ (f c : Nat), c + f = c0 → i ≤ c → (∀ u d, i ≤ u → u < c → S'[u]? = some d → d.1 = x.1) → Ev 164 138 [some (.ref a), some (.int (Int32.ofNat j)), some (.int (Int32.ofNat n)), some (.int (Int32.ofNat made)), some (.int (Int32.ofNat r)), some (.int (Int32.ofNat i)), some (.int (Int32.ofNat c)), u7] [] g Q := by
  have hin : i < c0 := by rw [← hS]; exact (List.getElem?_eq_some_iff.1 hx).1
  have fin : ∀ c, i < c → c ≤ c0 → (∀ u d, i ≤ u → u < c → S'[u]? = some d → d.1 = x.1) → (c = c0 ∨ ∃ d, S'[c]? = some d ∧ ¬ d.1 = x.1) → c = i + me_k (S'.drop i) := by
    intro c h1 h2 h3 h4
    have := me_k_at (c := c - i) (l := S'.drop i) (x := x) (by rw [List.getElem?_drop]; exact hx) (by omega) (by rw [List.length_drop]; omega) (fun u d hu hd => h3 (i + u) d (by omega) (by omega) (by rw [List.getElem?_drop] at hd; exact hd)) (by
      rcases h4 with h4 | ⟨d, h4, h5⟩
      · left; rw [List.length_drop]; omega
      · refine Or.inr ⟨d, ?_, h5⟩
        rw [List.getElem?_drop, show i + (c - i) = c by omega]; exact h4)
    omega
  intro f
  induction f with
  | zero =>
    intro c hc hic hk
    have e := fin c (by omega) (by omega) hk (Or.inl (by omega))
    refine lw_138e m0 pn0 hn (by omega) (by omega) ?_
    rw [e]; exact kk
  | succ f ih =>
    intro c hc hic hk
    obtain ⟨p, hp⟩ : ∃ p, S'[c]? = some p := ⟨S'[c]'(by omega), List.getElem?_eq_getElem (by omega)⟩
    by_cases hkk : p.1 = x.1
    · refine lw_138 m0 pn0 sk0 hn hin (sk0 i x hx) (by omega) hp hkk ?_
      exact ih (c + 1) (by omega) (by omega) (fun u d h1 h2 hd => by
        by_cases e : u = c
        · subst e; rw [hp] at hd; cases hd; exact hkk
        · exact hk u d h1 (by omega) hd)
    · by_cases hic2 : i = c
      · subst hic2
        rw [hp] at hx; cases hx
        exact absurd rfl hkk
      · have e := fin c (by omega) (by omega) hk (Or.inr ⟨p, hp, hkk⟩)
        refine lw_138n m0 pn0 sk0 hn hin (sk0 i x hx) (by omega) hp hkk ?_
        rw [e]; exact kk

end REFV
