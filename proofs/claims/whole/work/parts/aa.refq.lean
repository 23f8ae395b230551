section REFQ
variable {h h0 g : sm_H} {a : Nat} {n c i j : Nat} {k v : Int64} {e em l : Jl} {p : Int64 × Int64}
/-- a row of longs holds the keys (values) of l; one more -/
theorem row_k {q : Nat} (hr : ∀ u d, l[u]? = some d → gL g q u = d.1) : ∀ u d, (l ++ [p])[u]? = some d → gL (setL g q l.length p.1) q u = d.1 := by
  intro u d hu
  rcases Nat.lt_or_ge u l.length with c | c
  · rw [List.getElem?_append_left c] at hu
    rw [gL_ne (by omega)]; exact hr u d hu
  · rw [List.getElem?_append_right c] at hu
    have e0 : u = l.length := by
      have := (List.getElem?_eq_some_iff.1 hu).1
      rw [List.length_singleton] at this
      omega
    subst e0
    rw [Nat.sub_self] at hu
    cases hu
    exact gL_eq
theorem row_v {q : Nat} (hr : ∀ u d, l[u]? = some d → gL g q u = d.2) : ∀ u d, (l ++ [p])[u]? = some d → gL (setL g q l.length p.2) q u = d.2 := by
  intro u d hu
  rcases Nat.lt_or_ge u l.length with c | c
  · rw [List.getElem?_append_left c] at hu
    rw [gL_ne (by omega)]; exact hr u d hu
  · rw [List.getElem?_append_right c] at hu
    have e0 : u = l.length := by
      have := (List.getElem?_eq_some_iff.1 hu).1
      rw [List.length_singleton] at this
      omega
    subst e0
    rw [Nat.sub_self] at hu
    cases hu
    exact gL_eq
theorem take_snoc (hp : em[c]? = some p) : e ++ em.take (c + 1) = (e ++ em.take c) ++ [p] := by rw [List.take_succ, hp, List.append_assoc]; rfl
theorem take_len (hc : c ≤ em.length) : (e ++ em.take c).length = e.length + c := by rw [List.length_append, List.length_take]; omega

set_option maxRecDepth 10000 in
theorem s_Ref_pair0 (m0 : mrO h a) (pn0 : gI h a 30 = Int32.ofNat n) (hn : n < 4000) : Run 163 [.ref a, .long k, .long v] h (.inl none) (setI (setL (setL h (a + 18) n k) (a + 19) n v) a 30 (Int32.ofNat n + 1)) := by
  refine ⟨Nat.le_of_ble_eq_true rfl, ?_⟩
  show Ev 163 0 [some (.ref a), some (.long k), none, some (.long v), none] [] h _
  refine Er_run 1 (pc' := 1) (ls' := [some (.ref a), some (.long k), none, some (.long v), none]) (st' := [.ref a]) rfl ?_
  refine Er_getI (v := Int32.ofNat n) rfl m0.1 pn0 ?_
  refine Er_run 1 (pc' := 5) (ls' := [some (.ref a), some (.long k), none, some (.long v), none]) (st' := [.ref a, .int (Int32.ofNat n)]) rfl ?_
  refine Er_getR (x := a + 18) rfl m0.1 (m0.2 (22, 18, 1, 4000) (by decide)).1 ?_
  refine Er_alen (k := 1) rfl (m0.2 (22, 18, 1, 4000) (by decide)).2.1 (by decide) (m0.2 (22, 18, 1, 4000) (by decide)).2.2 ?_
  refine Er_run 1 (pc' := bif decide ((Int32.ofNat 4000) ≤ (Int32.ofNat n)) then 32 else 12) (ls' := [some (.ref a), some (.long k), none, some (.long v), none]) (st' := []) rfl ?_
  refine Er_pc (t := 12) (show (bif decide ((Int32.ofNat 4000) ≤ (Int32.ofNat n)) then 32 else 12) = 12 from by rw [show (decide ((Int32.ofNat 4000) ≤ (Int32.ofNat n))) = false from by rw [jx_le (by omega) (by omega)]; exact decide_eq_false (by omega)]; rfl) ?_
  refine Er_run 1 (pc' := 13) (ls' := [some (.ref a), some (.long k), none, some (.long v), none]) (st' := [.ref a]) rfl ?_
  refine Er_getR (x := a + 18) rfl m0.1 (m0.2 (22, 18, 1, 4000) (by decide)).1 ?_
  refine Er_run 1 (pc' := 17) (ls' := [some (.ref a), some (.long k), none, some (.long v), none]) (st' := [.ref a, .ref (a + 18)]) rfl ?_
  refine Er_getI (v := Int32.ofNat n) rfl m0.1 pn0 ?_
  refine Er_run 1 (pc' := 21) (ls' := [some (.ref a), some (.long k), none, some (.long v), none]) (st' := [.long k, .int (Int32.ofNat n), .ref (a + 18)]) rfl ?_
  refine Er_last rfl (m0.2 (22, 18, 1, 4000) (by decide)).2.1 (mr_in (i := n) (k := 4000) rfl (by omega) (by decide) (m0.2 (22, 18, 1, 4000) (by decide)).2.2) ?_
  rw [mr_cn (x := Int32.ofNat n) (i := n) rfl (by omega)]
  refine Er_run 1 (pc' := 23) (ls' := [some (.ref a), some (.long k), none, some (.long v), none]) (st' := [.ref a]) rfl ?_
  refine Er_getR (x := a + 19) rfl m0.1 (m0.2 (23, 19, 1, 4000) (by decide)).1 ?_
  refine Er_run 1 (pc' := 27) (ls' := [some (.ref a), some (.long k), none, some (.long v), none]) (st' := [.ref a, .ref (a + 19)]) rfl ?_
  refine Er_getI (v := Int32.ofNat n) rfl m0.1 pn0 ?_
  refine Er_run 1 (pc' := 31) (ls' := [some (.ref a), some (.long k), none, some (.long v), none]) (st' := [.long v, .int (Int32.ofNat n), .ref (a + 19)]) rfl ?_
  refine Er_last rfl (m0.2 (23, 19, 1, 4000) (by decide)).2.1 (mr_in (i := n) (k := 4000) rfl (by omega) (by decide) (m0.2 (23, 19, 1, 4000) (by decide)).2.2) ?_
  rw [mr_cn (x := Int32.ofNat n) (i := n) rfl (by omega)]
  refine Er_run 2 (pc' := 34) (ls' := [some (.ref a), some (.long k), none, some (.long v), none]) (st' := [.ref a, .ref a]) rfl ?_
  refine Er_getI (v := Int32.ofNat n) rfl m0.1 pn0 ?_
  refine Er_run 2 (pc' := 39) (ls' := [some (.ref a), some (.long k), none, some (.long v), none]) (st' := [.int ((Int32.ofNat n) + ((1 : Int32))), .ref a]) rfl ?_
  refine Er_putI rfl m0.1 ?_
  exact Er_fin rfl rfl ⟨rfl, rfl⟩
set_option maxRecDepth 10000 in
theorem s_Ref_pair1 (m0 : mrO h a) (pn0 : gI h a 30 = Int32.ofNat n) (hn : 4000 ≤ n) (hn2 : n < 1000000) : Run 163 [.ref a, .long k, .long v] h (.inl none) (setI h a 30 (Int32.ofNat n + 1)) := by
  refine ⟨Nat.le_of_ble_eq_true rfl, ?_⟩
  show Ev 163 0 [some (.ref a), some (.long k), none, some (.long v), none] [] h _
  refine Er_run 1 (pc' := 1) (ls' := [some (.ref a), some (.long k), none, some (.long v), none]) (st' := [.ref a]) rfl ?_
  refine Er_getI (v := Int32.ofNat n) rfl m0.1 pn0 ?_
  refine Er_run 1 (pc' := 5) (ls' := [some (.ref a), some (.long k), none, some (.long v), none]) (st' := [.ref a, .int (Int32.ofNat n)]) rfl ?_
  refine Er_getR (x := a + 18) rfl m0.1 (m0.2 (22, 18, 1, 4000) (by decide)).1 ?_
  refine Er_alen (k := 1) rfl (m0.2 (22, 18, 1, 4000) (by decide)).2.1 (by decide) (m0.2 (22, 18, 1, 4000) (by decide)).2.2 ?_
  refine Er_run 1 (pc' := bif decide ((Int32.ofNat 4000) ≤ (Int32.ofNat n)) then 32 else 12) (ls' := [some (.ref a), some (.long k), none, some (.long v), none]) (st' := []) rfl ?_
  refine Er_pc (t := 32) (show (bif decide ((Int32.ofNat 4000) ≤ (Int32.ofNat n)) then 32 else 12) = 32 from by rw [show (decide ((Int32.ofNat 4000) ≤ (Int32.ofNat n))) = true from by rw [jx_le (by omega) (by omega)]; exact decide_eq_true (by omega)]; rfl) ?_
  refine Er_run 2 (pc' := 34) (ls' := [some (.ref a), some (.long k), none, some (.long v), none]) (st' := [.ref a, .ref a]) rfl ?_
  refine Er_getI (v := Int32.ofNat n) rfl m0.1 pn0 ?_
  refine Er_run 2 (pc' := 39) (ls' := [some (.ref a), some (.long k), none, some (.long v), none]) (st' := [.int ((Int32.ofNat n) + ((1 : Int32))), .ref a]) rfl ?_
  refine Er_putI rfl m0.1 ?_
  exact Er_fin rfl rfl ⟨rfl, rfl⟩
set_option maxRecDepth 10000 in
theorem l_mcpy {Q : sm_R → sm_H → Prop} {x2 x3 x5 x6 : Int32} (he : e.length + em.length ≤ 200) (hem : em.length ≤ 4) (kk : ∀ g, mrO g a → FrL [] [a + 16, a + 17] h0 g → (∀ u d, (e ++ em)[u]? = some d → gL g (a + 16) u = d.1) → (∀ u d, (e ++ em)[u]? = some d → gL g (a + 17) u = d.2) → Ev 162 151 [some (.ref a), some (.int (Int32.ofNat j)), some (.int x2), some (.int x3), some (.int (Int32.ofNat (e.length + em.length))), some (.int x5), some (.int x6), some (.int (Int32.ofNat em.length))] [] g Q) : ∀ (f c : Nat) (g : sm_H), c + f = em.length → mrO g a → gI g a 31 = Int32.ofNat em.length → (∀ u d, em[u]? = some d → gL g (a + 24) u = d.1) → (∀ u d, em[u]? = some d → gL g (a + 25) u = d.2) → (∀ u d, (e ++ em.take c)[u]? = some d → gL g (a + 16) u = d.1) → (∀ u d, (e ++ em.take c)[u]? = some d → gL g (a + 17) u = d.2) → FrL [] [a + 16, a + 17] h0 g → Ev 162 105 [some (.ref a), some (.int (Int32.ofNat j)), some (.int x2), some (.int x3), some (.int (Int32.ofNat (e.length + c))), some (.int x5), some (.int x6), some (.int (Int32.ofNat c))] [] g Q := by
  intro f
  induction f with
  | zero =>
    intro c g hc m0 em0 ek0 ew0 dk0 dv0 zz
    have e0 : c = em.length := by omega
    subst e0
    refine Er_run 2 (pc' := 108) (ls' := [some (.ref a), some (.int (Int32.ofNat j)), some (.int x2), some (.int x3), some (.int (Int32.ofNat (e.length + em.length))), some (.int x5), some (.int x6), some (.int (Int32.ofNat em.length))]) (st' := [.ref a, .int (Int32.ofNat em.length)]) rfl ?_
    refine Er_getI (v := Int32.ofNat em.length) rfl m0.1 em0 ?_
    refine Er_run 1 (pc' := bif decide ((Int32.ofNat em.length) ≤ (Int32.ofNat em.length)) then 151 else 114) (ls' := [some (.ref a), some (.int (Int32.ofNat j)), some (.int x2), some (.int x3), some (.int (Int32.ofNat (e.length + em.length))), some (.int x5), some (.int x6), some (.int (Int32.ofNat em.length))]) (st' := []) rfl ?_
    refine Er_pc (t := 151) (show (bif decide ((Int32.ofNat em.length) ≤ (Int32.ofNat em.length)) then 151 else 114) = 151 from by rw [show (decide ((Int32.ofNat em.length) ≤ (Int32.ofNat em.length))) = true from by rw [jx_le (by omega) (by omega)]; exact decide_eq_true (Nat.le_refl _)]; rfl) ?_
    exact kk g m0 zz (by rw [List.take_length] at dk0; exact dk0) (by rw [List.take_length] at dv0; exact dv0)
  | succ f ih =>
    intro c g hc m0 em0 ek0 ew0 dk0 dv0 zz
    obtain ⟨p, hp⟩ : ∃ p, em[c]? = some p := ⟨em[c]'(by omega), List.getElem?_eq_getElem (by omega)⟩
    have z0 : FrL [] [a + 16, a + 17] g g := FrL.refl g
    refine Er_run 2 (pc' := 108) (ls' := [some (.ref a), some (.int (Int32.ofNat j)), some (.int x2), some (.int x3), some (.int (Int32.ofNat (e.length + c))), some (.int x5), some (.int x6), some (.int (Int32.ofNat c))]) (st' := [.ref a, .int (Int32.ofNat c)]) rfl ?_
    refine Er_getI (v := Int32.ofNat em.length) rfl m0.1 em0 ?_
    refine Er_run 1 (pc' := bif decide ((Int32.ofNat em.length) ≤ (Int32.ofNat c)) then 151 else 114) (ls' := [some (.ref a), some (.int (Int32.ofNat j)), some (.int x2), some (.int x3), some (.int (Int32.ofNat (e.length + c))), some (.int x5), some (.int x6), some (.int (Int32.ofNat c))]) (st' := []) rfl ?_
    refine Er_pc (t := 114) (show (bif decide ((Int32.ofNat em.length) ≤ (Int32.ofNat c)) then 151 else 114) = 114 from by rw [show (decide ((Int32.ofNat em.length) ≤ (Int32.ofNat c))) = false from by rw [jx_le (by omega) (by omega)]; exact decide_eq_false (by omega)]; rfl) ?_
    refine Er_run 1 (pc' := 115) (ls' := [some (.ref a), some (.int (Int32.ofNat j)), some (.int x2), some (.int x3), some (.int (Int32.ofNat (e.length + c))), some (.int x5), some (.int x6), some (.int (Int32.ofNat c))]) (st' := [.ref a]) rfl ?_
    refine Er_getR (x := a + 16) rfl m0.1 (m0.2 (20, 16, 1, 200) (by decide)).1 ?_
    refine Er_run 2 (pc' := 121) (ls' := [some (.ref a), some (.int (Int32.ofNat j)), some (.int x2), some (.int x3), some (.int (Int32.ofNat (e.length + c))), some (.int x5), some (.int x6), some (.int (Int32.ofNat c))]) (st' := [.ref a, .int (Int32.ofNat (e.length + c)), .ref (a + 16)]) rfl ?_
    refine Er_getR (x := a + 24) rfl m0.1 (m0.2 (28, 24, 1, 4) (by decide)).1 ?_
    refine Er_run 1 (pc' := 126) (ls' := [some (.ref a), some (.int (Int32.ofNat j)), some (.int x2), some (.int x3), some (.int (Int32.ofNat (e.length + c))), some (.int x5), some (.int x6), some (.int (Int32.ofNat c))]) (st' := [.int (Int32.ofNat c), .ref (a + 24), .int (Int32.ofNat (e.length + c)), .ref (a + 16)]) rfl ?_
    refine Er_lald (v := p.1) rfl (m0.2 (28, 24, 1, 4) (by decide)).2.1 (mr_in (i := c) (k := 4) rfl (by omega) (by decide) (m0.2 (28, 24, 1, 4) (by decide)).2.2) (mr_atL rfl (by omega) (ek0 c p hp)) ?_
    refine Er_last rfl (m0.2 (20, 16, 1, 200) (by decide)).2.1 (mr_in (i := (e.length + c)) (k := 200) rfl (by omega) (by decide) (m0.2 (20, 16, 1, 200) (by decide)).2.2) ?_
    rw [mr_cn (x := Int32.ofNat (e.length + c)) (i := (e.length + c)) rfl (by omega)]
    have m1 : mrO (setL g (a + 16) ((e.length + c)) p.1) a := mrO_setL m0
    have z1 : FrL [] [a + 16, a + 17] g (setL g (a + 16) ((e.length + c)) p.1) := z0.trans (FrL.setL (by simp))
    have em1 : gI (setL g (a + 16) ((e.length + c)) p.1) a 31 = Int32.ofNat em.length := em0
    have ek1 : ∀ u d, em[u]? = some d → gL (setL g (a + 16) ((e.length + c)) p.1) (a + 24) u = d.1 := by rw [show gL (setL g (a + 16) ((e.length + c)) p.1) (a + 24) = gL g (a + 24) from mr_ncL (by omega)]; exact ek0
    have ew1 : ∀ u d, em[u]? = some d → gL (setL g (a + 16) ((e.length + c)) p.1) (a + 25) u = d.2 := by rw [show gL (setL g (a + 16) ((e.length + c)) p.1) (a + 25) = gL g (a + 25) from mr_ncL (by omega)]; exact ew0
    have dk1 : ∀ u d, (e ++ em.take (c + 1))[u]? = some d → gL (setL g (a + 16) ((e.length + c)) p.1) (a + 16) u = d.1 := (by rw [take_snoc hp, ← take_len (e := e) (em := em) (c := c) (by omega)]; exact row_k dk0)
    have dv1 : ∀ u d, (e ++ em.take c)[u]? = some d → gL (setL g (a + 16) ((e.length + c)) p.1) (a + 17) u = d.2 := by rw [show gL (setL g (a + 16) ((e.length + c)) p.1) (a + 17) = gL g (a + 17) from mr_ncL (by omega)]; exact dv0
    generalize (setL g (a + 16) ((e.length + c)) p.1) = h1 at m1 z1 em1 ek1 ew1 dk1 dv1 ⊢
    refine Er_run 1 (pc' := 129) (ls' := [some (.ref a), some (.int (Int32.ofNat j)), some (.int x2), some (.int x3), some (.int (Int32.ofNat (e.length + c))), some (.int x5), some (.int x6), some (.int (Int32.ofNat c))]) (st' := [.ref a]) rfl ?_
    refine Er_getR (x := a + 17) rfl m1.1 (m1.2 (21, 17, 1, 200) (by decide)).1 ?_
    refine Er_run 2 (pc' := 135) (ls' := [some (.ref a), some (.int (Int32.ofNat j)), some (.int x2), some (.int x3), some (.int (Int32.ofNat (e.length + c))), some (.int x5), some (.int x6), some (.int (Int32.ofNat c))]) (st' := [.ref a, .int (Int32.ofNat (e.length + c)), .ref (a + 17)]) rfl ?_
    refine Er_getR (x := a + 25) rfl m1.1 (m1.2 (29, 25, 1, 4) (by decide)).1 ?_
    refine Er_run 1 (pc' := 140) (ls' := [some (.ref a), some (.int (Int32.ofNat j)), some (.int x2), some (.int x3), some (.int (Int32.ofNat (e.length + c))), some (.int x5), some (.int x6), some (.int (Int32.ofNat c))]) (st' := [.int (Int32.ofNat c), .ref (a + 25), .int (Int32.ofNat (e.length + c)), .ref (a + 17)]) rfl ?_
    refine Er_lald (v := p.2) rfl (m1.2 (29, 25, 1, 4) (by decide)).2.1 (mr_in (i := c) (k := 4) rfl (by omega) (by decide) (m1.2 (29, 25, 1, 4) (by decide)).2.2) (mr_atL rfl (by omega) (ew1 c p hp)) ?_
    refine Er_last rfl (m1.2 (21, 17, 1, 200) (by decide)).2.1 (mr_in (i := (e.length + c)) (k := 200) rfl (by omega) (by decide) (m1.2 (21, 17, 1, 200) (by decide)).2.2) ?_
    rw [mr_cn (x := Int32.ofNat (e.length + c)) (i := (e.length + c)) rfl (by omega)]
    have m2 : mrO (setL h1 (a + 17) ((e.length + c)) p.2) a := mrO_setL m1
    have z2 : FrL [] [a + 16, a + 17] g (setL h1 (a + 17) ((e.length + c)) p.2) := z1.trans (FrL.setL (by simp))
    have em2 : gI (setL h1 (a + 17) ((e.length + c)) p.2) a 31 = Int32.ofNat em.length := em1
    have ek2 : ∀ u d, em[u]? = some d → gL (setL h1 (a + 17) ((e.length + c)) p.2) (a + 24) u = d.1 := by rw [show gL (setL h1 (a + 17) ((e.length + c)) p.2) (a + 24) = gL h1 (a + 24) from mr_ncL (by omega)]; exact ek1
    have ew2 : ∀ u d, em[u]? = some d → gL (setL h1 (a + 17) ((e.length + c)) p.2) (a + 25) u = d.2 := by rw [show gL (setL h1 (a + 17) ((e.length + c)) p.2) (a + 25) = gL h1 (a + 25) from mr_ncL (by omega)]; exact ew1
    have dk2 : ∀ u d, (e ++ em.take (c + 1))[u]? = some d → gL (setL h1 (a + 17) ((e.length + c)) p.2) (a + 16) u = d.1 := by rw [show gL (setL h1 (a + 17) ((e.length + c)) p.2) (a + 16) = gL h1 (a + 16) from mr_ncL (by omega)]; exact dk1
    have dv2 : ∀ u d, (e ++ em.take (c + 1))[u]? = some d → gL (setL h1 (a + 17) ((e.length + c)) p.2) (a + 17) u = d.2 := (by rw [take_snoc hp, ← take_len (e := e) (em := em) (c := c) (by omega)]; exact row_v dv1)
    generalize (setL h1 (a + 17) ((e.length + c)) p.2) = h2 at m2 z2 em2 ek2 ew2 dk2 dv2 ⊢
    refine Er_run 3 (pc' := 105) (ls' := [some (.ref a), some (.int (Int32.ofNat j)), some (.int x2), some (.int x3), some (.int ((Int32.ofNat (e.length + c)) + (1 : Int32))), some (.int x5), some (.int x6), some (.int ((Int32.ofNat c) + (1 : Int32)))]) (st' := []) rfl ?_
    rw [jx_s1, jx_s1]
    exact ih (c + 1) h2 (by omega) m2 em2 ek2 ew2 dk2 dv2 (zz.trans z2)
end REFQ
