section REF2
variable {h h0 g g1 h1 : sm_H} {a : Nat} {Q : sm_R → sm_H → Prop} {n c i j k K : Nat} {G : Nat → Nat → Int32} {PR : Nat → Nat → List (Int32 × Int64)} {F : Nat → Jl} {D : List (Int32 × Int64)} {cl cl' : List Nat} {u1 : Option Value}
set_option maxRecDepth 10000 in
theorem s_Ref_finish1 (m0 : mrO h a) (on0 : gI h a 19 = 0) : Run 178 [.ref a] h (.inl (some (.int 0))) (setI h a 18 1) := by
  refine ⟨Nat.le_of_ble_eq_true rfl, ?_⟩
  show Ev 178 0 [some (.ref a), none] [] h _
  refine Er_run 2 (pc' := 2) (ls' := [some (.ref a), none]) (st' := [.ref a, .ref a]) rfl ?_
  refine Er_getI (v := (0 : Int32)) rfl m0.1 on0 ?_
  refine Er_run 1 (pc' := bif decide (((0 : Int32)) = 0) then 12 else 8) (ls' := [some (.ref a), none]) (st' := [.ref a]) rfl ?_
  refine Er_pc (t := 12) (show (bif decide (((0 : Int32)) = 0) then 12 else 8) = 12 from by rw [show (decide (((0 : Int32)) = 0)) = true from by decide]; rfl) ?_
  refine Er_run 1 (pc' := 13) (ls' := [some (.ref a), none]) (st' := [.int ((1 : Int32)), .ref a]) rfl ?_
  refine Er_putI rfl m0.1 ?_
  refine Er_run 1 (pc' := 17) (ls' := [some (.ref a), none]) (st' := [.ref a]) rfl ?_
  refine Er_getI (v := (1 : Int32)) rfl m0.1 gI_eq ?_
  refine Er_run 1 (pc' := bif decide (((1 : Int32)) ≤ 0) then 25 else 23) (ls' := [some (.ref a), none]) (st' := []) rfl ?_
  refine Er_pc (t := 23) (show (bif decide (((1 : Int32)) ≤ 0) then 25 else 23) = 23 from by rw [show (decide (((1 : Int32)) ≤ 0)) = false from by decide]; rfl) ?_
  refine Er_run 1 (pc' := 24) (ls' := [some (.ref a), none]) (st' := [.int ((0 : Int32))]) rfl ?_
  exact Er_fin rfl rfl ⟨rfl, rfl⟩
set_option maxRecDepth 10000 in
theorem fi_0 (m0 : mrO g a) (on0 : gI g a 19 = 1) (kk : Ev 178 32 [some (.ref a), some (.int (Int32.ofNat 0))] [] (setI (setI g a 18 0) a 19 0) Q) : Ev 178 0 [some (.ref a), none] [] g Q := by
  refine Er_run 2 (pc' := 2) (ls' := [some (.ref a), none]) (st' := [.ref a, .ref a]) rfl ?_
  refine Er_getI (v := (1 : Int32)) rfl m0.1 on0 ?_
  refine Er_run 1 (pc' := bif decide (((1 : Int32)) = 0) then 12 else 8) (ls' := [some (.ref a), none]) (st' := [.ref a]) rfl ?_
  refine Er_pc (t := 8) (show (bif decide (((1 : Int32)) = 0) then 12 else 8) = 8 from by rw [show (decide (((1 : Int32)) = 0)) = false from by decide]; rfl) ?_
  refine Er_run 2 (pc' := 13) (ls' := [some (.ref a), none]) (st' := [.int ((0 : Int32)), .ref a]) rfl ?_
  refine Er_putI rfl m0.1 ?_
  refine Er_run 1 (pc' := 17) (ls' := [some (.ref a), none]) (st' := [.ref a]) rfl ?_
  refine Er_getI (v := (0 : Int32)) rfl m0.1 gI_eq ?_
  refine Er_run 1 (pc' := bif decide (((0 : Int32)) ≤ 0) then 25 else 23) (ls' := [some (.ref a), none]) (st' := []) rfl ?_
  refine Er_pc (t := 25) (show (bif decide (((0 : Int32)) ≤ 0) then 25 else 23) = 25 from by rw [show (decide (((0 : Int32)) ≤ 0)) = true from by decide]; rfl) ?_
  refine Er_run 2 (pc' := 27) (ls' := [some (.ref a), none]) (st' := [.int ((0 : Int32)), .ref a]) rfl ?_
  refine Er_putZ rfl m0.1 (by decide) ?_
  refine Er_run 2 (pc' := 32) (ls' := [some (.ref a), some (.int ((0 : Int32)))]) (st' := []) rfl ?_
  exact kk
set_option maxRecDepth 10000 in
theorem fi_e (m0 : mrO g a) (ch0 : gI g a 17 = Int32.ofNat c) (hc8 : c ≤ 8) (hk : c ≤ k) (hk8 : k ≤ 8) (hq : Q (.inl (some (.int (-1)))) g) : Ev 178 32 [some (.ref a), some (.int (Int32.ofNat k))] [] g Q := by
  refine Er_run 2 (pc' := 34) (ls' := [some (.ref a), some (.int (Int32.ofNat k))]) (st' := [.ref a, .int (Int32.ofNat k)]) rfl ?_
  refine Er_getI (v := Int32.ofNat c) rfl m0.1 ch0 ?_
  refine Er_run 1 (pc' := bif decide ((Int32.ofNat c) ≤ (Int32.ofNat k)) then 66 else 40) (ls' := [some (.ref a), some (.int (Int32.ofNat k))]) (st' := []) rfl ?_
  refine Er_pc (t := 66) (show (bif decide ((Int32.ofNat c) ≤ (Int32.ofNat k)) then 66 else 40) = 66 from by rw [show (decide ((Int32.ofNat c) ≤ (Int32.ofNat k))) = true from by rw [jx_le (by omega) (by omega)]; exact decide_eq_true (by omega)]; rfl) ?_
  refine Er_run 1 (pc' := 67) (ls' := [some (.ref a), some (.int (Int32.ofNat k))]) (st' := [.int ((-1 : Int32))]) rfl ?_
  exact Er_fin rfl rfl hq
set_option maxRecDepth 10000 in
theorem fi_1 (m0 : mrO g a) (ch0 : gI g a 17 = Int32.ofNat c) (hc8 : c ≤ 8) (hk : k < c) (od0 : gI g (a + 13) k = Int32.ofNat j) (hc : Run 164 [.ref a, .int (Int32.ofNat j)] g (.inl (some (.int 1))) g1) (m1 : mrO g1 a) (kk : Ev 178 32 [some (.ref a), some (.int (Int32.ofNat (k + 1)))] [] g1 Q) : Ev 178 32 [some (.ref a), some (.int (Int32.ofNat k))] [] g Q := by
  refine Er_run 2 (pc' := 34) (ls' := [some (.ref a), some (.int (Int32.ofNat k))]) (st' := [.ref a, .int (Int32.ofNat k)]) rfl ?_
  refine Er_getI (v := Int32.ofNat c) rfl m0.1 ch0 ?_
  refine Er_run 1 (pc' := bif decide ((Int32.ofNat c) ≤ (Int32.ofNat k)) then 66 else 40) (ls' := [some (.ref a), some (.int (Int32.ofNat k))]) (st' := []) rfl ?_
  refine Er_pc (t := 40) (show (bif decide ((Int32.ofNat c) ≤ (Int32.ofNat k)) then 66 else 40) = 40 from by rw [show (decide ((Int32.ofNat c) ≤ (Int32.ofNat k))) = false from by rw [jx_le (by omega) (by omega)]; exact decide_eq_false (by omega)]; rfl) ?_
  refine Er_run 2 (pc' := 42) (ls' := [some (.ref a), some (.int (Int32.ofNat k))]) (st' := [.ref a, .ref a]) rfl ?_
  refine Er_getR (x := a + 13) rfl m0.1 (m0.2 (12, 13, 0, 8) (by decide)).1 ?_
  refine Er_run 1 (pc' := 46) (ls' := [some (.ref a), some (.int (Int32.ofNat k))]) (st' := [.int (Int32.ofNat k), .ref (a + 13), .ref a]) rfl ?_
  refine Er_iald (v := Int32.ofNat j) rfl (m0.2 (12, 13, 0, 8) (by decide)).2.1 (mr_in (i := k) (k := 8) rfl (by omega) (by decide) (m0.2 (12, 13, 0, 8) (by decide)).2.2) (mr_atI rfl (by omega) od0) ?_
  refine Er_inv1 (q' := a) (ci := 12) (av := [.int (Int32.ofNat j)]) (rest := []) rfl rfl ⟨Nat.le_of_ble_eq_true rfl, Nat.le_of_ble_eq_true rfl⟩ rfl rfl m0.1 hc ?_
  refine Er_run 1 (pc' := bif !decide (((1 : Int32)) = 0) then 60 else 53) (ls' := [some (.ref a), some (.int (Int32.ofNat k))]) (st' := []) rfl ?_
  refine Er_pc (t := 60) (show (bif !decide (((1 : Int32)) = 0) then 60 else 53) = 60 from by rw [show (!decide (((1 : Int32)) = 0)) = true from by decide]; rfl) ?_
  refine Er_run 2 (pc' := 32) (ls' := [some (.ref a), some (.int ((Int32.ofNat k) + (1 : Int32)))]) (st' := []) rfl ?_
  rw [jx_s1]
  exact kk
set_option maxRecDepth 10000 in
theorem fi_x (m0 : mrO g a) (ch0 : gI g a 17 = Int32.ofNat c) (hc8 : c ≤ 8) (hk : k < c) (od0 : gI g (a + 13) k = Int32.ofNat j) (hc : Run 164 [.ref a, .int (Int32.ofNat j)] g (.inl (some (.int 0))) g1) (m1 : mrO g1 a) (od1 : gI g1 (a + 13) k = Int32.ofNat j) (hq : Q (.inl (some (.int (Int32.ofNat j)))) g1) : Ev 178 32 [some (.ref a), some (.int (Int32.ofNat k))] [] g Q := by
  refine Er_run 2 (pc' := 34) (ls' := [some (.ref a), some (.int (Int32.ofNat k))]) (st' := [.ref a, .int (Int32.ofNat k)]) rfl ?_
  refine Er_getI (v := Int32.ofNat c) rfl m0.1 ch0 ?_
  refine Er_run 1 (pc' := bif decide ((Int32.ofNat c) ≤ (Int32.ofNat k)) then 66 else 40) (ls' := [some (.ref a), some (.int (Int32.ofNat k))]) (st' := []) rfl ?_
  refine Er_pc (t := 40) (show (bif decide ((Int32.ofNat c) ≤ (Int32.ofNat k)) then 66 else 40) = 40 from by rw [show (decide ((Int32.ofNat c) ≤ (Int32.ofNat k))) = false from by rw [jx_le (by omega) (by omega)]; exact decide_eq_false (by omega)]; rfl) ?_
  refine Er_run 2 (pc' := 42) (ls' := [some (.ref a), some (.int (Int32.ofNat k))]) (st' := [.ref a, .ref a]) rfl ?_
  refine Er_getR (x := a + 13) rfl m0.1 (m0.2 (12, 13, 0, 8) (by decide)).1 ?_
  refine Er_run 1 (pc' := 46) (ls' := [some (.ref a), some (.int (Int32.ofNat k))]) (st' := [.int (Int32.ofNat k), .ref (a + 13), .ref a]) rfl ?_
  refine Er_iald (v := Int32.ofNat j) rfl (m0.2 (12, 13, 0, 8) (by decide)).2.1 (mr_in (i := k) (k := 8) rfl (by omega) (by decide) (m0.2 (12, 13, 0, 8) (by decide)).2.2) (mr_atI rfl (by omega) od0) ?_
  refine Er_inv1 (q' := a) (ci := 12) (av := [.int (Int32.ofNat j)]) (rest := []) rfl rfl ⟨Nat.le_of_ble_eq_true rfl, Nat.le_of_ble_eq_true rfl⟩ rfl rfl m0.1 hc ?_
  refine Er_run 1 (pc' := bif !decide (((0 : Int32)) = 0) then 60 else 53) (ls' := [some (.ref a), some (.int (Int32.ofNat k))]) (st' := []) rfl ?_
  refine Er_pc (t := 53) (show (bif !decide (((0 : Int32)) = 0) then 60 else 53) = 53 from by rw [show (!decide (((0 : Int32)) = 0)) = false from by decide]; rfl) ?_
  refine Er_run 1 (pc' := 54) (ls' := [some (.ref a), some (.int (Int32.ofNat k))]) (st' := [.ref a]) rfl ?_
  refine Er_getR (x := a + 13) rfl m1.1 (m1.2 (12, 13, 0, 8) (by decide)).1 ?_
  refine Er_run 1 (pc' := 58) (ls' := [some (.ref a), some (.int (Int32.ofNat k))]) (st' := [.int (Int32.ofNat k), .ref (a + 13)]) rfl ?_
  refine Er_iald (v := Int32.ofNat j) rfl (m1.2 (12, 13, 0, 8) (by decide)).2.1 (mr_in (i := k) (k := 8) rfl (by omega) (by decide) (m1.2 (12, 13, 0, 8) (by decide)).2.2) (mr_atI rfl (by omega) od1) ?_
  exact Er_fin rfl rfl hq
theorem worked_Fr (z : FrL [a, a + 3] [a + 1, a + 2, a + 16, a + 17, a + 18, a + 19, a + 20, a + 21, a + 22, a + 23, a + 24, a + 25] h g) : Fr a (a + 26) h g := z.Fr (fun c hc => by simp at hc; omega) (fun c hc => by simp at hc; omega)
/-- THE RUN, JOB by JOB -/
theorem l_fin (hg : JG G PR) (hl8 : cl.length ≤ 8) (hcl : ∀ j, j ∈ cl → j < 8 ∧ G j 1 = 1) : ∀ (f k : Nat) (F : Nat → Jl) (g : sm_H), k + f = cl.length → RM g a G PR F D false n → CO g a cl → gI g a 18 = 0 → Fr a (a + 26) h0 g → Ev 178 32 [some (.ref a), some (.int (Int32.ofNat k))] [] g (fun r h1 => r = .inl (some (.int (jx_op (me_run G PR (cl.drop k) F).2))) ∧ RM h1 a G PR (me_run G PR (cl.drop k) F).1 D false n ∧ gI h1 a 18 = 0 ∧ Fr a (a + 26) h0 h1) := by
  intro f
  induction f with
  | zero =>
    intro k F g hk hp hc h18 z
    rw [List.drop_eq_nil_of_le (by omega)]
    exact fi_e hp.1 hc.1 hl8 (by omega) (by omega) ⟨rfl, hp, h18, z⟩
  | succ f ih =>
    intro k F g hk hp hc h18 z
    have hkl : k < cl.length := by omega
    have hget : cl[k]? = some (cl[k]'hkl) := List.getElem?_eq_getElem hkl
    obtain ⟨j1, j2⟩ := hcl _ (List.getElem_mem hkl)
    have od := hc.2 k _ hget
    rw [List.drop_eq_getElem_cons hkl, me_run]
    generalize cl[k]'hkl = j at j1 j2 od ⊢
    obtain ⟨g1, r1, p1, z1, s1⟩ := s_Ref_worked j1 j2 hg hp
    have m1 := p1.1
    have od1 : gI g1 (a + 13) k = Int32.ofNat j := by rw [z1.gi (by simp)]; exact od
    have z2 := z.trans (worked_Fr z1)
    cases ho : me_out (PR j) (ji (G j 5)) (jb_in G F j) with
    | none =>
      rw [ho] at r1 p1
      exact fi_x hp.1 hc.1 hl8 hkl od r1 m1 od1 ⟨rfl, p1, (s1 18 (by omega) (by omega)).trans h18, z2⟩
    | some l =>
      rw [ho] at r1 p1
      exact fi_1 hp.1 hc.1 hl8 hkl od r1 m1 (ih (k + 1) _ g1 (by omega) p1 ⟨(s1 17 (by omega) (by omega)).trans hc.1, fun i x e => by rw [z1.gi (by simp)]; exact hc.2 i x e⟩ ((s1 18 (by omega) (by omega)).trans h18) z2)
/-- finish -/
theorem RM_finish (hg : JG G PR) (hl8 : cl.length ≤ 8) (hcl : ∀ j, j ∈ cl → j < 8 ∧ G j 1 = 1) (hp : RM h a G PR F D true n) (hc : CO h a cl) : ∃ h', Run 178 [.ref a] h (.inl (some (.int (jx_op (me_run G PR cl F).2)))) h' ∧ RM h' a G PR (me_run G PR cl F).1 D false n ∧ gI h' a 18 = 0 ∧ Fr a (a + 26) h h' := by
  have hx : Ev 178 0 (sm_pad (sm_ent [.ref a]) (sm_prog.2.1 178)) [] h (fun r h1 => r = .inl (some (.int (jx_op (me_run G PR cl F).2))) ∧ RM h1 a G PR (me_run G PR cl F).1 D false n ∧ gI h1 a 18 = 0 ∧ Fr a (a + 26) h h1) := by
    show Ev 178 0 [some (.ref a), none] [] h _
    refine fi_0 hp.1 hp.2.2.2.2.2.1 ?_
    have z2 : FrL [a] [] h (setI (setI h a 18 0) a 19 0) := (FrL.setI (by simp)).trans (FrL.setI (by simp))
    have gi : ∀ c i, gI (setI (setI h a 18 0) a 19 0) c i = if c = a ∧ i = 19 then 0 else if c = a ∧ i = 18 then 0 else gI h c i := fun c i => rfl
    generalize setI (setI h a 18 0) a 19 0 = g at z2 gi ⊢
    have e2 : ∀ i, i ≠ 18 → i ≠ 19 → gI g a i = gI h a i := fun i h1 h2 => by rw [gi, if_neg (by omega), if_neg (by omega)]
    have hp2 : RM g a G PR F D false n := RM_fl z2 (fun c hc => by simp at hc ⊢; omega) (fun c hc => by simp) (e2 15 (by omega) (by omega)) (by rw [gi, if_pos ⟨rfl, rfl⟩]; rfl) ((e2 16 (by omega) (by omega)).trans hp.2.2.2.2.2.2) (fun f hf => by rw [z2.gi (by simp), z2.gl (by simp), z2.gl (by simp)]; exact hp.2.1 f hf) hp
    have := l_fin (h0 := h) (cl := cl) (a := a) hg hl8 hcl cl.length 0 F g (by omega) hp2 ⟨(e2 17 (by omega) (by omega)).trans hc.1, fun i x e => by rw [z2.gi (by simp)]; exact hc.2 i x e⟩ (by rw [gi, if_neg (by omega), if_pos ⟨rfl, rfl⟩]) (z2.Fr (fun c hc => by simp at hc; omega) (fun c hc => by cases hc))
    rw [List.drop_zero] at this
    exact this
  obtain ⟨r, h', hr, e, hq⟩ := Run_of (Nat.le_of_ble_eq_true rfl) hx
  subst e
  exact ⟨h', hr, hq⟩
end REF2
