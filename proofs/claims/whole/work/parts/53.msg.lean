/-! class Message at cell c, its load at c + 1: fields (2 kind, 3 from, 4 to, 5 position, 6 task, 7 part, 8 offset, 9 amount, 10 total) and load -/
abbrev Jm := (Nat → Int32) × List Int64
def isE (h : sm_H) (c : Nat) : Prop := sm_at h c 15 = true ∧ gR h c 0 = some (c + 1) ∧ sm_at h (c + 1) 1 = true ∧ (gS h (c + 1)).2 = 38
def MG (h : sm_H) (c : Nat) (m : Jm) : Prop := isE h c ∧ m.2.length ≤ 38 ∧ gI h c 1 = Int32.ofNat m.2.length ∧ (∀ j, 2 ≤ j → j ≤ 10 → gI h c j = m.1 j) ∧ ∀ i x, m.2[i]? = some x → gL h (c + 1) i = x
def jx_up {α : Type} (f : Nat → α) (i : Nat) (x : α) : Nat → α := fun j => if j = i then x else f j
theorem up_eq {α : Type} (f : Nat → α) (i : Nat) (x : α) : jx_up f i x i = x := by rw [jx_up, if_pos rfl]
theorem up_ne {α : Type} (f : Nat → α) {i j : Nat} (x : α) (hn : j ≠ i) : jx_up f i x j = f j := by rw [jx_up, if_neg hn]
def jm_new (k s r p t : Int32) : Nat → Int32 := fun j => if j = 2 then k else if j = 3 then s else if j = 4 then r else if j = 5 then p else if j = 6 then t else 0
section MSG
variable {h : sm_H} {c d b n : Nat} {m m0 : Jm} {l : List (Int64 × Int64)}
theorem isE_fr {lo hi : Nat} {h' : sm_H} (x : Fr lo hi h h') (hd : c + 2 ≤ lo ∨ hi ≤ c) (hp : isE h c) : isE h' c :=
  ⟨by rw [x.at]; exact hp.1, by rw [(x.2.2.2.2 c (by omega)).2.2]; exact hp.2.1, by rw [x.at]; exact hp.2.2.1, by rw [x.2.1]; exact hp.2.2.2⟩
theorem MG_fr {lo hi : Nat} {h' : sm_H} (x : Fr lo hi h h') (hd : c + 2 ≤ lo ∨ hi ≤ c) (hp : MG h c m) : MG h' c m :=
  ⟨isE_fr x hd hp.1, hp.2.1, by rw [(x.2.2.2.2 c (by omega)).1]; exact hp.2.2.1, fun j h1 h2 => by rw [(x.2.2.2.2 c (by omega)).1]; exact hp.2.2.2.1 j h1 h2, fun i y e => by rw [(x.2.2.2.2 (c + 1) (by omega)).2.1]; exact hp.2.2.2.2 i y e⟩
theorem MG_set {j : Nat} {x : Int32} (h2 : 2 ≤ j) (hm : MG h c m) : MG (setI h c j x) c (jx_up m.1 j x, m.2) := by
  refine ⟨hm.1, hm.2.1, by rw [gI_ne (by omega)]; exact hm.2.2.1, fun i h3 h4 => ?_, hm.2.2.2.2⟩
  show (if c = c ∧ i = j then x else gI h c i) = (if i = j then x else m.1 i)
  by_cases e : i = j
  · rw [if_pos ⟨rfl, e⟩, if_pos e]
  · rw [if_neg (fun y => e y.2), if_neg e]; exact hm.2.2.2.1 i h3 h4

theorem s_Message_write {k s u p t : Int32} (hm : MG h c m) : ∃ h', Run 63 [.ref c, .int k, .int s, .int u, .int p, .int t] h (.inl none) h' ∧ MG h' c (jm_new k s u p t, []) ∧ Fr c (c + 2) h h' := by
  have hx : Ev 63 0 (sm_pad (sm_ent [.ref c, .int k, .int s, .int u, .int p, .int t]) (sm_prog.2.1 63)) [] h (fun r h1 => r = .inl none ∧ MG h1 c (jm_new k s u p t, []) ∧ Fr c (c + 2) h h1) := by
    show Ev 63 0 [some (.ref c), some (.int k), some (.int s), some (.int u), some (.int p), some (.int t)] [] h _
    refine Er_run 2 (pc' := 2) (ls' := [some (.ref c), some (.int k), some (.int s), some (.int u), some (.int p), some (.int t)]) (st' := [.int k, .ref c]) rfl ?_
    refine Er_putI rfl hm.1.1 ?_
    refine Er_run 2 (pc' := 7) (ls' := [some (.ref c), some (.int k), some (.int s), some (.int u), some (.int p), some (.int t)]) (st' := [.int s, .ref c]) rfl ?_
    refine Er_putI rfl hm.1.1 ?_
    refine Er_run 2 (pc' := 12) (ls' := [some (.ref c), some (.int k), some (.int s), some (.int u), some (.int p), some (.int t)]) (st' := [.int u, .ref c]) rfl ?_
    refine Er_putI rfl hm.1.1 ?_
    refine Er_run 2 (pc' := 18) (ls' := [some (.ref c), some (.int k), some (.int s), some (.int u), some (.int p), some (.int t)]) (st' := [.int p, .ref c]) rfl ?_
    refine Er_putI rfl hm.1.1 ?_
    refine Er_run 2 (pc' := 24) (ls' := [some (.ref c), some (.int k), some (.int s), some (.int u), some (.int p), some (.int t)]) (st' := [.int t, .ref c]) rfl ?_
    refine Er_putI rfl hm.1.1 ?_
    refine Er_run 2 (pc' := 29) (ls' := [some (.ref c), some (.int k), some (.int s), some (.int u), some (.int p), some (.int t)]) (st' := [.int ((0 : Int32)), .ref c]) rfl ?_
    refine Er_putI rfl hm.1.1 ?_
    refine Er_run 2 (pc' := 34) (ls' := [some (.ref c), some (.int k), some (.int s), some (.int u), some (.int p), some (.int t)]) (st' := [.int ((0 : Int32)), .ref c]) rfl ?_
    refine Er_putI rfl hm.1.1 ?_
    refine Er_run 2 (pc' := 39) (ls' := [some (.ref c), some (.int k), some (.int s), some (.int u), some (.int p), some (.int t)]) (st' := [.int ((0 : Int32)), .ref c]) rfl ?_
    refine Er_putI rfl hm.1.1 ?_
    refine Er_run 2 (pc' := 44) (ls' := [some (.ref c), some (.int k), some (.int s), some (.int u), some (.int p), some (.int t)]) (st' := [.int ((0 : Int32)), .ref c]) rfl ?_
    refine Er_putI rfl hm.1.1 ?_
    refine Er_run 2 (pc' := 49) (ls' := [some (.ref c), some (.int k), some (.int s), some (.int u), some (.int p), some (.int t)]) (st' := [.int ((0 : Int32)), .ref c]) rfl ?_
    refine Er_putI rfl hm.1.1 ?_
    refine Er_fin rfl rfl ⟨rfl, ⟨hm.1, Nat.zero_le _, gI_eq, fun j h2 h10 => ?_, fun i x e => by simp at e⟩, (((((((((Fr.setI (Nat.le_refl c) (by omega)).trans (Fr.setI (Nat.le_refl c) (by omega))).trans (Fr.setI (Nat.le_refl c) (by omega))).trans (Fr.setI (Nat.le_refl c) (by omega))).trans (Fr.setI (Nat.le_refl c) (by omega))).trans (Fr.setI (Nat.le_refl c) (by omega))).trans (Fr.setI (Nat.le_refl c) (by omega))).trans (Fr.setI (Nat.le_refl c) (by omega))).trans (Fr.setI (Nat.le_refl c) (by omega))).trans (Fr.setI (Nat.le_refl c) (by omega))⟩
    have hj : j = 2 ∨ j = 3 ∨ j = 4 ∨ j = 5 ∨ j = 6 ∨ j = 7 ∨ j = 8 ∨ j = 9 ∨ j = 10 := by omega
    rcases hj with rfl | rfl | rfl | rfl | rfl | rfl | rfl | rfl | rfl
    · rw [gI_ne (by omega), gI_ne (by omega), gI_ne (by omega), gI_ne (by omega), gI_ne (by omega), gI_ne (by omega), gI_ne (by omega), gI_ne (by omega), gI_ne (by omega), gI_eq]; rfl
    · rw [gI_ne (by omega), gI_ne (by omega), gI_ne (by omega), gI_ne (by omega), gI_ne (by omega), gI_ne (by omega), gI_ne (by omega), gI_ne (by omega), gI_eq]; rfl
    · rw [gI_ne (by omega), gI_ne (by omega), gI_ne (by omega), gI_ne (by omega), gI_ne (by omega), gI_ne (by omega), gI_ne (by omega), gI_eq]; rfl
    · rw [gI_ne (by omega), gI_ne (by omega), gI_ne (by omega), gI_ne (by omega), gI_ne (by omega), gI_ne (by omega), gI_eq]; rfl
    · rw [gI_ne (by omega), gI_ne (by omega), gI_ne (by omega), gI_ne (by omega), gI_ne (by omega), gI_eq]; rfl
    · rw [gI_ne (by omega), gI_ne (by omega), gI_ne (by omega), gI_ne (by omega), gI_eq]; rfl
    · rw [gI_ne (by omega), gI_ne (by omega), gI_ne (by omega), gI_eq]; rfl
    · rw [gI_ne (by omega), gI_ne (by omega), gI_eq]; rfl
    · rw [gI_ne (by omega), gI_eq]; rfl
  obtain ⟨r, h', hr, e, hq⟩ := Run_of (Nat.le_of_ble_eq_true rfl) hx
  subst e
  exact ⟨h', hr, hq⟩
def jm_cp (h h' : sm_H) (c d : Nat) (m : Jm) (k : Nat) : Prop := isE h' c ∧ MG h' d m ∧ Fr c (c + 2) h h' ∧ ∀ j, 2 ≤ j → j ≤ k → gI h' c j = m.1 j
theorem jm_cp0 (hi : isE h c) (hd : MG h d m) : jm_cp h h c d m 1 := ⟨hi, hd, Fr.refl _ _ _, fun j h2 h1 => absurd h1 (by omega)⟩
theorem jm_cp_step {h' : sm_H} {k : Nat} (hcd : c + 2 ≤ d ∨ d + 2 ≤ c) (x : jm_cp h h' c d m k) (hk : 1 ≤ k) : jm_cp h (setI h' c (k + 1) (m.1 (k + 1))) c d m (k + 1) := by
  refine ⟨x.1, MG_fr (Fr.setI (Nat.le_refl c) (Nat.lt_succ_self c)) (by omega) x.2.1, x.2.2.1.trans (Fr.setI (Nat.le_refl c) (by omega)), fun j h2 hj => ?_⟩
  rcases Nat.lt_or_ge k j with hl | hl
  · rw [show j = k + 1 from by omega]; exact gI_eq
  · rw [gI_ne (by omega)]; exact x.2.2.2 j h2 hl
theorem jm_cp_len {h' : sm_H} {k : Nat} {v : Int32} (hcd : c + 2 ≤ d ∨ d + 2 ≤ c) (x : jm_cp h h' c d m k) : jm_cp h (setI h' c 1 v) c d m k :=
  ⟨x.1, MG_fr (Fr.setI (Nat.le_refl c) (Nat.lt_succ_self c)) (by omega) x.2.1, x.2.2.1.trans (Fr.setI (Nat.le_refl c) (by omega)), fun j h2 hj => by rw [gI_ne (by omega)]; exact x.2.2.2 j h2 hj⟩
theorem sm_cpL_at {q0 q1 k j : Nat} (hj : j < k) : gL (sm_cpL h q0 (0 : Int32).toNatClampNeg q1 (0 : Int32).toNatClampNeg k) q1 j = gL h q0 j := by
  show (if q1 = q1 then va_cpy (gL h q0) (gL h q1) 0 0 k else gL h q1) j = _
  rw [if_pos rfl, va_cpy]
  show (if 0 ≤ j ∧ j < 0 + k then gL h q0 (0 + (j - 0)) else gL h q1 j) = _
  rw [if_pos (by omega), Nat.zero_add, Nat.sub_zero]
theorem s_Message_copy (hi : isE h c) (hd : MG h d m) (hcd : c + 2 ≤ d ∨ d + 2 ≤ c) : ∃ h', Run 64 [.ref c, .ref d] h (.inl none) h' ∧ MG h' c m ∧ Fr c (c + 2) h h' := by
  have hl := hd.2.1
  have hx : Ev 64 0 (sm_pad (sm_ent [.ref c, .ref d]) (sm_prog.2.1 64)) [] h (fun r h1 => r = .inl none ∧ MG h1 c m ∧ Fr c (c + 2) h h1) := by
    show Ev 64 0 [some (.ref c), some (.ref d)] [] h _
    refine Er_run 2 (pc' := 2) (ls' := [some (.ref c), some (.ref d)]) (st' := [.ref d, .ref c]) rfl ?_
    refine Er_getI (v := m.1 2) rfl hd.1.1 (hd.2.2.2.1 2 (by omega) (by omega)) ?_
    refine Er_putI rfl hi.1 ?_
    have c1 : jm_cp h (setI h c 2 (m.1 2)) c d m 2 := jm_cp_step hcd (jm_cp0 hi hd) (by omega)
    generalize setI h c 2 (m.1 2) = h1 at c1 ⊢
    refine Er_run 2 (pc' := 10) (ls' := [some (.ref c), some (.ref d)]) (st' := [.ref d, .ref c]) rfl ?_
    refine Er_getI (v := m.1 3) rfl c1.2.1.1.1 (c1.2.1.2.2.2.1 3 (by omega) (by omega)) ?_
    refine Er_putI rfl c1.1.1 ?_
    have c2 : jm_cp h (setI h1 c 3 (m.1 3)) c d m 3 := jm_cp_step hcd c1 (by omega)
    generalize setI h1 c 3 (m.1 3) = h2 at c2 ⊢
    refine Er_run 2 (pc' := 18) (ls' := [some (.ref c), some (.ref d)]) (st' := [.ref d, .ref c]) rfl ?_
    refine Er_getI (v := m.1 4) rfl c2.2.1.1.1 (c2.2.1.2.2.2.1 4 (by omega) (by omega)) ?_
    refine Er_putI rfl c2.1.1 ?_
    have c3 : jm_cp h (setI h2 c 4 (m.1 4)) c d m 4 := jm_cp_step hcd c2 (by omega)
    generalize setI h2 c 4 (m.1 4) = h3 at c3 ⊢
    refine Er_run 2 (pc' := 26) (ls' := [some (.ref c), some (.ref d)]) (st' := [.ref d, .ref c]) rfl ?_
    refine Er_getI (v := m.1 5) rfl c3.2.1.1.1 (c3.2.1.2.2.2.1 5 (by omega) (by omega)) ?_
    refine Er_putI rfl c3.1.1 ?_
    have c4 : jm_cp h (setI h3 c 5 (m.1 5)) c d m 5 := jm_cp_step hcd c3 (by omega)
    generalize setI h3 c 5 (m.1 5) = h4 at c4 ⊢
    refine Er_run 2 (pc' := 34) (ls' := [some (.ref c), some (.ref d)]) (st' := [.ref d, .ref c]) rfl ?_
    refine Er_getI (v := m.1 6) rfl c4.2.1.1.1 (c4.2.1.2.2.2.1 6 (by omega) (by omega)) ?_
    refine Er_putI rfl c4.1.1 ?_
    have c5 : jm_cp h (setI h4 c 6 (m.1 6)) c d m 6 := jm_cp_step hcd c4 (by omega)
    generalize setI h4 c 6 (m.1 6) = h5 at c5 ⊢
    refine Er_run 2 (pc' := 42) (ls' := [some (.ref c), some (.ref d)]) (st' := [.ref d, .ref c]) rfl ?_
    refine Er_getI (v := m.1 7) rfl c5.2.1.1.1 (c5.2.1.2.2.2.1 7 (by omega) (by omega)) ?_
    refine Er_putI rfl c5.1.1 ?_
    have c6 : jm_cp h (setI h5 c 7 (m.1 7)) c d m 7 := jm_cp_step hcd c5 (by omega)
    generalize setI h5 c 7 (m.1 7) = h6 at c6 ⊢
    refine Er_run 2 (pc' := 50) (ls' := [some (.ref c), some (.ref d)]) (st' := [.ref d, .ref c]) rfl ?_
    refine Er_getI (v := m.1 8) rfl c6.2.1.1.1 (c6.2.1.2.2.2.1 8 (by omega) (by omega)) ?_
    refine Er_putI rfl c6.1.1 ?_
    have c7 : jm_cp h (setI h6 c 8 (m.1 8)) c d m 8 := jm_cp_step hcd c6 (by omega)
    generalize setI h6 c 8 (m.1 8) = h7 at c7 ⊢
    refine Er_run 2 (pc' := 58) (ls' := [some (.ref c), some (.ref d)]) (st' := [.ref d, .ref c]) rfl ?_
    refine Er_getI (v := m.1 9) rfl c7.2.1.1.1 (c7.2.1.2.2.2.1 9 (by omega) (by omega)) ?_
    refine Er_putI rfl c7.1.1 ?_
    have c8 : jm_cp h (setI h7 c 9 (m.1 9)) c d m 9 := jm_cp_step hcd c7 (by omega)
    generalize setI h7 c 9 (m.1 9) = h8 at c8 ⊢
    refine Er_run 2 (pc' := 66) (ls' := [some (.ref c), some (.ref d)]) (st' := [.ref d, .ref c]) rfl ?_
    refine Er_getI (v := m.1 10) rfl c8.2.1.1.1 (c8.2.1.2.2.2.1 10 (by omega) (by omega)) ?_
    refine Er_putI rfl c8.1.1 ?_
    have c9 : jm_cp h (setI h8 c 10 (m.1 10)) c d m 10 := jm_cp_step hcd c8 (by omega)
    generalize setI h8 c 10 (m.1 10) = h9 at c9 ⊢
    refine Er_run 2 (pc' := 74) (ls' := [some (.ref c), some (.ref d)]) (st' := [.ref d, .ref c]) rfl ?_
    refine Er_getI (v := Int32.ofNat m.2.length) rfl c9.2.1.1.1 c9.2.1.2.2.1 ?_
    refine Er_putI rfl c9.1.1 ?_
    have c10 : jm_cp h (setI h9 c 1 (Int32.ofNat m.2.length)) c d m 10 ∧ gI (setI h9 c 1 (Int32.ofNat m.2.length)) c 1 = Int32.ofNat m.2.length := ⟨jm_cp_len hcd c9, gI_eq⟩
    generalize setI h9 c 1 (Int32.ofNat m.2.length) = h10 at c10 ⊢
    obtain ⟨⟨ie, hd1, k1, im⟩, i1⟩ := c10
    refine Er_run 1 (pc' := 81) (ls' := [some (.ref c), some (.ref d)]) (st' := [.ref d]) rfl ?_
    refine Er_getR (x := d + 1) rfl hd1.1.1 hd1.1.2.1 ?_
    refine Er_run 2 (pc' := 86) (ls' := [some (.ref c), some (.ref d)]) (st' := [.ref c, .int ((0 : Int32)), .ref (d + 1)]) rfl ?_
    refine Er_getR (x := c + 1) rfl ie.1 ie.2.1 ?_
    refine Er_run 2 (pc' := 91) (ls' := [some (.ref c), some (.ref d)]) (st' := [.ref c, .int ((0 : Int32)), .ref (c + 1), .int ((0 : Int32)), .ref (d + 1)]) rfl ?_
    refine Er_getI (v := Int32.ofNat m.2.length) rfl ie.1 i1 ?_
    refine Er_cpL rfl hd1.1.2.2.1 ie.2.2.1 (Nat.le_of_ble_eq_true rfl) (by decide) (by decide) (by rw [sm_ofNat_toInt (by omega)]; omega) (by show (0 : Int) + _ ≤ (((gS h10 (d + 1)).2 : Nat) : Int); rw [sm_ofNat_toInt (by omega), hd1.1.2.2.2]; omega) (by show (0 : Int) + _ ≤ (((gS h10 (c + 1)).2 : Nat) : Int); rw [sm_ofNat_toInt (by omega), ie.2.2.2]; omega) ?_
    have fk : Fr (c + 1) (c + 2) h10 (sm_cpL h10 (d + 1) (0 : Int32).toNatClampNeg (c + 1) (0 : Int32).toNatClampNeg (Int32.ofNat m.2.length).toNatClampNeg) := Fr.rowL (by omega) (by omega)
    have gk : ∀ i, i < m.2.length → gL (sm_cpL h10 (d + 1) (0 : Int32).toNatClampNeg (c + 1) (0 : Int32).toNatClampNeg (Int32.ofNat m.2.length).toNatClampNeg) (c + 1) i = gL h10 (d + 1) i := fun i hi => sm_cpL_at (by rw [jx_cn (by omega)]; exact hi)
    generalize (sm_cpL h10 (d + 1) (0 : Int32).toNatClampNeg (c + 1) (0 : Int32).toNatClampNeg (Int32.ofNat m.2.length).toNatClampNeg) = h11 at fk gk ⊢
    refine Er_fin rfl rfl ⟨rfl, ⟨?_, hd.2.1, by rw [(fk.2.2.2.2 c (by omega)).1]; exact i1, fun j h2 h10 => by rw [(fk.2.2.2.2 c (by omega)).1]; exact im j h2 h10, fun i x e => ?_⟩, k1.trans (fk.mono (by omega) (by omega))⟩
    · exact ⟨by rw [fk.at]; exact ie.1, by rw [(fk.2.2.2.2 c (by omega)).2.2]; exact ie.2.1, by rw [fk.at]; exact ie.2.2.1, by rw [fk.2.1]; exact ie.2.2.2⟩
    · have hi : i < m.2.length := (List.getElem?_eq_some_iff.1 e).1
      rw [gk i hi]; exact hd1.2.2.2.2 i x e
  obtain ⟨r, h', hr, e, hq⟩ := Run_of (Nat.le_of_ble_eq_true rfl) hx
  subst e
  exact ⟨h', hr, hq⟩
theorem s_Message_put {x : Int64} (hm : MG h c m) (hl : m.2.length < 38) : ∃ h', Run 65 [.ref c, .long x] h (.inl none) h' ∧ MG h' c (m.1, m.2 ++ [x]) ∧ Fr c (c + 2) h h' := by
  have hx : Ev 65 0 (sm_pad (sm_ent [.ref c, .long x]) (sm_prog.2.1 65)) [] h (fun r h1 => r = .inl none ∧ MG h1 c (m.1, m.2 ++ [x]) ∧ Fr c (c + 2) h h1) := by
    show Ev 65 0 [some (.ref c), some (.long x), none] [] h _
    refine Er_run 1 (pc' := 1) (ls' := [some (.ref c), some (.long x), none]) (st' := [.ref c]) rfl ?_
    refine Er_getI (v := Int32.ofNat m.2.length) rfl hm.1.1 hm.2.2.1 ?_
    refine Er_run 2 (pc' := bif decide (((38 : Int32)) ≤ (Int32.ofNat m.2.length)) then 29 else 9) (ls' := [some (.ref c), some (.long x), none]) (st' := []) rfl ?_
    refine Er_pc (t := 9) (show (bif decide (((38 : Int32)) ≤ (Int32.ofNat m.2.length)) then 29 else 9) = 9 from by rw [show (decide (((38 : Int32)) ≤ (Int32.ofNat m.2.length))) = false from by rw [show (38 : Int32) = Int32.ofNat 38 from rfl, jx_le (by omega) (by omega)]; exact decide_eq_false (by omega)]; rfl) ?_
    refine Er_run 1 (pc' := 10) (ls' := [some (.ref c), some (.long x), none]) (st' := [.ref c]) rfl ?_
    refine Er_getR (x := c + 1) rfl hm.1.1 hm.1.2.1 ?_
    refine Er_run 1 (pc' := 14) (ls' := [some (.ref c), some (.long x), none]) (st' := [.ref c, .ref (c + 1)]) rfl ?_
    refine Er_getI (v := Int32.ofNat m.2.length) rfl hm.1.1 hm.2.2.1 ?_
    refine Er_run 1 (pc' := 18) (ls' := [some (.ref c), some (.long x), none]) (st' := [.long x, .int (Int32.ofNat m.2.length), .ref (c + 1)]) rfl ?_
    refine Er_last rfl hm.1.2.2.1 (by show sm_in _ (gS h (c + 1)).2 = true; rw [hm.1.2.2.2]; exact sm_in_of (by rw [sm_ofNat_toInt (by omega)]; omega) (by rw [sm_ofNat_toInt (by omega)]; omega)) ?_
    refine Er_run 2 (pc' := 21) (ls' := [some (.ref c), some (.long x), none]) (st' := [.ref c, .ref c]) rfl ?_
    refine Er_getI (v := Int32.ofNat m.2.length) rfl hm.1.1 hm.2.2.1 ?_
    refine Er_run 2 (pc' := 26) (ls' := [some (.ref c), some (.long x), none]) (st' := [.int ((Int32.ofNat m.2.length) + ((1 : Int32))), .ref c]) rfl ?_
    refine Er_putI rfl hm.1.1 ?_
    refine Er_fin rfl rfl ⟨rfl, ⟨hm.1, by simp; omega, by rw [gI_eq, jx_s1]; simp, fun j h2 h10 => by rw [gI_ne (by omega)]; exact hm.2.2.2.1 j h2 h10, fun i y e => ?_⟩, (Fr.setL (by omega) (by omega)).trans (Fr.setI (by omega) (by omega))⟩
    show gL (setL h (c + 1) (Int32.ofNat m.2.length).toNatClampNeg x) (c + 1) i = y
    rw [jx_cn (by omega)]
    by_cases hi : i = m.2.length
    · subst hi
      rw [gL_eq]
      simpa using e
    · have hlt : i < m.2.length := by
        have := (List.getElem?_eq_some_iff.1 e).1
        simp at this
        omega
      rw [List.getElem?_append_left hlt] at e
      rw [gL_ne (by omega)]
      exact hm.2.2.2.2 i y e
  obtain ⟨r, h', hr, e, hq⟩ := Run_of (Nat.le_of_ble_eq_true rfl) hx
  subst e
  exact ⟨h', hr, hq⟩
def jm_get (m : Jm) (i : Nat) : Int64 := m.2[i]?.getD 0
theorem s_Message_get {i : Nat} (hm : MG h c m) (hi : i < 2147483648) : Run 66 [.ref c, .int (Int32.ofNat i)] h (.inl (some (.long (jm_get m i)))) h := by
  have hl := hm.2.1
  cases e : m.2[i]? with
  | none =>
    have hn : m.2.length ≤ i := List.getElem?_eq_none_iff.1 e
    rw [jm_get, e]
    refine ⟨Nat.le_of_ble_eq_true rfl, ?_⟩
    show Ev 66 0 [some (.ref c), some (.int (Int32.ofNat i))] [] h _
    refine Er_run 2 (pc' := bif decide ((Int32.ofNat i) < 0) then 21 else 4) (ls' := [some (.ref c), some (.int (Int32.ofNat i))]) (st' := []) rfl ?_
    refine Er_pc (t := 4) (show (bif decide ((Int32.ofNat i) < 0) then 21 else 4) = 4 from by rw [show (decide ((Int32.ofNat i) < 0)) = false from sm_nn (by rw [sm_ofNat_toInt hi]; omega)]; rfl) ?_
    refine Er_run 2 (pc' := 6) (ls' := [some (.ref c), some (.int (Int32.ofNat i))]) (st' := [.ref c, .int (Int32.ofNat i)]) rfl ?_
    refine Er_getI (v := Int32.ofNat m.2.length) rfl hm.1.1 hm.2.2.1 ?_
    refine Er_run 1 (pc' := bif decide ((Int32.ofNat m.2.length) ≤ (Int32.ofNat i)) then 21 else 12) (ls' := [some (.ref c), some (.int (Int32.ofNat i))]) (st' := []) rfl ?_
    refine Er_pc (t := 21) (show (bif decide ((Int32.ofNat m.2.length) ≤ (Int32.ofNat i)) then 21 else 12) = 21 from by rw [show (decide ((Int32.ofNat m.2.length) ≤ (Int32.ofNat i))) = true from by rw [jx_le (by omega) hi]; exact decide_eq_true (by omega)]; rfl) ?_
    refine Er_run 1 (pc' := 22) (ls' := [some (.ref c), some (.int (Int32.ofNat i))]) (st' := [.long ((0 : Int64))]) rfl ?_
    exact Er_fin rfl rfl ⟨rfl, rfl⟩
  | some x =>
    have hn : i < m.2.length := (List.getElem?_eq_some_iff.1 e).1
    rw [jm_get, e]
    refine ⟨Nat.le_of_ble_eq_true rfl, ?_⟩
    show Ev 66 0 [some (.ref c), some (.int (Int32.ofNat i))] [] h _
    refine Er_run 2 (pc' := bif decide ((Int32.ofNat i) < 0) then 21 else 4) (ls' := [some (.ref c), some (.int (Int32.ofNat i))]) (st' := []) rfl ?_
    refine Er_pc (t := 4) (show (bif decide ((Int32.ofNat i) < 0) then 21 else 4) = 4 from by rw [show (decide ((Int32.ofNat i) < 0)) = false from sm_nn (by rw [sm_ofNat_toInt hi]; omega)]; rfl) ?_
    refine Er_run 2 (pc' := 6) (ls' := [some (.ref c), some (.int (Int32.ofNat i))]) (st' := [.ref c, .int (Int32.ofNat i)]) rfl ?_
    refine Er_getI (v := Int32.ofNat m.2.length) rfl hm.1.1 hm.2.2.1 ?_
    refine Er_run 1 (pc' := bif decide ((Int32.ofNat m.2.length) ≤ (Int32.ofNat i)) then 21 else 12) (ls' := [some (.ref c), some (.int (Int32.ofNat i))]) (st' := []) rfl ?_
    refine Er_pc (t := 12) (show (bif decide ((Int32.ofNat m.2.length) ≤ (Int32.ofNat i)) then 21 else 12) = 12 from by rw [show (decide ((Int32.ofNat m.2.length) ≤ (Int32.ofNat i))) = false from by rw [jx_le (by omega) hi]; exact decide_eq_false (by omega)]; rfl) ?_
    refine Er_run 1 (pc' := 13) (ls' := [some (.ref c), some (.int (Int32.ofNat i))]) (st' := [.ref c]) rfl ?_
    refine Er_getR (x := c + 1) rfl hm.1.1 hm.1.2.1 ?_
    refine Er_run 1 (pc' := 17) (ls' := [some (.ref c), some (.int (Int32.ofNat i))]) (st' := [.int (Int32.ofNat i), .ref (c + 1)]) rfl ?_
    refine Er_lald (v := x) rfl hm.1.2.2.1 (by rw [hm.1.2.2.2]; exact sm_in_of (by rw [sm_ofNat_toInt hi]; omega) (by rw [sm_ofNat_toInt hi]; omega)) (by rw [jx_cn hi]; exact hm.2.2.2.2 i x e) ?_
    refine Er_run 1 (pc' := 22) (ls' := [some (.ref c), some (.int (Int32.ofNat i))]) (st' := [.long x]) rfl ?_
    exact Er_fin rfl rfl ⟨rfl, rfl⟩
def jm_ans (m : Jm) (p t r x : Int32) : Bool := decide (m.1 2 = 5 ∧ m.1 5 = p ∧ m.1 6 = t ∧ m.1 7 = r ∧ m.1 8 = x)
theorem s_Message_answers {p t r x : Int32} (hm : MG h c m) : Run 67 [.ref c, .int p, .int t, .int r, .int x] h (.inl (some (.int (if jm_ans m p t r x then 1 else 0)))) h := by
  rw [jm_ans]
  refine ⟨Nat.le_of_ble_eq_true rfl, ?_⟩
  show Ev 67 0 [some (.ref c), some (.int p), some (.int t), some (.int r), some (.int x)] [] h _
  refine Er_run 1 (pc' := 1) (ls' := [some (.ref c), some (.int p), some (.int t), some (.int r), some (.int x)]) (st' := [.ref c]) rfl ?_
  refine Er_getI (v := m.1 2) rfl hm.1.1 (hm.2.2.2.1 2 (by omega) (by omega)) ?_
  refine Er_run 2 (pc' := bif !decide ((m.1 2) = ((5 : Int32))) then 45 else 8) (ls' := [some (.ref c), some (.int p), some (.int t), some (.int r), some (.int x)]) (st' := []) rfl ?_
  refine Er_if (fun hc1 => ?_) (fun hc1 => ?_)
  · skip
    refine Er_run 1 (pc' := 46) (ls' := [some (.ref c), some (.int p), some (.int t), some (.int r), some (.int x)]) (st' := [.int ((0 : Int32))]) rfl ?_
    refine Er_fin rfl rfl ⟨?_, rfl⟩
    congr 3
    symm
    simp only [Bool.not_eq_true', Bool.not_eq_false', decide_eq_true_eq, decide_eq_false_iff_not, decide_eq_true_eq] at *
    simp [*]
  · skip
    refine Er_run 1 (pc' := 9) (ls' := [some (.ref c), some (.int p), some (.int t), some (.int r), some (.int x)]) (st' := [.ref c]) rfl ?_
    refine Er_getI (v := m.1 5) rfl hm.1.1 (hm.2.2.2.1 5 (by omega) (by omega)) ?_
    refine Er_run 2 (pc' := bif !decide ((m.1 5) = p) then 45 else 16) (ls' := [some (.ref c), some (.int p), some (.int t), some (.int r), some (.int x)]) (st' := []) rfl ?_
    refine Er_if (fun hc2 => ?_) (fun hc2 => ?_)
    · skip
      refine Er_run 1 (pc' := 46) (ls' := [some (.ref c), some (.int p), some (.int t), some (.int r), some (.int x)]) (st' := [.int ((0 : Int32))]) rfl ?_
      refine Er_fin rfl rfl ⟨?_, rfl⟩
      congr 3
      symm
      simp only [Bool.not_eq_true', Bool.not_eq_false', decide_eq_true_eq, decide_eq_false_iff_not, decide_eq_true_eq] at *
      simp [*]
    · skip
      refine Er_run 1 (pc' := 17) (ls' := [some (.ref c), some (.int p), some (.int t), some (.int r), some (.int x)]) (st' := [.ref c]) rfl ?_
      refine Er_getI (v := m.1 6) rfl hm.1.1 (hm.2.2.2.1 6 (by omega) (by omega)) ?_
      refine Er_run 2 (pc' := bif !decide ((m.1 6) = t) then 45 else 24) (ls' := [some (.ref c), some (.int p), some (.int t), some (.int r), some (.int x)]) (st' := []) rfl ?_
      refine Er_if (fun hc3 => ?_) (fun hc3 => ?_)
      · skip
        refine Er_run 1 (pc' := 46) (ls' := [some (.ref c), some (.int p), some (.int t), some (.int r), some (.int x)]) (st' := [.int ((0 : Int32))]) rfl ?_
        refine Er_fin rfl rfl ⟨?_, rfl⟩
        congr 3
        symm
        simp only [Bool.not_eq_true', Bool.not_eq_false', decide_eq_true_eq, decide_eq_false_iff_not, decide_eq_true_eq] at *
        simp [*]
      · skip
        refine Er_run 1 (pc' := 25) (ls' := [some (.ref c), some (.int p), some (.int t), some (.int r), some (.int x)]) (st' := [.ref c]) rfl ?_
        refine Er_getI (v := m.1 7) rfl hm.1.1 (hm.2.2.2.1 7 (by omega) (by omega)) ?_
        refine Er_run 2 (pc' := bif !decide ((m.1 7) = r) then 45 else 32) (ls' := [some (.ref c), some (.int p), some (.int t), some (.int r), some (.int x)]) (st' := []) rfl ?_
        refine Er_if (fun hc4 => ?_) (fun hc4 => ?_)
        · skip
          refine Er_run 1 (pc' := 46) (ls' := [some (.ref c), some (.int p), some (.int t), some (.int r), some (.int x)]) (st' := [.int ((0 : Int32))]) rfl ?_
          refine Er_fin rfl rfl ⟨?_, rfl⟩
          congr 3
          symm
          simp only [Bool.not_eq_true', Bool.not_eq_false', decide_eq_true_eq, decide_eq_false_iff_not, decide_eq_true_eq] at *
          simp [*]
        · skip
          refine Er_run 1 (pc' := 33) (ls' := [some (.ref c), some (.int p), some (.int t), some (.int r), some (.int x)]) (st' := [.ref c]) rfl ?_
          refine Er_getI (v := m.1 8) rfl hm.1.1 (hm.2.2.2.1 8 (by omega) (by omega)) ?_
          refine Er_run 2 (pc' := bif !decide ((m.1 8) = x) then 45 else 41) (ls' := [some (.ref c), some (.int p), some (.int t), some (.int r), some (.int x)]) (st' := []) rfl ?_
          refine Er_if (fun hc5 => ?_) (fun hc5 => ?_)
          · skip
            refine Er_run 1 (pc' := 46) (ls' := [some (.ref c), some (.int p), some (.int t), some (.int r), some (.int x)]) (st' := [.int ((0 : Int32))]) rfl ?_
            refine Er_fin rfl rfl ⟨?_, rfl⟩
            congr 3
            symm
            simp only [Bool.not_eq_true', Bool.not_eq_false', decide_eq_true_eq, decide_eq_false_iff_not, decide_eq_true_eq] at *
            simp [*]
          · skip
            refine Er_run 2 (pc' := 46) (ls' := [some (.ref c), some (.int p), some (.int t), some (.int r), some (.int x)]) (st' := [.int ((1 : Int32))]) rfl ?_
            refine Er_fin rfl rfl ⟨?_, rfl⟩
            congr 3
            symm
            simp only [Bool.not_eq_true', Bool.not_eq_false', decide_eq_true_eq, decide_eq_false_iff_not, decide_eq_true_eq] at *
            simp [*]
def jm_prs (m : Jm) (k : Nat) : List (Int64 × Int64) := (List.range k).map (fun i => (jm_get m (2 * i), jm_get m (2 * i + 1)))
theorem jm_prs_succ (m : Jm) (k : Nat) : jm_prs m (k + 1) = jm_prs m k ++ [(jm_get m (2 * k), jm_get m (2 * k + 1))] := by rw [jm_prs, List.range_succ, List.map_append]; rfl
theorem l_unload {k : Nat} (hk : m.1 9 = Int32.ofNat k) (hl : l.length + k ≤ n) (hk2 : k < 1000000) (hcb : c + 2 ≤ b ∨ b + 3 ≤ c) : ∀ (f i : Nat) (h : sm_H), i + f = k → MG h c m → PL h b n (l ++ jm_prs m i) → Ev 68 2 [some (.ref c), some (.ref b), some (.int (Int32.ofNat i))] [] h (fun r h1 => r = .inl none ∧ PL h1 b n (l ++ jm_prs m k) ∧ Fr b (b + 3) h h1) := by
  intro f
  induction f with
  | zero =>
    intro i h hi hm hp
    have e : i = k := by omega
    subst e
    refine Er_run 2 (pc' := 4) (ls' := [some (.ref c), some (.ref b), some (.int (Int32.ofNat i))]) (st' := [.ref c, .int (Int32.ofNat i)]) rfl ?_
    refine Er_getI (v := Int32.ofNat i) rfl hm.1.1 (by rw [← hk]; exact hm.2.2.2.1 9 (by omega) (by omega)) ?_
    refine Er_run 1 (pc' := bif decide ((Int32.ofNat i) ≤ (Int32.ofNat i)) then 37 else 10) (ls' := [some (.ref c), some (.ref b), some (.int (Int32.ofNat i))]) (st' := []) rfl ?_
    refine Er_pc (t := 37) (show (bif decide ((Int32.ofNat i) ≤ (Int32.ofNat i)) then 37 else 10) = 37 from by rw [show (decide ((Int32.ofNat i) ≤ (Int32.ofNat i))) = true from by rw [jx_le (by omega) (by omega)]; exact decide_eq_true (by omega)]; rfl) ?_
    exact Er_fin rfl rfl ⟨rfl, hp, Fr.refl _ _ _⟩
  | succ f ih =>
    intro i h hi hm hp
    refine Er_run 2 (pc' := 4) (ls' := [some (.ref c), some (.ref b), some (.int (Int32.ofNat i))]) (st' := [.ref c, .int (Int32.ofNat i)]) rfl ?_
    refine Er_getI (v := Int32.ofNat k) rfl hm.1.1 (by rw [← hk]; exact hm.2.2.2.1 9 (by omega) (by omega)) ?_
    refine Er_run 1 (pc' := bif decide ((Int32.ofNat k) ≤ (Int32.ofNat i)) then 37 else 10) (ls' := [some (.ref c), some (.ref b), some (.int (Int32.ofNat i))]) (st' := []) rfl ?_
    refine Er_pc (t := 10) (show (bif decide ((Int32.ofNat k) ≤ (Int32.ofNat i)) then 37 else 10) = 10 from by rw [show (decide ((Int32.ofNat k) ≤ (Int32.ofNat i))) = false from by rw [jx_le (by omega) (by omega)]; exact decide_eq_false (by omega)]; rfl) ?_
    refine Er_run 5 (pc' := 15) (ls' := [some (.ref c), some (.ref b), some (.int (Int32.ofNat i))]) (st' := [.int (((2 : Int32)) * (Int32.ofNat i)), .ref c, .ref b]) rfl ?_
    refine Er_inv1 (q' := c) (ci := 5) (av := [.int (((2 : Int32)) * (Int32.ofNat i))]) (rest := [.ref b]) rfl rfl ⟨Nat.le_of_ble_eq_true rfl, Nat.le_of_ble_eq_true rfl⟩ rfl rfl hm.1.1 (show Run 66 [.ref c, .int ((2 : Int32) * Int32.ofNat i)] h (.inl (some (.long (jm_get m (2 * i))))) h from by rw [show (2 : Int32) * Int32.ofNat i = Int32.ofNat (2 * i) from (Int32.ofNat_mul 2 i).symm]; exact s_Message_get hm (by omega)) ?_
    refine Er_run 6 (pc' := 24) (ls' := [some (.ref c), some (.ref b), some (.int (Int32.ofNat i))]) (st' := [.int ((((2 : Int32)) * (Int32.ofNat i)) + ((1 : Int32))), .ref c, .long (jm_get m (2 * i)), .ref b]) rfl ?_
    refine Er_inv1 (q' := c) (ci := 5) (av := [.int ((((2 : Int32)) * (Int32.ofNat i)) + ((1 : Int32)))]) (rest := [.long (jm_get m (2 * i)), .ref b]) rfl rfl ⟨Nat.le_of_ble_eq_true rfl, Nat.le_of_ble_eq_true rfl⟩ rfl rfl hm.1.1 (show Run 66 [.ref c, .int ((2 : Int32) * Int32.ofNat i + 1)] h (.inl (some (.long (jm_get m (2 * i + 1))))) h from by rw [show (2 : Int32) * Int32.ofNat i = Int32.ofNat (2 * i) from (Int32.ofNat_mul 2 i).symm, jx_s1]; exact s_Message_get hm (by omega)) ?_
    obtain ⟨h1, r1, p1, f1⟩ := s_Pairs_add1 (k := jm_get m (2 * i)) (v := jm_get m (2 * i + 1)) hp (by rw [List.length_append, jm_prs, List.length_map, List.length_range]; omega)
    refine Er_inv1 (q' := b) (ci := 0) (av := [.long (jm_get m (2 * i)), .long (jm_get m (2 * i + 1))]) (rest := []) rfl rfl ⟨Nat.le_of_ble_eq_true rfl, Nat.le_of_ble_eq_true rfl⟩ rfl rfl hp.1.1 r1 ?_
    refine Er_run 3 (pc' := 2) (ls' := [some (.ref c), some (.ref b), some (.int ((Int32.ofNat i) + (1 : Int32)))]) (st' := []) rfl ?_
    rw [jx_s1]
    refine sm_Ev.mono (ih (i + 1) h1 (by omega) (MG_fr f1 (by omega) hm) (by rw [jm_prs_succ, ← List.append_assoc]; exact p1)) (fun r h2 y => ⟨y.1, y.2.1, f1.trans y.2.2⟩)
theorem s_Message_unload {k : Nat} (hm : MG h c m) (hp : PL h b n l) (hk : m.1 9 = Int32.ofNat k) (hl : l.length + k ≤ n) (hk2 : k < 1000000) (hcb : c + 2 ≤ b ∨ b + 3 ≤ c) : ∃ h', Run 68 [.ref c, .ref b] h (.inl none) h' ∧ PL h' b n (l ++ jm_prs m k) ∧ Fr b (b + 3) h h' := by
  have hx : Ev 68 0 (sm_pad (sm_ent [.ref c, .ref b]) (sm_prog.2.1 68)) [] h (fun r h1 => r = .inl none ∧ PL h1 b n (l ++ jm_prs m k) ∧ Fr b (b + 3) h h1) := by
    show Ev 68 0 [some (.ref c), some (.ref b), none] [] h _
    refine Er_run 2 (pc' := 2) (ls' := [some (.ref c), some (.ref b), some (.int ((0 : Int32)))]) (st' := []) rfl ?_
    exact l_unload hk hl hk2 hcb k 0 h (by omega) hm (by rw [show jm_prs m 0 = [] from rfl, List.append_nil]; exact hp)
  obtain ⟨r, h', hr, e, hq⟩ := Run_of (Nat.le_of_ble_eq_true rfl) hx
  subst e
  exact ⟨h', hr, hq⟩
end MSG
