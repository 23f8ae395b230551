/-! class Machine at cell a: stack a + 1, cells a + 2, emitted a + 3 -/
def isM (h : sm_H) (a : Nat) : Prop := sm_at h a 14 = true ∧ gR h a 0 = some (a + 1) ∧ gR h a 1 = some (a + 2) ∧ gR h a 2 = some (a + 3) ∧ sm_at h (a + 1) 1 = true ∧ (gS h (a + 1)).2 = 12 ∧ sm_at h (a + 2) 1 = true ∧ (gS h (a + 2)).2 = 4
/-- stack (bottom first), cells, emitted, trapped, next; what a call leaves alone: kind, key, row, end -/
def MS (h : sm_H) (a : Nat) (st : List Int64) (cs : Nat → Int64) (em : List (Int64 × Int64)) (tr : Bool) (nx : Nat) (kd : Int32) (ky : Int64) (rw en : Nat) : Prop :=
  isM h a ∧ st.length ≤ 12 ∧ gI h a 3 = Int32.ofNat st.length ∧ (∀ i x, st[i]? = some x → gL h (a + 1) i = x) ∧ (∀ i, i < 4 → gL h (a + 2) i = cs i) ∧ PL h (a + 3) 4 em ∧ gI h a 4 = (if tr then 1 else 0) ∧ gI h a 5 = kd ∧ gL h a 6 = ky ∧ gR h a 7 = some rw ∧ gI h a 8 = Int32.ofNat nx ∧ gI h a 9 = Int32.ofNat en
section MACHINE
variable {h h' : sm_H} {a : Nat} {st : List Int64} {cs : Nat → Int64} {em : List (Int64 × Int64)} {tr : Bool} {nx : Nat} {kd : Int32} {ky : Int64} {rw en : Nat}
theorem gI_set {c i : Nat} {x : Int32} {d j : Nat} : gI (setI h c i x) d j = if d = c ∧ j = i then x else gI h d j := rfl
theorem gL_set {c i : Nat} {x : Int64} {d j : Nat} : gL (setL h c i x) d j = if d = c ∧ j = i then x else gL h d j := rfl
theorem gI_ne {c i : Nat} {x : Int32} {d j : Nat} (hn : ¬ (d = c ∧ j = i)) : gI (setI h c i x) d j = gI h d j := by rw [gI_set, if_neg hn]
theorem gL_ne {c i : Nat} {x : Int64} {d j : Nat} (hn : ¬ (d = c ∧ j = i)) : gL (setL h c i x) d j = gL h d j := by rw [gL_set, if_neg hn]
theorem gI_eq {c i : Nat} {x : Int32} : gI (setI h c i x) c i = x := by rw [gI_set, if_pos ⟨rfl, rfl⟩]
theorem gL_eq {c i : Nat} {x : Int64} : gL (setL h c i x) c i = x := by rw [gL_set, if_pos ⟨rfl, rfl⟩]
theorem PL_setI {n c i : Nat} {x : Int32} {l : List (Int64 × Int64)} {b : Nat} (hd : c < b) (hp : PL h b n l) : PL (setI h c i x) b n l := PL_fr (Fr.setI (Nat.le_refl c) (Nat.lt_succ_self c)) (Or.inr hd) hp
theorem PL_setL {n c i : Nat} {x : Int64} {l : List (Int64 × Int64)} {b : Nat} (hd : c < b) (hp : PL h b n l) : PL (setL h c i x) b n l := PL_fr (Fr.setL (Nat.le_refl c) (Nat.lt_succ_self c)) (Or.inr hd) hp
theorem MS_trap (hm : MS h a st cs em tr nx kd ky rw en) : MS (setI h a 4 1) a st cs em true nx kd ky rw en := by
  obtain ⟨m1, m2, m3, m4, m5, m6, m7, m8, m9, m10, m11, m12⟩ := hm
  exact ⟨m1, m2, by rw [gI_ne (by omega)]; exact m3, m4, m5, PL_setI (by omega) m6, by rw [gI_eq]; rfl, by rw [gI_ne (by omega)]; exact m8, m9, m10, by rw [gI_ne (by omega)]; exact m11, by rw [gI_ne (by omega)]; exact m12⟩
theorem MS_push {x : Int64} (hm : MS h a st cs em tr nx kd ky rw en) (hl : st.length < 12) : MS (setI (setL h (a + 1) st.length x) a 3 (Int32.ofNat (st.length + 1))) a (st ++ [x]) cs em tr nx kd ky rw en := by
  obtain ⟨m1, m2, m3, m4, m5, m6, m7, m8, m9, m10, m11, m12⟩ := hm
  refine ⟨m1, by simp; omega, by rw [gI_eq]; simp, ?_, ?_, PL_setI (by omega) (PL_setL (by omega) m6), by rw [gI_ne (by omega)]; exact m7, by rw [gI_ne (by omega)]; exact m8, ?_, m10, by rw [gI_ne (by omega)]; exact m11, by rw [gI_ne (by omega)]; exact m12⟩
  · intro i y e
    show gL (setL h (a + 1) st.length x) (a + 1) i = y
    by_cases hi : i = st.length
    · subst hi
      rw [gL_eq]
      simpa using e
    · have hlt : i < st.length := by
        have := (List.getElem?_eq_some_iff.1 e).1
        simp at this
        omega
      rw [List.getElem?_append_left hlt] at e
      rw [gL_ne (by omega)]
      exact m4 i y e
  · intro i hi
    show gL (setL h (a + 1) st.length x) (a + 2) i = _
    rw [gL_ne (by omega)]; exact m5 i hi
  · show gL (setL h (a + 1) st.length x) a 6 = _
    rw [gL_ne (by omega)]; exact m9
theorem MS_pop {x : Int64} (hm : MS h a (st ++ [x]) cs em tr nx kd ky rw en) : MS (setI h a 3 (Int32.ofNat st.length)) a st cs em tr nx kd ky rw en := by
  obtain ⟨m1, m2, m3, m4, m5, m6, m7, m8, m9, m10, m11, m12⟩ := hm
  refine ⟨m1, by simp at m2; omega, gI_eq, ?_, m5, PL_setI (by omega) m6, by rw [gI_ne (by omega)]; exact m7, by rw [gI_ne (by omega)]; exact m8, m9, m10, by rw [gI_ne (by omega)]; exact m11, by rw [gI_ne (by omega)]; exact m12⟩
  intro i y e
  have hlt := (List.getElem?_eq_some_iff.1 e).1
  exact m4 i y (by rw [List.getElem?_append_left hlt]; exact e)
theorem MS_next {k : Nat} (hm : MS h a st cs em tr nx kd ky rw en) : MS (setI h a 8 (Int32.ofNat k)) a st cs em tr k kd ky rw en := by
  obtain ⟨m1, m2, m3, m4, m5, m6, m7, m8, m9, m10, m11, m12⟩ := hm
  exact ⟨m1, m2, by rw [gI_ne (by omega)]; exact m3, m4, m5, PL_setI (by omega) m6, by rw [gI_ne (by omega)]; exact m7, by rw [gI_ne (by omega)]; exact m8, m9, m10, gI_eq, by rw [gI_ne (by omega)]; exact m12⟩
theorem MS_cell {c : Nat} {x : Int64} (hm : MS h a st cs em tr nx kd ky rw en) : MS (setL h (a + 2) c x) a st (fun i => if i = c then x else cs i) em tr nx kd ky rw en := by
  obtain ⟨m1, m2, m3, m4, m5, m6, m7, m8, m9, m10, m11, m12⟩ := hm
  refine ⟨m1, m2, m3, fun i y e => by rw [gL_ne (by omega)]; exact m4 i y e, fun i hi => ?_, PL_setL (by omega) m6, m7, m8, by rw [gL_ne (by omega)]; exact m9, m10, m11, m12⟩
  by_cases hc : i = c
  · subst hc; rw [gL_eq]; simp
  · rw [gL_ne (by omega)]; simp only [hc, if_false]; exact m5 i hi
theorem isM_fr {lo hi : Nat} (x : Fr lo hi h h') (hd : a < lo ∨ hi ≤ a) (hp : isM h a) : isM h' a := by
  have x0 := x.2.2.2.2 a hd
  exact ⟨by rw [x.at]; exact hp.1, by rw [x0.2.2]; exact hp.2.1, by rw [x0.2.2]; exact hp.2.2.1, by rw [x0.2.2]; exact hp.2.2.2.1, by rw [x.at]; exact hp.2.2.2.2.1, by rw [x.2.1]; exact hp.2.2.2.2.2.1, by rw [x.at]; exact hp.2.2.2.2.2.2.1, by rw [x.2.1]; exact hp.2.2.2.2.2.2.2⟩
theorem MS_em {em' : List (Int64 × Int64)} (x : Fr (a + 3) (a + 6) h h') (hp : PL h' (a + 3) 4 em') (hm : MS h a st cs em tr nx kd ky rw en) : MS h' a st cs em' tr nx kd ky rw en := by
  obtain ⟨m1, m2, m3, m4, m5, m6, m7, m8, m9, m10, m11, m12⟩ := hm
  have x0 := x.2.2.2.2 a (by omega)
  have x1 := x.2.2.2.2 (a + 1) (by omega)
  have x2 := x.2.2.2.2 (a + 2) (by omega)
  exact ⟨isM_fr x (by omega) m1, m2, by rw [x0.1]; exact m3, fun i y e => by rw [x1.2.1]; exact m4 i y e, fun i hi => by rw [x2.2.1]; exact m5 i hi, hp, by rw [x0.1]; exact m7, by rw [x0.1]; exact m8, by rw [x0.2.1]; exact m9, by rw [x0.2.2]; exact m10, by rw [x0.1]; exact m11, by rw [x0.1]; exact m12⟩
end MACHINE
