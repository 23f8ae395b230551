/-! class Line at cell y: slots y + 1, oldest y + 2, waiting y + 3, down y + 4, Messages from y + 5 on (2 cells each, 112) -/
def isY (h : sm_H) (y : Nat) : Prop := sm_at h y 16 = true ∧ gR h y 0 = some (y + 1) ∧ gR h y 1 = some (y + 2) ∧ gR h y 2 = some (y + 3) ∧ gR h y 3 = some (y + 4) ∧ sm_at h (y + 1) 6 = true ∧ (gS h (y + 1)).2 = 112 ∧ sm_at h (y + 2) 0 = true ∧ (gS h (y + 2)).2 = 7 ∧ sm_at h (y + 3) 0 = true ∧ (gS h (y + 3)).2 = 7 ∧ sm_at h (y + 4) 2 = true ∧ (gS h (y + 4)).2 = 7 ∧ ∀ i, i < 112 → gR h (y + 1) i = some (y + 5 + 2 * i) ∧ isE h (y + 5 + 2 * i)
/-- the inbox of node x holds l -/
def jn_q (h : sm_H) (y x : Nat) (l : List Jm) : Prop := l.length ≤ 16 ∧ gI h (y + 3) x = Int32.ofNat l.length ∧ ∃ p, p < 16 ∧ gI h (y + 2) x = Int32.ofNat p ∧ ∀ i m, l[i]? = some m → MG h (y + 5 + 2 * (16 * x + (p + i) % 16)) m
def LN (h : sm_H) (y : Nat) (ib : Nat → List Jm) (dn : Nat → Bool) (lo tw : Int32) : Prop := isY h y ∧ (∀ x, x < 7 → jn_q h y x (ib x) ∧ gI h (y + 4) x = (if dn x then 1 else 0)) ∧ gI h y 4 = lo ∧ gI h y 5 = tw
def jn_put (ib : Nat → List Jm) (x : Nat) (m : Jm) : Nat → List Jm := if (ib x).length < 16 then jx_up ib x (ib x ++ [m]) else ib
def jn_rep : Nat → (Nat → List Jm) → Nat → Jm → Nat → List Jm
  | 0, ib, _, _ => ib
  | k + 1, ib, x, m => jn_rep k (jn_put ib x m) x m
def jn_times (lo tw : Int32) : Nat := if lo &&& 1 = 0 then (if tw &&& 1 = 0 then 1 else 2) else 0
def jn_sh (z : Int32) : Int32 := (Int32.toUInt32 z >>> (Int32.toUInt32 1 &&& Int32.toUInt32 31)).toInt32
def jn_send (ib : Nat → List Jm) (dn : Nat → Bool) (lo tw : Int32) (x : Nat) (m : Jm) : Nat → List Jm := if dn x then ib else jn_rep (jn_times lo tw) ib x m
section LINE
variable {h h' : sm_H} {y c x : Nat} {m : Jm} {ib : Nat → List Jm} {dn : Nat → Bool} {lo tw : Int32}
theorem isY_fr {lo hi : Nat} (z : Fr lo hi h h') (hd : y + 229 ≤ lo ∨ hi ≤ y) (hp : isY h y) : isY h' y := by
  obtain ⟨a1, a2, a3, a4, a5, a6, a7, a8, a9, a10, a11, a12, a13, a14⟩ := hp
  have e := (z.2.2.2.2 y (by omega)).2.2
  refine ⟨by rw [z.at]; exact a1, by rw [e]; exact a2, by rw [e]; exact a3, by rw [e]; exact a4, by rw [e]; exact a5, by rw [z.at]; exact a6, by rw [z.2.1]; exact a7, by rw [z.at]; exact a8, by rw [z.2.1]; exact a9, by rw [z.at]; exact a10, by rw [z.2.1]; exact a11, by rw [z.at]; exact a12, by rw [z.2.1]; exact a13, fun i hi => ⟨?_, isE_fr z (by omega) (a14 i hi).2⟩⟩
  rw [(z.2.2.2.2 (y + 1) (by omega)).2.2]; exact (a14 i hi).1
theorem LN_fr {l1 h1 : Nat} (z : Fr l1 h1 h h') (hd : y + 229 ≤ l1 ∨ h1 ≤ y) (hp : LN h y ib dn lo tw) : LN h' y ib dn lo tw := by
  obtain ⟨hy, hq, e1, e2⟩ := hp
  refine ⟨isY_fr z hd hy, fun x hx => ?_, by rw [(z.2.2.2.2 y (by omega)).1]; exact e1, by rw [(z.2.2.2.2 y (by omega)).1]; exact e2⟩
  obtain ⟨⟨q1, q2, p, q3, q4, q5⟩, q6⟩ := hq x hx
  exact ⟨⟨q1, by rw [(z.2.2.2.2 (y + 3) (by omega)).1]; exact q2, p, q3, by rw [(z.2.2.2.2 (y + 2) (by omega)).1]; exact q4, fun i m e => MG_fr z (by have : (p + i) % 16 < 16 := Nat.mod_lt _ (by omega); omega) (q5 i m e)⟩, by rw [(z.2.2.2.2 (y + 4) (by omega)).1]; exact q6⟩
/-- shape and other inboxes stay, where only one row or one slot has changed -/
theorem isY_in {d e : Nat} (z : Fr d e h h') (hr : gR h' y = gR h y) (hr1 : gR h' (y + 1) = gR h (y + 1)) (he : ∀ i, i < 112 → isE h' (y + 5 + 2 * i)) (hp : isY h y) : isY h' y := by
  obtain ⟨a1, a2, a3, a4, a5, a6, a7, a8, a9, a10, a11, a12, a13, a14⟩ := hp
  exact ⟨by rw [z.at]; exact a1, by rw [hr]; exact a2, by rw [hr]; exact a3, by rw [hr]; exact a4, by rw [hr]; exact a5, by rw [z.at]; exact a6, by rw [z.2.1]; exact a7, by rw [z.at]; exact a8, by rw [z.2.1]; exact a9, by rw [z.at]; exact a10, by rw [z.2.1]; exact a11, by rw [z.at]; exact a12, by rw [z.2.1]; exact a13, fun i hi => ⟨by rw [hr1]; exact (a14 i hi).1, he i hi⟩⟩
theorem LN_masks {a b : Int32} (hp : LN h y ib dn lo tw) : LN (setI (setI h y 4 a) y 5 b) y ib dn a b := by
  obtain ⟨hy, hq, e1, e2⟩ := hp
  have z : Fr y (y + 1) h (setI (setI h y 4 a) y 5 b) := (Fr.setI (by omega) (by omega)).trans (Fr.setI (by omega) (by omega))
  refine ⟨isY_in z rfl rfl (fun i hi => isE_fr z (by omega) (hy.2.2.2.2.2.2.2.2.2.2.2.2.2 i hi).2) hy, fun x hx => ?_, by rw [gI_ne (by omega)]; exact gI_eq, gI_eq⟩
  obtain ⟨⟨q1, q2, p, q3, q4, q5⟩, q6⟩ := hq x hx
  exact ⟨⟨q1, by rw [(z.2.2.2.2 (y + 3) (by omega)).1]; exact q2, p, q3, by rw [(z.2.2.2.2 (y + 2) (by omega)).1]; exact q4, fun i m e => MG_fr z (by omega) (q5 i m e)⟩, by rw [(z.2.2.2.2 (y + 4) (by omega)).1]; exact q6⟩
theorem jx_m16 {n : Nat} (hn : n < 32) : Int32.ofNat n - Int32.ofNat n / 16 * 16 = Int32.ofNat (n % 16) := by
  have : ∀ n, n < 32 → Int32.ofNat n - Int32.ofNat n / 16 * 16 = Int32.ofNat (n % 16) := by decide
  exact this n hn
theorem jx_add (a b : Nat) : Int32.ofNat a + Int32.ofNat b = Int32.ofNat (a + b) := (Int32.ofNat_add a b).symm
theorem jx_mul (a b : Nat) : Int32.ofNat a * Int32.ofNat b = Int32.ofNat (a * b) := (Int32.ofNat_mul a b).symm
/-- a message has been copied into the first free slot, then the count goes up -/
theorem LN_put {p : Nat} (hp : LN h y ib dn lo tw) (hx : x < 7) (hl : (ib x).length < 16) (hp1 : p < 16) (hp2 : gI h (y + 2) x = Int32.ofNat p) (hp3 : ∀ i m, (ib x)[i]? = some m → MG h (y + 5 + 2 * (16 * x + (p + i) % 16)) m)
    (z : Fr (y + 5 + 2 * (16 * x + (p + (ib x).length) % 16)) (y + 5 + 2 * (16 * x + (p + (ib x).length) % 16) + 2) h h') (hg : MG h' (y + 5 + 2 * (16 * x + (p + (ib x).length) % 16)) m) : LN (setI h' (y + 3) x (Int32.ofNat ((ib x).length + 1))) y (jn_put ib x m) dn lo tw := by
  obtain ⟨hy, hq, e1, e2⟩ := hp
  have hs : (p + (ib x).length) % 16 < 16 := Nat.mod_lt _ (by omega)
  have z2 : Fr (y + 3) (y + 4) h' (setI h' (y + 3) x (Int32.ofNat ((ib x).length + 1))) := Fr.setI (by omega) (by omega)
  have g1 : ∀ d, d < y + 5 → gI h' d = gI h d := fun d hd => (z.2.2.2.2 d (by omega)).1
  rw [jn_put, if_pos hl]
  refine ⟨?_, fun w hw => ?_, ?_, ?_⟩
  · have zy : isY h' y := isY_in z (z.2.2.2.2 y (by omega)).2.2 (z.2.2.2.2 (y + 1) (by omega)).2.2 (fun i hi => ?_) hy
    · exact isY_in z2 rfl rfl (fun i hi => isE_fr z2 (by omega) (zy.2.2.2.2.2.2.2.2.2.2.2.2.2 i hi).2) zy
    · by_cases e : i = 16 * x + (p + (ib x).length) % 16
      · subst e; exact hg.1
      · exact isE_fr z (by omega) (hy.2.2.2.2.2.2.2.2.2.2.2.2.2 i hi).2
  · obtain ⟨⟨q1, q2, r, q3, q4, q5⟩, q6⟩ := hq w hw
    by_cases e : w = x
    · subst e
      refine ⟨⟨by rw [up_eq]; simp; omega, by rw [gI_eq, up_eq]; simp, p, hp1, by rw [(z2.2.2.2.2 (y + 2) (by omega)).1, g1 (y + 2) (by omega)]; exact hp2, fun i mm em => ?_⟩, by rw [(z2.2.2.2.2 (y + 4) (by omega)).1, g1 (y + 4) (by omega)]; exact q6⟩
      rw [up_eq] at em
      refine MG_fr z2 (by omega) ?_
      by_cases hi : i < (ib w).length
      · rw [List.getElem?_append_left hi] at em
        refine MG_fr z ?_ (hp3 i mm em)
        have h1 : (p + i) % 16 ≠ (p + (ib w).length) % 16 := by omega
        omega
      · have hi2 : i = (ib w).length := by
          have := (List.getElem?_eq_some_iff.1 em).1
          simp at this
          omega
        subst hi2
        have : m = mm := by simpa using em
        subst this
        exact hg
    · refine ⟨⟨by rw [up_ne _ _ e]; exact q1, by rw [up_ne _ _ e, gI_ne (by omega), g1 (y + 3) (by omega)]; exact q2, r, q3, by rw [(z2.2.2.2.2 (y + 2) (by omega)).1, g1 (y + 2) (by omega)]; exact q4, fun i mm em => ?_⟩, by rw [(z2.2.2.2.2 (y + 4) (by omega)).1, g1 (y + 4) (by omega)]; exact q6⟩
      rw [up_ne _ _ e] at em
      have h1 : (r + i) % 16 < 16 := Nat.mod_lt _ (by omega)
      exact MG_fr z2 (by omega) (MG_fr z (by omega) (q5 i mm em))
  · rw [gI_ne (by omega), g1 y (by omega)]; exact e1
  · rw [gI_ne (by omega), g1 y (by omega)]; exact e2
/-- the oldest message is taken -/
theorem LN_take {p : Nat} {l : List Jm} (hp : LN h y ib dn lo tw) (hx : x < 7) (hl : ib x = m :: l) (hp1 : p < 16) (hp2 : gI h (y + 2) x = Int32.ofNat p) (hp3 : ∀ i m, (ib x)[i]? = some m → MG h (y + 5 + 2 * (16 * x + (p + i) % 16)) m) : LN (setI (setI h (y + 2) x (Int32.ofNat ((p + 1) % 16))) (y + 3) x (Int32.ofNat l.length)) y (jx_up ib x l) dn lo tw := by
  obtain ⟨hy, hq, e1, e2⟩ := hp
  have z : Fr (y + 2) (y + 4) h (setI (setI h (y + 2) x (Int32.ofNat ((p + 1) % 16))) (y + 3) x (Int32.ofNat l.length)) := (Fr.setI (by omega) (by omega)).trans (Fr.setI (by omega) (by omega))
  refine ⟨isY_in z rfl rfl (fun i hi => isE_fr z (by omega) (hy.2.2.2.2.2.2.2.2.2.2.2.2.2 i hi).2) hy, fun w hw => ?_, by rw [(z.2.2.2.2 y (by omega)).1]; exact e1, by rw [(z.2.2.2.2 y (by omega)).1]; exact e2⟩
  obtain ⟨⟨q1, q2, r, q3, q4, q5⟩, q6⟩ := hq w hw
  by_cases e : w = x
  · subst e
    refine ⟨⟨by rw [up_eq]; rw [hl] at q1; simp at q1; omega, by rw [gI_eq, up_eq], (p + 1) % 16, Nat.mod_lt _ (by omega), by rw [gI_ne (by omega)]; exact gI_eq, fun i mm em => ?_⟩, by rw [(z.2.2.2.2 (y + 4) (by omega)).1]; exact q6⟩
    rw [up_eq] at em
    have := hp3 (i + 1) mm (by rw [hl]; exact em)
    rw [show ((p + 1) % 16 + i) % 16 = (p + (i + 1)) % 16 from by omega]
    exact MG_fr z (by omega) this
  · refine ⟨⟨by rw [up_ne _ _ e]; exact q1, by rw [up_ne _ _ e, gI_ne (by omega), gI_ne (by omega)]; exact q2, r, q3, by rw [gI_ne (by omega), gI_ne (by omega)]; exact q4, fun i mm em => ?_⟩, by rw [(z.2.2.2.2 (y + 4) (by omega)).1]; exact q6⟩
    rw [up_ne _ _ e] at em
    exact MG_fr z (by omega) (q5 i mm em)
theorem LN_down {b : Bool} (hp : LN h y ib dn lo tw) (hx : x < 7) : LN (setI h (y + 4) x (if b then 1 else 0)) y ib (jx_up dn x b) lo tw := by
  obtain ⟨hy, hq, e1, e2⟩ := hp
  have z : Fr (y + 4) (y + 5) h (setI h (y + 4) x (if b then 1 else 0)) := Fr.setI (by omega) (by omega)
  refine ⟨isY_in z rfl rfl (fun i hi => isE_fr z (by omega) (hy.2.2.2.2.2.2.2.2.2.2.2.2.2 i hi).2) hy, fun w hw => ?_, by rw [(z.2.2.2.2 y (by omega)).1]; exact e1, by rw [(z.2.2.2.2 y (by omega)).1]; exact e2⟩
  obtain ⟨⟨q1, q2, r, q3, q4, q5⟩, q6⟩ := hq w hw
  refine ⟨⟨q1, by rw [(z.2.2.2.2 (y + 3) (by omega)).1]; exact q2, r, q3, by rw [(z.2.2.2.2 (y + 2) (by omega)).1]; exact q4, fun i mm em => MG_fr z (by omega) (q5 i mm em)⟩, ?_⟩
  by_cases e : w = x
  · subst e; rw [gI_eq, up_eq]
  · rw [up_ne _ _ e, gI_ne (by omega)]; exact q6
theorem LN_none (hp : LN h y ib dn lo tw) (hx : x < 7) : LN (setI h (y + 3) x 0) y (jx_up ib x []) dn lo tw := by
  obtain ⟨hy, hq, e1, e2⟩ := hp
  have z : Fr (y + 3) (y + 4) h (setI h (y + 3) x 0) := Fr.setI (by omega) (by omega)
  refine ⟨isY_in z rfl rfl (fun i hi => isE_fr z (by omega) (hy.2.2.2.2.2.2.2.2.2.2.2.2.2 i hi).2) hy, fun w hw => ?_, by rw [(z.2.2.2.2 y (by omega)).1]; exact e1, by rw [(z.2.2.2.2 y (by omega)).1]; exact e2⟩
  obtain ⟨⟨q1, q2, r, q3, q4, q5⟩, q6⟩ := hq w hw
  refine ⟨?_, by rw [(z.2.2.2.2 (y + 4) (by omega)).1]; exact q6⟩
  by_cases e : w = x
  · subst e; rw [up_eq]; exact ⟨Nat.zero_le _, gI_eq, r, q3, by rw [gI_ne (by omega)]; exact q4, fun i mm em => by simp at em⟩
  · rw [up_ne _ _ e]; exact ⟨q1, by rw [gI_ne (by omega)]; exact q2, r, q3, by rw [gI_ne (by omega)]; exact q4, fun i mm em => MG_fr z (by omega) (q5 i mm em)⟩

end LINE
