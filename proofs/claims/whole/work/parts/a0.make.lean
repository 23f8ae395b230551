/-! the objects as the law makes them: by running the constructors -/
/-- a row that is empty -/
def nP (h : sm_H) (a n : Nat) : Prop := isP h a n ∧ gI h a 2 = 0
def nG (h : sm_H) (a : Nat) : Prop := isG h a ∧ gI h a 2 = 0
def nE (h : sm_H) (c : Nat) : Prop := isE h c ∧ gI h c 1 = 0
def nJ (h : sm_H) (a : Nat) : Prop := isJ h a ∧ gI h a 1 = 0 ∧ nG h (a + 2) ∧ nG h (a + 5) ∧ nG h (a + 8)
def nD (h : sm_H) (d : Nat) : Prop := isD h d ∧ nP h (d + 1) 64 ∧ nP h (d + 4) 1000 ∧ nP h (d + 7) 300 ∧ ∀ t, t < 44 → gI h (d + 11) t = -1
def nW (h : sm_H) (w v : Nat) : Prop := isW h w 1 144 ∧ gI h w 0 = Int32.ofNat v ∧ (∀ j, j < 18 → 11 ≤ j → gI h w j = 0) ∧ gR h w 14 = none ∧ nP h (w + 22) 24 ∧ nP h (w + 25) 1000 ∧ isP h (w + 28) 1000 ∧ nP h (w + 31) 300 ∧ isM h (w + 14) ∧ nP h (w + 17) 4 ∧ nE h (w + 20) ∧ nD h (w + 1)
def nK (h : sm_H) (a : Nat) : Prop := isK h a 1 144 373 ∧ (∀ j, j < 20 → (j = 9 ∨ 11 ≤ j) → gI h a j = 0) ∧ gR h a 8 = none ∧ nP h (a + 3) 300 ∧ nE h (a + 1)
def nA (h : sm_H) : Prop := isX h ∧ nG h 141 ∧ gI h 0 6 = 0 ∧ gI h 0 7 = 0 ∧ isS h 1 ∧ gI h 1 3 = 0 ∧ ∀ f, f < 16 → nP h (5 + 3 * f) 300
def nB (h : sm_H) : Prop := ∀ j, j < 8 → nJ h (53 + 11 * j)
def nC (h : sm_H) : Prop := isY h 144 ∧ ∀ x, x < 7 → gI h 147 x = 0 ∧ gI h 146 x = 0 ∧ gI h 148 x = 0
def nL (h : sm_H) : Prop := isR h 373 ∧ gI h 373 4 = 0 ∧ gI h 373 5 = 0 ∧ gI h 373 6 = 0 ∧ nK h 379
def nV (h : sm_H) (k : Nat) : Prop := ∀ v, v < 2 → nW h (388 + 35 * (k + v)) (k + v)
def nR (h : sm_H) : Prop := mrO h 598 ∧ (∀ f, f < 16 → gI h 601 f = 0) ∧ (∀ k, k < 24 → gI h 603 k = 0) ∧ gI h 598 15 = 0 ∧ (∀ j, j < 8 → gI h 612 j = 0) ∧ gI h 598 19 = 0 ∧ gI h 598 16 = 0
def dP (h : sm_H) (a n : Nat) : Decidable (nP h a n) := by unfold nP isP; infer_instance
def dQ (h : sm_H) (a n : Nat) : Decidable (isP h a n) := by unfold isP; infer_instance
def dG (h : sm_H) (a : Nat) : Decidable (nG h a) := by unfold nG isG; infer_instance
def dE (h : sm_H) (a : Nat) : Decidable (nE h a) := by unfold nE isE; infer_instance
def dF (h : sm_H) (a : Nat) : Decidable (isE h a) := by unfold isE; infer_instance
def dJ (h : sm_H) (a : Nat) : Decidable (nJ h a) := by
  haveI := dG h (a + 2)
  haveI := dG h (a + 5)
  haveI := dG h (a + 8)
  haveI : Decidable (isJ h a) := by unfold isJ; infer_instance
  unfold nJ
  infer_instance
def dD (h : sm_H) (d : Nat) : Decidable (nD h d) := by
  haveI := dP h (d + 1) 64
  haveI := dP h (d + 4) 1000
  haveI := dP h (d + 7) 300
  haveI : Decidable (isD h d) := by unfold isD; infer_instance
  unfold nD
  infer_instance
def dW (h : sm_H) (w v : Nat) : Decidable (nW h w v) := by
  haveI : Decidable (isW h w 1 144) := by unfold isW; infer_instance
  haveI := dP h (w + 22) 24
  haveI := dP h (w + 25) 1000
  haveI := dQ h (w + 28) 1000
  haveI := dP h (w + 31) 300
  haveI : Decidable (isM h (w + 14)) := by unfold isM; infer_instance
  haveI := dP h (w + 17) 4
  haveI := dE h (w + 20)
  haveI := dD h (w + 1)
  unfold nW
  infer_instance
def dK (h : sm_H) (a : Nat) : Decidable (nK h a) := by
  haveI : Decidable (isK h a 1 144 373) := by unfold isK; infer_instance
  haveI := dP h (a + 3) 300
  haveI := dE h (a + 1)
  unfold nK
  infer_instance
def dY (h : sm_H) (y : Nat) : Decidable (isY h y) := by
  haveI : ∀ i, Decidable (isE h (y + 5 + 2 * i)) := fun i => dF h _
  unfold isY
  infer_instance
def dA (h : sm_H) : Decidable (nA h) := by
  haveI : Decidable (isX h) := by unfold isX; infer_instance
  haveI := dG h 141
  haveI : Decidable (isS h 1) := by unfold isS; infer_instance
  haveI : ∀ f, Decidable (nP h (5 + 3 * f) 300) := fun f => dP h _ _
  unfold nA
  infer_instance
def dB (h : sm_H) : Decidable (nB h) := by
  haveI : ∀ j, Decidable (nJ h (53 + 11 * j)) := fun j => dJ h _
  unfold nB
  infer_instance
def dC (h : sm_H) : Decidable (nC h) := by
  haveI := dY h 144
  unfold nC
  infer_instance
def dL (h : sm_H) : Decidable (nL h) := by
  haveI : Decidable (isR h 373) := by unfold isR; infer_instance
  haveI := dK h 379
  unfold nL
  infer_instance
def dV (h : sm_H) (k : Nat) : Decidable (nV h k) := by
  haveI : ∀ v, Decidable (nW h (388 + 35 * (k + v)) (k + v)) := fun v => dW h _ _
  unfold nV
  infer_instance
def dR (h : sm_H) : Decidable (nR h) := by
  unfold nR mrO
  infer_instance
/-- nothing has been made -/
def hz : sm_H := (0, (fun _ => (0, 0)), (fun _ _ => 0), (fun _ _ => 0), (fun _ _ => none), 0, 0)
def rn1 : Option (sm_R × sm_H) := sm_exeC sm_prog 2000 134 0 (sm_pad (sm_ent [.ref 0]) (sm_prog.2.1 134)) [] (hnew hz 21 8)
def rn2 (h : sm_H) : Option (sm_R × sm_H) := sm_exeC sm_prog 2000 158 0 (sm_pad (sm_ent [.ref 598]) (sm_prog.2.1 158)) [] (hnew h 22 32)
/-- what both leave behind, with the law's own row -/
def rnP (p : sm_H → Bool) : Bool := match rn1 with
  | some (.inl none, h1) => decide (gN h1 = 598 ∧ gJ h1 = 0) && (match rn2 h1 with
    | some (.inl none, h2) => decide (gN h2 = 624 ∧ gJ h2 = 0 ∧ gD h2 < 100000) && p (hnew h2 1 1)
    | _ => false)
  | _ => false
theorem rnP_get {p : sm_H → Bool} {h1 h2 : sm_H} (h : rnP p = true) (e1 : rn1 = some (.inl none, h1)) (e2 : rn2 h1 = some (.inl none, h2)) : p (hnew h2 1 1) = true := by
  unfold rnP at h
  rw [e1] at h
  simp only at h
  rw [e2] at h
  simp only [Bool.and_eq_true] at h
  exact h.2.2
theorem rnP_ex {p : sm_H → Bool} (h : rnP p = true) : ∃ h1 h2, rn1 = some (.inl none, h1) ∧ gN h1 = 598 ∧ gJ h1 = 0 ∧ rn2 h1 = some (.inl none, h2) ∧ gN h2 = 624 ∧ gJ h2 = 0 ∧ gD h2 < 100000 := by
  unfold rnP at h
  split at h
  · rename_i h1 e1
    rw [Bool.and_eq_true] at h
    obtain ⟨a1, a2⟩ := h
    split at a2
    · rename_i h2 e2
      have a1' := of_decide_eq_true a1
      rw [Bool.and_eq_true] at a2
      have b1 := of_decide_eq_true a2.1
      exact ⟨h1, h2, e1, a1'.1, a1'.2, e2, b1.1, b1.2.1, b1.2.2⟩
    · cases a2
  · cases h
theorem rnA : rnP (fun h => @decide (nA h) (dA h) && @decide (nR h) (dR h) && decide (sm_at h 624 1 = true ∧ (gS h 624).2 = 1)) = true := by decide +kernel
theorem rnB : rnP (fun h => @decide (nB h) (dB h) && @decide (nL h) (dL h)) = true := by decide +kernel
theorem rnC : rnP (fun h => @decide (nC h) (dC h)) = true := by decide +kernel
theorem rnD : rnP (fun h => @decide (nV h 0) (dV h 0)) = true := by decide +kernel
theorem rnE : rnP (fun h => @decide (nV h 2) (dV h 2)) = true := by decide +kernel
theorem rnF : rnP (fun h => @decide (nV h 4) (dV h 4)) = true := by decide +kernel
/-- the class, made -/
def nX (h : sm_H) : Prop := nA h ∧ nB h ∧ nC h ∧ nL h ∧ ∀ v, v < 6 → nW h (388 + 35 * v) v
theorem rn_all : ∃ h1 h2, rn1 = some (.inl none, h1) ∧ gN h1 = 598 ∧ gJ h1 = 0 ∧ rn2 h1 = some (.inl none, h2) ∧ gN h2 = 624 ∧ gJ h2 = 0 ∧ gD h2 < 100000 ∧ nX (hnew h2 1 1) ∧ nR (hnew h2 1 1) ∧ sm_at (hnew h2 1 1) 624 1 = true ∧ (gS (hnew h2 1 1) 624).2 = 1 := by
  obtain ⟨h1, h2, e1, n1, j1, e2, n2, j2, d2⟩ := rnP_ex rnA
  have a := rnP_get rnA e1 e2
  have b := rnP_get rnB e1 e2
  have c := rnP_get rnC e1 e2
  have d := rnP_get rnD e1 e2
  have e := rnP_get rnE e1 e2
  have f := rnP_get rnF e1 e2
  rw [Bool.and_eq_true, Bool.and_eq_true] at a
  rw [Bool.and_eq_true] at b
  have a3 := of_decide_eq_true a.2
  have d' : nV (hnew h2 1 1) 0 := @of_decide_eq_true _ (dV _ _) d
  have e' : nV (hnew h2 1 1) 2 := @of_decide_eq_true _ (dV _ _) e
  have f' : nV (hnew h2 1 1) 4 := @of_decide_eq_true _ (dV _ _) f
  refine ⟨h1, h2, e1, n1, j1, e2, n2, j2, d2, ⟨@of_decide_eq_true _ (dA _) a.1.1, @of_decide_eq_true _ (dB _) b.1, @of_decide_eq_true _ (dC _) c, @of_decide_eq_true _ (dL _) b.2, fun v hv => ?_⟩, @of_decide_eq_true _ (dR _) a.1.2, a3.1, a3.2⟩
  rcases Nat.lt_or_ge v 2 with h | h
  · have := d' v h; rw [Nat.zero_add] at this; exact this
  · rcases Nat.lt_or_ge v 4 with h' | h'
    · have := e' (v - 2) (by omega); rw [show 2 + (v - 2) = v by omega] at this; exact this
    · have := f' (v - 4) (by omega); rw [show 4 + (v - 4) = v by omega] at this; exact this
