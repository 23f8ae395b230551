/-! what the law begins with -/
section START
variable {L : Nat} {xs : Nat → Int32} {h : sm_H} {a n c w v d : Nat}
theorem ne_S (hc : c < 1000000000) : c ≠ sm_S := by rw [show sm_S = 1000000000 from rfl]; omega
theorem ov_SS : gS (ov L xs h) sm_S = (0, L) := by show (if sm_S = sm_S then (0, L) else gS h sm_S) = (0, L); rw [if_pos rfl]
theorem ov_IS : gI (ov L xs h) sm_S = xs := by show (if sm_S = sm_S then xs else gI h sm_S) = xs; rw [if_pos rfl]
theorem isP_ov (hN : gN h ≤ sm_S) (ha : a + 2 < 1000000000) (hp : isP h a n) : isP (ov L xs h) a n := by
  obtain ⟨a1, a2, a3, a4, a5, a6, a7⟩ := hp
  exact ⟨by rw [ov_at hN]; exact a1, a2, a3, by rw [ov_at hN]; exact a4, by rw [ov_S (ne_S (by omega))]; exact a5, by rw [ov_at hN]; exact a6, by rw [ov_S (ne_S (by omega))]; exact a7⟩
theorem PL_ov (hN : gN h ≤ sm_S) (ha : a + 2 < 1000000000) (hn : n ≤ 100000) (hp : nP h a n) : PL (ov L xs h) a n [] := by
  obtain ⟨⟨a1, a2, a3, a4, a5, a6, a7⟩, b⟩ := hp
  refine ⟨⟨by rw [ov_at hN]; exact a1, a2, a3, by rw [ov_at hN]; exact a4, by rw [ov_S (ne_S (by omega))]; exact a5, by rw [ov_at hN]; exact a6, by rw [ov_S (ne_S (by omega))]; exact a7⟩, hn, Nat.zero_le _, by rw [ov_I (ne_S (by omega))]; exact b, fun i p e => by simp at e⟩
theorem GL_ov (hN : gN h ≤ sm_S) (ha : a + 2 < 1000000000) (hp : nG h a) : GL (ov L xs h) a [] := by
  obtain ⟨⟨a1, a2, a3, a4, a5, a6, a7⟩, b⟩ := hp
  refine ⟨⟨by rw [ov_at hN]; exact a1, a2, a3, by rw [ov_at hN]; exact a4, by rw [ov_S (ne_S (by omega))]; exact a5, by rw [ov_at hN]; exact a6, by rw [ov_S (ne_S (by omega))]; exact a7⟩, Nat.zero_le _, by rw [ov_I (ne_S (by omega))]; exact b, fun i p e => by simp at e⟩
theorem isE_ov (hN : gN h ≤ sm_S) (ha : c + 1 < 1000000000) (hp : isE h c) : isE (ov L xs h) c := by
  obtain ⟨a1, a2, a3, a4⟩ := hp
  exact ⟨by rw [ov_at hN]; exact a1, a2, by rw [ov_at hN]; exact a3, by rw [ov_S (ne_S (by omega))]; exact a4⟩
theorem MG_ov (hN : gN h ≤ sm_S) (ha : c + 1 < 1000000000) (hp : nE h c) : ∃ m, MG (ov L xs h) c m :=
  ⟨(fun j => gI (ov L xs h) c j, []), isE_ov hN ha hp.1, Nat.zero_le _, by rw [ov_I (ne_S (by omega))]; exact hp.2, fun _ _ _ => rfl, fun i x e => by simp at e⟩
theorem DK_ov (hN : gN h ≤ sm_S) (ha : d + 12 < 1000000000) (hp : nD h d) : DK (ov L xs h) d (gI h d 6) [] [] [] (fun _ => none) := by
  obtain ⟨⟨a1, a2, a3, a4, a5, a6, a7, a8, a9, a10, a11, a12, a13⟩, b1, b2, b3, b4⟩ := hp
  refine ⟨⟨by rw [ov_at hN]; exact a1, a2, a3, a4, a5, a6, a7, by rw [ov_at hN]; exact a8, by rw [ov_S (ne_S (by omega))]; exact a9, by rw [ov_at hN]; exact a10, by rw [ov_S (ne_S (by omega))]; exact a11, by rw [ov_at hN]; exact a12, by rw [ov_S (ne_S (by omega))]; exact a13⟩, by rw [ov_I (ne_S (by omega))], PL_ov hN (by omega) (by omega) b1, PL_ov hN (by omega) (by omega) b2, PL_ov hN (by omega) (by omega) b3, fun t ht => ?_⟩
  show gI (ov L xs h) (d + 11) t = -1
  rw [ov_I (ne_S (by omega))]; exact b4 t ht
/-- a fresh worker -/
def w0 (h : sm_H) (w v : Nat) : Jw := ((fun j => if j = 0 then v else 0), none, (fun i => gI h (w + 34) i), (fun _ => []), gI h (w + 1) 6, fun _ => none)
theorem WW_ov (hN : gN h ≤ sm_S) (ha : w + 40 < 1000000000) (hv : v < 6) (hp : nW h w v) : WW (ov L xs h) w 1 144 (w0 h w v) := by
  obtain ⟨⟨a1, a2, a3, a4, a5, a6, a7, a8, a9, a10, a11, a12, a13⟩, b1, b2, b3, b4, b5, b6, b7, ⟨m1, m2, m3, m4, m5, m6, m7, m8⟩, b9, b10, b11⟩ := hp
  refine ⟨⟨by rw [ov_at hN]; exact a1, a2, a3, a4, a5, a6, a7, a8, a9, a10, a11, by rw [ov_at hN]; exact a12, by rw [ov_S (ne_S (by omega))]; exact a13⟩, fun j hj => ?_, b3, fun i _ => by rw [ov_I (ne_S (by omega))]; rfl, PL_ov hN (by omega) (by omega) b4, PL_ov hN (by omega) (by omega) b5, isP_ov hN (by omega) b6, PL_ov hN (by omega) (by omega) b7, ⟨⟨by rw [ov_at hN]; exact m1, m2, m3, m4, by rw [ov_at hN]; exact m5, by rw [ov_S (ne_S (by omega))]; exact m6, by rw [ov_at hN]; exact m7, by rw [ov_S (ne_S (by omega))]; exact m8⟩, [], PL_ov hN (by omega) (by omega) b9⟩, MG_ov hN (by omega) b10, DK_ov hN (by omega) b11⟩
  rw [ov_I (ne_S (by omega))]
  show gI h w j = Int32.ofNat (if j = 0 then v else 0) ∧ (if j = 0 then v else 0) < 1000000
  by_cases e : j = 0
  · rw [if_pos e, e]; exact ⟨b1, by omega⟩
  · rw [if_neg e]; exact ⟨b2 j (by omega) (by omega), by omega⟩
/-- the class -/
theorem XI_start (hN : gN h ≤ sm_S) (hp : nX h) : XI (ov L xs h) (fun j i => gI h (53 + 11 * j) i) (fun _ _ => []) (fun _ => []) [] 0 := by
  obtain ⟨⟨⟨x1, x2, x3, x4, x5, x6, x7, x8, x9, x10⟩, c2, c3, c4, ⟨s1, s2, s3, s4, s5, s6, s7, s8, s9, s10, s11, s12⟩, c6, c7⟩, c8, ⟨⟨y1, y2, y3, y4, y5, y6, y7, y8, y9, y10, y11, y12, y13, y14⟩, c10⟩, ⟨⟨r1, r2, r3, r4, r5, r6, r7, r8, r9, r10, r11, r12, r13⟩, c12, c13, c14, ⟨⟨k1, k2, k3, k4, k5, k6, k7, k8, k9, k10, k11, k12, k13, k14, k15⟩, k17, k18, k19, k20⟩⟩, c16⟩ := hp
  refine ⟨[], ((fun _ => []), (fun _ => false), gI h 144 4, gI h 144 5), ([], 0, 0), ((fun _ => 0), gI h 379 10, none, (fun i => gI h 385 i), (fun i => gI h 386 i), (fun i => gI h 387 i), []), fun v => w0 h (388 + 35 * v) v, ⟨⟨⟨by rw [ov_at hN]; exact x1, x2, x3, x4, x5, x6, x7, by rw [ov_at hN]; exact x8, by rw [ov_S (ne_S (by omega))]; exact x9, x10⟩, GL_ov hN (by omega) c2, by rw [ov_I (ne_S (by omega))]; exact c3, by rw [ov_I (ne_S (by omega))]; exact c4⟩, ⟨⟨by rw [ov_at hN]; exact s1, s2, s3, s4, by rw [ov_at hN]; exact s5, by rw [ov_S (ne_S (by omega))]; exact s6, by rw [ov_at hN]; exact s7, by rw [ov_S (ne_S (by omega))]; exact s8, by rw [ov_at hN]; exact s9, by rw [ov_S (ne_S (by omega))]; exact s10, s11, s12⟩, ⟨Nat.zero_le _, by rw [ov_I (ne_S (by omega))]; exact c6, fun j hj => (by cases hj), fun i j e => by simp at e⟩, fun f hf => PL_ov hN (by omega) (by omega) (c7 f hf), fun j hj => ?_⟩, ⟨⟨by rw [ov_at hN]; exact y1, y2, y3, y4, y5, by rw [ov_at hN]; exact y6, by rw [ov_S (ne_S (by omega))]; exact y7, by rw [ov_at hN]; exact y8, by rw [ov_S (ne_S (by omega))]; exact y9, by rw [ov_at hN]; exact y10, by rw [ov_S (ne_S (by omega))]; exact y11, by rw [ov_at hN]; exact y12, by rw [ov_S (ne_S (by omega))]; exact y13, fun i hi => ⟨(y14 i hi).1, isE_ov hN (by omega) (y14 i hi).2⟩⟩, fun x hx => ⟨⟨Nat.zero_le _, by rw [ov_I (ne_S (by omega))]; exact (c10 x hx).1, 0, by omega, by rw [ov_I (ne_S (by omega))]; exact (c10 x hx).2.1, fun i m e => by simp at e⟩, by rw [ov_I (ne_S (by omega))]; exact (c10 x hx).2.2⟩, by rw [ov_I (ne_S (by omega))], by rw [ov_I (ne_S (by omega))]⟩, ⟨⟨by rw [ov_at hN]; exact r1, r2, r3, r4, r5, by rw [ov_at hN]; exact r6, by rw [ov_S (ne_S (by omega))]; exact r7, by rw [ov_at hN]; exact r8, by rw [ov_S (ne_S (by omega))]; exact r9, by rw [ov_at hN]; exact r10, by rw [ov_S (ne_S (by omega))]; exact r11, by rw [ov_at hN]; exact r12, by rw [ov_S (ne_S (by omega))]; exact r13⟩, Nat.zero_le _, by rw [ov_I (ne_S (by omega))]; exact c12, by rw [ov_I (ne_S (by omega))]; exact c13, by rw [ov_I (ne_S (by omega))]; exact c14, by decide, by decide, fun i e he => by simp at he⟩, ⟨⟨by rw [ov_at hN]; exact k1, k2, k3, k4, k5, k6, k7, k8, k9, by rw [ov_at hN]; exact k10, by rw [ov_S (ne_S (by omega))]; exact k11, by rw [ov_at hN]; exact k12, by rw [ov_S (ne_S (by omega))]; exact k13, by rw [ov_at hN]; exact k14, by rw [ov_S (ne_S (by omega))]; exact k15⟩, fun j hj => ?_, by rw [ov_I (ne_S (by omega))], k18, fun i _ => by rw [ov_I (ne_S (by omega))], fun i _ => by rw [ov_I (ne_S (by omega))], fun i _ => by rw [ov_I (ne_S (by omega))], PL_ov hN (by omega) (by omega) k19, MG_ov hN (by omega) k20⟩, fun v hv => WW_ov hN (by omega) hv (c16 v hv)⟩, ⟨fun j hj => ⟨Or.inl ?_, fun i _ p hp => (by cases hp)⟩, fun p hp => (by cases hp), fun j hj z => ?_⟩, fun f => Nat.zero_le _, fun v _ => rfl, fun i k e e' _ _ he => by simp at he, fun i e _ he => by simp at he⟩
  · obtain ⟨⟨j1, j2, j3, j4, j5, j6, j7, j8⟩, d1, d2, d3, d4⟩ := c8 j hj
    refine ⟨⟨by rw [ov_at hN]; exact j1, j2, by rw [ov_at hN]; exact j3, by rw [ov_S (ne_S (by omega))]; exact j4, j5, j6, j7, by rw [ov_I (ne_S (by omega))]; exact j8⟩, fun i _ _ => by rw [ov_I (ne_S (by omega))], GL_ov hN (by omega) d2, GL_ov hN (by omega) d3, GL_ov hN (by omega) d4⟩
  · rw [ov_I (ne_S (by omega))]
    exact ⟨k17 j (by omega) (by omega), by show (0 : Nat) < 100000000; omega⟩
  · exact (c8 j hj).2.1
  · have := (c8 j hj).2.1
    have z' : gI h (53 + 11 * j) 1 = 1 := z
    rw [this] at z'
    exact absurd z' (by decide)
/-- the reference -/
theorem RM_start (hN : gN h ≤ sm_S) (hx : nX h) (hp : nR h) : RM (ov L xs h) 598 (fun j i => gI h (53 + 11 * j) i) (fun _ _ => []) (fun _ => []) [] false 0 := by
  obtain ⟨⟨o1, o2⟩, p2, p3, p4, p5, p6, p7⟩ := hp
  refine ⟨⟨by rw [ov_at hN]; exact o1, fun x hx => ?_⟩, fun f hf => ⟨by rw [ov_I (ne_S (by omega))]; exact p2 f hf, Nat.zero_le _, fun i p e => by simp at e⟩, fun j i hj hi => ⟨by rw [ov_I (ne_S (by omega))]; exact p3 _ (by omega), Nat.zero_le _, fun i p e => by simp at e⟩, ⟨by rw [ov_I (ne_S (by omega))]; exact p4, Nat.zero_le _, fun i p e => by simp at e⟩, fun j hj => ?_, by rw [ov_I (ne_S (by omega))]; exact p6, by rw [ov_I (ne_S (by omega))]; exact p7⟩
  · obtain ⟨b1, b2, b3⟩ := o2 x hx
    have hall : ∀ y, y ∈ mr_a → y.2.1 ≤ 25 := by decide
    have hc := hall x hx
    exact ⟨b1, by rw [ov_at hN]; exact b2, by rw [ov_S (ne_S (by omega))]; exact b3⟩
  · have hg : gI h (53 + 11 * j) 1 = 0 := (hx.2.1 j hj).2.1
    rw [ov_I (ne_S (by omega))]
    refine ⟨(p5 j hj).trans hg.symm, Or.inl hg, fun z => ?_⟩
    have z' : gI h (53 + 11 * j) 1 = 1 := z
    rw [hg] at z'
    exact absurd z' (by decide)
/-- the constructors' runs -/
theorem run_start : ∃ h1 h2, Run 134 [.ref 0] (hnew (sm_h0 L xs) 21 8) (.inl none) h1 ∧ gN h1 = 598 ∧ gJ h1 = 0 ∧ Run 158 [.ref 598] (hnew h1 22 32) (.inl none) h2 ∧ gN h2 = 624 ∧ gJ h2 = 0 ∧ gD h2 < 100000 ∧ sm_at (hnew h2 1 1) 624 1 = true ∧ (gS (hnew h2 1 1) 624).2 = 1 ∧ gS (hnew h2 1 1) sm_S = (0, L) ∧ gI (hnew h2 1 1) sm_S = xs ∧ ∃ G, XI (hnew h2 1 1) G (fun _ _ => []) (fun _ => []) [] 0 ∧ RM (hnew h2 1 1) 598 G (fun _ _ => []) (fun _ => []) [] false 0 := by
  obtain ⟨g1, g2, e1, n1, j1, e2, n2, j2, d2, hx, hr, o1, o2⟩ := rn_all
  have hS : sm_S = 1000000000 := rfl
  have hz0 : sm_h0 L xs = ov L xs hz := rfl
  have q1 : hnew (sm_h0 L xs) 21 8 = ov L xs (hnew hz 21 8) := by rw [hz0]; exact ov_new (by rw [hS]; decide)
  have q2 : hnew (ov L xs g1) 22 32 = ov L xs (hnew g1 22 32) := ov_new (by rw [hS, n1]; decide)
  have q3 : hnew (ov L xs g2) 1 1 = ov L xs (hnew g2 1 1) := ov_new (by rw [hS, n2]; decide)
  have hN3 : gN (hnew g2 1 1) ≤ sm_S := by
    show gN g2 + 1 ≤ sm_S
    rw [n2, hS]; decide
  refine ⟨ov L xs g1, ov L xs g2, ?_, n1, j1, ?_, n2, j2, d2, ?_, ?_, ?_, ?_, (fun j i => gI (hnew g2 1 1) (53 + 11 * j) i), ?_, ?_⟩
  · rw [q1]
    exact ⟨Nat.le_of_ble_eq_true rfl, 2000, _, _, exeC_ov _ _ _ _ _ _ _ _ e1, rfl, rfl⟩
  · rw [q2]
    exact ⟨Nat.le_of_ble_eq_true rfl, 2000, _, _, exeC_ov _ _ _ _ _ _ _ _ e2, rfl, rfl⟩
  · rw [q3, ov_at hN3]; exact o1
  · rw [q3, ov_S (ne_S (by omega))]; exact o2
  · rw [q3]; exact ov_SS
  · rw [q3]; exact ov_IS
  · rw [q3]; exact XI_start hN3 hx
  · rw [q3]; exact RM_start hN3 hx hr
end START
