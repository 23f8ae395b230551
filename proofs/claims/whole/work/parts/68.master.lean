/-! class Master at cell a: letter a + 1, staged a + 3, doneBy a + 6, givenTo a + 7, givenAt a + 8 -/
/-- ints (9 position, 11 splits, 12 splitsDone, 13 partsDone, 14 pairs, 15 records, 16 clock, 17 part, 18 offset, 19 waited), failed, its JOB, doneBy, givenTo, givenAt, staged -/
abbrev Jk := (Nat → Nat) × Int32 × Option Nat × (Nat → Int32) × (Nat → Int32) × (Nat → Int32) × Jl
def isK (h : sm_H) (a s y r : Nat) : Prop := sm_at h a 20 = true ∧ gR h a 0 = some s ∧ gR h a 1 = some y ∧ gR h a 2 = some r ∧ gR h a 3 = some (a + 1) ∧ gR h a 4 = some (a + 3) ∧ gR h a 5 = some (a + 6) ∧ gR h a 6 = some (a + 7) ∧ gR h a 7 = some (a + 8) ∧ sm_at h (a + 6) 0 = true ∧ (gS h (a + 6)).2 = 44 ∧ sm_at h (a + 7) 0 = true ∧ (gS h (a + 7)).2 = 44 ∧ sm_at h (a + 8) 0 = true ∧ (gS h (a + 8)).2 = 44
def jk_i (h : sm_H) (a : Nat) (g : Nat → Nat) : Prop := ∀ j, (j = 9 ∨ (11 ≤ j ∧ j ≤ 19)) → gI h a j = Int32.ofNat (g j) ∧ g j < 100000000
def KK (h : sm_H) (a s y r : Nat) (K : Jk) : Prop := isK h a s y r ∧ jk_i h a K.1 ∧ gI h a 10 = K.2.1 ∧ gR h a 8 = K.2.2.1.map (fun j => s + 52 + 11 * j) ∧ (∀ i, i < 44 → gI h (a + 6) i = K.2.2.2.1 i) ∧ (∀ i, i < 44 → gI h (a + 7) i = K.2.2.2.2.1 i) ∧ (∀ i, i < 44 → gI h (a + 8) i = K.2.2.2.2.2.1 i) ∧ PL h (a + 3) 300 K.2.2.2.2.2.2 ∧ ∃ m, MG h (a + 1) m
def jk_sg (K : Jk) (i x : Nat) : Jk := (jx_up K.1 i x, K.2)
def jk_sf (K : Jk) (x : Int32) : Jk := (K.1, x, K.2.2)
def jk_sJ (K : Jk) (x : Option Nat) : Jk := (K.1, K.2.1, x, K.2.2.2)
def jk_sd (K : Jk) (f : Nat → Int32) : Jk := (K.1, K.2.1, K.2.2.1, f, K.2.2.2.2)
def jk_st (K : Jk) (f : Nat → Int32) : Jk := (K.1, K.2.1, K.2.2.1, K.2.2.2.1, f, K.2.2.2.2.2)
def jk_sa (K : Jk) (f : Nat → Int32) : Jk := (K.1, K.2.1, K.2.2.1, K.2.2.2.1, K.2.2.2.2.1, f, K.2.2.2.2.2.2)
def jk_sP (K : Jk) (l : Jl) : Jk := (K.1, K.2.1, K.2.2.1, K.2.2.2.1, K.2.2.2.2.1, K.2.2.2.2.2.1, l)
section MASTER
variable {h h' : sm_H} {a s y r : Nat} {K : Jk} {cl : List Nat} {G : Nat → Nat → Int32} {PR : Nat → Nat → List (Int32 × Int64)} {F : Nat → Jl}
theorem isK_fr {lo hi : Nat} (z : Fr lo hi h h') (hd : a < lo ∨ hi ≤ a) (hp : isK h a s y r) : isK h' a s y r := by
  obtain ⟨a1, a2, a3, a4, a5, a6, a7, a8, a9, a10, a11, a12, a13, a14, a15⟩ := hp
  have e := (z.2.2.2.2 a (by omega)).2.2
  exact ⟨by rw [z.at]; exact a1, by rw [e]; exact a2, by rw [e]; exact a3, by rw [e]; exact a4, by rw [e]; exact a5, by rw [e]; exact a6, by rw [e]; exact a7, by rw [e]; exact a8, by rw [e]; exact a9, by rw [z.at]; exact a10, by rw [z.2.1]; exact a11, by rw [z.at]; exact a12, by rw [z.2.1]; exact a13, by rw [z.at]; exact a14, by rw [z.2.1]; exact a15⟩
theorem jk_fr {lo hi : Nat} {g : Nat → Nat} (z : Fr lo hi h h') (hd : a < lo ∨ hi ≤ a) (hp : jk_i h a g) : jk_i h' a g := fun j hj => by rw [(z.2.2.2.2 a (by omega)).1]; exact hp j hj
theorem KK_fr {lo hi : Nat} (z : Fr lo hi h h') (hd : a + 9 ≤ lo ∨ hi ≤ a) (hp : KK h a s y r K) : KK h' a s y r K := by
  obtain ⟨a1, a2, a3, a4, a5, a6, a7, a8, m, a9⟩ := hp
  exact ⟨isK_fr z (by omega) a1, jk_fr z (by omega) a2, by rw [(z.2.2.2.2 a (by omega)).1]; exact a3, by rw [(z.2.2.2.2 a (by omega)).2.2]; exact a4, fun i hi => by rw [(z.2.2.2.2 (a + 6) (by omega)).1]; exact a5 i hi, fun i hi => by rw [(z.2.2.2.2 (a + 7) (by omega)).1]; exact a6 i hi, fun i hi => by rw [(z.2.2.2.2 (a + 8) (by omega)).1]; exact a7 i hi, PL_fr z (by omega) a8, m, MG_fr z (by omega) a9⟩
theorem KK_sg {i x : Nat} (h10 : i ≠ 10) (hx : x < 100000000) (hp : KK h a s y r K) : KK (setI h a i (Int32.ofNat x)) a s y r (jk_sg K i x) := by
  obtain ⟨a1, a2, a3, a4, a5, a6, a7, a8, m, a9⟩ := hp
  have z : Fr a (a + 1) h (setI h a i (Int32.ofNat x)) := Fr.setI (by omega) (by omega)
  refine ⟨a1, fun j hj => ?_, by rw [gI_ne (by omega)]; exact a3, a4, fun i hi => by rw [(z.2.2.2.2 (a + 6) (by omega)).1]; exact a5 i hi, fun i hi => by rw [(z.2.2.2.2 (a + 7) (by omega)).1]; exact a6 i hi, fun i hi => by rw [(z.2.2.2.2 (a + 8) (by omega)).1]; exact a7 i hi, PL_fr z (by omega) a8, m, MG_fr z (by omega) a9⟩
  show gI (setI h a i (Int32.ofNat x)) a j = Int32.ofNat (jx_up K.1 i x j) ∧ jx_up K.1 i x j < 100000000
  by_cases e : j = i
  · subst e; rw [up_eq, gI_eq]; exact ⟨rfl, hx⟩
  · rw [up_ne _ _ e, gI_ne (by omega)]; exact a2 j hj
theorem KK_sf {x : Int32} (hp : KK h a s y r K) : KK (setI h a 10 x) a s y r (jk_sf K x) := by
  obtain ⟨a1, a2, a3, a4, a5, a6, a7, a8, m, a9⟩ := hp
  have z : Fr a (a + 1) h (setI h a 10 x) := Fr.setI (by omega) (by omega)
  exact ⟨a1, fun j hj => by rw [gI_ne (by omega)]; exact a2 j hj, gI_eq, a4, fun i hi => by rw [(z.2.2.2.2 (a + 6) (by omega)).1]; exact a5 i hi, fun i hi => by rw [(z.2.2.2.2 (a + 7) (by omega)).1]; exact a6 i hi, fun i hi => by rw [(z.2.2.2.2 (a + 8) (by omega)).1]; exact a7 i hi, PL_fr z (by omega) a8, m, MG_fr z (by omega) a9⟩
theorem KK_sJ {x : Option Nat} (hp : KK h a s y r K) : KK (setR h a 8 (x.map (fun j => s + 52 + 11 * j))) a s y r (jk_sJ K x) := by
  obtain ⟨⟨b1, b2, b3, b4, b5, b6, b7, b8, b9, b10⟩, a2, a3, a4, a5, a6, a7, a8, m, a9⟩ := hp
  have z : Fr a (a + 1) h (setR h a 8 (x.map (fun j => s + 52 + 11 * j))) := Fr.setR (by omega) (by omega)
  exact ⟨⟨b1, by rw [gR_ne (by omega)]; exact b2, by rw [gR_ne (by omega)]; exact b3, by rw [gR_ne (by omega)]; exact b4, by rw [gR_ne (by omega)]; exact b5, by rw [gR_ne (by omega)]; exact b6, by rw [gR_ne (by omega)]; exact b7, by rw [gR_ne (by omega)]; exact b8, by rw [gR_ne (by omega)]; exact b9, b10⟩, a2, a3, gR_eq, a5, a6, a7, PL_fr z (by omega) a8, m, MG_fr z (by omega) a9⟩
theorem KK_P {l : Jl} (z : Fr (a + 3) (a + 6) h h') (hl : PL h' (a + 3) 300 l) (hp : KK h a s y r K) : KK h' a s y r (jk_sP K l) := by
  obtain ⟨a1, a2, a3, a4, a5, a6, a7, a8, m, a9⟩ := hp
  exact ⟨isK_fr z (by omega) a1, jk_fr z (by omega) a2, by rw [(z.2.2.2.2 a (by omega)).1]; exact a3, by rw [(z.2.2.2.2 a (by omega)).2.2]; exact a4, fun i hi => by rw [(z.2.2.2.2 (a + 6) (by omega)).1]; exact a5 i hi, fun i hi => by rw [(z.2.2.2.2 (a + 7) (by omega)).1]; exact a6 i hi, fun i hi => by rw [(z.2.2.2.2 (a + 8) (by omega)).1]; exact a7 i hi, hl, m, MG_fr z (by omega) a9⟩
theorem KK_le {m : Jm} (z : Fr (a + 1) (a + 3) h h') (hl : MG h' (a + 1) m) (hp : KK h a s y r K) : KK h' a s y r K := by
  obtain ⟨a1, a2, a3, a4, a5, a6, a7, a8, _, _⟩ := hp
  exact ⟨isK_fr z (by omega) a1, jk_fr z (by omega) a2, by rw [(z.2.2.2.2 a (by omega)).1]; exact a3, by rw [(z.2.2.2.2 a (by omega)).2.2]; exact a4, fun i hi => by rw [(z.2.2.2.2 (a + 6) (by omega)).1]; exact a5 i hi, fun i hi => by rw [(z.2.2.2.2 (a + 7) (by omega)).1]; exact a6 i hi, fun i hi => by rw [(z.2.2.2.2 (a + 8) (by omega)).1]; exact a7 i hi, PL_fr z (by omega) a8, m, hl⟩

theorem KK_sd {f : Nat → Int32} (z : Fr (a + 6) (a + 7) h h') (hl : ∀ i, i < 44 → gI h' (a + 6) i = f i) (hp : KK h a s y r K) : KK h' a s y r (jk_sd K f) := by
  obtain ⟨a1, a2, a3, a4, a5, a6, a7, a8, m, a9⟩ := hp
  exact ⟨isK_fr z (by omega) a1, jk_fr z (by omega) a2, by rw [(z.2.2.2.2 a (by omega)).1]; exact a3, by rw [(z.2.2.2.2 a (by omega)).2.2]; exact a4, hl, fun i hi => by rw [(z.2.2.2.2 (a + 7) (by omega)).1]; exact a6 i hi, fun i hi => by rw [(z.2.2.2.2 (a + 8) (by omega)).1]; exact a7 i hi, PL_fr z (by omega) a8, m, MG_fr z (by omega) a9⟩
theorem KK_st {f : Nat → Int32} (z : Fr (a + 7) (a + 8) h h') (hl : ∀ i, i < 44 → gI h' (a + 7) i = f i) (hp : KK h a s y r K) : KK h' a s y r (jk_st K f) := by
  obtain ⟨a1, a2, a3, a4, a5, a6, a7, a8, m, a9⟩ := hp
  exact ⟨isK_fr z (by omega) a1, jk_fr z (by omega) a2, by rw [(z.2.2.2.2 a (by omega)).1]; exact a3, by rw [(z.2.2.2.2 a (by omega)).2.2]; exact a4, fun i hi => by rw [(z.2.2.2.2 (a + 6) (by omega)).1]; exact a5 i hi, hl, fun i hi => by rw [(z.2.2.2.2 (a + 8) (by omega)).1]; exact a7 i hi, PL_fr z (by omega) a8, m, MG_fr z (by omega) a9⟩
theorem KK_sa {f : Nat → Int32} (z : Fr (a + 8) (a + 9) h h') (hl : ∀ i, i < 44 → gI h' (a + 8) i = f i) (hp : KK h a s y r K) : KK h' a s y r (jk_sa K f) := by
  obtain ⟨a1, a2, a3, a4, a5, a6, a7, a8, m, a9⟩ := hp
  exact ⟨isK_fr z (by omega) a1, jk_fr z (by omega) a2, by rw [(z.2.2.2.2 a (by omega)).1]; exact a3, by rw [(z.2.2.2.2 a (by omega)).2.2]; exact a4, fun i hi => by rw [(z.2.2.2.2 (a + 6) (by omega)).1]; exact a5 i hi, fun i hi => by rw [(z.2.2.2.2 (a + 7) (by omega)).1]; exact a6 i hi, hl, PL_fr z (by omega) a8, m, MG_fr z (by omega) a9⟩
/-- nothing has changed but the Master's cells, the journal's, the Line's and the FILES' -/
def FK (a y r s : Nat) (h h' : sm_H) : Prop := gN h' = gN h ∧ gS h' = gS h ∧ gJ h' = gJ h ∧ gD h' = gD h ∧ ∀ c, (c < a ∨ a + 9 ≤ c) → (c < y ∨ y + 229 ≤ c) → (c < r ∨ r + 5 ≤ c) → (c < s + 4 ∨ s + 52 ≤ c) → gI h' c = gI h c ∧ gL h' c = gL h c ∧ gR h' c = gR h c
theorem FK.refl (a y r s : Nat) (h : sm_H) : FK a y r s h h := ⟨rfl, rfl, rfl, rfl, fun _ _ _ _ _ => ⟨rfl, rfl, rfl⟩⟩
theorem FK.trans {h1 h2 : sm_H} (x : FK a y r s h h1) (z : FK a y r s h1 h2) : FK a y r s h h2 :=
  ⟨z.1.trans x.1, z.2.1.trans x.2.1, z.2.2.1.trans x.2.2.1, z.2.2.2.1.trans x.2.2.2.1, fun c h1 h2 h3 h4 => ⟨(z.2.2.2.2 c h1 h2 h3 h4).1.trans (x.2.2.2.2 c h1 h2 h3 h4).1, (z.2.2.2.2 c h1 h2 h3 h4).2.1.trans (x.2.2.2.2 c h1 h2 h3 h4).2.1, (z.2.2.2.2 c h1 h2 h3 h4).2.2.trans (x.2.2.2.2 c h1 h2 h3 h4).2.2⟩⟩
theorem FK.of {lo hi : Nat} (x : Fr lo hi h h') (hd : (a ≤ lo ∧ hi ≤ a + 9) ∨ (y ≤ lo ∧ hi ≤ y + 229) ∨ (r ≤ lo ∧ hi ≤ r + 5) ∨ (s + 4 ≤ lo ∧ hi ≤ s + 52)) : FK a y r s h h' := ⟨x.1, x.2.1, x.2.2.1, x.2.2.2.1, fun c h1 h2 h3 h4 => x.2.2.2.2 c (by omega)⟩
/-- a FILE has been replaced -/
theorem ST_rep {f : Nat} {l : Jl} (hf : f < 16) (z : Fr (s + 4 + 3 * f) (s + 4 + 3 * f + 3) h h') (hl : PL h' (s + 4 + 3 * f) 300 l) (hp : ST h s cl G PR F) : ST h' s cl G PR (jx_up F f l) := by
  refine ⟨isS_fr z (by omega) hp.1, CH_fr0 z (by omega) hp.2.1, fun g hg => ?_, fun j hj => ⟨isJ_fr z (by omega) (hp.2.2.2 j hj).1, fun i h1 h2 => by rw [(z.2.2.2.2 (s + 52 + 11 * j) (by omega)).1]; exact (hp.2.2.2 j hj).2.1 i h1 h2, GL_fr z (by omega) (hp.2.2.2 j hj).2.2.1, GL_fr z (by omega) (hp.2.2.2 j hj).2.2.2.1, GL_fr z (by omega) (hp.2.2.2 j hj).2.2.2.2⟩⟩
  by_cases e : g = f
  · subst e; rw [up_eq]; exact hl
  · rw [up_ne _ _ e]; exact PL_fr z (by omega) (hp.2.2.1 g hg)
theorem jx_d16 {n : Nat} (hn : n ≤ 600) : (Int32.ofNat n + 16 - 1) / 16 = Int32.ofNat ((n + 15) / 16) := by
  have e : Int32.ofNat n + 16 - 1 = Int32.ofNat (n + 15) := by
    rw [show (16 : Int32) = Int32.ofNat 16 from rfl, jx_add, show n + 16 = n + 15 + 1 from rfl, ← jx_s1]; exact Int32.add_sub_cancel _ _
  rw [e]
  apply Int32.toInt_inj.1
  rw [Int32.toInt_div, sm_ofNat_toInt (by omega), sm_ofNat_toInt (by omega), show (16 : Int32).toInt = 16 from by decide]
  rw [show Int.tdiv ((n + 15 : Nat) : Int) 16 = (((n + 15) / 16 : Nat) : Int) from by rw [Int.tdiv_eq_ediv_of_nonneg (by omega)]; omega]
  apply Int.bmod_eq_of_le <;> omega

end MASTER
