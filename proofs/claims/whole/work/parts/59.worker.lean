/-! the Store as a whole; class Worker at cell w: disk w + 1, machine w + 14, letter w + 20, buffer w + 22, gathered w + 25, scratch w + 28, made w + 31, holders w + 34 -/
def ST (h : sm_H) (s : Nat) (cl : List Nat) (G : Nat → Nat → Int32) (PR : Nat → Nat → List (Int32 × Int64)) (F : Nat → Jl) : Prop :=
  isS h s ∧ CH h s cl ∧ (∀ f, f < 16 → PL h (s + 4 + 3 * f) 300 (F f)) ∧ ∀ j, j < 8 → isJ h (s + 52 + 11 * j) ∧ (∀ i, 1 ≤ i → i ≤ 5 → gI h (s + 52 + 11 * j) i = G j i) ∧ GL h (s + 52 + 11 * j + 2) (PR j 0) ∧ GL h (s + 52 + 11 * j + 5) (PR j 1) ∧ GL h (s + 52 + 11 * j + 8) (PR j 2)
/-- a worker: ints (0 number, 11 splits, 12 stage, 13 task, 15 at, 16 offset, 17 waited), its JOB, holders, rows (0 buffer, 1 gathered, 2 made, 3 spilled, 4 pairs, 5 records), disk's place, what tasks left on the disk -/
abbrev Jw := (Nat → Nat) × Option Nat × (Nat → Int32) × (Nat → Jl) × Int32 × (Nat → Option Jl)
def isW (h : sm_H) (w s y : Nat) : Prop := sm_at h w 18 = true ∧ gR h w 1 = some s ∧ gR h w 2 = some y ∧ gR h w 3 = some (w + 1) ∧ gR h w 4 = some (w + 14) ∧ gR h w 5 = some (w + 20) ∧ gR h w 6 = some (w + 22) ∧ gR h w 7 = some (w + 25) ∧ gR h w 8 = some (w + 28) ∧ gR h w 9 = some (w + 31) ∧ gR h w 10 = some (w + 34) ∧ sm_at h (w + 34) 0 = true ∧ (gS h (w + 34)).2 = 38
def jw_i (h : sm_H) (w : Nat) (g : Nat → Nat) : Prop := ∀ j, (j = 0 ∨ (11 ≤ j ∧ j ≤ 17 ∧ j ≠ 14)) → gI h w j = Int32.ofNat (g j) ∧ g j < 1000000
def WW (h : sm_H) (w s y : Nat) (W : Jw) : Prop := isW h w s y ∧ jw_i h w W.1 ∧ gR h w 14 = W.2.1.map (fun j => s + 52 + 11 * j) ∧ (∀ i, i < 38 → gI h (w + 34) i = W.2.2.1 i) ∧ PL h (w + 22) 24 (W.2.2.2.1 0) ∧ PL h (w + 25) 1000 (W.2.2.2.1 1) ∧ isP h (w + 28) 1000 ∧ PL h (w + 31) 300 (W.2.2.2.1 2) ∧ MA h (w + 14) ∧ (∃ m, MG h (w + 20) m) ∧ DK h (w + 1) W.2.2.2.2.1 (W.2.2.2.1 3) (W.2.2.2.1 4) (W.2.2.2.1 5) W.2.2.2.2.2
def jw_sg (W : Jw) (i x : Nat) : Jw := (jx_up W.1 i x, W.2)
def jw_sJ (W : Jw) (x : Option Nat) : Jw := (W.1, x, W.2.2)
def jw_sh (W : Jw) (i : Nat) (x : Int32) : Jw := (W.1, W.2.1, jx_up W.2.2.1 i x, W.2.2.2)
def jw_sP (W : Jw) (i : Nat) (l : Jl) : Jw := (W.1, W.2.1, W.2.2.1, jx_up W.2.2.2.1 i l, W.2.2.2.2)
def jw_sD (W : Jw) (dp : Int32) (sp pa re : Jl) (ta : Nat → Option Jl) : Jw := (W.1, W.2.1, W.2.2.1, jx_up (jx_up (jx_up W.2.2.2.1 3 sp) 4 pa) 5 re, dp, ta)
section WORKER
variable {h h' : sm_H} {w s y : Nat} {W : Jw} {cl : List Nat} {G : Nat → Nat → Int32} {PR : Nat → Nat → List (Int32 × Int64)} {F : Nat → Jl}
theorem isS_fr {lo hi : Nat} (z : Fr lo hi h h') (hd : s + 4 ≤ lo ∨ hi ≤ s) (hp : isS h s) : isS h' s := by
  obtain ⟨a1, a2, a3, a4, a5, a6, a7, a8, a9, a10, a11, a12⟩ := hp
  have e := (z.2.2.2.2 s (by omega)).2.2
  exact ⟨by rw [z.at]; exact a1, by rw [e]; exact a2, by rw [e]; exact a3, by rw [e]; exact a4, by rw [z.at]; exact a5, by rw [z.2.1]; exact a6, by rw [z.at]; exact a7, by rw [z.2.1]; exact a8, by rw [z.at]; exact a9, by rw [z.2.1]; exact a10, fun f hf => by rw [(z.2.2.2.2 (s + 1) (by omega)).2.2]; exact a11 f hf, fun j hj => by rw [(z.2.2.2.2 (s + 2) (by omega)).2.2]; exact a12 j hj⟩
theorem CH_fr0 {lo hi : Nat} (z : Fr lo hi h h') (hd : s + 4 ≤ lo ∨ hi ≤ s) (hp : CH h s cl) : CH h' s cl :=
  ⟨hp.1, by rw [(z.2.2.2.2 s (by omega)).1]; exact hp.2.1, hp.2.2.1, fun i j e => by rw [(z.2.2.2.2 (s + 3) (by omega)).1]; exact hp.2.2.2 i j e⟩
theorem ST_fr {lo hi : Nat} (z : Fr lo hi h h') (hd : s + 140 ≤ lo ∨ hi ≤ s) (hp : ST h s cl G PR F) : ST h' s cl G PR F :=
  ⟨isS_fr z (by omega) hp.1, CH_fr0 z (by omega) hp.2.1, fun f hf => PL_fr z (by omega) (hp.2.2.1 f hf), fun j hj => ⟨isJ_fr z (by omega) (hp.2.2.2 j hj).1, fun i h1 h2 => by rw [(z.2.2.2.2 (s + 52 + 11 * j) (by omega)).1]; exact (hp.2.2.2 j hj).2.1 i h1 h2, GL_fr z (by omega) (hp.2.2.2 j hj).2.2.1, GL_fr z (by omega) (hp.2.2.2 j hj).2.2.2.1, GL_fr z (by omega) (hp.2.2.2 j hj).2.2.2.2⟩⟩
theorem isW_fr {lo hi : Nat} (z : Fr lo hi h h') (hd : w < lo ∨ hi ≤ w) (hp : isW h w s y) : isW h' w s y := by
  obtain ⟨a1, a2, a3, a4, a5, a6, a7, a8, a9, a10, a11, a12, a13⟩ := hp
  have e := (z.2.2.2.2 w (by omega)).2.2
  exact ⟨by rw [z.at]; exact a1, by rw [e]; exact a2, by rw [e]; exact a3, by rw [e]; exact a4, by rw [e]; exact a5, by rw [e]; exact a6, by rw [e]; exact a7, by rw [e]; exact a8, by rw [e]; exact a9, by rw [e]; exact a10, by rw [e]; exact a11, by rw [z.at]; exact a12, by rw [z.2.1]; exact a13⟩
theorem jw_fr {lo hi : Nat} {g : Nat → Nat} (z : Fr lo hi h h') (hd : w < lo ∨ hi ≤ w) (hp : jw_i h w g) : jw_i h' w g := fun j hj => by rw [(z.2.2.2.2 w (by omega)).1]; exact hp j hj
theorem WW_fr {lo hi : Nat} (z : Fr lo hi h h') (hd : w + 35 ≤ lo ∨ hi ≤ w) (hp : WW h w s y W) : WW h' w s y W := by
  obtain ⟨a1, a2, a3, a4, a5, a6, a7, a8, a9, ⟨m, a10⟩, a11⟩ := hp
  exact ⟨isW_fr z (by omega) a1, jw_fr z (by omega) a2, by rw [(z.2.2.2.2 w (by omega)).2.2]; exact a3, fun i hi => by rw [(z.2.2.2.2 (w + 34) (by omega)).1]; exact a4 i hi, PL_fr z (by omega) a5, PL_fr z (by omega) a6, isP_fr z (by omega) a7, PL_fr z (by omega) a8, MA_fr z (by omega) a9, ⟨m, MG_fr z (by omega) a10⟩, DK_fr z (by omega) a11⟩
theorem WW_sg {i x : Nat} (hx : x < 1000000) (hp : WW h w s y W) : WW (setI h w i (Int32.ofNat x)) w s y (jw_sg W i x) := by
  obtain ⟨a1, a2, a3, a4, a5, a6, a7, a8, a9, ⟨m, a10⟩, a11⟩ := hp
  have z : Fr w (w + 1) h (setI h w i (Int32.ofNat x)) := Fr.setI (by omega) (by omega)
  refine ⟨a1, fun j hj => ?_, a3, fun k hk => by rw [(z.2.2.2.2 (w + 34) (by omega)).1]; exact a4 k hk, PL_fr z (by omega) a5, PL_fr z (by omega) a6, isP_fr z (by omega) a7, PL_fr z (by omega) a8, MA_fr z (by omega) a9, ⟨m, MG_fr z (by omega) a10⟩, DK_fr z (by omega) a11⟩
  show gI (setI h w i (Int32.ofNat x)) w j = Int32.ofNat (jx_up W.1 i x j) ∧ jx_up W.1 i x j < 1000000
  by_cases e : j = i
  · subst e; rw [up_eq, gI_eq]; exact ⟨rfl, hx⟩
  · rw [up_ne _ _ e, gI_ne (by omega)]; exact a2 j hj
theorem WW_sJ {x : Option Nat} (hp : WW h w s y W) : WW (setR h w 14 (x.map (fun j => s + 52 + 11 * j))) w s y (jw_sJ W x) := by
  obtain ⟨⟨b1, b2, b3, b4, b5, b6, b7, b8, b9, b10, b11, b12, b13⟩, a2, a3, a4, a5, a6, a7, a8, a9, ⟨m, a10⟩, a11⟩ := hp
  have z : Fr w (w + 1) h (setR h w 14 (x.map (fun j => s + 52 + 11 * j))) := Fr.setR (by omega) (by omega)
  exact ⟨⟨b1, by rw [gR_ne (by omega)]; exact b2, by rw [gR_ne (by omega)]; exact b3, by rw [gR_ne (by omega)]; exact b4, by rw [gR_ne (by omega)]; exact b5, by rw [gR_ne (by omega)]; exact b6, by rw [gR_ne (by omega)]; exact b7, by rw [gR_ne (by omega)]; exact b8, by rw [gR_ne (by omega)]; exact b9, by rw [gR_ne (by omega)]; exact b10, by rw [gR_ne (by omega)]; exact b11, b12, b13⟩, a2, gR_eq, a4, PL_fr z (by omega) a5, PL_fr z (by omega) a6, isP_fr z (by omega) a7, PL_fr z (by omega) a8, MA_fr z (by omega) a9, ⟨m, MG_fr z (by omega) a10⟩, DK_fr z (by omega) a11⟩
theorem WW_sh {i : Nat} {x : Int32} (hp : WW h w s y W) : WW (setI h (w + 34) i x) w s y (jw_sh W i x) := by
  obtain ⟨a1, a2, a3, a4, a5, a6, a7, a8, a9, ⟨m, a10⟩, a11⟩ := hp
  have z : Fr (w + 34) (w + 35) h (setI h (w + 34) i x) := Fr.setI (by omega) (by omega)
  refine ⟨a1, jw_fr z (by omega) a2, a3, fun k hk => ?_, PL_fr z (by omega) a5, PL_fr z (by omega) a6, isP_fr z (by omega) a7, PL_fr z (by omega) a8, MA_fr z (by omega) a9, ⟨m, MG_fr z (by omega) a10⟩, DK_fr z (by omega) a11⟩
  show gI (setI h (w + 34) i x) (w + 34) k = jx_up W.2.2.1 i x k
  by_cases e : k = i
  · subst e; rw [up_eq, gI_eq]
  · rw [up_ne _ _ e, gI_ne (by omega)]; exact a4 k hk

theorem WW_P0 {l : Jl} (z : Fr (w + 22) (w + 25) h h') (hl : PL h' (w + 22) 24 l) (hp : WW h w s y W) : WW h' w s y (jw_sP W 0 l) := by
  obtain ⟨a1, a2, a3, a4, a5, a6, a7, a8, a9, ⟨m, a10⟩, a11⟩ := hp
  exact ⟨isW_fr z (by omega) a1, jw_fr z (by omega) a2, by rw [(z.2.2.2.2 w (by omega)).2.2]; exact a3, fun i hi => by rw [(z.2.2.2.2 (w + 34) (by omega)).1]; exact a4 i hi, hl, PL_fr z (by omega) a6, isP_fr z (by omega) a7, PL_fr z (by omega) a8, MA_fr z (by omega) a9, ⟨m, MG_fr z (by omega) a10⟩, DK_fr z (by omega) a11⟩
theorem WW_P1 {l : Jl} (z : Fr (w + 25) (w + 28) h h') (hl : PL h' (w + 25) 1000 l) (hp : WW h w s y W) : WW h' w s y (jw_sP W 1 l) := by
  obtain ⟨a1, a2, a3, a4, a5, a6, a7, a8, a9, ⟨m, a10⟩, a11⟩ := hp
  exact ⟨isW_fr z (by omega) a1, jw_fr z (by omega) a2, by rw [(z.2.2.2.2 w (by omega)).2.2]; exact a3, fun i hi => by rw [(z.2.2.2.2 (w + 34) (by omega)).1]; exact a4 i hi, PL_fr z (by omega) a5, hl, isP_fr z (by omega) a7, PL_fr z (by omega) a8, MA_fr z (by omega) a9, ⟨m, MG_fr z (by omega) a10⟩, DK_fr z (by omega) a11⟩
theorem WW_P2 {l : Jl} (z : Fr (w + 31) (w + 34) h h') (hl : PL h' (w + 31) 300 l) (hp : WW h w s y W) : WW h' w s y (jw_sP W 2 l) := by
  obtain ⟨a1, a2, a3, a4, a5, a6, a7, a8, a9, ⟨m, a10⟩, a11⟩ := hp
  exact ⟨isW_fr z (by omega) a1, jw_fr z (by omega) a2, by rw [(z.2.2.2.2 w (by omega)).2.2]; exact a3, fun i hi => by rw [(z.2.2.2.2 (w + 34) (by omega)).1]; exact a4 i hi, PL_fr z (by omega) a5, PL_fr z (by omega) a6, isP_fr z (by omega) a7, hl, MA_fr z (by omega) a9, ⟨m, MG_fr z (by omega) a10⟩, DK_fr z (by omega) a11⟩
theorem WW_P3 {l : Jl} (z : Fr (w + 2) (w + 5) h h') (hl : PL h' (w + 2) 64 l) (hp : WW h w s y W) : WW h' w s y (jw_sP W 3 l) := by
  obtain ⟨a1, a2, a3, a4, a5, a6, a7, a8, a9, ⟨m, a10⟩, a11⟩ := hp
  exact ⟨isW_fr z (by omega) a1, jw_fr z (by omega) a2, by rw [(z.2.2.2.2 w (by omega)).2.2]; exact a3, fun i hi => by rw [(z.2.2.2.2 (w + 34) (by omega)).1]; exact a4 i hi, PL_fr z (by omega) a5, PL_fr z (by omega) a6, isP_fr z (by omega) a7, PL_fr z (by omega) a8, MA_fr z (by omega) a9, ⟨m, MG_fr z (by omega) a10⟩, DK_sp z hl a11⟩
theorem WW_ma (z : Fr (w + 14) (w + 20) h h') (hl : MA h' (w + 14)) (hp : WW h w s y W) : WW h' w s y W := by
  obtain ⟨a1, a2, a3, a4, a5, a6, a7, a8, a9, ⟨m, a10⟩, a11⟩ := hp
  exact ⟨isW_fr z (by omega) a1, jw_fr z (by omega) a2, by rw [(z.2.2.2.2 w (by omega)).2.2]; exact a3, fun i hi => by rw [(z.2.2.2.2 (w + 34) (by omega)).1]; exact a4 i hi, PL_fr z (by omega) a5, PL_fr z (by omega) a6, isP_fr z (by omega) a7, PL_fr z (by omega) a8, hl, ⟨m, MG_fr z (by omega) a10⟩, DK_fr z (by omega) a11⟩
theorem WW_le {m : Jm} (z : Fr (w + 20) (w + 22) h h') (hl : MG h' (w + 20) m) (hp : WW h w s y W) : WW h' w s y W := by
  obtain ⟨a1, a2, a3, a4, a5, a6, a7, a8, a9, _, a11⟩ := hp
  exact ⟨isW_fr z (by omega) a1, jw_fr z (by omega) a2, by rw [(z.2.2.2.2 w (by omega)).2.2]; exact a3, fun i hi => by rw [(z.2.2.2.2 (w + 34) (by omega)).1]; exact a4 i hi, PL_fr z (by omega) a5, PL_fr z (by omega) a6, isP_fr z (by omega) a7, PL_fr z (by omega) a8, MA_fr z (by omega) a9, ⟨m, hl⟩, DK_fr z (by omega) a11⟩
theorem WW_D {dp : Int32} {sp pa re : Jl} {ta : Nat → Option Jl} (z : Fr (w + 1) (w + 14) h h') (hl : DK h' (w + 1) dp sp pa re ta) (hp : WW h w s y W) : WW h' w s y (jw_sD W dp sp pa re ta) := by
  obtain ⟨a1, a2, a3, a4, a5, a6, a7, a8, a9, ⟨m, a10⟩, a11⟩ := hp
  exact ⟨isW_fr z (by omega) a1, jw_fr z (by omega) a2, by rw [(z.2.2.2.2 w (by omega)).2.2]; exact a3, fun i hi => by rw [(z.2.2.2.2 (w + 34) (by omega)).1]; exact a4 i hi, PL_fr z (by omega) a5, PL_fr z (by omega) a6, isP_fr z (by omega) a7, PL_fr z (by omega) a8, MA_fr z (by omega) a9, ⟨m, MG_fr z (by omega) a10⟩, hl⟩
/-- order of the buffer (a = 22) or of what is gathered (a = 25), by the scratch row -/
theorem Fr2_fr {a b lo hi : Nat} (z : Fr2 a b h h') (h1 : lo ≤ a) (h2 : a + 3 ≤ hi) (h3 : lo ≤ b) (h4 : b + 3 ≤ hi) : Fr lo hi h h' := ⟨z.1, z.2.1, z.2.2.1, z.2.2.2.1, fun c hc => z.2.2.2.2 c (by omega) (by omega)⟩
theorem Fr2_P {a b c n : Nat} {l : Jl} (z : Fr2 a b h h') (h1 : c + 3 ≤ a ∨ a + 3 ≤ c) (h2 : c + 3 ≤ b ∨ b + 3 ≤ c) (hp : PL h c n l) : PL h' c n l := by
  obtain ⟨⟨i1, i2, i3, i4, i5, i6, i7⟩, p2, p3, p4, p5⟩ := hp
  have hat : ∀ k x, sm_at h' x k = sm_at h x k := fun k x => by rw [sm_at, sm_at, z.1, z.2.1]
  refine ⟨⟨by rw [hat]; exact i1, by rw [(z.2.2.2.2 c (by omega) (by omega)).2.2]; exact i2, by rw [(z.2.2.2.2 c (by omega) (by omega)).2.2]; exact i3, by rw [hat]; exact i4, by rw [z.2.1]; exact i5, by rw [hat]; exact i6, by rw [z.2.1]; exact i7⟩, p2, p3, by rw [(z.2.2.2.2 c (by omega) (by omega)).1]; exact p4, fun i p e => ?_⟩
  rw [(z.2.2.2.2 (c + 1) (by omega) (by omega)).2.1, (z.2.2.2.2 (c + 2) (by omega) (by omega)).2.1]; exact p5 i p e
theorem Fr2_b {a b n : Nat} (z : Fr2 a b h h') (h1 : b + 3 ≤ a ∨ a + 3 ≤ b) (hp : isP h b n) : isP h' b n := by
  obtain ⟨i1, i2, i3, i4, i5, i6, i7⟩ := hp
  have hat : ∀ k x, sm_at h' x k = sm_at h x k := fun k x => by rw [sm_at, sm_at, z.1, z.2.1]
  exact ⟨by rw [hat]; exact i1, by rw [(z.2.2.2.2 b (by omega) (by omega)).2.2]; exact i2, by rw [(z.2.2.2.2 b (by omega) (by omega)).2.2]; exact i3, by rw [hat]; exact i4, by rw [z.2.1]; exact i5, by rw [hat]; exact i6, by rw [z.2.1]; exact i7⟩

theorem WW_o0 {l : Jl} (z : Fr2 (w + 22) (w + 28) h h') (hl : PL h' (w + 22) 24 l) (hp : WW h w s y W) : WW h' w s y (jw_sP W 0 l) := by
  obtain ⟨a1, a2, a3, a4, a5, a6, a7, a8, a9, ⟨m, a10⟩, a11⟩ := hp
  have x : Fr (w + 22) (w + 31) h h' := Fr2_fr z (by omega) (by omega) (by omega) (by omega)
  exact ⟨isW_fr x (by omega) a1, jw_fr x (by omega) a2, by rw [(x.2.2.2.2 w (by omega)).2.2]; exact a3, fun i hi => by rw [(x.2.2.2.2 (w + 34) (by omega)).1]; exact a4 i hi, hl, Fr2_P z (by omega) (by omega) a6, Fr2_b z (by omega) a7, PL_fr x (by omega) a8, MA_fr x (by omega) a9, ⟨m, MG_fr x (by omega) a10⟩, DK_fr x (by omega) a11⟩
theorem WW_o1 {l : Jl} (z : Fr2 (w + 25) (w + 28) h h') (hl : PL h' (w + 25) 1000 l) (hp : WW h w s y W) : WW h' w s y (jw_sP W 1 l) := by
  obtain ⟨a1, a2, a3, a4, a5, a6, a7, a8, a9, ⟨m, a10⟩, a11⟩ := hp
  have x : Fr (w + 22) (w + 31) h h' := Fr2_fr z (by omega) (by omega) (by omega) (by omega)
  exact ⟨isW_fr x (by omega) a1, jw_fr x (by omega) a2, by rw [(x.2.2.2.2 w (by omega)).2.2]; exact a3, fun i hi => by rw [(x.2.2.2.2 (w + 34) (by omega)).1]; exact a4 i hi, Fr2_P z (by omega) (by omega) a5, hl, Fr2_b z (by omega) a7, PL_fr x (by omega) a8, MA_fr x (by omega) a9, ⟨m, MG_fr x (by omega) a10⟩, DK_fr x (by omega) a11⟩
/-- nothing has changed but the worker's cells and the Line's -/
def FW (w y : Nat) (h h' : sm_H) : Prop := gN h' = gN h ∧ gS h' = gS h ∧ gJ h' = gJ h ∧ gD h' = gD h ∧ ∀ c, (c < w ∨ w + 35 ≤ c) → (c < y ∨ y + 229 ≤ c) → gI h' c = gI h c ∧ gL h' c = gL h c ∧ gR h' c = gR h c
theorem FW.refl (w y : Nat) (h : sm_H) : FW w y h h := ⟨rfl, rfl, rfl, rfl, fun _ _ _ => ⟨rfl, rfl, rfl⟩⟩
theorem FW.trans {h1 h2 : sm_H} (x : FW w y h h1) (z : FW w y h1 h2) : FW w y h h2 :=
  ⟨z.1.trans x.1, z.2.1.trans x.2.1, z.2.2.1.trans x.2.2.1, z.2.2.2.1.trans x.2.2.2.1, fun c hc hd => ⟨(z.2.2.2.2 c hc hd).1.trans (x.2.2.2.2 c hc hd).1, (z.2.2.2.2 c hc hd).2.1.trans (x.2.2.2.2 c hc hd).2.1, (z.2.2.2.2 c hc hd).2.2.trans (x.2.2.2.2 c hc hd).2.2⟩⟩
theorem FW.ofW {lo hi : Nat} (x : Fr lo hi h h') (h1 : w ≤ lo) (h2 : hi ≤ w + 35) : FW w y h h' := ⟨x.1, x.2.1, x.2.2.1, x.2.2.2.1, fun c hc _ => x.2.2.2.2 c (by omega)⟩
theorem FW.ofY {lo hi : Nat} (x : Fr lo hi h h') (h1 : y ≤ lo) (h2 : hi ≤ y + 229) : FW w y h h' := ⟨x.1, x.2.1, x.2.2.1, x.2.2.2.1, fun c _ hc => x.2.2.2.2 c (by omega)⟩
/-- the line as one: inboxes, down, masks -/
abbrev Jn := (Nat → List Jm) × (Nat → Bool) × Int32 × Int32
def LL (h : sm_H) (y : Nat) (L : Jn) : Prop := LN h y L.1 L.2.1 L.2.2.1 L.2.2.2
def jn_snd (L : Jn) (m : Jm) (x : Nat) : Jn := (jn_send L.1 L.2.1 L.2.2.1 L.2.2.2 x m, L.2.1, jn_sh L.2.2.1, jn_sh L.2.2.2)
theorem LL_fr {l1 h1 : Nat} {L : Jn} (z : Fr l1 h1 h h') (hd : y + 229 ≤ l1 ∨ h1 ≤ y) (hp : LL h y L) : LL h' y L := LN_fr z hd hp

end WORKER
