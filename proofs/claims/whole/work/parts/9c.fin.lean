/-! finish: rounds over the pure state of the cluster -/
/-- the line, the journal, the Master, the workers -/
abbrev Gs := Jn × Jr × Jk × (Nat → Jw)
abbrev gK (S : Gs) : Nat := S.2.1.2.1
/-- worker v ticks -/
def gw (C : Jc) (v : Nat) (S : Gs) : Gs := ((jw_work C.1 C.2.1 C.2.2.1 (cF C (gK S)) (S.2.2.2 v) S.1).2, S.2.1, S.2.2.1, jx_up S.2.2.2 v (jw_work C.1 C.2.1 C.2.2.1 (cF C (gK S)) (S.2.2.2 v) S.1).1)
/-- the Master ticks -/
def gm (C : Jc) (S : Gs) : Gs := ((jk_work C.1 C.2.1 (cF C (gK S)) S.2.2.1 S.1 S.2.1).2.1, (jk_work C.1 C.2.1 (cF C (gK S)) S.2.2.1 S.1 S.2.1).2.2.1, (jk_work C.1 C.2.1 (cF C (gK S)) S.2.2.1 S.1 S.2.1).1, S.2.2.2)
/-- the first n workers tick -/
def gws (C : Jc) : Nat → Gs → Gs
  | 0, S => S
  | n + 1, S => gw C n (gws C n S)
/-- a round -/
def grd (C : Jc) (S : Gs) : Gs := gm C (gws C 6 S)
def grds (C : Jc) : Nat → Gs → Gs
  | 0, S => S
  | n + 1, S => grds C n (grd C S)
/-- the invariant -/
def GI (C : Jc) (ck : Nat) (S : Gs) : Prop := IV C S.2.2.2 S.1 (gK S) ∧ IM C S.2.2.2 (S.1.2.1 6) (gK S) ck S.2.1 S.2.2.1 ∧ dnK S.1 S.2.2.1
def gOv (C : Jc) (S : Gs) : Bool := jk_over C.1 S.2.2.1
/-- it lies in the heap -/
def GX (C : Jc) (D : List (Int32 × Int64)) (n : Nat) (b : Bool) (S : Gs) (h : sm_H) : Prop := XS h C.1 C.2.1 C.2.2.1 (cF C (gK S)) D S.1 S.2.1 S.2.2.1 S.2.2.2 b n
/-- finish comes to an end: what is to be shown of the rounds -/
def Live (C : Jc) : Prop := ∀ (S : Gs) (ck : Nat), ck ≤ 70000000 → GI C ck S → S.1.2.2.1 = 0 → S.1.2.2.2 = 0 → ∃ k, k < 1000000 ∧ gOv C (grds C k S) = true
theorem Run_det {M : Nat} {av : List Value} {h h1 h2 : sm_H} {r1 r2 : sm_R} (a : Run M av h r1 h1) (b : Run M av h r2 h2) : r1 = r2 ∧ h1 = h2 := by
  obtain ⟨_, f, r, g, a1, a2, a3⟩ := a
  obtain ⟨_, f', r', g', b1, b2, b3⟩ := b
  have x1 := sm_exec_le _ (Nat.le_max_left f f') a1
  have x2 := sm_exec_le _ (Nat.le_max_right f f') b1
  rw [x1] at x2
  cases x2
  exact ⟨a2.symm.trans b2, a3.symm.trans b3⟩
section FIN
variable {C : Jc} {S : Gs} {ck v n : Nat} {D : List (Int32 × Int64)} {h : sm_H}
theorem GI_w (hC : CK C) (hv : v < 6) (h0 : GI C ck S) : GI C ck (gw C v S) := by
  obtain ⟨hi, hm, hdk⟩ := h0
  have hkc : gK S ≤ C.1.length := hm.1.2.1
  obtain ⟨w0, w1, w2, w3⟩ := work_all hC hi hv hkc
  have hd : (jw_work C.1 C.2.1 C.2.2.1 (cF C (gK S)) (S.2.2.2 v) S.1).2.2.1 6 = S.1.2.1 6 := by rw [dn_work, w0, up_ne _ _ (by omega)]
  refine ⟨w3, ?_, fun z => hdk.1 (hd.symm.trans z), hdk.2⟩
  show IM C _ ((jw_work C.1 C.2.1 C.2.2.1 (cF C (gK S)) (S.2.2.2 v) S.1).2.2.1 6) _ _ _ _
  rw [hd]
  exact IM_mono hC.1 (Wle_up (work_wle hC hi hv hkc)) hm
theorem GX_w (hC : CK C) (hv : v < 6) (h0 : GI C ck S) (hx : GX C D n true S h) : sm_at h (388 + 35 * v) 18 = true ∧ isX h ∧ ∃ h', Run 92 [.ref (388 + 35 * v)] h (.inl none) h' ∧ GX C D n true (gw C v S) h' ∧ SZ h h' := by
  obtain ⟨hi, hm, hdk⟩ := h0
  have hkc : gK S ≤ C.1.length := hm.1.2.1
  obtain ⟨w0, w1, w2, w3⟩ := work_all hC hi hv hkc
  obtain ⟨h', r1, a1, a2, a3, a4⟩ := s_Worker_work (s := 1) (y := 144) (w := 388 + 35 * v) (by omega) w1 w2 (by omega) (by omega) (hx.2.2.2.2.2 v hv) hx.2.2.1 hx.2.1
  obtain ⟨b1, b2⟩ := XS_w hv a4 a1 a2 a3 hx
  exact ⟨(hx.2.2.2.2.2 v hv).1.1, hx.1.1, h', r1, b1, b2⟩
theorem GI_m (hC : CK C) (hck : ck < 80000000) (h0 : GI C ck S) : GI C (ck + 1) (gm C S) ∧ (jk_work C.1 C.2.1 (cF C (gK S)) S.2.2.1 S.1 S.2.1).2.2.2 = cF C (gK (gm C S)) := by
  obtain ⟨hi, hm, hdk⟩ := h0
  obtain ⟨m1, m2, kc', m3, m4, m5, m6⟩ := mwork_all hC hi hm rfl hck
  have hd : (jk_work C.1 C.2.1 (cF C (gK S)) S.2.2.1 S.1 S.2.1).2.1.2.1 6 = false := by rw [dn_mwork, up_eq]
  have hk : gK (gm C S) = kc' := m5.1.1
  refine ⟨⟨by rw [hk]; exact m4, ?_, fun z => (by rw [show (gm C S).1.2.1 6 = false from hd] at z; cases z), gvn_work hC hi hm rfl hdk.2⟩, by rw [hk]; exact m6⟩
  rw [hk, show (gm C S).1.2.1 6 = false from hd]
  exact m5
theorem GX_m (hC : CK C) (hck : ck < 80000000) (h0 : GI C ck S) (hx : GX C D n true S h) : sm_at h 379 20 = true ∧ isX h ∧ ∃ h', Run 127 [.ref 379] h (.inl none) h' ∧ GX C D n true (gm C S) h' ∧ SZ h h' := by
  have hf := (GI_m hC hck h0).2
  obtain ⟨hi, hm, hdk⟩ := h0
  obtain ⟨m1, m2, kc', m3, m4, m5, m6⟩ := mwork_all hC hi hm rfl hck
  obtain ⟨h', r1, a1, a2, a3, a4, a5⟩ := s_Master_work (s := 1) (y := 144) (r := 373) (a := 379) hC.2.1 (hC.2.2.2.2 (gK S)) m1 m2 (by omega) (by omega) (by omega) hx.2.2.2.2.1 hx.2.2.1 hx.2.1 hx.2.2.2.1
  rw [hf] at a3
  obtain ⟨b1, b2⟩ := XS_m a5 a1 a2 a3 a4 hx
  exact ⟨hx.2.2.2.2.1.1.1, hx.1.1, h', r1, b1, b2⟩
theorem GI_ws (hC : CK C) (h0 : GI C ck S) : ∀ m, m ≤ 6 → GI C ck (gws C m S) := by
  intro m
  induction m with
  | zero => intro _; exact h0
  | succ m ih => intro hm; exact GI_w hC (by omega) (ih (by omega))
theorem GI_rd (hC : CK C) (hck : ck < 80000000) (h0 : GI C ck S) : GI C (ck + 1) (grd C S) := (GI_m hC hck (GI_ws hC h0 6 (Nat.le_refl 6))).1
theorem GX_ws (hC : CK C) (h0 : GI C ck S) (hx : GX C D n true S h) : ∀ m, m ≤ 6 → ∃ g : Nat → sm_H, g 0 = h ∧ (∀ v, v < m → isX (g v) ∧ sm_at (g v) (388 + 35 * v) 18 = true ∧ Run 92 [.ref (388 + 35 * v)] (g v) (.inl none) (g (v + 1))) ∧ GX C D n true (gws C m S) (g m) ∧ SZ h (g m) := by
  intro m
  induction m with
  | zero => intro _; exact ⟨fun _ => h, rfl, fun v hv => by omega, hx, SZ.refl h⟩
  | succ m ih =>
    intro hm
    obtain ⟨g, g1, g2, g3, g4⟩ := ih (by omega)
    obtain ⟨a1, a2, h', a3, a4, a5⟩ := GX_w hC (show m < 6 by omega) (GI_ws hC h0 m (by omega)) g3
    refine ⟨jx_up g (m + 1) h', ?_, fun v hv => ?_, ?_, ?_⟩
    · rw [up_ne _ _ (by omega)]; exact g1
    · by_cases e : v = m
      · subst e
        rw [up_ne _ _ (by omega), up_eq]
        exact ⟨a2, a1, a3⟩
      · rw [up_ne _ _ (by omega), up_ne _ _ (by omega)]
        exact g2 v (by omega)
    · rw [up_eq]; exact a4
    · rw [up_eq]; exact g4.trans a5
theorem GX_rd (hC : CK C) (hck : ck < 80000000) (h0 : GI C ck S) (hx : GX C D n true S h) : ∃ h', RND h h' ∧ GX C D n true (grd C S) h' ∧ SZ h h' := by
  obtain ⟨g, g1, g2, g3, g4⟩ := GX_ws hC h0 hx 6 (Nat.le_refl 6)
  obtain ⟨a1, a2, h', a3, a4, a5⟩ := GX_m hC hck (GI_ws hC h0 6 (Nat.le_refl 6)) g3
  exact ⟨h', ⟨g, g1, g2, a2, a1, a3⟩, a4, g4.trans a5⟩
/-- finish -/
theorem GX_finish (hC : CK C) (hL : Live C) (hck : ck ≤ 70000000) (h0 : GI C ck S) (hx : GX C D n true S h) : ∃ h' S' ck', Run 145 [.ref 0] h (.inl (some (.int S'.2.2.1.2.1))) h' ∧ GX C D n false S' h' ∧ GI C ck' S' ∧ gOv C S' = true ∧ SZ h h' := by
  obtain ⟨h1, r1, a1, a2⟩ := s_Line_disturb (a := 0) (b := 0) hx.2.2.1
  have e0 : (0 : Int32) &&& 65535 = 0 := by decide
  rw [e0] at a1
  obtain ⟨b1, b2⟩ := XS_line (L' := (S.1.1, S.1.2.1, 0, 0)) a2 a1 hx
  have hg0 : GI C ck (((S.1.1, S.1.2.1, 0, 0), S.2) : Gs) := h0
  obtain ⟨k, hk1, hk2⟩ := hL ((S.1.1, S.1.2.1, 0, 0), S.2) ck hck hg0 rfl rfl
  have hr : gI h 0 6 = 1 := hx.1.2.2.1
  obtain ⟨h2, k2, x, p1, p2, p3, p4⟩ := s_Mill_finish (P := fun m h1 => m ≤ k ∧ ∃ S' , GX C D n true S' h1 ∧ GI C (ck + (k - m)) S' ∧ SZ h h1 ∧ gOv C (grds C m S') = true) (k := k) hx.1.1 hr hx.2.2.1 r1 ⟨Nat.le_refl k, ((S.1.1, S.1.2.1, 0, 0), S.2), b1, by rw [Nat.sub_self]; exact hg0, b2, hk2⟩ hk1 (fun m h1 hp => by
    obtain ⟨q1, S', q2, q3, q4, q5⟩ := hp
    refine ⟨q2.1.1, q2.2.2.2.2.1.1.1, gOv C S', s_Master_isOver q2.2.2.2.2.1 q2.2.1, fun hb => ?_⟩
    cases m with
    | zero => rw [show gOv C (grds C 0 S') = gOv C S' from rfl, hb] at q5; cases q5
    | succ m =>
      obtain ⟨h2, c1, c2, c3⟩ := GX_rd hC (by omega) q3 q2
      refine ⟨m, h2, rfl, c1, by omega, _, c2, ?_, q4.trans c3, q5⟩
      have := GI_rd hC (by omega) q3
      rw [show ck + (k - (m + 1)) + 1 = ck + (k - m) from by omega] at this
      exact this) (fun h1 m hp _ => by
    obtain ⟨q1, S', q2, q3, q4, q5⟩ := hp
    exact ⟨_, s_Master_failedJob (XS_run (b' := false) q2).1.2.2.2.2.1⟩)
  obtain ⟨q1, S', q2, q3, q4, q5⟩ := p1
  obtain ⟨c1, c2⟩ := XS_run (b' := false) q2
  have e1 := s_Master_failedJob c1.2.2.2.2.1
  have ex : x = S'.2.2.1.2.1 := by
    have := Run_det p3 e1
    cases this.1; rfl
  have eo : gOv C S' = true := by
    have := Run_det p2 (s_Master_isOver q2.2.2.2.2.1 q2.2.1)
    have e3 : (1 : Int32) = (if jk_over C.1 S'.2.2.1 then 1 else 0) := by simpa using this.1
    show jk_over C.1 S'.2.2.1 = true
    cases ho : jk_over C.1 S'.2.2.1
    · rw [ho] at e3; exact absurd e3 (by decide)
    · rfl
  subst ex
  exact ⟨_, S', _, p4, c1, q3, eo, q4.trans c2⟩
end FIN
