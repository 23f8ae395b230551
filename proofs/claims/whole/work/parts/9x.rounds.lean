/-! finish comes to an end: rounds -/
/-- round r, node q is next -/
def PI (C : Jc) (r q ck : Nat) (S : Gs) : Prop := GI C ck S ∧ QQ r q S.2.2.2 S.1 ∧ (∀ v, v < 6 → v < q ∨ 3 ≤ r → FV (gK S) v S.2.2.2 S.1) ∧ (3 ≤ r → FM C (gK S) S.2.2.1 S.1)
/-- what is left to do, in rounds -/
def gV (C : Jc) (S : Gs) : Nat := (C.1.length - gK S) * 105100 + (S.2.2.1.1 11 - S.2.2.1.1 12) * 1840 + (cN C (gK S) - S.2.2.1.1 13) * 3250 + gG C (gK S) S.2.2.1
/-- how much is won when a task is done -/
def gT (S : Gs) : Nat := if S.2.2.1.1 12 < S.2.2.1.1 11 then 1835 else 3245
section ROUNDS
variable {C : Jc} {S S' : Gs} {r q ck v w n t : Nat}
theorem PI_dn (hr : 1 ≤ r) (h : PI C r q ck S) : S.1.2.1 6 = false := h.2.1.1.2.1 6 (by omega) (Or.inr hr)
theorem PI_w (hC : CK C) (hr : 2 ≤ r) (hq : q < 6) (h : PI C r q ck S) : PI C r (q + 1) ck (gw C q S) := by
  have hdn := PI_dn (by omega) h
  obtain ⟨h1, h2, h3, h4⟩ := h
  have hg := GI_w hC hq h1
  have hkl : gK S ≤ C.1.length := h1.2.1.1.2.1
  have hm := h1.2.1
  rw [hdn] at hm
  refine ⟨hg, QQ_work hC hq h1.1 h2, fun v hv hvq => ?_, fun hr3 => FM_w hC hq hr h1.1 hm h2 (h4 hr3)⟩
  by_cases e : v = q
  · subst e
    exact FV_own hC hq hr h1.1 h2
  · exact FV_other hC hkl hv hq hr (fun z => e z.symm) h1.1 h2 (h3 v hv (by omega))
theorem PI_ws (hC : CK C) (hr : 2 ≤ r) (h : PI C r 0 ck S) : ∀ m, m ≤ 6 → PI C r m ck (gws C m S) := by
  intro m
  induction m with
  | zero => intro _; exact h
  | succ m ih => intro hm; exact PI_w hC hr (by omega) (ih (by omega))
theorem PI_m (hC : CK C) (hr : 2 ≤ r) (hck : ck < 80000000) (h : PI C r 6 ck S) : PI C (r + 1) 0 (ck + 1) (gm C S) := by
  have hdn := PI_dn (by omega) h
  obtain ⟨h1, h2, h3, h4⟩ := h
  have hm := h1.2.1
  have hm' := hm
  rw [hdn] at hm'
  obtain ⟨m1, m2, kc', m3, m4, m5, m6⟩ := mwork_all hC h1.1 hm rfl hck
  have hk : gK (gm C S) = kc' := m5.1.1
  refine ⟨(GI_m hC hck h1).1, QQ_mwork hC h1.1 hm rfl h2, fun v hv hvq => ?_, fun hr3 => FM_m hC h1.1 hm' hdn hr h2⟩
  exact FV_m hC h1.1 hm' hdn h2 hv (by rw [hk]; omega) (h3 v hv (Or.inl hv))
theorem PI_rd (hC : CK C) (hr : 2 ≤ r) (hck : ck < 80000000) (h : PI C r 0 ck S) : PI C (r + 1) 0 (ck + 1) (grd C S) := PI_m hC hr hck (PI_ws hC hr h 6 (Nat.le_refl 6))
/-- it settles -/
theorem PI_first (hC : CK C) (hck : ck < 79999990) (h : GI C ck S) (h1 : S.1.2.2.1 = 0) (h2 : S.1.2.2.2 = 0) : PI C 3 0 (ck + 3) (grds C 3 S) := by
  have hq0 : QQ 0 0 S.2.2.2 S.1 := ⟨⟨⟨h1, h2⟩, fun x _ g => by omega, fun s x _ _ _ => ⟨fun z => by omega, fun _ z => by omega⟩, fun _ _ _ => Nat.zero_le _, fun s _ g => by omega, fun z => by omega, fun _ _ z => by omega, fun z => by omega⟩, ⟨fun z => by omega, fun z => by omega⟩, fun z => by omega⟩
  have stepW : ∀ (r q : Nat) (S : Gs) (ck : Nat), q < 6 → GI C ck S → QQ r q S.2.2.2 S.1 → QQ r (q + 1) (gw C q S).2.2.2 (gw C q S).1 := fun r q S ck hq hg hQ => QQ_work hC hq hg.1 hQ
  have stepM : ∀ (r : Nat) (S : Gs) (ck : Nat), GI C ck S → QQ r 6 S.2.2.2 S.1 → QQ (r + 1) 0 (gm C S).2.2.2 (gm C S).1 := fun r S ck hg hQ => QQ_mwork hC hg.1 hg.2.1 rfl hQ
  have stepR : ∀ (r : Nat) (S : Gs) (ck : Nat), ck < 80000000 → GI C ck S → QQ r 0 S.2.2.2 S.1 → QQ (r + 1) 0 (grd C S).2.2.2 (grd C S).1 := by
    intro r S ck hc hg hQ
    have hall : ∀ m, m ≤ 6 → QQ r m (gws C m S).2.2.2 (gws C m S).1 := by
      intro m
      induction m with
      | zero => intro _; exact hQ
      | succ m ih => intro hm; exact stepW r m _ ck (by omega) (GI_ws hC hg m (by omega)) (ih (by omega))
    have hg6 := GI_ws hC hg 6 (Nat.le_refl 6)
    exact stepM r (gws C 6 S) ck hg6 (hall 6 (Nat.le_refl 6))
  have g1 := GI_rd hC (by omega) h
  have g2 := GI_rd hC (by omega) g1
  have q1 := stepR 0 S ck (by omega) h hq0
  have q2 := stepR 1 _ _ (by omega) g1 q1
  have p2 : PI C 2 0 (ck + 1 + 1) (grd C (grd C S)) := ⟨g2, q2, fun v _ z => by omega, fun z => by omega⟩
  have p3 := PI_rd hC (Nat.le_refl 2) (by omega) p2
  exact p3
/-- the Master and the journal wait while workers tick -/
theorem gws_K : ∀ m, (gws C m S).2.2.1 = S.2.2.1 ∧ (gws C m S).2.1 = S.2.1 := by
  intro m
  induction m with
  | zero => exact ⟨rfl, rfl⟩
  | succ m ih => exact ⟨ih.1, ih.2⟩
theorem gws_lo : ∀ m v, m ≤ v → (gws C m S).2.2.2 v = S.2.2.2 v := by
  intro m
  induction m with
  | zero => intro v _; rfl
  | succ m ih =>
    intro v hv
    show jx_up (gws C m S).2.2.2 m _ v = _
    rw [up_ne _ _ (by omega)]
    exact ih v (by omega)
theorem gws_hi : ∀ m v, v < m → (gws C m S).2.2.2 v = (gws C (v + 1) S).2.2.2 v := by
  intro m
  induction m with
  | zero => intro v hv; omega
  | succ m ih =>
    intro v hv
    by_cases e : v = m
    · rw [e]
    · show jx_up (gws C m S).2.2.2 m _ v = _
      rw [up_ne _ _ e]
      exact ih v (by omega)
/-- a worker's tick leaves the other inboxes what they hold -/
theorem w_sub (hC : CK C) (hq : q < 6) (h : PI C r q ck S) {m : Jm} {x : Nat} (hx : x ≠ q) (hm : m ∈ S.1.1 x) : m ∈ (gw C q S).1.1 x := by
  obtain ⟨h1, h2, _⟩ := h
  have hi := h1.1
  have hno := (hi.1 q hq).1
  obtain ⟨⟨k1, k2⟩, k3, k4⟩ := hears_ind hC hq (kc := gK S) (P := fun Ws' L' => QH r q Ws' L' ∧ m ∈ L'.1 x) (fun Ws' L' m' l hi' hP hib hm' _ _ => ⟨QH_step hq hP.1 hib hm', by
    have h0 : (jn_pop L' q l).2.2.1 = 0 ∧ (jn_pop L' q l).2.2.2 = 0 := hP.1.1.1
    have hx' : m ∈ (jn_pop L' q l).1 x := by
      show m ∈ jx_up L'.1 q l x
      rw [up_ne _ _ hx]; exact hP.2
    rcases hear_eff hm' (Ws' q) (jn_pop L' q l) with ⟨e, _⟩ | ⟨_, m2, e, _⟩ | ⟨u2, m2, _, _, _, _, _, e, _⟩
    · rw [e]; exact hx'
    · rw [e]; exact snd_sub h0.1 h0.2 hx'
    · rw [e]; exact snd_sub h0.1 h0.2 hx'⟩) (S.1.1 q).length S.2.2.2 (jn_up S.1 q) (show IV C S.2.2.2 (jn_up S.1 q) (gK S) from hi) ⟨QH_up hq h2, hm⟩ (Nat.le_refl _)
  have hh : jw_heard C.1 C.2.1 (S.2.2.2 q) S.1 = jw_hears C.1 C.2.1 (S.1.1 q).length (S.2.2.2 q, jn_up S.1 q) := by rw [jw_heard, hno]
  show m ∈ (jw_work C.1 C.2.1 C.2.2.1 (cF C (gK S)) (S.2.2.2 q) S.1).2.1 x
  rw [jw_work, hh]
  have hw := k3.1 q hq
  rw [up_eq] at hw
  have h0 := k1.1.1
  rcases act_eff (F := cF C (gK S)) hw (jw_hears C.1 C.2.1 (S.1.1 q).length (S.2.2.2 q, jn_up S.1 q)).2 with e | ⟨m', e, _⟩ | ⟨m', e, _⟩ | ⟨m', u2, e, _⟩
  · rw [e]; exact k2
  · rw [e]; exact snd_sub h0.1 h0.2 k2
  · rw [e]; exact snd_sub h0.1 h0.2 k2
  · rw [e]; exact snd_sub h0.1 h0.2 k2
theorem ws_sub (hC : CK C) (hr : 2 ≤ r) (h : PI C r 0 ck S) {m : Jm} {x a : Nat} : ∀ b, a ≤ b → b ≤ 6 → (x < a ∨ b ≤ x) → m ∈ (gws C a S).1.1 x → m ∈ (gws C b S).1.1 x := by
  intro b
  induction b with
  | zero => intro h1 _ _ hm; rw [show a = 0 by omega] at hm; exact hm
  | succ b ih =>
    intro h1 h2 h3 hm
    by_cases e : a = b + 1
    · rw [← e]; exact hm
    · exact w_sub hC (by omega) (PI_ws hC hr h b (by omega)) (by omega) (ih (by omega) (by omega) (by omega) hm)
/-- counts of what is done -/
theorem cnt_le (hC : CK C) (h : PI C r q ck S) (hr : 1 ≤ r) (hov : gOv C S = false) : gK S < C.1.length ∧ S.2.2.1.1 12 ≤ S.2.2.1.1 11 ∧ S.2.2.1.1 11 ≤ 38 ∧ S.2.2.1.1 13 ≤ cN C (gK S) ∧ cN C (gK S) ≤ 6 ∧ gG C (gK S) S.2.2.1 ≤ 12339 ∧ (S.2.2.1.1 12 < S.2.2.1.1 11 → ∃ t0, t0 < S.2.2.1.1 11 ∧ S.2.2.1.2.2.2.1 t0 = -1) ∧ (S.2.2.1.1 13 < cN C (gK S) → ∃ t0, 38 ≤ t0 ∧ t0 < 38 + cN C (gK S) ∧ S.2.2.1.2.2.2.1 t0 = -1) := by
  have hdn := PI_dn hr h
  have hm := h.1.2.1
  rw [hdn] at hm
  obtain ⟨hJ, hK⟩ := IM_J rfl hm
  have hov' : jk_over C.1 S.2.2.1 = false := hov
  obtain ⟨j1, j2, j3, j4, j5⟩ := m_job hC hJ hK hov'
  have hn6 := (hC.2.2.1 (gK S) j1).2.2.2.2
  have h38 : S.2.2.1.1 11 ≤ 38 := j5.2.2.2
  obtain ⟨a1, a2, a3, a4, a5, a6, a7, ⟨b1, b2, b3, b4⟩, a9, _⟩ := hJ
  have up : ∀ (d : Nat → Int32) (k n s : Nat), s ≤ n → (∀ i, s ≤ i → i < n → d (k + i) = -1) → dnOn d k n ≤ s := by
    intro d k n s hs hb
    rw [dnOn, sumOn_pad (n := s) n hs (fun i h1 h2 => if_pos (hb i h1 h2))]
    have := sumOn_le (f := fun i => if d (k + i) = -1 then 0 else 1) (g := fun _ => 1) s (fun i _ => by show (if d (k + i) = -1 then 0 else 1) ≤ 1; split <;> omega)
    have e1 : ∀ s, sumOn (fun _ => 1) s = s := by
      intro s
      induction s with
      | zero => rfl
      | succ s ih => rw [sumOn, ih]
    rw [e1] at this
    exact this
  have lo : ∀ (d : Nat → Int32) (k n s : Nat), s ≤ n → (∀ i, i < s → d (k + i) ≠ -1) → s ≤ dnOn d k n := by
    intro d k n s hs hb
    have h1 := sumOn_mono (f := fun i => if d (k + i) = -1 then 0 else 1) n hs
    have h2 := sumOn_le (f := fun _ => 1) (g := fun i => if d (k + i) = -1 then 0 else 1) s (fun i hi => by show 1 ≤ (if d (k + i) = -1 then 0 else 1); rw [if_neg (hb i hi)]; exact Nat.le_refl _)
    have e1 : ∀ s, sumOn (fun _ => 1) s = s := by
      intro s
      induction s with
      | zero => rfl
      | succ s ih => rw [sumOn, ih]
    rw [e1] at h2
    rw [dnOn]
    omega
  have hb1 : ∀ i, S.2.2.1.1 11 ≤ i → i < 38 → S.2.2.1.2.2.2.1 (0 + i) = -1 := by
    intro i h1 h2
    rw [Nat.zero_add]
    rcases a7 i (by omega) with e | ⟨u, l, _, _, _, c4, _⟩
    · exact e
    · rcases c4 with ⟨_, c5⟩ | ⟨c5, _⟩
      · have c5' : i < me_ns (cI C (gK S)) := c5
        omega
      · omega
  have hb2 : ∀ i, cN C (gK S) ≤ i → i < 6 → S.2.2.1.2.2.2.1 (38 + i) = -1 := by
    intro i h1 h2
    rcases a7 (38 + i) (by omega) with e | ⟨u, l, _, _, _, c4, _⟩
    · exact e
    · rcases c4 with ⟨c5, _⟩ | ⟨_, c5, _⟩
      · omega
      · have c5' : 38 + i - 38 < cN C (gK S) := c5
        omega
  refine ⟨j1, ?_, h38, ?_, hn6, ?_, fun hlt => ?_, fun hlt => ?_⟩
  · rw [b1]; exact up _ _ _ _ h38 hb1
  · rw [b2]; exact up _ _ _ _ hn6 hb2
  · rw [gG]
    have h19 : S.2.2.1.1 19 ≤ 4 := hK.2.2.1
    have hx : (cN C (gK S) - S.2.2.1.1 17) * 252 ≤ 6 * 252 := Nat.mul_le_mul_right _ (by omega)
    split <;> omega
  · apply Classical.byContradiction
    intro hn
    have := lo S.2.2.1.2.2.2.1 0 38 (S.2.2.1.1 11) h38 (fun i hi z => hn ⟨i, hi, by rw [Nat.zero_add] at z; exact z⟩)
    rw [b1] at hlt
    omega
  · apply Classical.byContradiction
    intro hn
    have := lo S.2.2.1.2.2.2.1 38 6 (cN C (gK S)) hn6 (fun i hi z => hn ⟨38 + i, by omega, by omega, z⟩)
    rw [b2] at hlt
    omega
/-- nothing has been done in the round -/
def SMe (S S' : Gs) : Prop := gK S' = gK S ∧ S'.2.2.1.1 11 = S.2.2.1.1 11 ∧ S'.2.2.1.2.2.2.1 = S.2.2.1.2.2.2.1 ∧ S'.2.2.1.1 12 = S.2.2.1.1 12 ∧ S'.2.2.1.1 13 = S.2.2.1.1 13
theorem v_arith {l k b d e t x y g : Nat} (h : k < l) (hb : b ≤ 69920) (hd : d ≤ 19500) (he : e ≤ 12339) (ht : t ≤ 3245) : (l - (k + 1)) * 105100 + b + d + e + t ≤ (l - k) * 105100 + x + y + g := by omega
/-- a round, whole -/
theorem rd_cases {ask dne : Prop} (hC : CK C) (hr : 3 ≤ r) (hck : ck < 80000000) (h : PI C r 0 ck S) (hov : gOv C S = false) (hw : w < 6) (hask : ask → ∃ m, m ∈ (gws C 6 S).1.1 6 ∧ m.1 2 = 0 ∧ m.1 3 = Int32.ofNat w) (hav : ask → ∃ t0, AV C (gK S) S.2.2.1 w t0) (hd : dne → ∃ m t, m ∈ (gws C 6 S).1.1 6 ∧ (m.1 2 = 2 ∨ m.1 2 = 3) ∧ m.1 5 = Int32.ofNat (gK S) ∧ m.1 6 = Int32.ofNat t ∧ t < 44 ∧ S.2.2.1.2.2.2.1 t = -1) :
    gOv C (grd C S) = true ∨ gV C (grd C S) + gT S ≤ gV C S
    ∨ (SMe S (grd C S) ∧ gV C (grd C S) ≤ gV C S ∧ (S.2.2.1.1 13 = cN C (gK S) → gV C (grd C S) + 1 ≤ gV C S) ∧ (∀ v, v < 6 → ∀ m, m ∈ (grd C S).1.1 v → m.1 2 = 1 → GG (gK S) S.2.2.1 m) ∧ ((∃ v m, v < 6 ∧ m ∈ (grd C S).1.1 v ∧ m.1 2 = 1) ∨ ((grd C S).2.2.1.2.2.2.2.1 = S.2.2.1.2.2.2.2.1 ∧ ¬ ask)) ∧ ¬ dne) := by
  have h6 := PI_ws hC (by omega) h 6 (Nat.le_refl 6)
  have hS' := PI_rd hC (by omega) hck h
  have hdn := PI_dn (by omega) h6
  have hm := h6.1.2.1
  rw [hdn] at hm
  obtain ⟨e1, e2⟩ := gws_K (C := C) (S := S) 6
  have ek : gK (gws C 6 S) = gK S := by show (gws C 6 S).2.1.2.1 = _; rw [e2]
  have hcnt := cnt_le hC h (by omega) hov
  cases ho' : gOv C (grd C S) with
  | true => exact Or.inl rfl
  | false =>
  refine Or.inr ?_
  have hcnt' := cnt_le hC hS' (by omega) ho'
  have hi := h6.1.1
  have hF := h6.2.2.2 hr
  rw [e1, ek, e2] at hm
  rw [ek] at hi
  rw [e1, ek] at hF
  have hov' : jk_over C.1 S.2.2.1 = false := hov
  have main := m_round (ask := ask) (dne := dne) (w := w) hC hi hm hdn (show 2 ≤ r by omega) h6.2.1 hF hov' hw hask hav hd
  have eg : grd C S = ((jk_work C.1 C.2.1 (cF C (gK S)) S.2.2.1 (gws C 6 S).1 S.2.1).2.1, (jk_work C.1 C.2.1 (cF C (gK S)) S.2.2.1 (gws C 6 S).1 S.2.1).2.2.1, (jk_work C.1 C.2.1 (cF C (gK S)) S.2.2.1 (gws C 6 S).1 S.2.1).1, (gws C 6 S).2.2.2) := by
    show gm C (gws C 6 S) = _
    rw [gm, ek, e1, e2]
  revert hcnt' ho'
  rw [eg]
  generalize jk_work C.1 C.2.1 (cF C (gK S)) S.2.2.1 (gws C 6 S).1 S.2.1 = z at main
  obtain ⟨K', L', R', F'⟩ := z
  intro ho' hcnt'
  obtain ⟨c1, c2, c3, c4, c5, c6, c7, c8⟩ := hcnt
  obtain ⟨d1, d2, d3, d4, d5, d6, d7, d8⟩ := hcnt'
  have ek' : gK ((L', R', K', (gws C 6 S).2.2.2) : Gs) = R'.2.1 := rfl
  rw [ek'] at d1 d4 d5 d6 d8
  have d2' : K'.1 12 ≤ K'.1 11 := d2
  have d3' : K'.1 11 ≤ 38 := d3
  have d4' : K'.1 13 ≤ cN C R'.2.1 := d4
  have d6' : gG C R'.2.1 K' ≤ 12339 := d6
  rw [gV, gV, gT, ek']
  show (C.1.length - R'.2.1) * 105100 + (K'.1 11 - K'.1 12) * 1840 + (cN C R'.2.1 - K'.1 13) * 3250 + gG C R'.2.1 K' + _ ≤ _ ∨ _
  rcases main with m1 | m1 | ⟨m1, m2, m3, m4, m5, m6⟩ | ⟨⟨m1, m2, m3, m4, m5⟩, ⟨m6, m7⟩, m8⟩
  · have ho2 : jk_over C.1 K' = false := ho'
    have m1' : jk_over C.1 K' = true := m1
    rw [ho2] at m1'; cases m1'
  · refine Or.inl ?_
    have m1' : R'.2.1 = gK S + 1 := m1
    rw [m1'] at d5 d6' ⊢
    have x2 : (K'.1 11 - K'.1 12) * 1840 ≤ 69920 := Nat.le_trans (Nat.mul_le_mul_right _ (show K'.1 11 - K'.1 12 ≤ 38 by omega)) (by decide)
    have x3 : (cN C (gK S + 1) - K'.1 13) * 3250 ≤ 19500 := Nat.le_trans (Nat.mul_le_mul_right _ (show cN C (gK S + 1) - K'.1 13 ≤ 6 by omega)) (by decide)
    have x4 : (if S.2.2.1.1 12 < S.2.2.1.1 11 then 1835 else 3245) ≤ 3245 := by
      by_cases hc : S.2.2.1.1 12 < S.2.2.1.1 11
      · rw [if_pos hc]; omega
      · rw [if_neg hc]; omega
    exact v_arith c1 x2 x3 d6' x4
  · refine Or.inl ?_
    have m1' : R'.2.1 = gK S := m1
    have m2' : K'.1 11 = S.2.2.1.1 11 := m2
    have m3' : S.2.2.1.1 12 + S.2.2.1.1 13 < K'.1 12 + K'.1 13 := m3
    have m4' : S.2.2.1.1 12 ≤ K'.1 12 := m4
    have m5' : S.2.2.1.1 13 ≤ K'.1 13 := m5
    have m6' : gG C (gK S) K' ≤ gG C (gK S) S.2.2.1 + 5 := m6
    rw [m1'] at d4' d5 ⊢
    rw [m2'] at d2' ⊢
    by_cases hc : S.2.2.1.1 12 < S.2.2.1.1 11
    · rw [if_pos hc]; omega
    · rw [if_neg hc]; omega
  · refine Or.inr ⟨⟨m1, m2, m3, m4, m5⟩, ?_, fun hz => ?_, m8⟩
    · have m1' : R'.2.1 = gK S := m1
      have m2' : K'.1 11 = S.2.2.1.1 11 := m2
      have m4' : K'.1 12 = S.2.2.1.1 12 := m4
      have m5' : K'.1 13 = S.2.2.1.1 13 := m5
      have m6' : gG C (gK S) K' ≤ gG C (gK S) S.2.2.1 := m6
      show (C.1.length - R'.2.1) * 105100 + (K'.1 11 - K'.1 12) * 1840 + (cN C R'.2.1 - K'.1 13) * 3250 + gG C R'.2.1 K' ≤ _
      rw [m1', m2', m4', m5']
      omega
    · have m1' : R'.2.1 = gK S := m1
      have m2' : K'.1 11 = S.2.2.1.1 11 := m2
      have m4' : K'.1 12 = S.2.2.1.1 12 := m4
      have m5' : K'.1 13 = S.2.2.1.1 13 := m5
      have m7' : gG C (gK S) K' < gG C (gK S) S.2.2.1 := m7 hz
      show (C.1.length - R'.2.1) * 105100 + (K'.1 11 - K'.1 12) * 1840 + (cN C R'.2.1 - K'.1 13) * 3250 + gG C R'.2.1 K' + 1 ≤ _
      rw [m1', m2', m4', m5']
      omega
end ROUNDS
