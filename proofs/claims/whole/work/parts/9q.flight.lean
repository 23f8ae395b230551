/-! finish comes to an end: a FETCH is answered -/
section FLIGHT
variable {C : Jc} {Ws : Nat → Jw} {L L' : Jn} {kc ck v x y s r q u d p t : Nat} {K : Jk} {R : Jr} {m f : Jm} {W : Jw}
theorem len_W : ∀ (l : List Jm), (∀ m, m ∈ l → mW C Ws kc x m) → l.length ≤ l.countP lG + sumOn (fun s => l.countP (lF s)) 7 + l.countP lP := by
  intro l
  induction l with
  | nil => intro _; exact Nat.zero_le _
  | cons m l ih =>
    intro h
    have i := ih (fun m' hm => h m' (List.mem_cons_of_mem _ hm))
    have hG : l.countP lG ≤ (m :: l).countP lG := by rw [List.countP_cons]; exact Nat.le_add_right _ _
    have hP : l.countP lP ≤ (m :: l).countP lP := by rw [List.countP_cons]; exact Nat.le_add_right _ _
    have hF : ∀ s, l.countP (lF s) ≤ (m :: l).countP (lF s) := fun s => by rw [List.countP_cons]; exact Nat.le_add_right _ _
    have hS := sumOn_le (f := fun s => l.countP (lF s)) (g := fun s => (m :: l).countP (lF s)) 7 (fun s _ => hF s)
    rw [List.length_cons]
    rcases h m List.mem_cons_self with ⟨h1, _⟩ | ⟨h1, u, _, _, _, a1, a2, _⟩ | ⟨h1, _⟩ | ⟨h1, _⟩
    · have : (m :: l).countP lG = l.countP lG + 1 := by rw [List.countP_cons, if_pos (decide_eq_true h1)]
      omega
    · have e1 : (m :: l).countP (lF u) = l.countP (lF u) + 1 := by rw [List.countP_cons, if_pos (decide_eq_true ⟨h1, a1⟩)]
      have h3 := sumOn_up (f := fun s => l.countP (lF s)) (g := jx_up (fun s => l.countP (lF s)) u (l.countP (lF u) + 1)) (k := u) (fun i hi => up_ne _ _ hi) 7 a2
      rw [up_eq] at h3
      have h4 := sumOn_le (f := jx_up (fun s => l.countP (lF s)) u (l.countP (lF u) + 1)) (g := fun s => (m :: l).countP (lF s)) 7 (fun s _ => by
        by_cases e : s = u
        · subst e; rw [up_eq, e1]; exact Nat.le_refl _
        · rw [up_ne _ _ e]; exact hF s)
      have h3' : sumOn (jx_up (fun s => l.countP (lF s)) u (l.countP (lF u) + 1)) 7 + l.countP (lF u) = sumOn (fun s => l.countP (lF s)) 7 + (l.countP (lF u) + 1) := h3
      omega
    · have : (m :: l).countP lP = l.countP lP + 1 := by rw [List.countP_cons, if_pos (decide_eq_true (Or.inl h1))]
      omega
    · have : (m :: l).countP lP = l.countP lP + 1 := by rw [List.countP_cons, if_pos (decide_eq_true (Or.inr h1))]
      omega
theorem len_M : ∀ (l : List Jm), (∀ m, m ∈ l → mM C Ws kc m) → l.length ≤ l.countP lNo + l.countP lP := by
  intro l
  induction l with
  | nil => intro _; exact Nat.zero_le _
  | cons m l ih =>
    intro h
    have i := ih (fun m' hm => h m' (List.mem_cons_of_mem _ hm))
    rw [List.length_cons, List.countP_cons, List.countP_cons]
    have hN : (m.1 2 = 0 ∨ m.1 2 = 2 ∨ m.1 2 = 3) → l.length + 1 ≤ l.countP lNo + (if lNo m = true then 1 else 0) + (l.countP lP + (if lP m = true then 1 else 0)) := fun e => by
      rw [if_pos (decide_eq_true e)]; omega
    have hP : (m.1 2 = 5 ∨ m.1 2 = 6) → l.length + 1 ≤ l.countP lNo + (if lNo m = true then 1 else 0) + (l.countP lP + (if lP m = true then 1 else 0)) := fun e => by
      rw [if_pos (decide_eq_true (p := m.1 2 = 5 ∨ m.1 2 = 6) e)]; omega
    rcases h m List.mem_cons_self with ⟨h1, _⟩ | ⟨h1, _⟩ | ⟨h1, _⟩ | ⟨h1, _⟩ | ⟨h1, _⟩
    · exact hN (Or.inl h1)
    · exact hN (Or.inr (Or.inl h1))
    · exact hN (Or.inr (Or.inr h1))
    · exact hP (Or.inl h1)
    · exact hP (Or.inr h1)
theorem fS_lF (hx : x < 6) : (L.1 x).countP (lF s) ≤ fS s L := by
  have h1 : ∀ n, x < n → (L.1 x).countP (lF s) ≤ sumOn (fun y => (L.1 y).countP (lF s)) n := by
    intro n hn
    have e : sumOn (fun y => (L.1 y).countP (lF s)) (x + 1) = sumOn (fun y => (L.1 y).countP (lF s)) x + (L.1 x).countP (lF s) := rfl
    have := sumOn_mono (f := fun y => (L.1 y).countP (lF s)) n (show x + 1 ≤ n by omega)
    omega
  have := h1 6 hx
  rw [fS]; omega
/-- there is room in an inbox -/
theorem len_9 (hi : IV C Ws L kc) (h : QL r q L) (hr : 2 ≤ r) (hx : x < 6) : (L.1 x).length ≤ 9 := by
  have h1 := len_W (L.1 x) (hi.2.1 x hx)
  have h2 := h.2.2.2.2.2.2.2 hr x hx
  have h3 : (L.1 x).countP lP ≤ 1 := by
    have := h.2.2.2.2.1 x (by omega) (Or.inr hr)
    rw [fS] at this; omega
  have h4 := sumOn_le (f := fun s => (L.1 x).countP (lF s)) (g := fun _ => 1) 7 (fun s hs => Nat.le_trans (fS_lF hx) (h.2.2.2.2.1 s hs (Or.inr hr)))
  have h5 : sumOn (fun _ => 1) 7 = 7 := rfl
  omega
theorem len_14 (hi : IV C Ws L kc) (h : QL r q L) (hr : 2 ≤ r) (hN : (L.1 6).countP lNo ≤ 13) : (L.1 6).length ≤ 14 := by
  have h1 := len_M (L.1 6) hi.2.2
  have h3 : (L.1 6).countP lP ≤ 1 := by
    have := h.2.2.2.2.1 6 (by omega) (Or.inr hr)
    rw [fS] at this; omega
  omega
/-- while worker q hears there is room everywhere -/
theorem len_H (hi : IV C Ws L kc) (h : QH r q Ws L) (hr : 2 ≤ r) (hq : q < 6) (hx : x < 7) : (L.1 x).length < 16 := by
  by_cases e : x = 6
  · subst e
    have := h.2.2.2 hr
    have := len_14 hi h.1 hr (by omega)
    omega
  · have := len_9 hi h.1 hr (show x < 6 by omega)
    omega
/-- the FETCH f of node d to worker u (task t of place p) is on its way, or what answers it -/
def GF (f : Jm) (d u p kc : Nat) (L : Jn) : Prop :=
  f ∈ L.1 u ∨ (∃ m, m ∈ L.1 d ∧ m.1 2 = 5 ∧ m.1 5 = f.1 5 ∧ m.1 6 = f.1 6 ∧ m.1 7 = f.1 7 ∧ m.1 8 = f.1 8) ∨ ∃ m, m ∈ L.1 d ∧ m.1 2 = 6 ∧ m.1 5 = f.1 5 ∧ p < kc
/-- it is a FETCH -/
def FT (f : Jm) (d u p t : Nat) : Prop := f.1 2 = 4 ∧ f.1 3 = Int32.ofNat d ∧ f.1 5 = Int32.ofNat p ∧ f.1 6 = Int32.ofNat t ∧ (∃ xo, f.1 8 = Int32.ofNat xo ∧ xo < 100000) ∧ d < 7 ∧ u < 6 ∧ d ≠ u ∧ p < 8 ∧ t < 44
theorem GF_sub (hs : ∀ m x, m ∈ L.1 x → m ∈ L'.1 x) (h : GF f d u p kc L) : GF f d u p kc L' := by
  rcases h with h | ⟨m, h1, h2⟩ | ⟨m, h1, h2⟩
  · exact Or.inl (hs _ _ h)
  · exact Or.inr (Or.inl ⟨m, hs _ _ h1, h2⟩)
  · exact Or.inr (Or.inr ⟨m, hs _ _ h1, h2⟩)
/-- worker u answers -/
theorem fet_ans (hC : CK C) (hF : FT f d u p t) (hd : HD Ws u p t) (hw : wOK C Ws kc u (Ws u)) (L : Jn) : ∃ m', (jw_hear C.1 C.2.1 (Ws u) L f).2 = jn_snd L m' d ∧ ((m'.1 2 = 5 ∧ m'.1 5 = f.1 5 ∧ m'.1 6 = f.1 6 ∧ m'.1 7 = f.1 7 ∧ m'.1 8 = f.1 8) ∨ (m'.1 2 = 6 ∧ m'.1 5 = f.1 5 ∧ p < kc)) := by
  obtain ⟨f2, f3, f5, f6, ⟨xo, f8, hxo⟩, hd7, hu6, hdu, hp8, ht44⟩ := hF
  have e3 : ji (f.1 3) = d := by rw [f3]; exact ji_of (by omega)
  have e6 : ji (f.1 6) = t := by rw [f6]; exact ji_of (by omega)
  have e8 : ji (f.1 8) = xo := by rw [f8]; exact ji_of (by omega)
  rw [jw_hear, if_neg (by rw [f2]; decide), if_pos f2, e3, e6, e8]
  show ∃ m', jw_fet _ _ _ _ _ _ _ = _ ∧ _
  rw [jw_fet]
  rcases hd with ⟨l, a1, a2⟩ | ⟨q, a1, a2, a3⟩
  · have hn : ¬ f.1 5 < (Ws u).2.2.2.2.1 := by rw [f5, a1, o_lt (by omega) (by omega)]; omega
    rw [if_neg hn, if_pos ⟨f5.trans a1.symm, by rw [a2]; rfl⟩]
    refine ⟨_, rfl, Or.inl ?_⟩
    rw [jw_pg, a2]
    exact ⟨rfl, a1.trans f5.symm, f6.symm, rfl, f8.symm⟩
  · rw [if_pos (by rw [f5, a1, o_lt (by omega) (by omega)]; exact a2)]
    refine ⟨_, rfl, Or.inr ⟨rfl, rfl, ?_⟩⟩
    obtain ⟨_, _, _, h | ⟨p', b1, b2, b3, _⟩⟩ := hw
    · have := h.1
      rw [a1] at this
      have h2 := m1_lt (a := q) (by omega)
      rw [this] at h2
      exact absurd h2 (by decide)
    · have := jx_inj (by omega) (by have := hC.1; omega) (a1.symm.trans b1)
      omega
/-- a tick of another node than d -/
theorem GF_work (hC : CK C) (hk : kc ≤ C.1.length) (hq : q < 6) (hr : 2 ≤ r) (hqd : q ≠ d) (hF : FT f d u p t) (hd : HD Ws u p t) (hi : IV C Ws L kc) (h : QQ r q Ws L) (hg : GF f d u p kc L) : GF f d u p kc (jw_work C.1 C.2.1 C.2.2.1 (cF C kc) (Ws q) L).2 ∧ HD (jx_up Ws q (jw_work C.1 C.2.1 C.2.2.1 (cF C kc) (Ws q) L).1) u p t := by
  have hno := (hi.1 q hq).1
  have hp1000 : p < 1000 := by have := hF.2.2.2.2.2.2.2.2.1; omega
  obtain ⟨hL, hI, hN⟩ := h
  have hup : QH r q Ws (jn_up L q) := by
    obtain ⟨h1, h3, h4⟩ := hL
    refine ⟨⟨h1, fun x hx g => ?_, h4⟩, hI, up_eq _ _ _, fun hr => ?_⟩
    · show jx_up L.2.1 q false x = false
      by_cases e : x = q
      · rw [e, up_eq]
      · rw [up_ne _ _ e]; exact h3 x hx g
    · have a1 := hN hr
      have a2 := h4.2.2.2.2.2 hr q hq
      show (L.1 6).countP lNo + (L.1 q).countP lG ≤ _
      omega
  obtain ⟨⟨k1, k2, k0⟩, k3, k4⟩ := hears_ind hC hq (P := fun Ws L => QH r q Ws L ∧ GF f d u p kc L ∧ HD Ws u p t) (fun Ws L m l hi hP hib hm hle hi' => by
    obtain ⟨p1, p2, p3⟩ := hP
    refine ⟨QH_step hq p1 hib hm, ?_, HD_mono hp1000 (Wle_up (Ws := Ws) (v := q) hle u hF.2.2.2.2.2.2.1) p3⟩
    have h0 : (jn_pop L q l).2.2.1 = 0 ∧ (jn_pop L q l).2.2.2 = 0 := p1.1.1
    have hsub : ∀ m' x, m' ∈ (jn_pop L q l).1 x → m' ∈ (jw_hear C.1 C.2.1 (Ws q) (jn_pop L q l) m).2.1 x := by
      intro m' x hx
      rcases hear_eff hm (Ws q) (jn_pop L q l) with ⟨e, _⟩ | ⟨_, m2, e, _⟩ | ⟨u2, m2, _, _, _, _, _, e, _⟩
      · rw [e]; exact hx
      · rw [e]; exact snd_sub h0.1 h0.2 hx
      · rw [e]; exact snd_sub h0.1 h0.2 hx
    have hpopd : ∀ m', m' ∈ L.1 d → m' ∈ (jn_pop L q l).1 d := fun m' hx => by
      show m' ∈ jx_up L.1 q l d
      rw [up_ne _ _ (fun z => hqd z.symm)]; exact hx
    rcases p2 with g | ⟨m2, g1, g2⟩ | ⟨m2, g1, g2⟩
    · by_cases euq : u = q
      · subst euq
        rw [hib] at g
        rcases List.mem_cons.1 g with g | g
        · subst g
          have hpop : IV C Ws (jn_pop L u l) kc := ⟨hi.1, fun x hx m' hm => hi.2.1 x hx m' (pop_mem hib hm), fun m' hm => hi.2.2 m' (pop_mem hib hm)⟩
          obtain ⟨m', e, ha⟩ := fet_ans hC hF p3 (hi.1 u hq) (jn_pop L u l)
          have hd7 := hF.2.2.2.2.2.1
          have hlen : ((jn_pop L u l).1 d).length < 16 := by
            rw [show (jn_pop L u l).1 d = L.1 d from up_ne _ _ (fun z => hqd z.symm)]
            exact len_H hi p1 hr hq hd7
          have hin : m' ∈ (jn_snd (jn_pop L u l) m' d).1 d := snd_in h0.1 h0.2 (p1.1.2.1 d hd7 (Or.inr (by omega))) hlen
          rw [e]
          rcases ha with ha | ha
          · exact Or.inr (Or.inl ⟨m', hin, ha⟩)
          · exact Or.inr (Or.inr ⟨m', hin, ha⟩)
        · refine Or.inl (hsub _ _ ?_)
          show f ∈ jx_up L.1 u l u
          rw [up_eq]; exact g
      · refine Or.inl (hsub _ _ ?_)
        show f ∈ jx_up L.1 q l u
        rw [up_ne _ _ euq]; exact g
    · exact Or.inr (Or.inl ⟨m2, hsub _ _ (hpopd _ g1), g2⟩)
    · exact Or.inr (Or.inr ⟨m2, hsub _ _ (hpopd _ g1), g2⟩)) (L.1 q).length Ws (jn_up L q) (show IV C Ws (jn_up L q) kc from hi) ⟨hup, hg, hd⟩ (Nat.le_refl _)
  have hh : jw_heard C.1 C.2.1 (Ws q) L = jw_hears C.1 C.2.1 (L.1 q).length (Ws q, jn_up L q) := by rw [jw_heard, hno]
  have hw := k3.1 q hq
  rw [up_eq] at hw
  rw [jw_work, hh]
  have h0 := k1.1.1
  refine ⟨GF_sub (fun m x hx => ?_) k2, ?_⟩
  · rcases act_eff (F := cF C kc) hw (jw_hears C.1 C.2.1 (L.1 q).length (Ws q, jn_up L q)).2 with e | ⟨m', e, _⟩ | ⟨m', e, _⟩ | ⟨m', u2, e, _⟩
    · rw [e]; exact hx
    · rw [e]; exact snd_sub h0.1 h0.2 hx
    · rw [e]; exact snd_sub h0.1 h0.2 hx
    · rw [e]; exact snd_sub h0.1 h0.2 hx
  · have hle := work_wle hC hi hq hk
    rw [jw_work, hh] at hle
    exact HD_mono hp1000 (Wle_up hle u hF.2.2.2.2.2.2.1) hd
end FLIGHT
