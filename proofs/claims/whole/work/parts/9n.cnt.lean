/-! finish comes to an end: the messages on their way are counted -/
abbrev lG (m : Jm) : Bool := decide (m.1 2 = 1)
abbrev lF (s : Nat) (m : Jm) : Bool := decide (m.1 2 = 4 ∧ m.1 3 = Int32.ofNat s)
abbrev lP (m : Jm) : Bool := decide (m.1 2 = 5 ∨ m.1 2 = 6)
abbrev lA (s : Nat) (m : Jm) : Bool := decide (m.1 2 = 0 ∧ m.1 3 = Int32.ofNat s)
abbrev lNo (m : Jm) : Bool := decide (m.1 2 = 0 ∨ m.1 2 = 2 ∨ m.1 2 = 3)
/-- on its way for node s: FETCHES of its own, and what answers them -/
def fS (s : Nat) (L : Jn) : Nat := sumOn (fun x => (L.1 x).countP (lF s)) 6 + (L.1 s).countP lP
section COUNT
variable {C : Jc} {Ws : Nat → Jw} {L : Jn} {kc v x y s : Nat} {W : Jw} {m : Jm}
theorem snd_0 (h1 : L.2.2.1 = 0) (h2 : L.2.2.2 = 0) : jn_snd L m x = ((if L.2.1 x = true then L.1 else jn_put L.1 x m), L.2.1, 0, 0) := by
  rw [jn_snd, h1, h2, jn_send]
  rfl
theorem snd_le {p : Jm → Bool} (h1 : L.2.2.1 = 0) (h2 : L.2.2.2 = 0) : ((jn_snd L m x).1 y).countP p ≤ (L.1 y).countP p + (if y = x ∧ p m = true then 1 else 0) := by
  rw [snd_0 h1 h2]
  show List.countP p ((if L.2.1 x = true then L.1 else jn_put L.1 x m) y) ≤ _
  split
  · exact Nat.le_add_right _ _
  · rw [jn_put]
    split
    · by_cases e : y = x
      · subst e
        rw [up_eq, List.countP_append, List.countP_singleton]
        by_cases hp : p m = true
        · rw [if_pos hp, if_pos ⟨rfl, hp⟩]; exact Nat.le_refl _
        · rw [if_neg hp, if_neg (fun z => hp z.2)]; exact Nat.le_refl _
      · rw [up_ne _ _ e]; exact Nat.le_add_right _ _
    · exact Nat.le_add_right _ _
theorem snd_n {p : Jm → Bool} (h1 : L.2.2.1 = 0) (h2 : L.2.2.2 = 0) (hp : y ≠ x ∨ p m = false) : ((jn_snd L m x).1 y).countP p ≤ (L.1 y).countP p := by
  have := snd_le (m := m) (x := x) (y := y) (p := p) h1 h2
  rw [if_neg (by rintro ⟨z1, z2⟩; rcases hp with hp | hp; exact hp z1; rw [hp] at z2; cases z2)] at this
  exact this
theorem snd_1 {p : Jm → Bool} (h1 : L.2.2.1 = 0) (h2 : L.2.2.2 = 0) : ((jn_snd L m x).1 y).countP p ≤ (L.1 y).countP p + 1 := by
  have := snd_le (m := m) (x := x) (y := y) (p := p) h1 h2
  split at this <;> omega
/-- what was there stays there -/
theorem snd_sub {m' : Jm} (h1 : L.2.2.1 = 0) (h2 : L.2.2.2 = 0) (h : m' ∈ L.1 y) : m' ∈ (jn_snd L m x).1 y := by
  rw [snd_0 h1 h2]
  show m' ∈ (if L.2.1 x = true then L.1 else jn_put L.1 x m) y
  split
  · exact h
  · rw [jn_put]
    split
    · by_cases e : y = x
      · subst e; rw [up_eq]; exact List.mem_append_left _ h
      · rw [up_ne _ _ e]; exact h
    · exact h
/-- it comes there -/
theorem snd_in (h1 : L.2.2.1 = 0) (h2 : L.2.2.2 = 0) (hd : L.2.1 x = false) (hl : (L.1 x).length < 16) : m ∈ (jn_snd L m x).1 x := by
  rw [snd_0 h1 h2]
  show m ∈ (if L.2.1 x = true then L.1 else jn_put L.1 x m) x
  rw [hd, if_neg (by decide), jn_put, if_pos hl, up_eq]
  exact List.mem_append_right _ (List.mem_singleton.2 rfl)
theorem fS_le {L' : Jn} (h : ∀ x, x < 6 → (L'.1 x).countP (lF s) ≤ (L.1 x).countP (lF s)) (h2 : (L'.1 s).countP lP ≤ (L.1 s).countP lP) : fS s L' ≤ fS s L := by
  rw [fS, fS]
  have := sumOn_le (f := fun x => (L'.1 x).countP (lF s)) (g := fun x => (L.1 x).countP (lF s)) 6 (fun i hi => h i hi)
  omega
/-- neither a FETCH nor a PAGE -/
theorem fS_n (h1 : L.2.2.1 = 0) (h2 : L.2.2.2 = 0) (hk : m.1 2 = 0 ∨ m.1 2 = 1 ∨ m.1 2 = 2 ∨ m.1 2 = 3) : fS s (jn_snd L m x) ≤ fS s L := by
  have hn4 : m.1 2 ≠ 4 := by rcases hk with e | e | e | e <;> rw [e] <;> decide
  have hn5 : m.1 2 ≠ 5 := by rcases hk with e | e | e | e <;> rw [e] <;> decide
  have hn6 : m.1 2 ≠ 6 := by rcases hk with e | e | e | e <;> rw [e] <;> decide
  refine fS_le (fun y _ => snd_n h1 h2 (Or.inr (decide_eq_false (fun z => hn4 z.1)))) (snd_n h1 h2 (Or.inr (decide_eq_false (fun z => ?_))))
  rcases z with z | z
  · exact hn5 z
  · exact hn6 z
/-- a PAGE for node x -/
theorem fS_P (h1 : L.2.2.1 = 0) (h2 : L.2.2.2 = 0) (hk : m.1 2 = 5 ∨ m.1 2 = 6) : fS s (jn_snd L m x) ≤ fS s L + (if s = x then 1 else 0) := by
  have hn4 : m.1 2 ≠ 4 := by rcases hk with e | e <;> rw [e] <;> decide
  have a1 := sumOn_le (f := fun y => ((jn_snd L m x).1 y).countP (lF s)) (g := fun y => (L.1 y).countP (lF s)) 6 (fun y _ => snd_n h1 h2 (Or.inr (decide_eq_false (fun z => hn4 z.1))))
  rw [fS, fS]
  by_cases e : s = x
  · have a2 := snd_1 (m := m) (x := x) (y := s) (p := lP) h1 h2
    rw [if_pos e]; omega
  · have a2 := snd_n (m := m) (x := x) (y := s) (p := lP) h1 h2 (Or.inl e)
    rw [if_neg e]; omega
/-- a FETCH of node u -/
theorem fS_F {u : Nat} (hu : u < 7) (hs : s < 7) (hx : x < 6) (h1 : L.2.2.1 = 0) (h2 : L.2.2.2 = 0) (hk : m.1 2 = 4) (h3 : m.1 3 = Int32.ofNat u) : fS s (jn_snd L m x) ≤ fS s L + (if s = u then 1 else 0) := by
  have a2 : ((jn_snd L m x).1 s).countP lP ≤ (L.1 s).countP lP := snd_n h1 h2 (Or.inr (decide_eq_false (fun z => by rw [hk] at z; rcases z with z | z <;> exact absurd z (by decide))))
  rw [fS, fS]
  by_cases e : s = u
  · rw [if_pos e]
    have h3' := sumOn_up (f := fun y => (L.1 y).countP (lF s)) (g := jx_up (fun y => (L.1 y).countP (lF s)) x ((L.1 x).countP (lF s) + 1)) (k := x) (fun i hi => up_ne _ _ hi) 6 hx
    rw [up_eq] at h3'
    have h4 := sumOn_le (f := fun y => ((jn_snd L m x).1 y).countP (lF s)) (g := jx_up (fun y => (L.1 y).countP (lF s)) x ((L.1 x).countP (lF s) + 1)) 6 (fun y _ => by
      by_cases e2 : y = x
      · subst e2; rw [up_eq]; exact snd_1 h1 h2
      · rw [up_ne _ _ e2]; exact snd_n h1 h2 (Or.inl e2))
    have h3'' : sumOn (jx_up (fun y => (L.1 y).countP (lF s)) x ((L.1 x).countP (lF s) + 1)) 6 + (L.1 x).countP (lF s) = sumOn (fun y => (L.1 y).countP (lF s)) 6 + ((L.1 x).countP (lF s) + 1) := h3'
    omega
  · rw [if_neg e]
    have h4 := sumOn_le (f := fun y => ((jn_snd L m x).1 y).countP (lF s)) (g := fun y => (L.1 y).countP (lF s)) 6 (fun y _ => snd_n h1 h2 (Or.inr (decide_eq_false (fun z => e (jx_inj (by omega) (by omega) (z.2.symm.trans h3))))))
    omega
/-- the oldest message of node v is taken out -/
theorem pop_le {l : List Jm} {p : Jm → Bool} (hib : L.1 v = m :: l) : ((jn_pop L v l).1 y).countP p ≤ (L.1 y).countP p := by
  show List.countP p (jx_up L.1 v l y) ≤ _
  by_cases e : y = v
  · subst e; rw [up_eq, hib, List.countP_cons]; exact Nat.le_add_right _ _
  · rw [up_ne _ _ e]; exact Nat.le_refl _
theorem pop_1 {l : List Jm} {p : Jm → Bool} (hib : L.1 v = m :: l) (hp : p m = true) : ((jn_pop L v l).1 v).countP p + 1 = (L.1 v).countP p := by
  show List.countP p (jx_up L.1 v l v) + 1 = _
  rw [up_eq, hib, List.countP_cons, if_pos hp]
theorem fS_pop {l : List Jm} (hib : L.1 v = m :: l) : fS s (jn_pop L v l) ≤ fS s L := fS_le (fun _ _ => pop_le hib) (pop_le hib)
theorem fS_popF {l : List Jm} (hv : v < 6) (hib : L.1 v = m :: l) (hf : lF s m = true) : fS s (jn_pop L v l) + 1 ≤ fS s L := by
  have h1 := sumOn_up (f := fun y => (L.1 y).countP (lF s)) (g := fun y => ((jn_pop L v l).1 y).countP (lF s)) (k := v) (fun i hi => by
    show List.countP (lF s) (jx_up L.1 v l i) = _
    rw [up_ne _ _ hi]) 6 hv
  have h1' : sumOn (fun y => ((jn_pop L v l).1 y).countP (lF s)) 6 + (L.1 v).countP (lF s) = sumOn (fun y => (L.1 y).countP (lF s)) 6 + ((jn_pop L v l).1 v).countP (lF s) := h1
  have h2 := pop_1 (p := lF s) hib hf
  have h3 : ((jn_pop L v l).1 s).countP lP ≤ (L.1 s).countP lP := pop_le hib
  rw [fS, fS]
  omega
/-- nothing of node s is on its way -/
theorem fS_0 (h : ∀ x m, x < 6 → m ∈ L.1 x → lF s m = false) (h2 : L.1 s = []) : fS s L = 0 := by
  rw [fS, sumOn_zero 6 (fun i hi => ?_), h2]
  · rfl
  · show List.countP (lF s) (L.1 i) = 0
    rw [List.countP_eq_zero]
    intro a ha
    rw [h i a hi ha]; decide
theorem pop_L (l : List Jm) : (jn_pop L v l).2 = L.2 := rfl
/-- what hearing a message does to the line -/
theorem hear_eff (hm : mW C Ws kc v m) (W : Jw) (L : Jn) :
    ((jw_hear C.1 C.2.1 W L m).2 = L ∧ (m.1 2 ≠ 1 → (jw_hear C.1 C.2.1 W L m).1.2.1 = W.2.1 ∨ (jw_hear C.1 C.2.1 W L m).1.2.1 = none))
    ∨ (m.1 2 = 1 ∧ ∃ m', (jw_hear C.1 C.2.1 W L m).2 = jn_snd L m' 6 ∧ m'.1 2 = 2 ∧ (jw_hear C.1 C.2.1 W L m).1.2.1 = none)
    ∨ ∃ u m', m.1 2 = 4 ∧ m.1 3 = Int32.ofNat u ∧ u < 7 ∧ u ≠ v ∧ (jw_hear C.1 C.2.1 W L m).1 = W ∧ (jw_hear C.1 C.2.1 W L m).2 = jn_snd L m' u ∧ (m'.1 2 = 5 ∨ m'.1 2 = 6) := by
  rcases hm with ⟨h1, _⟩ | ⟨h1, u, p, t, xo, a1, a2, a3, a4, a5, a6, a7, a8, a9, a10, a11⟩ | ⟨h1, h2, h3⟩ | ⟨h1, p, a1, a2⟩
  · rw [jw_hear, if_pos h1, jw_give]
    have hk : ∀ (W1 : Jw) (j t k : Nat), ((jw_take W1 L m j t k).2 = L ∧ (m.1 2 ≠ 1 → (jw_take W1 L m j t k).1.2.1 = W.2.1 ∨ (jw_take W1 L m j t k).1.2.1 = none)) ∨ (m.1 2 = 1 ∧ ∃ m', (jw_take W1 L m j t k).2 = jn_snd L m' 6 ∧ m'.1 2 = 2 ∧ (jw_take W1 L m j t k).1.2.1 = none) := by
      intro W1 j t k
      rw [jw_take]
      split
      · exact Or.inr ⟨h1, _, rfl, rfl, rfl⟩
      · exact Or.inl ⟨rfl, fun z => absurd h1 z⟩
    split
    · exact Or.inl ⟨rfl, fun z => absurd h1 z⟩
    · split
      · exact Or.inl ⟨rfl, fun z => absurd h1 z⟩
      · split
        · rcases hk (jw_wipe W (Int32.ofNat (ji (m.1 5)))) (jc_j C.1 (m.1 5)) (ji (m.1 6)) (ji (m.1 9)) with e | e
          · exact Or.inl e
          · exact Or.inr (Or.inl e)
        · rcases hk W (jc_j C.1 (m.1 5)) (ji (m.1 6)) (ji (m.1 9)) with e | e
          · exact Or.inl e
          · exact Or.inr (Or.inl e)
  · rw [jw_hear, if_neg (by rw [h1]; decide), if_pos h1, jw_fet]
    have hu : ji (m.1 3) = u := by rw [a1]; exact ji_of (by omega)
    split
    · exact Or.inr (Or.inr ⟨u, _, h1, a1, a2, a3, rfl, by rw [hu], Or.inr rfl⟩)
    · split
      · refine Or.inr (Or.inr ⟨u, _, h1, a1, a2, a3, rfl, by rw [hu], Or.inl ?_⟩)
        rw [jw_pg]
        cases W.2.2.2.2.2 (ji (m.1 6)) with
        | none => rfl
        | some l => rfl
      · exact Or.inl ⟨rfl, fun _ => Or.inl rfl⟩
  · rw [jw_hear, if_neg (by rw [h1]; decide), if_neg (by rw [h1]; decide), if_pos h1]
    refine Or.inl ⟨rfl, fun _ => Or.inl ?_⟩
    show (jw_hp W m _ _).2.1 = W.2.1
    rw [jw_hp]
    split
    · split
      · exact jw_pg2_sm.2.2.2.2.1
      · rfl
    · rfl
  · rw [jw_hear, if_neg (by rw [h1]; decide), if_neg (by rw [h1]; decide), if_neg (by rw [h1]; decide), if_pos h1]
    refine Or.inl ⟨rfl, fun _ => ?_⟩
    show (if W.1 12 = 3 then (if m.1 5 = W.2.2.2.2.1 then jw_rest W else W) else W).2.1 = W.2.1 ∨ (if W.1 12 = 3 then (if m.1 5 = W.2.2.2.2.1 then jw_rest W else W) else W).2.1 = none
    split
    · split
      · exact Or.inr rfl
      · exact Or.inl rfl
    · exact Or.inl rfl
/-- what acting does to the line -/
theorem act_eff {F : Nat → Jl} (hw : wOK C Ws kc v W) (L : Jn) :
    (jw_act C.1 C.2.1 C.2.2.1 F W L).2 = L
    ∨ (∃ m', (jw_act C.1 C.2.1 C.2.2.1 F W L).2 = jn_snd L m' 6 ∧ (m'.1 2 = 2 ∨ m'.1 2 = 3))
    ∨ (∃ m', (jw_act C.1 C.2.1 C.2.2.1 F W L).2 = jn_snd L m' 6 ∧ m'.1 2 = 0 ∧ m'.1 3 = Int32.ofNat v ∧ (jw_act C.1 C.2.1 C.2.2.1 F W L).1.2.1 = none)
    ∨ ∃ m' u, (jw_act C.1 C.2.1 C.2.2.1 F W L).2 = jn_snd L m' u ∧ u ≠ v ∧ u < 6 ∧ m'.1 2 = 4 ∧ m'.1 3 = Int32.ofNat v := by
  obtain ⟨w1, w2, w3, w4⟩ := hw
  have hend : ∀ (W1 : Jw) (k : Int32), k = 2 ∨ k = 3 → ∃ m', (jw_end W1 L k).2 = jn_snd L m' 6 ∧ (m'.1 2 = 2 ∨ m'.1 2 = 3) := fun W1 k hk => ⟨_, rfl, hk⟩
  rw [jw_act]
  cases hj : W.2.1 with
  | none =>
    show (jw_ask W L).2 = L ∨ _
    simp only
    rw [jw_ask]
    split
    · exact Or.inl rfl
    · refine Or.inr (Or.inr (Or.inl ⟨_, rfl, rfl, ?_, hj⟩))
      show Int32.ofNat (W.1 0) = _
      rw [w1]
  | some j =>
    simp only
    rcases w4 with ⟨_, _, z⟩ | ⟨p, p1, p2, p3, p4, p5⟩
    · rw [hj] at z; cases z
    obtain ⟨b1, b2, b3, b4, b5⟩ := p5 j hj
    have hfold : (jw_fold W L (C.2.2.1 j)).2 = L ∨ ∃ m', (jw_fold W L (C.2.2.1 j)).2 = jn_snd L m' 6 ∧ (m'.1 2 = 2 ∨ m'.1 2 = 3) := by
      rw [jw_fold]
      split
      · split
        · split
          · exact Or.inl rfl
          · exact Or.inr (hend _ _ (Or.inr rfl))
        · exact Or.inr (hend _ _ (Or.inr rfl))
      · rw [jw_keep]
        split
        · split
          · exact Or.inr (hend _ _ (Or.inl rfl))
          · exact Or.inr (hend _ _ (Or.inr rfl))
        · split
          · exact Or.inr (hend _ _ (Or.inl rfl))
          · exact Or.inr (hend _ _ (Or.inr rfl))
    by_cases e1 : W.1 12 = 1
    · rw [if_pos e1, jw_map]
      split
      · split
        · split
          · exact Or.inl rfl
          · exact Or.inl rfl
        · exact Or.inr (Or.inl (hend _ _ (Or.inr rfl)))
      · exact Or.inl rfl
    · rw [if_neg e1]
      by_cases e3 : W.1 12 = 3
      · rw [if_pos e3, jw_fo1, jw_fo]
        rcases b5 with ⟨z, _⟩ | ⟨z, _⟩ | ⟨_, c2, ls, c3, c4, c5, c6⟩ | ⟨z, _⟩
        · exact absurd z e1
        · rw [e3] at z; exact absurd z (by decide)
        · split
          · rename_i hlt
            obtain ⟨u, u1, u2, u3⟩ := c6 (W.1 15) (by have := c5.1; omega)
            have hu : ji (W.2.2.1 (W.1 15)) = u := by rw [u2]; exact ji_of (by omega)
            rw [hu]
            split
            · exact Or.inl rfl
            · rename_i hne
              split
              · exact Or.inl rfl
              · refine Or.inr (Or.inr (Or.inr ⟨_, u, rfl, by rw [← w1]; exact hne, u1, rfl, ?_⟩))
                show Int32.ofNat (W.1 0) = _
                rw [w1]
          · exact Or.inl rfl
        · rw [e3] at z; exact absurd z (by decide)
      · rw [if_neg e3]
        rcases hfold with e | e
        · exact Or.inl e
        · exact Or.inr (Or.inl e)
end COUNT
