/-! what holds of the cluster while THE RUN goes on -/
/-- what does not change: THE CHAIN, the JOBS' ints, PROGRAMS, the FILES as THE RUN began -/
abbrev Jc := List Nat × (Nat → Nat → Int32) × (Nat → Nat → List (Int32 × Int64)) × (Nat → Jl)
abbrev cJ (C : Jc) (p : Nat) : Nat := tJ C.1 p
abbrev cI (C : Jc) (p : Nat) : Jl := tI C.1 C.2.1 C.2.2.1 C.2.2.2 p
abbrev cN (C : Jc) (p : Nat) : Nat := tN C.1 C.2.1 p
abbrev cA (C : Jc) (p : Nat) : Option (List Jl) := tA C.1 C.2.1 C.2.2.1 C.2.2.2 p
abbrev cT (C : Jc) (p t : Nat) : Option Jl := tT C.1 C.2.1 C.2.2.1 C.2.2.2 p t
abbrev cV (C : Jc) (p t : Nat) : Prop := tV C.1 C.2.1 C.2.2.1 C.2.2.2 p t
abbrev cX (C : Jc) (p : Nat) : Prop := tX C.1 C.2.1 C.2.2.1 C.2.2.2 p
abbrev cF (C : Jc) (p : Nat) : Nat → Jl := me_F C.2.1 C.2.2.1 C.1 C.2.2.2 p
/-- worker u has what task t of the JOB at place p made, or has gone on to a later JOB -/
def HD (Ws : Nat → Jw) (u p t : Nat) : Prop := (∃ l, (Ws u).2.2.2.2.1 = Int32.ofNat p ∧ (Ws u).2.2.2.2.2 t = some l) ∨ ∃ q, (Ws u).2.2.2.2.1 = Int32.ofNat q ∧ p < q ∧ q < 1000
def wSt (C : Jc) (Ws : Nat → Jw) (p : Nat) (W : Jw) : Prop :=
  (W.1 12 = 1 ∧ W.1 13 < 38 ∧ w1 (C.2.2.1 (cJ C p) 0) (me_rec (cI C p) (W.1 13)) W)
  ∨ (W.1 12 = 2 ∧ W.1 13 < 38 ∧ w2 (C.2.2.1 (cJ C p) 1) 1 (cT C p (W.1 13)) W ∧ (W.2.2.2.1 1).length ≤ 64 ∧ (W.2.2.2.1 2).length + 4 * ((W.2.2.2.1 1).length - W.1 15) ≤ 256)
  ∨ (W.1 12 = 3 ∧ 38 ≤ W.1 13 ∧ ∃ ls, cA C p = some ls ∧ me_sum ls ≤ 1000 ∧ w3 (cN C p) (W.1 13 - 38) ls W ∧ ∀ s, s < ls.length → ∃ u, u < 6 ∧ W.2.2.1 s = Int32.ofNat u ∧ HD Ws u p s)
  ∨ (W.1 12 = 4 ∧ 38 ≤ W.1 13 ∧ w2 (C.2.2.1 (cJ C p) 2) 2 (cT C p (W.1 13)) W ∧ (W.2.2.2.1 1).length ≤ 1000)
def wDk (C : Jc) (p : Nat) (W : Jw) : Prop := ∀ t l, t < 44 → W.2.2.2.2.2 t = some l → cV C p t ∧ cT C p t = some l
def wR2 (W : Jw) : Prop := (W.2.2.2.1 4).length = sumOn (fun t => jd_am (W.2.2.2.2.2 t)) 38 ∧ (W.2.2.2.1 5).length = sumOn (fun i => jd_am (W.2.2.2.2.2 (38 + i))) 6
def wRw (W : Jw) : Prop := wR2 W ∧ (W.2.1 = none → W.1 12 = 0)
/-- worker v; kc JOBS are committed -/
def wOK (C : Jc) (Ws : Nat → Jw) (kc v : Nat) (W : Jw) : Prop := W.1 0 = v ∧ W.1 17 ≤ 4 ∧ wRw W ∧ ((W.2.2.2.2.1 = -1 ∧ (∀ t, t < 44 → W.2.2.2.2.2 t = none) ∧ W.2.1 = none) ∨ ∃ p, W.2.2.2.2.1 = Int32.ofNat p ∧ p < C.1.length ∧ p ≤ kc ∧ wDk C p W ∧ ∀ j, W.2.1 = some j → j = cJ C p ∧ W.1 13 < 44 ∧ cV C p (W.1 13) ∧ W.2.2.2.2.2 (W.1 13) = none ∧ wSt C Ws p W)
/-- a page of what a task made -/
def mPg (C : Jc) (kc : Nat) (m : Jm) : Prop := ∃ p t l f x, m = jd_page f x (jd_sel (cN C p) t (f 7) l) ∧ cT C p t = some l ∧ cV C p t ∧ t < 44 ∧ p < C.1.length ∧ p ≤ kc ∧ f 2 = 5 ∧ f 5 = Int32.ofNat p ∧ f 6 = Int32.ofNat t ∧ f 8 = Int32.ofNat x ∧ x < 100000
/-- a message to worker x -/
def mW (C : Jc) (Ws : Nat → Jw) (kc x : Nat) (m : Jm) : Prop :=
  (m.1 2 = 1 ∧ ∃ p t, m.1 5 = Int32.ofNat p ∧ p < C.1.length ∧ p ≤ kc ∧ m.1 6 = Int32.ofNat t ∧ t < 44 ∧ cV C p t ∧ m.1 9 = Int32.ofNat (me_ns (cI C p)) ∧ (38 ≤ t → ∀ s, s < me_ns (cI C p) → ∃ u, u < 6 ∧ (jm_get m s).toInt32 = Int32.ofNat u ∧ HD Ws u p s))
  ∨ (m.1 2 = 4 ∧ ∃ u p t xo, m.1 3 = Int32.ofNat u ∧ u < 7 ∧ u ≠ x ∧ m.1 5 = Int32.ofNat p ∧ p < C.1.length ∧ p ≤ kc ∧ m.1 6 = Int32.ofNat t ∧ t < 44 ∧ m.1 8 = Int32.ofNat xo ∧ xo < 100000 ∧ (u < 6 → t < 38))
  ∨ (m.1 2 = 5 ∧ mPg C kc m ∧ ∃ t, t < 38 ∧ m.1 6 = Int32.ofNat t)
  ∨ (m.1 2 = 6 ∧ ∃ p, m.1 5 = Int32.ofNat p ∧ p < kc)
/-- a message to the Master -/
def mM (C : Jc) (Ws : Nat → Jw) (kc : Nat) (m : Jm) : Prop :=
  (m.1 2 = 0 ∧ ∃ u, m.1 3 = Int32.ofNat u ∧ u < 6)
  ∨ (m.1 2 = 2 ∧ ∃ u p t l, m.1 3 = Int32.ofNat u ∧ u < 6 ∧ m.1 5 = Int32.ofNat p ∧ p < C.1.length ∧ p ≤ kc ∧ m.1 6 = Int32.ofNat t ∧ t < 44 ∧ cV C p t ∧ cT C p t = some l ∧ m.1 9 = Int32.ofNat l.length ∧ HD Ws u p t)
  ∨ (m.1 2 = 3 ∧ ∃ p, m.1 5 = Int32.ofNat p ∧ p < C.1.length ∧ p ≤ kc ∧ cX C p)
  ∨ (m.1 2 = 5 ∧ mPg C kc m)
  ∨ (m.1 2 = 6 ∧ ∃ p, m.1 5 = Int32.ofNat p ∧ p < kc)
def IV (C : Jc) (Ws : Nat → Jw) (L : Jn) (kc : Nat) : Prop := (∀ v, v < 6 → wOK C Ws kc v (Ws v)) ∧ (∀ x, x < 6 → ∀ m, m ∈ L.1 x → mW C Ws kc x m) ∧ ∀ m, m ∈ L.1 6 → mM C Ws kc m
/-- what the JOBS of THE CHAIN are, and that their INPUTS stay -/
def CK (C : Jc) : Prop := C.1.length ≤ 8 ∧ jc_all C.1 C.2.1 ∧ (∀ p, p < C.1.length → cJ C p < 8 ∧ (∀ i, i < 3 → jq_ok (C.2.2.1 (cJ C p) i)) ∧ jn0 (C.2.1 (cJ C p) 5) ∧ 1 ≤ cN C p ∧ cN C p ≤ 6) ∧ (∀ p q, p < C.1.length → p ≤ q → q ≤ C.1.length → jb_in C.2.1 (cF C q) (cJ C p) = cI C p) ∧ ∀ q, jf_ok (cF C q)
section INV
variable {C : Jc} {Ws Ws' : Nat → Jw} {L : Jn} {kc v u p t : Nat} {W W' : Jw} {m : Jm}
/-- disks only grow, or go on -/
def Wle (W W' : Jw) : Prop := (W'.2.2.2.2.1 = W.2.2.2.2.1 ∧ ∀ t l, W.2.2.2.2.2 t = some l → W'.2.2.2.2.2 t = some l) ∨ ∃ q, W'.2.2.2.2.1 = Int32.ofNat q ∧ q < 1000 ∧ ∀ p, p < 1000 → W.2.2.2.2.1 = Int32.ofNat p → p < q
theorem Wle.refl (W : Jw) : Wle W W := Or.inl ⟨rfl, fun _ _ e => e⟩
theorem jx_inj {a b : Nat} (ha : a < 2147483648) (hb : b < 2147483648) (e : Int32.ofNat a = Int32.ofNat b) : a = b := by
  have := jx_eq ha hb
  rw [decide_eq_true e] at this
  exact of_decide_eq_true this.symm
theorem HD_mono (hp : p < 1000) (hw : Wle (Ws u) (Ws' u)) (h : HD Ws u p t) : HD Ws' u p t := by
  rcases hw with ⟨e1, e2⟩ | ⟨q, e1, e2, e3⟩
  · rcases h with ⟨l, a1, a2⟩ | ⟨q, a1, a2, a3⟩
    · exact Or.inl ⟨l, e1.trans a1, e2 t l a2⟩
    · exact Or.inr ⟨q, e1.trans a1, a2, a3⟩
  · rcases h with ⟨l, a1, a2⟩ | ⟨q2, a1, a2, a3⟩
    · exact Or.inr ⟨q, e1, e3 p hp a1, e2⟩
    · exact Or.inr ⟨q, e1, Nat.lt_trans a2 (e3 q2 a3 a1), e2⟩
theorem wSt_mono (hp : p < 1000) (hw : ∀ u, u < 6 → Wle (Ws u) (Ws' u)) (h : wSt C Ws p W) : wSt C Ws' p W := by
  rcases h with h | h | ⟨h1, h2, ls, h3, h4, h5, h6⟩ | h
  · exact Or.inl h
  · exact Or.inr (Or.inl h)
  · exact Or.inr (Or.inr (Or.inl ⟨h1, h2, ls, h3, h4, h5, fun s hs => by obtain ⟨u, a1, a2, a3⟩ := h6 s hs; exact ⟨u, a1, a2, HD_mono hp (hw u a1) a3⟩⟩))
  · exact Or.inr (Or.inr (Or.inr h))
theorem wOK_mono (h8 : C.1.length ≤ 8) (hw : ∀ u, u < 6 → Wle (Ws u) (Ws' u)) {kc' : Nat} (hk : kc ≤ kc') (h : wOK C Ws kc v W) : wOK C Ws' kc' v W := by
  obtain ⟨h1, h2, h3, h4 | ⟨p, a1, a2, a3, a4, a5⟩⟩ := h
  · exact ⟨h1, h2, h3, Or.inl h4⟩
  · exact ⟨h1, h2, h3, Or.inr ⟨p, a1, a2, by omega, a4, fun j hj => by obtain ⟨b1, b2, b3, b4, b5⟩ := a5 j hj; exact ⟨b1, b2, b3, b4, wSt_mono (by omega) hw b5⟩⟩⟩
theorem mPg_mono {kc' : Nat} (hk : kc ≤ kc') (h : mPg C kc m) : mPg C kc' m := by
  obtain ⟨p, t, l, f, x, a1, a2, a3, a4, a5, a6, a7⟩ := h
  exact ⟨p, t, l, f, x, a1, a2, a3, a4, a5, by omega, a7⟩
theorem mW_mono {x kc' : Nat} (h8 : C.1.length ≤ 8) (hw : ∀ u, u < 6 → Wle (Ws u) (Ws' u)) (hk : kc ≤ kc') (h : mW C Ws kc x m) : mW C Ws' kc' x m := by
  rcases h with ⟨h1, p, t, a1, a2, a3, a4, a5, a6, a7, a8⟩ | ⟨h1, u, p, t, xo, a1, a2, a3, a4, a5, a6, a7⟩ | ⟨h1, h2, h3⟩ | ⟨h1, p, a1, a2⟩
  · exact Or.inl ⟨h1, p, t, a1, a2, by omega, a4, a5, a6, a7, fun h38 s hs => by obtain ⟨u, b1, b2, b3⟩ := a8 h38 s hs; exact ⟨u, b1, b2, HD_mono (by omega) (hw u b1) b3⟩⟩
  · exact Or.inr (Or.inl ⟨h1, u, p, t, xo, a1, a2, a3, a4, a5, by omega, a7⟩)
  · exact Or.inr (Or.inr (Or.inl ⟨h1, mPg_mono hk h2, h3⟩))
  · exact Or.inr (Or.inr (Or.inr ⟨h1, p, a1, by omega⟩))
theorem mM_mono {kc' : Nat} (h8 : C.1.length ≤ 8) (hw : ∀ u, u < 6 → Wle (Ws u) (Ws' u)) (hk : kc ≤ kc') (h : mM C Ws kc m) : mM C Ws' kc' m := by
  rcases h with h | ⟨h1, u, p, t, l, a1, a2, a3, a4, a5, a6, a7, a8, a9, a10, a11⟩ | ⟨h1, p, a1, a2, a3, a4⟩ | ⟨h1, h2⟩ | ⟨h1, p, a1, a2⟩
  · exact Or.inl h
  · exact Or.inr (Or.inl ⟨h1, u, p, t, l, a1, a2, a3, a4, by omega, a6, a7, a8, a9, a10, HD_mono (by omega) (hw u a2) a11⟩)
  · exact Or.inr (Or.inr (Or.inl ⟨h1, p, a1, a2, by omega, a4⟩))
  · exact Or.inr (Or.inr (Or.inr (Or.inl ⟨h1, mPg_mono hk h2⟩)))
  · exact Or.inr (Or.inr (Or.inr (Or.inr ⟨h1, p, a1, by omega⟩)))
/-- what lies in an inbox behind a send -/
theorem jn_rep_mem {m m' : Jm} {x y : Nat} : ∀ (k : Nat) (ib : Nat → List Jm), m' ∈ jn_rep k ib x m y → m' ∈ ib y ∨ (y = x ∧ m' = m) := by
  intro k
  induction k with
  | zero => intro ib h; exact Or.inl h
  | succ k ih =>
    intro ib h
    rcases ih _ h with h1 | h1
    · rw [jn_put] at h1
      split at h1
      · by_cases e : y = x
        · subst e
          rw [up_eq] at h1
          rcases List.mem_append.1 h1 with h2 | h2
          · exact Or.inl h2
          · exact Or.inr ⟨rfl, List.mem_singleton.1 h2⟩
        · rw [up_ne _ _ e] at h1; exact Or.inl h1
      · exact Or.inl h1
    · exact Or.inr h1
theorem jn_snd_mem {m m' : Jm} {x y : Nat} (h : m' ∈ (jn_snd L m x).1 y) : m' ∈ L.1 y ∨ (y = x ∧ m' = m) := by
  have h1 : m' ∈ jn_send L.1 L.2.1 L.2.2.1 L.2.2.2 x m y := h
  rw [jn_send] at h1
  split at h1
  · exact Or.inl h1
  · exact jn_rep_mem _ _ h1
/-- worker v has made a step; L2 are the inboxes behind it -/
theorem IV_step {L2 : Jn} (h8 : C.1.length ≤ 8) (h : IV C Ws L kc) (hv : v < 6) (hw : Wle (Ws v) W') (hok : wOK C (jx_up Ws v W') kc v W')
    (h1 : ∀ x, x < 6 → ∀ m, m ∈ L2.1 x → m ∈ L.1 x ∨ mW C (jx_up Ws v W') kc x m) (h2 : ∀ m, m ∈ L2.1 6 → m ∈ L.1 6 ∨ mM C (jx_up Ws v W') kc m) : IV C (jx_up Ws v W') L2 kc := by
  have hall : ∀ u, u < 6 → Wle (Ws u) (jx_up Ws v W' u) := by
    intro u hu
    by_cases e : u = v
    · subst e; rw [up_eq]; exact hw
    · rw [up_ne _ _ e]; exact Wle.refl _
  refine ⟨fun u hu => ?_, fun x hx m hm => ?_, fun m hm => ?_⟩
  · by_cases e : u = v
    · subst e; rw [up_eq]; exact hok
    · rw [up_ne _ _ e]; exact wOK_mono h8 hall (Nat.le_refl _) (h.1 u hu)
  · rcases h1 x hx m hm with a | a
    · exact mW_mono h8 hall (Nat.le_refl _) (h.2.1 x hx m a)
    · exact a
  · rcases h2 m hm with a | a
    · exact mM_mono h8 hall (Nat.le_refl _) (h.2.2 m a)
    · exact a
end INV
