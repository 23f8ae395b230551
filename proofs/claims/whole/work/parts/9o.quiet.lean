/-! finish comes to an end: how many messages there are at most -/
section QUIET
variable {C : Jc} {Ws : Nat → Jw} {L L' : Jn} {kc ck v x y s r q : Nat} {W : Jw} {m : Jm}
/-- a worker hears what waits -/
theorem hears_ind (hC : CK C) (hv : v < 6) {P : (Nat → Jw) → Jn → Prop} (step : ∀ (Ws : Nat → Jw) (L : Jn) (m : Jm) (l : List Jm), IV C Ws L kc → P Ws L → L.1 v = m :: l → mW C Ws kc v m → Wle (Ws v) (jw_hear C.1 C.2.1 (Ws v) (jn_pop L v l) m).1 → IV C (jx_up Ws v (jw_hear C.1 C.2.1 (Ws v) (jn_pop L v l) m).1) (jw_hear C.1 C.2.1 (Ws v) (jn_pop L v l) m).2 kc → P (jx_up Ws v (jw_hear C.1 C.2.1 (Ws v) (jn_pop L v l) m).1) (jw_hear C.1 C.2.1 (Ws v) (jn_pop L v l) m).2) :
    ∀ (n : Nat) (Ws : Nat → Jw) (L : Jn), IV C Ws L kc → P Ws L → (L.1 v).length ≤ n → P (jx_up Ws v (jw_hears C.1 C.2.1 n (Ws v, L)).1) (jw_hears C.1 C.2.1 n (Ws v, L)).2 ∧ IV C (jx_up Ws v (jw_hears C.1 C.2.1 n (Ws v, L)).1) (jw_hears C.1 C.2.1 n (Ws v, L)).2 kc ∧ (jw_hears C.1 C.2.1 n (Ws v, L)).2.1 v = [] := by
  intro n
  induction n with
  | zero =>
    intro Ws L h hP hl
    have : (jw_hears C.1 C.2.1 0 (Ws v, L)) = (Ws v, L) := rfl
    rw [this, up_self]
    exact ⟨hP, h, List.eq_nil_of_length_eq_zero (Nat.le_zero.1 hl)⟩
  | succ n ih =>
    intro Ws L h hP hl
    have hno : (Ws v).1 0 = v := (h.1 v hv).1
    rw [jw_hears]
    cases hib : L.1 v with
    | nil =>
      simp only [hno, hib]
      exact ih Ws L h hP (by rw [hib]; exact Nat.zero_le _)
    | cons m l =>
      simp only [hno, hib]
      have hpop : IV C Ws (jn_pop L v l) kc := ⟨h.1, fun x hx m' hm => h.2.1 x hx m' (pop_mem hib hm), fun m' hm => h.2.2 m' (pop_mem hib hm)⟩
      have hmw := h.2.1 v hv m (by rw [hib]; exact List.mem_cons_self)
      obtain ⟨k1, k2⟩ := hear_all hC hpop hv hmw
      have hiv := IV_sp hC.1 hpop hv k2
      have hP' := step Ws L m l h hP hib hmw k2.1 hiv
      have hl' : ((jw_hear C.1 C.2.1 (Ws v) (jn_pop L v l) m).2.1 v).length ≤ n := by
        have e0 : (jn_pop L v l).1 v = l := up_eq _ _ _
        have e1 : (jw_hear C.1 C.2.1 (Ws v) (jn_pop L v l) m).2.1 v = l := by
          rcases hear_eff hmw (Ws v) (jn_pop L v l) with ⟨e, _⟩ | ⟨_, m', e, _⟩ | ⟨u, m', _, _, _, hu, _, e, _⟩
          · rw [e, e0]
          · rw [e, snd_ne (by omega), e0]
          · rw [e, snd_ne (fun z => hu z.symm), e0]
        rw [e1]
        rw [hib, List.length_cons] at hl
        omega
      have i := ih _ _ hiv hP' (by rw [show (jw_hear C.1 C.2.1 (Ws v) (jn_pop L v l) m).2.1 v = (jw_hear C.1 C.2.1 (Ws v) (jn_pop L v l) m).2.1 v from rfl]; exact hl')
      rw [up_eq, up_up] at i
      exact i
/-- round r, node q is the next: what the line holds at most -/
def QL (r q : Nat) (L : Jn) : Prop :=
  (L.2.2.1 = 0 ∧ L.2.2.2 = 0) ∧ (∀ x, x < 7 → x < q ∨ 1 ≤ r → L.2.1 x = false)
  ∧ (∀ s x, s < 6 → x < 6 → 0 < (L.1 x).countP (lF s) → (s < q → x < s ∨ q ≤ x) ∧ (q ≤ s → 1 ≤ r → q ≤ x ∧ x < s))
  ∧ (∀ x, x < 6 → 0 < (L.1 x).countP (lF 6) → q ≤ x)
  ∧ (∀ s, s < 7 → (s < q ∧ 1 ≤ r) ∨ 2 ≤ r → fS s L ≤ 1)
  ∧ (1 ≤ r → ∀ v, v < 6 → (L.1 6).countP (lA v) ≤ (if v < q then 1 else 0))
  ∧ (∀ v, v < 6 → v < q → (L.1 v).countP lG = 0)
  ∧ (2 ≤ r → ∀ v, v < 6 → (L.1 v).countP lG ≤ 1)
/-- who has asked, or has been given, is idle -/
def QI (r : Nat) (Ws : Nat → Jw) (L : Jn) : Prop := (1 ≤ r → ∀ v, v < 6 → 0 < (L.1 6).countP (lA v) → (Ws v).2.1 = none) ∧ (2 ≤ r → ∀ v, v < 6 → 0 < (L.1 v).countP lG → (Ws v).2.1 = none)
def QN (r q : Nat) (L : Jn) : Prop := 2 ≤ r → (L.1 6).countP lNo ≤ 2 * q
def QQ (r q : Nat) (Ws : Nat → Jw) (L : Jn) : Prop := QL r q L ∧ QI r Ws L ∧ QN r q L
theorem QL_mono (h : QL r q L) (h2 : L'.2 = L.2) (a : ∀ s y, (L'.1 y).countP (lF s) ≤ (L.1 y).countP (lF s)) (b : ∀ s, s < 7 → fS s L' ≤ fS s L) (c : ∀ v, (L'.1 6).countP (lA v) ≤ (L.1 6).countP (lA v)) (d : ∀ v, v < 6 → (L'.1 v).countP lG ≤ (L.1 v).countP lG) : QL r q L' := by
  obtain ⟨h1, h3, h4, h5, h6, h7, h8, h9⟩ := h
  refine ⟨by rw [h2]; exact h1, by rw [h2]; exact h3, fun s x hs hx h0 => h4 s x hs hx (Nat.lt_of_lt_of_le h0 (a s x)), fun x hx h0 => h5 x hx (Nat.lt_of_lt_of_le h0 (a 6 x)), fun s hs hg => Nat.le_trans (b s hs) (h6 s hs hg), fun hr v hv => Nat.le_trans (c v) (h7 hr v hv), fun v hv hq => ?_, fun hr v hv => Nat.le_trans (d v hv) (h9 hr v hv)⟩
  have := d v hv
  have := h8 v hv hq
  omega
theorem snd_2 (h : L.2.2.1 = 0 ∧ L.2.2.2 = 0) : (jn_snd L m x).2 = L.2 := by
  rw [snd_0 h.1 h.2]
  obtain ⟨a, b, c, d⟩ := L
  obtain ⟨h1, h2⟩ := h
  show (b, (0 : Int32), (0 : Int32)) = (b, c, d)
  have h1' : c = 0 := h1
  have h2' : d = 0 := h2
  rw [h1', h2']
/-- while worker q hears -/
def QH (r q : Nat) (Ws : Nat → Jw) (L : Jn) : Prop := QL r q L ∧ QI r Ws L ∧ L.2.1 q = false ∧ (2 ≤ r → (L.1 6).countP lNo + (L.1 q).countP lG ≤ 2 * q + 1)
theorem QH_step {l : List Jm} (hq : q < 6) (h : QH r q Ws L) (hib : L.1 q = m :: l) (hm : mW C Ws kc q m) : QH r q (jx_up Ws q (jw_hear C.1 C.2.1 (Ws q) (jn_pop L q l) m).1) (jw_hear C.1 C.2.1 (Ws q) (jn_pop L q l) m).2 := by
  obtain ⟨hL, ⟨hI1, hI2⟩, hd, hN⟩ := h
  have h0 : (jn_pop L q l).2.2.1 = 0 ∧ (jn_pop L q l).2.2.2 = 0 := hL.1
  -- what is left in the inboxes
  have key : ∀ (W' : Jw) (L' : Jn), L'.2 = L.2 → (∀ s y, (L'.1 y).countP (lF s) ≤ (L.1 y).countP (lF s)) → (∀ s, s < 7 → fS s L' ≤ fS s L) → (∀ v, (L'.1 6).countP (lA v) ≤ (L.1 6).countP (lA v)) → (∀ v, v < 6 → (L'.1 v).countP lG ≤ (L.1 v).countP lG) → (m.1 2 = 1 → (L'.1 q).countP lG + 1 ≤ (L.1 q).countP lG) → (m.1 2 ≠ 1 → W'.2.1 = (Ws q).2.1 ∨ W'.2.1 = none) → (2 ≤ r → (L'.1 6).countP lNo + (L'.1 q).countP lG ≤ 2 * q + 1) → QH r q (jx_up Ws q W') L' := by
    intro W' L' e2 a b c d f g i
    refine ⟨QL_mono hL e2 a b c d, ⟨fun hr v hv h1 => ?_, fun hr v hv h1 => ?_⟩, by rw [e2]; exact hd, i⟩
    · by_cases e : v = q
      · subst e
        have := hL.2.2.2.2.2.1 hr v hv
        rw [if_neg (Nat.lt_irrefl v)] at this
        have := c v
        omega
      · rw [up_ne _ _ e]; exact hI1 hr v hv (Nat.lt_of_lt_of_le h1 (c v))
    · by_cases e : v = q
      · subst e
        rw [up_eq]
        have h9 := hL.2.2.2.2.2.2.2 hr v hv
        by_cases em : m.1 2 = 1
        · have := f em
          omega
        · rcases g em with g | g
          · rw [g]; exact hI2 hr v hv (Nat.lt_of_lt_of_le h1 (d v hv))
          · exact g
      · rw [up_ne _ _ e]; exact hI2 hr v hv (Nat.lt_of_lt_of_le h1 (d v hv))
  have hpG : m.1 2 = 1 → ((jn_pop L q l).1 q).countP lG + 1 ≤ (L.1 q).countP lG := fun e => Nat.le_of_eq (pop_1 hib (decide_eq_true e))
  have hpn : ((jn_pop L q l).1 q).countP lG ≤ (L.1 q).countP lG := pop_le hib
  have hp6 : ∀ p, ((jn_pop L q l).1 6).countP p = (L.1 6).countP p := fun p => by rw [show (jn_pop L q l).1 6 = L.1 6 from up_ne _ _ (by omega)]
  rcases hear_eff hm (Ws q) (jn_pop L q l) with ⟨e, g⟩ | ⟨e1, m', e, e2, e3⟩ | ⟨u, m', e1, e3, hu, huq, eW, e, e2⟩
  · rw [e]
    refine key _ _ rfl (fun s y => pop_le hib) (fun s _ => fS_pop hib) (fun v => pop_le hib) (fun v _ => pop_le hib) hpG g (fun hr => ?_)
    have := hN hr
    rw [hp6]; omega
  · rw [e]
    refine key _ _ (snd_2 h0) (fun s y => Nat.le_trans (snd_n h0.1 h0.2 (Or.inr (decide_eq_false (by rw [e2]; rintro ⟨z, _⟩; exact absurd z (by decide))))) (pop_le hib)) (fun s _ => Nat.le_trans (fS_n h0.1 h0.2 (Or.inr (Or.inr (Or.inl e2)))) (fS_pop hib)) (fun v => Nat.le_trans (snd_n h0.1 h0.2 (Or.inr (decide_eq_false (by rw [e2]; rintro ⟨z, _⟩; exact absurd z (by decide))))) (pop_le hib)) (fun v hv => by rw [snd_ne (by omega)]; exact pop_le hib) (fun _ => by rw [snd_ne (by omega)]; exact hpG e1) (fun z => absurd e1 z) (fun hr => ?_)
    have h1 := hN hr
    have h2 := snd_1 (m := m') (x := 6) (y := 6) (p := lNo) h0.1 h0.2
    rw [hp6] at h2
    have h3 := hpG e1
    rw [snd_ne (show q ≠ 6 by omega)]
    omega
  · rw [e]
    have hk4 : ∀ p : Int32, p ≠ 5 → p ≠ 6 → m'.1 2 ≠ p := fun p h5 h6 z => by rcases e2 with e2 | e2 <;> rw [e2] at z; exact h5 z.symm; exact h6 z.symm
    have hm1 : m.1 2 ≠ 1 := by rw [e1]; decide
    refine key _ _ (snd_2 h0) (fun s y => Nat.le_trans (snd_n h0.1 h0.2 (Or.inr (decide_eq_false (fun z => hk4 4 (by decide) (by decide) z.1)))) (pop_le hib)) (fun s hs => ?_) (fun v => Nat.le_trans (snd_n h0.1 h0.2 (Or.inr (decide_eq_false (fun z => hk4 0 (by decide) (by decide) z.1)))) (pop_le hib)) (fun v hv => Nat.le_trans (snd_n h0.1 h0.2 (Or.inr (decide_eq_false (fun z => hk4 1 (by decide) (by decide) z)))) (pop_le hib)) (fun z => absurd z hm1) (fun _ => Or.inl (by rw [eW])) (fun hr => ?_)
    · have h1 := fS_P (L := jn_pop L q l) (m := m') (x := u) (s := s) h0.1 h0.2 e2
      by_cases es : s = u
      · subst es
        rw [if_pos rfl] at h1
        have h2 := fS_popF (s := s) hq hib (decide_eq_true ⟨e1, e3⟩)
        omega
      · rw [if_neg es] at h1
        have h2 := fS_pop (s := s) hib
        omega
    · have h1 := hN hr
      have h2 : ((jn_snd (jn_pop L q l) m' u).1 6).countP lNo ≤ ((jn_pop L q l).1 6).countP lNo := snd_n h0.1 h0.2 (Or.inr (decide_eq_false (fun z => by rcases z with z | z | z; exact hk4 0 (by decide) (by decide) z; exact hk4 2 (by decide) (by decide) z; exact hk4 3 (by decide) (by decide) z)))
      rw [hp6] at h2
      rw [snd_ne (show q ≠ u from fun z => huq z.symm)]
      omega
/-- worker q has heard all -/
theorem QL_next (hq : q < 6) (h : QL r q L) (hib : L.1 q = []) (hd : L.2.1 q = false) : QL r (q + 1) L ∧ (1 ≤ r → fS q L = 0) := by
  obtain ⟨h1, h3, h4, h5, h6, h7, h8, h9⟩ := h
  have hz : ∀ p, (L.1 q).countP p = 0 := fun p => by rw [hib]; rfl
  have hf : 1 ≤ r → fS q L = 0 := fun hr => by
    refine fS_0 (fun x m hx hm => ?_) hib
    cases e : lF q m with
    | false => rfl
    | true =>
      have h0 : 0 < (L.1 x).countP (lF q) := List.countP_pos_iff.2 ⟨m, hm, e⟩
      have := (h4 q x hq hx h0).2 (Nat.le_refl q) hr
      omega
  refine ⟨⟨h1, fun x hx hg => ?_, fun s x hs hx h0 => ?_, fun x hx h0 => ?_, fun s hs hg => ?_, fun hr v hv => ?_, fun v hv hvq => ?_, h9⟩, hf⟩
  · by_cases e : x = q
    · subst e; exact hd
    · exact h3 x hx (by omega)
  · have hx' : x ≠ q := fun e => by subst e; rw [hz] at h0; omega
    have h0' := h4 s x hs hx h0
    refine ⟨fun hsq => ?_, fun hsq hr => ?_⟩
    · by_cases e : s = q
      · subst e
        omega
      · have := h0'.1 (by omega); omega
    · have := h0'.2 (by omega) hr; omega
  · have hx' : x ≠ q := fun e => by subst e; rw [hz] at h0; omega
    have := h5 x hx h0
    omega
  · rcases hg with ⟨g1, g2⟩ | g
    · by_cases e : s = q
      · subst e; rw [hf g2]; omega
      · exact h6 s hs (Or.inl ⟨by omega, g2⟩)
    · exact h6 s hs (Or.inr g)
  · have := h7 hr v hv
    split at this
    · rw [if_pos (by omega)]; exact this
    · split <;> omega
  · by_cases e : v = q
    · subst e; exact hz _
    · exact h8 v hv (by omega)
/-- worker q acts -/
theorem QQ_act {F : Nat → Jl} (hq : q < 6) (hw : wOK C Ws kc q (Ws q)) (h : QH r q Ws L) (hib : L.1 q = []) : QQ r (q + 1) (jx_up Ws q (jw_act C.1 C.2.1 C.2.2.1 F (Ws q) L).1) (jw_act C.1 C.2.1 C.2.2.1 F (Ws q) L).2 := by
  obtain ⟨hL, ⟨hI1, hI2⟩, hd, hN⟩ := h
  obtain ⟨hL1, hf⟩ := QL_next hq hL hib hd
  have h0 := hL.1
  have hz : ∀ p, (L.1 q).countP p = 0 := fun p => by rw [hib]; rfl
  have hA0 : 1 ≤ r → (L.1 6).countP (lA q) = 0 := fun hr => by
    have := hL.2.2.2.2.2.1 hr q hq
    rw [if_neg (Nat.lt_irrefl q)] at this
    omega
  have hN' : 2 ≤ r → (L.1 6).countP lNo ≤ 2 * q + 1 := fun hr => by have := hN hr; omega
  -- one that sends no FETCH and no ASK
  have key : ∀ (W' : Jw) (L' : Jn), QL r (q + 1) L' → (∀ v, v < 6 → v ≠ q → (L'.1 6).countP (lA v) ≤ (L.1 6).countP (lA v)) → (1 ≤ r → 0 < (L'.1 6).countP (lA q) → W'.2.1 = none) → (∀ v, v < 6 → (L'.1 v).countP lG ≤ (L.1 v).countP lG) → (L'.1 6).countP lNo ≤ (L.1 6).countP lNo + 1 → QQ r (q + 1) (jx_up Ws q W') L' := by
    intro W' L' a b c d e
    refine ⟨a, ⟨fun hr v hv h1 => ?_, fun hr v hv h1 => ?_⟩, fun hr => ?_⟩
    · by_cases ev : v = q
      · subst ev; rw [up_eq]; exact c hr h1
      · rw [up_ne _ _ ev]; exact hI1 hr v hv (Nat.lt_of_lt_of_le h1 (b v hv ev))
    · by_cases ev : v = q
      · subst ev
        have := d v hv
        rw [hz] at this
        omega
      · rw [up_ne _ _ ev]; exact hI2 hr v hv (Nat.lt_of_lt_of_le h1 (d v hv))
    · have := hN' hr; omega
  rcases act_eff (F := F) hw L with e | ⟨m', e, e2⟩ | ⟨m', e, e2, e3, e4⟩ | ⟨m', u, e, hu, hu6, e2, e3⟩
  · rw [e]
    exact key _ _ hL1 (fun _ _ _ => Nat.le_refl _) (fun hr h1 => by rw [hA0 hr] at h1; omega) (fun _ _ => Nat.le_refl _) (Nat.le_add_right _ _)
  · rw [e]
    have hne : ∀ p : Int32, p ≠ 2 → p ≠ 3 → m'.1 2 ≠ p := fun p h2 h3 z => by rcases e2 with e2 | e2 <;> rw [e2] at z; exact h2 z.symm; exact h3 z.symm
    have hAn : ∀ v, ((jn_snd L m' 6).1 6).countP (lA v) ≤ (L.1 6).countP (lA v) := fun v => snd_n h0.1 h0.2 (Or.inr (decide_eq_false (fun z => hne 0 (by decide) (by decide) z.1)))
    refine key _ _ (QL_mono hL1 (snd_2 h0) (fun s y => snd_n h0.1 h0.2 (Or.inr (decide_eq_false (fun z => hne 4 (by decide) (by decide) z.1)))) (fun s _ => fS_n h0.1 h0.2 (Or.inr (Or.inr e2))) hAn (fun v hv => by rw [snd_ne (by omega)]; exact Nat.le_refl _)) (fun v _ _ => hAn v) (fun hr h1 => ?_) (fun v hv => by rw [snd_ne (by omega)]; exact Nat.le_refl _) (snd_1 h0.1 h0.2)
    have := hAn q
    rw [hA0 hr] at this; omega
  · rw [e]
    have hne : ∀ p : Int32, p ≠ 0 → m'.1 2 ≠ p := fun p h2 z => h2 (z.symm.trans e2)
    have hAn : ∀ v, v < 6 → v ≠ q → ((jn_snd L m' 6).1 6).countP (lA v) ≤ (L.1 6).countP (lA v) := fun v hv hvq => snd_n h0.1 h0.2 (Or.inr (decide_eq_false (fun z => hvq (jx_inj (by omega) (by omega) (z.2.symm.trans e3)))))
    have hF : ∀ s y, ((jn_snd L m' 6).1 y).countP (lF s) ≤ (L.1 y).countP (lF s) := fun s y => snd_n h0.1 h0.2 (Or.inr (decide_eq_false (fun z => hne 4 (by decide) z.1)))
    have hG : ∀ v, v < 6 → ((jn_snd L m' 6).1 v).countP lG ≤ (L.1 v).countP lG := fun v hv => by rw [snd_ne (by omega)]; exact Nat.le_refl _
    have hfS : ∀ s, fS s (jn_snd L m' 6) ≤ fS s L := fun s => fS_n h0.1 h0.2 (Or.inl e2)
    obtain ⟨q1, q2, q3, q4, q5, q6, q7, q8⟩ := hL1
    refine key _ _ ⟨by rw [snd_2 h0]; exact q1, by rw [snd_2 h0]; exact q2, fun s x hs hx z => q3 s x hs hx (Nat.lt_of_lt_of_le z (hF s x)), fun x hx z => q4 x hx (Nat.lt_of_lt_of_le z (hF 6 x)), fun s hs g => Nat.le_trans (hfS s) (q5 s hs g), fun hr v hv => ?_, fun v hv hvq => ?_, fun hr v hv => Nat.le_trans (hG v hv) (q8 hr v hv)⟩ hAn (fun _ _ => e4) hG (snd_1 h0.1 h0.2)
    · by_cases ev : v = q
      · subst ev
        have := snd_1 (m := m') (x := 6) (y := 6) (p := lA v) h0.1 h0.2
        rw [hA0 hr] at this
        rw [if_pos (by omega)]; omega
      · exact Nat.le_trans (hAn v hv ev) (q6 hr v hv)
    · have := hG v hv
      have := q7 v hv hvq
      omega
  · rw [e]
    have hne : ∀ p : Int32, p ≠ 4 → m'.1 2 ≠ p := fun p h2 z => h2 (z.symm.trans e2)
    have hAn : ∀ v, ((jn_snd L m' u).1 6).countP (lA v) ≤ (L.1 6).countP (lA v) := fun v => by rw [snd_ne (by omega)]; exact Nat.le_refl _
    have hF : ∀ s y, s < 7 → (y ≠ u ∨ s ≠ q) → ((jn_snd L m' u).1 y).countP (lF s) ≤ (L.1 y).countP (lF s) := fun s y hs hsy => snd_n h0.1 h0.2 (by
      rcases hsy with g | g
      · exact Or.inl g
      · exact Or.inr (decide_eq_false (fun z => g (jx_inj (by omega) (by omega) (z.2.symm.trans e3)))))
    have hG : ∀ v, v < 6 → ((jn_snd L m' u).1 v).countP lG ≤ (L.1 v).countP lG := fun v hv => snd_n h0.1 h0.2 (Or.inr (decide_eq_false (hne 1 (by decide))))
    obtain ⟨q1, q2, q3, q4, q5, q6, q7, q8⟩ := hL1
    refine key _ _ ⟨by rw [snd_2 h0]; exact q1, by rw [snd_2 h0]; exact q2, fun s x hs hx z => ?_, fun x hx z => q4 x hx (Nat.lt_of_lt_of_le z (hF 6 x (by omega) (Or.inr (by omega)))), fun s hs g => ?_, fun hr v hv => Nat.le_trans (hAn v) (q6 hr v hv), fun v hv hvq => ?_, fun hr v hv => Nat.le_trans (hG v hv) (q8 hr v hv)⟩ (fun v _ _ => hAn v) (fun hr h1 => ?_) hG (by rw [snd_ne (show (6 : Nat) ≠ u by omega)]; exact Nat.le_add_right _ _)
    · by_cases g : x = u ∧ s = q
      · obtain ⟨g1, g2⟩ := g
        subst g1; subst g2
        exact ⟨fun _ => by omega, fun z _ => by omega⟩
      · exact q3 s x hs hx (Nat.lt_of_lt_of_le z (hF s x (by omega) (by
          by_cases g1 : x = u
          · exact Or.inr (fun g2 => g ⟨g1, g2⟩)
          · exact Or.inl g1)))
    · have h1 := fS_F (s := s) (show q < 7 by omega) hs hu6 h0.1 h0.2 e2 e3
      by_cases es : s = q
      · subst es
        rw [if_pos rfl, hf (by omega)] at h1
        exact h1
      · rw [if_neg es] at h1
        exact Nat.le_trans h1 (q5 s hs g)
    · have := hG v hv
      have := q7 v hv hvq
      omega
    · have := hAn q
      rw [hA0 hr] at this; omega
/-- a tick of worker q -/
theorem QQ_work (hC : CK C) (hq : q < 6) (hi : IV C Ws L kc) (h : QQ r q Ws L) : QQ r (q + 1) (jx_up Ws q (jw_work C.1 C.2.1 C.2.2.1 (cF C kc) (Ws q) L).1) (jw_work C.1 C.2.1 C.2.2.1 (cF C kc) (Ws q) L).2 := by
  have hno := (hi.1 q hq).1
  obtain ⟨hL, hI, hN⟩ := h
  have hup : QH r q Ws (jn_up L q) := by
    obtain ⟨h1, h3, h4⟩ := hL
    refine ⟨⟨h1, fun x hx g => ?_, h4⟩, hI, up_eq _ _ _, fun hr => ?_⟩
    · show jx_up L.2.1 q false x = false
      by_cases e : x = q
      · rw [e, up_eq]
      · rw [up_ne _ _ e]; exact h3 x hx g
    · have a1 := hN hr
      have a2 := h4.2.2.2.2.2 hr q hq
      show (L.1 6).countP lNo + (L.1 q).countP lG ≤ _
      omega
  obtain ⟨k1, k2, k3⟩ := hears_ind hC hq (P := QH r q) (fun Ws L m l _ hP hib hm _ _ => QH_step hq hP hib hm) (L.1 q).length Ws (jn_up L q) (show IV C Ws (jn_up L q) kc from hi) hup (Nat.le_refl _)
  have hh : jw_heard C.1 C.2.1 (Ws q) L = jw_hears C.1 C.2.1 (L.1 q).length (Ws q, jn_up L q) := by rw [jw_heard, hno]
  rw [jw_work, hh]
  have k4 := QQ_act (F := cF C kc) hq (by have := k2.1 q hq; exact this) k1 k3
  rw [up_up, up_eq] at k4
  exact k4
end QUIET
