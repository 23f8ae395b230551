/-! a worker's steps keep the invariant -/
section WSTEP
variable {C : Jc} {Ws : Nat → Jw} {L : Jn} {kc v p t : Nat} {W W' : Jw} {m : Jm}
/-- a step of worker v to z is fine -/
def SP (C : Jc) (Ws : Nat → Jw) (L : Jn) (kc v : Nat) (z : Jw × Jn) : Prop := Wle (Ws v) z.1 ∧ wOK C (jx_up Ws v z.1) kc v z.1 ∧ (∀ x, x < 6 → ∀ m, m ∈ z.2.1 x → m ∈ L.1 x ∨ mW C (jx_up Ws v z.1) kc x m) ∧ ∀ m, m ∈ z.2.1 6 → m ∈ L.1 6 ∨ mM C (jx_up Ws v z.1) kc m
theorem IV_sp (h8 : C.1.length ≤ 8) (h : IV C Ws L kc) (hv : v < 6) {z : Jw × Jn} (hs : SP C Ws L kc v z) : IV C (jx_up Ws v z.1) z.2 kc := IV_step h8 h hv hs.1 hs.2.1 hs.2.2.1 hs.2.2.2
theorem up_self {α : Type} (f : Nat → α) (i : Nat) : jx_up f i (f i) = f := by funext j; rw [jx_up]; split <;> simp_all
theorem up_up {α : Type} (f : Nat → α) (i : Nat) (a b : α) : jx_up (jx_up f i a) i b = jx_up f i b := by funext j; rw [jx_up, jx_up, jx_up]; split <;> rfl
theorem Wle_up (hw : Wle (Ws v) W') : ∀ u, u < 6 → Wle (Ws u) (jx_up Ws v W' u) := by
  intro u hu
  by_cases e : u = v
  · subst e; rw [up_eq]; exact hw
  · rw [up_ne _ _ e]; exact Wle.refl _
/-- it stays as it is, with the inboxes that there are -/
theorem SP_same (h : IV C Ws L kc) (hv : v < 6) : SP C Ws L kc v (Ws v, L) :=
  ⟨Wle.refl _, by rw [up_self]; exact h.1 v hv, fun _ _ _ hm => Or.inl hm, fun _ hm => Or.inl hm⟩
/-- the disk is as it was -/
theorem SP_keep (hd : W'.2.2.2.2 = (Ws v).2.2.2.2) (hok : wOK C (jx_up Ws v W') kc v W') : SP C Ws L kc v (W', L) :=
  ⟨Or.inl ⟨by rw [hd], fun t l e => by rw [hd]; exact e⟩, hok, fun _ _ _ hm => Or.inl hm, fun _ hm => Or.inl hm⟩
/-- it has sent a message -/
theorem SP_snd {x : Nat} (hw : Wle (Ws v) W') (hok : wOK C (jx_up Ws v W') kc v W') (h1 : x < 6 → mW C (jx_up Ws v W') kc x m) (h2 : x = 6 → mM C (jx_up Ws v W') kc m) : SP C Ws L kc v (W', jn_snd L m x) := by
  refine ⟨hw, hok, fun y hy m' hm => ?_, fun m' hm => ?_⟩
  · rcases jn_snd_mem hm with a | ⟨a1, a2⟩
    · exact Or.inl a
    · subst a1; subst a2; exact Or.inr (h1 hy)
  · rcases jn_snd_mem hm with a | ⟨a1, a2⟩
    · exact Or.inl a
    · subst a2; exact Or.inr (h2 a1.symm)
/-- at rest -/
theorem wOK_rest {Ws' : Nat → Jw} (h : wOK C Ws kc v W) : wOK C Ws' kc v (jw_rest W) := by
  obtain ⟨h1, h2, h3, h4 | ⟨p, a1, a2, a3, a4, a5⟩⟩ := h
  · exact ⟨h1, Nat.le_refl 4, ⟨h3.1, fun _ => rfl⟩, Or.inl ⟨h4.1, h4.2.1, rfl⟩⟩
  · exact ⟨h1, Nat.le_refl 4, ⟨h3.1, fun _ => rfl⟩, Or.inr ⟨p, a1, a2, a3, a4, fun j hj => by cases hj⟩⟩
theorem Wle_rest (W : Jw) : Wle W (jw_rest W) := Or.inl ⟨rfl, fun _ _ e => e⟩
theorem SP_rest (h : IV C Ws L kc) (hv : v < 6) : SP C Ws L kc v (jw_rest (Ws v), L) := SP_keep rfl (wOK_rest (h.1 v hv))
/-- it tells the Master that a task that it holds is done; W: its disk may have grown -/
theorem SP_done {l : Jl} (hok : wOK C Ws kc v W) (hw : Wle (Ws v) W) (hv : v < 6) (hp : W.2.2.2.2.1 = Int32.ofNat p) (hpc : p < C.1.length) (hpk : p ≤ kc) (ht : t < 44) (hta : W.2.2.2.2.2 t = some l) (hcv : cV C p t) (hct : cT C p t = some l) : SP C Ws L kc v (jw_rest W, jn_snd L (jw_let W 2 t) 6) := by
  have hw2 : Wle (Ws v) (jw_rest W) := hw
  refine SP_snd hw2 (wOK_rest hok) (fun h => by omega) (fun _ => Or.inr (Or.inl ⟨rfl, v, p, t, l, ?_, hv, hp, hpc, hpk, rfl, ht, hcv, hct, ?_, Or.inl ⟨l, ?_, ?_⟩⟩))
  · show Int32.ofNat (W.1 0) = _; rw [hok.1]
  · show Int32.ofNat (jd_am (W.2.2.2.2.2 t)) = _; rw [hta]; rfl
  · rw [up_eq]; exact hp
  · rw [up_eq]; exact hta
/-- it tells the Master that the JOB FAILS -/
theorem SP_fail (hok : wOK C Ws kc v W) (hw : Wle (Ws v) W) (hp : W.2.2.2.2.1 = Int32.ofNat p) (hpc : p < C.1.length) (hpk : p ≤ kc) (hx : cX C p) : SP C Ws L kc v (jw_rest W, jn_snd L (jw_let W 3 t) 6) := by
  have hw2 : Wle (Ws v) (jw_rest W) := hw
  exact SP_snd hw2 (wOK_rest hok) (fun h => by omega) (fun _ => Or.inr (Or.inr (Or.inl ⟨rfl, p, hp, hpc, hpk, hx⟩)))
theorem cA_len {ls : List Jl} (h : cA C p = some ls) : ls.length = me_ns (cI C p) := (me_seq_get _ _ h).1
theorem me_ns_38 {inp : Jl} (h : inp.length ≤ 600) : me_ns inp ≤ 38 := by rw [me_ns]; omega
theorem cI_600 (hC : CK C) : (cI C p).length ≤ 600 := jb_len (hC.2.2.2.2 p)
/-- a task is begun -/
theorem wOK_start {j : Nat} (hok0 : W.1 0 = v ∧ wR2 W) (hp : W.2.2.2.2.1 = Int32.ofNat p) (hpc : p < C.1.length) (hpk : p ≤ kc) (hdk : wDk C p W) (hj : j = cJ C p) (ht : t < 44) (hcv : cV C p t) (hta : W.2.2.2.2.2 t = none)
    (hho : 38 ≤ t → ∀ s, s < me_ns (cI C p) → ∃ u, u < 6 ∧ (jm_get m s).toInt32 = Int32.ofNat u ∧ HD Ws u p s) : wOK C Ws kc v (jw_start W m j t (me_ns (cI C p))) := by
  refine ⟨hok0.1, Nat.le_refl 4, ⟨hok0.2, fun e => by cases e⟩, Or.inr ⟨p, hp, hpc, hpk, hdk, fun j' hj' => ?_⟩⟩
  have hjj : some j = some j' := hj'
  cases hjj
  refine ⟨hj, ht, hcv, hta, ?_⟩
  rcases hcv with ⟨h1, h2⟩ | ⟨h1, h2, ls, h3, h4⟩
  · refine Or.inl ⟨?_, h1, [], Nat.zero_le _, ?_, fun k => rfl, rfl, Nat.zero_le _, rfl, rfl⟩
    · show (if t < 38 then 1 else 3) = 1; rw [if_pos h1]
    · show me_map _ ((me_rec (cI C p) t).take 0) = _; rw [List.take_zero]; rfl
  · refine Or.inr (Or.inr (Or.inl ⟨?_, h1, ls, h3, h4, ⟨?_, Nat.zero_le _, ?_, Or.inl rfl, rfl⟩, fun s hs => ?_⟩))
    · show (if t < 38 then 1 else 3) = 3; rw [if_neg (by omega)]
    · exact (cA_len h3).symm
    · show ([] : Jl) = me_gat _ _ (ls.take 0) ++ (me_sel _ _ _).take 0
      rw [List.take_zero, List.take_zero]; rfl
    · rw [cA_len h3] at hs
      obtain ⟨u, a1, a2, a3⟩ := hho h1 s hs
      refine ⟨u, a1, ?_, a3⟩
      show (if s < me_ns (cI C p) then (jm_get m s).toInt32 else _) = _
      rw [if_pos hs]; exact a2
end WSTEP
