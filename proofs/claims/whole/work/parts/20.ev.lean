/-! the pure machine comes to an end with Q -/
theorem sm_exec_succ (P : sm_P) : ∀ (f M pc : Nat) (ls : sm_L) (st : List Value) (h : sm_H) (x : sm_R × sm_H), sm_exec P f M pc ls st h = some x → sm_exec P (f + 1) M pc ls st h = some x := by
  intro f
  induction f with
  | zero => intro M pc ls st h x hx; simp [sm_exec] at hx
  | succ f ih =>
    intro M pc ls st h x hx
    rw [sm_exec] at hx ⊢
    cases ho : P.1 M pc with
    | none => rw [ho] at hx; cases hx
    | some o =>
      rw [ho] at hx
      dsimp only at hx ⊢
      cases hs : sm_step h pc o ls st with
      | none => rw [hs] at hx; cases hx
      | some n =>
        rw [hs] at hx
        rcases n with ⟨pc', ls', st', h'⟩ | ⟨N, av, rest⟩ | ⟨r, h'⟩
        · exact ih _ _ _ _ _ _ hx
        · dsimp only at hx ⊢
          by_cases hle : (sm_ent av).length ≤ P.2.1 N
          · rw [if_pos hle] at hx ⊢
            cases hc : sm_exec P f N 0 (sm_pad (sm_ent av) (P.2.1 N)) [] h with
            | none => rw [hc] at hx; cases hx
            | some y =>
              rw [hc] at hx
              rw [ih _ _ _ _ _ _ hc]
              obtain ⟨r, h'⟩ := y
              rcases r with v | k
              · exact ih _ _ _ _ _ _ hx
              · exact hx
          · rw [if_neg hle] at hx; cases hx
        · exact hx
theorem sm_exec_le (P : sm_P) {f g M pc : Nat} {ls : sm_L} {st : List Value} {h : sm_H} {x : sm_R × sm_H} (hfg : f ≤ g) (hx : sm_exec P f M pc ls st h = some x) : sm_exec P g M pc ls st h = some x := by
  induction hfg with
  | refl => exact hx
  | step _ ih => exact sm_exec_succ P _ _ _ _ _ _ _ ih
def sm_Ev (P : sm_P) (M pc : Nat) (ls : sm_L) (st : List Value) (h : sm_H) (Q : sm_R → sm_H → Prop) : Prop := ∃ f r h', sm_exec P f M pc ls st h = some (r, h') ∧ Q r h'
section SME
variable {P : sm_P} {M pc : Nat} {ls : sm_L} {st : List Value} {h : sm_H} {Q : sm_R → sm_H → Prop}
theorem sm_Ev.mono {Q' : sm_R → sm_H → Prop} (k : sm_Ev P M pc ls st h Q) (hq : ∀ r h', Q r h' → Q' r h') : sm_Ev P M pc ls st h Q' := by
  obtain ⟨f, r, h', h1, h2⟩ := k
  exact ⟨f, r, h', h1, hq r h' h2⟩
theorem Ev_next {o : sm_O} {pc' : Nat} {ls' : sm_L} {st' : List Value} {h' : sm_H} (ho : P.1 M pc = some o) (hs : sm_step h pc o ls st = some (.inl (pc', ls', st', h'))) (k : sm_Ev P M pc' ls' st' h' Q) : sm_Ev P M pc ls st h Q := by
  obtain ⟨f, r, h2, h1, hq⟩ := k
  exact ⟨f + 1, r, h2, by rw [sm_exec, ho]; dsimp only; rw [hs]; exact h1, hq⟩
theorem Ev_end {o : sm_O} {r : sm_R} {h' : sm_H} (ho : P.1 M pc = some o) (hs : sm_step h pc o ls st = some (.inr (.inr (r, h')))) (hq : Q r h') : sm_Ev P M pc ls st h Q :=
  ⟨1, r, h', by rw [sm_exec, ho]; dsimp only; rw [hs], hq⟩
theorem Ev_call {o : sm_O} {N : Nat} {av rest : List Value} {Q1 : sm_R → sm_H → Prop} (ho : P.1 M pc = some o) (hs : sm_step h pc o ls st = some (.inr (.inl (N, av, rest)))) (hle : (sm_ent av).length ≤ P.2.1 N) (hc : sm_Ev P N 0 (sm_pad (sm_ent av) (P.2.1 N)) [] h Q1)
    (k : ∀ v h', Q1 (.inl v) h' → sm_Ev P M (pc + 3) ls (v.toList ++ rest) h' Q) (kx : ∀ k h', Q1 (.inr k) h' → (∃ n, P.2.2 M pc k = some (some n) ∧ Q (.inl (some (.int (Int32.ofInt n)))) h') ∨ (P.2.2 M pc k = some none ∧ Q (.inr k) h')) : sm_Ev P M pc ls st h Q := by
  obtain ⟨f, r, h1, hf, hq⟩ := hc
  rcases r with v | j
  · obtain ⟨g, r, h2, hg, hq2⟩ := k v h1 hq
    refine ⟨f + g + 1, r, h2, ?_, hq2⟩
    rw [sm_exec, ho]
    dsimp only
    rw [hs]
    dsimp only
    rw [if_pos hle, sm_exec_le P (Nat.le_add_right f g) hf]
    exact sm_exec_le P (Nat.le_add_left g f) hg
  · rcases kx j h1 hq with ⟨n, hz, hq2⟩ | ⟨hz, hq2⟩
    · refine ⟨f + 1, .inl (some (.int (Int32.ofInt n))), h1, ?_, hq2⟩
      rw [sm_exec, ho]
      dsimp only
      rw [hs]
      dsimp only
      rw [if_pos hle, hf]
      dsimp only
      rw [hz]
    · refine ⟨f + 1, .inr j, h1, ?_, hq2⟩
      rw [sm_exec, ho]
      dsimp only
      rw [hs]
      dsimp only
      rw [if_pos hle, hf]
      dsimp only
      rw [hz]
/-- some instructions in a row -/
def sm_stp (P : sm_P) (M : Nat) : Nat → (Nat × sm_L × List Value × sm_H) → Option (Nat × sm_L × List Value × sm_H)
  | 0, x => some x
  | n + 1, x => match P.1 M x.1 with
    | none => none
    | some o => match sm_step x.2.2.2 x.1 o x.2.1 x.2.2.1 with
      | some (.inl y) => sm_stp P M n y
      | _ => none
theorem Ev_stp (n : Nat) {pc' : Nat} {ls' : sm_L} {st' : List Value} {h' : sm_H} (hs : sm_stp P M n (pc, ls, st, h) = some (pc', ls', st', h')) (k : sm_Ev P M pc' ls' st' h' Q) : sm_Ev P M pc ls st h Q := by
  induction n generalizing pc ls st h with
  | zero => cases hs; exact k
  | succ n ih =>
    rw [sm_stp] at hs
    dsimp only at hs
    cases ho : P.1 M pc with
    | none => rw [ho] at hs; cases hs
    | some o =>
      rw [ho] at hs
      dsimp only at hs
      cases hn : sm_step h pc o ls st with
      | none => rw [hn] at hs; cases hs
      | some x =>
        rw [hn] at hs
        rcases x with ⟨pc1, ls1, st1, h1⟩ | y
        · exact Ev_next ho hn (ih hs)
        · cases hs
end SME
