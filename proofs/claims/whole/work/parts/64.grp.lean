/-! a call reads only the VALUES from one place up to another -/
section GRP
variable {kd : Int32} {ky : Int64} {l : Jl} {f t : Nat} {q : JQ} {pg : List (Int32 × Int64)}
def jq_sh (f : Nat) (q : JQ) : JQ := (q.1, q.2.1, q.2.2.1, q.2.2.2.1, q.2.2.2.2 - f)
theorem sh_push (x : Int64) (q : JQ) : jq_push x (jq_sh f q) = jq_sh f (jq_push x q) := by
  rw [jq_push, jq_push]
  show (if q.1.length < 12 then _ else _) = _
  split <;> rfl
theorem sh_pop (q : JQ) : jq_pop (jq_sh f q) = ((jq_pop q).1, jq_sh f (jq_pop q).2) := by
  obtain ⟨s, z⟩ := q
  cases s <;> rfl
theorem sh_trap (q : JQ) : jq_trap (jq_sh f q) = jq_sh f (jq_trap q) := rfl
theorem sh_bin (g : Int64 → Int64 → Int64) (q : JQ) : jq_bin g (jq_sh f q) = jq_sh f (jq_bin g q) := by
  rw [jq_bin, jq_bin, sh_pop]
  show jq_push (g (jq_pop (jq_sh f (jq_pop q).2)).1 (jq_pop q).1) (jq_pop (jq_sh f (jq_pop q).2)).2 = _
  rw [sh_pop, sh_push]
theorem sh_div (x y : Int64) (q : JQ) : jq_div x y (jq_sh f q) = jq_sh f (jq_div x y q) := by
  rw [jq_div, jq_div]
  split
  · rfl
  · exact sh_push _ _
theorem sh_quo (q : JQ) : jq_quo (jq_sh f q) = jq_sh f (jq_quo q) := by
  rw [jq_quo, jq_quo, sh_pop]
  show jq_div (jq_pop (jq_sh f (jq_pop q).2)).1 (jq_pop q).1 (jq_pop (jq_sh f (jq_pop q).2)).2 = _
  rw [sh_pop, sh_div]
theorem sh_dbl (q : JQ) : jq_dbl (jq_sh f q) = jq_sh f (jq_dbl q) := by
  rw [jq_dbl, jq_dbl, sh_pop]
  show jq_push (jq_pop q).1 (jq_push (jq_pop q).1 (jq_sh f (jq_pop q).2)) = _
  rw [sh_push, sh_push]
theorem sh_swp (q : JQ) : jq_swp (jq_sh f q) = jq_sh f (jq_swp q) := by
  rw [jq_swp, jq_swp, sh_pop]
  show jq_push (jq_pop (jq_sh f (jq_pop q).2)).1 (jq_push (jq_pop q).1 (jq_pop (jq_sh f (jq_pop q).2)).2) = _
  rw [sh_pop, sh_push, sh_push]
theorem sh_add (k v : Int64) (q : JQ) : jq_add k v (jq_sh f q) = jq_sh f (jq_add k v q) := by
  rw [jq_add, jq_add]
  show (if q.2.2.2.1.length < 4 then _ else _) = _
  split <;> rfl
theorem sh_emit (q : JQ) : jq_emit kd ky (jq_sh f q) = jq_sh f (jq_emit kd ky q) := by
  have h1 : ∀ p, jq_of kd ky (jq_sh f p) = ((jq_of kd ky p).1, jq_sh f (jq_of kd ky p).2) := by
    intro p
    rw [jq_of, jq_of]
    split
    · rfl
    · exact sh_pop p
  rw [jq_emit, jq_emit, sh_pop]
  show jq_add (jq_of kd ky (jq_sh f (jq_pop q).2)).1 (jq_pop q).1 (jq_of kd ky (jq_sh f (jq_pop q).2)).2 = _
  rw [h1, sh_add]
theorem sh_v (h1 : f ≤ q.2.2.2.2) (h2 : q.2.2.2.2 < t) : jx_v ((l.drop f).take (t - f)) (q.2.2.2.2 - f) = jx_v l q.2.2.2.2 := by
  rw [jx_v, jx_v, List.getElem?_take_of_lt (by omega), List.getElem?_drop, show f + (q.2.2.2.2 - f) = q.2.2.2.2 from by omega]
theorem sh_rv (h1 : f ≤ q.2.2.2.2) (h2 : q.2.2.2.2 ≤ t) (h3 : kd = 0 → q.2.2.2.2 < t) : jq_rv kd ((l.drop f).take (t - f)) (t - f) (jq_sh f q) = ((jq_rv kd l t q).1, jq_sh f (jq_rv kd l t q).2) := by
  rw [jq_rv, jq_rv]
  by_cases hk : kd = 0
  · rw [if_pos hk, if_pos hk]
    show (jx_v _ (q.2.2.2.2 - f), _) = _
    rw [sh_v h1 (h3 hk)]
  · rw [if_neg hk, if_neg hk]
    by_cases he : t ≤ q.2.2.2.2
    · rw [if_pos he, if_pos (show t - f ≤ (jq_sh f q).2.2.2.2 from (show t - f ≤ q.2.2.2.2 - f by omega))]; rfl
    · rw [if_neg he, if_neg (show ¬ t - f ≤ (jq_sh f q).2.2.2.2 from (show ¬ t - f ≤ q.2.2.2.2 - f by omega))]
      show (jx_v _ (q.2.2.2.2 - f), _) = _
      rw [sh_v h1 (by omega)]
      show (_, (q.1, q.2.1, q.2.2.1, q.2.2.2.1, q.2.2.2.2 - f + 1)) = (_, (q.1, q.2.1, q.2.2.1, q.2.2.2.1, q.2.2.2.2 + 1 - f))
      rw [show q.2.2.2.2 - f + 1 = q.2.2.2.2 + 1 - f from by omega]
theorem sh_rm (h1 : f ≤ q.2.2.2.2) : jq_rm kd (t - f) (jq_sh f q) = jq_rm kd t q := by
  rw [jq_rm, jq_rm]
  show (if kd ≠ 0 ∧ q.2.2.2.2 - f < t - f then _ else _) = _
  by_cases hk : kd ≠ 0 ∧ q.2.2.2.2 < t
  · rw [if_pos hk, if_pos ⟨hk.1, by omega⟩]
  · rw [if_neg hk, if_neg (fun z => hk ⟨z.1, by omega⟩)]
theorem sh_obey {k tt : Nat} {c : Int64} (h1 : f ≤ q.2.2.2.2) (h2 : q.2.2.2.2 ≤ t) (h3 : kd = 0 → q.2.2.2.2 < t) : jq_obey kd ky ((l.drop f).take (t - f)) (t - f) k c tt (jq_sh f q) = ((jq_obey kd ky l t k c tt q).1, jq_sh f (jq_obey kd ky l t k c tt q).2) := by
  unfold jq_obey
  split
  · show (_, jq_push c (jq_sh f q)) = _; rw [sh_push]
  · show (_, jq_push ky (jq_sh f q)) = _; rw [sh_push]
  · show (_, jq_push _ _) = (_, jq_sh f (jq_push _ _)); rw [sh_rv h1 h2 h3, sh_push]
  · show (_, jq_push _ _) = (_, jq_sh f (jq_push _ _)); rw [sh_rm h1, sh_push]
  · show (_, jq_push (q.2.2.1 _) (jq_sh f q)) = _; rw [sh_push]
  · rw [sh_pop]; rfl
  · rw [sh_bin]
  · rw [sh_bin]
  · rw [sh_bin]
  · rw [sh_quo]
  · rw [sh_bin]
  · rw [sh_bin]
  · rw [sh_dbl]
  · rw [sh_pop]
  · rw [sh_swp]
  · rfl
  · rw [sh_pop]
  · rw [sh_emit]
theorem jq_obey_nx2 {en k tt : Nat} {c : Int64} : (jq_obey kd ky l en k c tt q).2.2.2.2.2 = q.2.2.2.2 ∨ (kd ≠ 0 ∧ (jq_obey kd ky l en k c tt q).2.2.2.2.2 = q.2.2.2.2 + 1) := by
  by_cases hk : k = 2
  · subst hk
    show (jq_push (jq_rv kd l en q).1 (jq_rv kd l en q).2).2.2.2.2 = _ ∨ _ ∧ (jq_push (jq_rv kd l en q).1 (jq_rv kd l en q).2).2.2.2.2 = _
    rw [jq_push_nx, jq_rv]
    by_cases h0 : kd = 0
    · rw [if_pos h0]; exact Or.inl rfl
    · rw [if_neg h0]
      split
      · exact Or.inl rfl
      · exact Or.inr ⟨h0, rfl⟩
  · left
    unfold jq_obey
    split
    · rw [jq_push_nx]
    · rw [jq_push_nx]
    · exact absurd rfl hk
    · rw [jq_push_nx]
    · rw [jq_push_nx]
    · exact jq_pop_nx q
    · rw [jq_bin_nx]
    · rw [jq_bin_nx]
    · rw [jq_bin_nx]
    · have h1 : ∀ x y p, (jq_div x y p).2.2.2.2 = p.2.2.2.2 := by intro x y p; rw [jq_div]; split <;> first | rfl | exact jq_push_nx _ _
      rw [jq_quo, h1, jq_pop_nx, jq_pop_nx]
    · rw [jq_bin_nx]
    · rw [jq_bin_nx]
    · rw [jq_dbl, jq_push_nx, jq_push_nx, jq_pop_nx]
    · rw [jq_pop_nx]
    · rw [jq_swp, jq_push_nx, jq_push_nx, jq_pop_nx, jq_pop_nx]
    · rfl
    · rw [jq_pop_nx]
    · rw [jq_emit_nx]
theorem sh_loop : ∀ (n tt : Nat) (q : JQ), f ≤ q.2.2.2.2 → q.2.2.2.2 ≤ t → (kd = 0 → q.2.2.2.2 < t) → jq_loop pg kd ky ((l.drop f).take (t - f)) (t - f) n tt (jq_sh f q) = ((jq_loop pg kd ky l t n tt q).1, jq_sh f (jq_loop pg kd ky l t n tt q).2) := by
  intro n
  induction n with
  | zero => intro tt q h1 h2 h3; rfl
  | succ n ih =>
    intro tt q h1 h2 h3
    rw [jq_loop, jq_loop]
    cases hp : pg[tt]? with
    | none => rfl
    | some p =>
      show (if p.1 = 18 then _ else _) = ((if p.1 = 18 then _ else _ : Bool × JQ).1, jq_sh f (if p.1 = 18 then _ else _ : Bool × JQ).2)
      by_cases h18 : p.1 = 18
      · rw [if_pos h18, if_pos h18]
      · rw [if_neg h18, if_neg h18, sh_obey h1 h2 h3]
        have hn := jq_obey_nx2 (kd := kd) (ky := ky) (l := l) (en := t) (k := p.1.toNatClampNeg) (c := p.2) (tt := tt) (q := q)
        have hn2 := jq_obey_nx (kd := kd) (ky := ky) (l := l) (k := p.1.toNatClampNeg) (c := p.2) (t := tt) h2
        show (if (jq_obey kd ky l t p.1.toNatClampNeg p.2 tt q).2.2.1 = true then _ else _) = _
        by_cases htr : (jq_obey kd ky l t p.1.toNatClampNeg p.2 tt q).2.2.1 = true
        · rw [if_pos htr, if_pos htr]
        · rw [if_neg htr, if_neg htr]
          exact ih _ _ (by omega) hn2 (fun h0 => by
            have := h3 h0
            rcases hn with e | e
            · omega
            · exact absurd h0 e.1)
/-- one call for a KEY and its VALUES -/
def jq_grp (pg : List (Int32 × Int64)) (kd : Int32) (g : Jl) : Bool × Jl := jq_call pg kd g 0 g.length
theorem jq_call_grp (h1 : f < t) (h2 : t ≤ l.length) : jq_call pg kd l f t = jq_grp pg kd ((l.drop f).take (t - f)) := by
  have hlen : ((l.drop f).take (t - f)).length = t - f := by rw [List.length_take, List.length_drop]; omega
  have hk : jx_k ((l.drop f).take (t - f)) 0 = jx_k l f := by
    rw [jx_k, jx_k, List.getElem?_take_of_lt (by omega), List.getElem?_drop, Nat.add_zero]
  rw [jq_grp, jq_call, jq_call, hlen, hk]
  have := sh_loop (kd := kd) (ky := jx_k l f) (pg := pg) (l := l) (f := f) (t := t) 400 0 ([], false, fun _ => 0, [], f) (Nat.le_refl f) (Nat.le_of_lt h1) (fun _ => h1)
  rw [show jq_sh f ([], false, fun _ => 0, [], f) = ([], false, fun _ => 0, [], 0) from by show (_, _, _, _, f - f) = _; rw [Nat.sub_self]] at this
  rw [this]
  rfl
theorem jq_call_one {p : Int64 × Int64} {i : Nat} (e : l[i]? = some p) : jq_call pg kd l i (i + 1) = jq_grp pg kd [p] := by
  have hi : i < l.length := (List.getElem?_eq_some_iff.1 e).1
  rw [jq_call_grp (by omega) (by omega), show i + 1 - i = 1 from by omega, List.take_one, List.head?_drop, e]; rfl
/-- a call emits at most 4 -/
theorem jq_grp_len (g : Jl) : (jq_grp pg kd g).2.length ≤ 4 := by
  have h0 : ∀ p q, (jq_push p q).2.2.2.1 = q.2.2.2.1 := by intro p q; rw [jq_push]; split <;> rfl
  have h1 : ∀ q, (jq_pop q).2.2.2.2.1 = q.2.2.2.1 := by intro q; rw [jq_pop]; split <;> rfl
  have hb : ∀ g q, (jq_bin g q).2.2.2.1 = q.2.2.2.1 := by intro g q; rw [jq_bin, h0, h1, h1]
  have hd : ∀ x y p, (jq_div x y p).2.2.2.1 = p.2.2.2.1 := by intro x y p; rw [jq_div]; split <;> first | rfl | exact h0 _ _
  have hr : ∀ kd l en q, (jq_rv kd l en q).2.2.2.2.1 = q.2.2.2.1 := by intro kd l en q; rw [jq_rv]; split; · rfl
                                                                       split <;> rfl
  have ho : ∀ (kd : Int32) (ky : Int64) (l : Jl) (en k : Nat) (c : Int64) (tt : Nat) (q : JQ), q.2.2.2.1.length ≤ 4 → (jq_obey kd ky l en k c tt q).2.2.2.2.1.length ≤ 4 := by
    intro kd ky l en k c tt q hq
    unfold jq_obey
    split
    · rw [h0]; exact hq
    · rw [h0]; exact hq
    · rw [h0, hr]; exact hq
    · rw [h0]; exact hq
    · rw [h0]; exact hq
    · show (jq_pop q).2.2.2.2.1.length ≤ 4; rw [h1]; exact hq
    · rw [hb]; exact hq
    · rw [hb]; exact hq
    · rw [hb]; exact hq
    · rw [jq_quo, hd, h1, h1]; exact hq
    · rw [hb]; exact hq
    · rw [hb]; exact hq
    · rw [jq_dbl, h0, h0, h1]; exact hq
    · rw [h1]; exact hq
    · rw [jq_swp, h0, h0, h1, h1]; exact hq
    · exact hq
    · rw [h1]; exact hq
    · have h2 : ∀ p, (jq_of kd ky p).2.2.2.2.1 = p.2.2.2.1 := by intro p; rw [jq_of]; split <;> first | rfl | exact h1 p
      rw [jq_emit, jq_add]
      split
      · rename_i hl
        rw [h2, h1] at hl
        show (_ ++ [_]).length ≤ 4
        rw [List.length_append, h2, h1, List.length_singleton]; omega
      · show (jq_of kd ky (jq_pop q).2).2.2.2.2.1.length ≤ 4
        rw [h2, h1]; exact hq
  have hl : ∀ (n tt : Nat) (q : JQ) (ky : Int64) (l : Jl) (en : Nat), q.2.2.2.1.length ≤ 4 → (jq_loop pg kd ky l en n tt q).2.2.2.2.1.length ≤ 4 := by
    intro n
    induction n with
    | zero => intro tt q ky l en hq; exact hq
    | succ n ih =>
      intro tt q ky l en hq
      rw [jq_loop]
      split
      · exact hq
      · split
        · exact hq
        · split
          · exact ho _ _ _ _ _ _ _ _ hq
          · exact ih _ _ _ _ _ (ho _ _ _ _ _ _ _ _ hq)
  exact hl 400 0 _ _ _ _ (by decide)
end GRP
