/-! what a JOB makes -/
section MEAN
variable {mp pg : List (Int32 × Int64)} {kd : Int32} {l l' : Jl}
theorem jx_ord_len : ∀ (j w : Nat) (l : Jl), (jx_ord j w l).length = l.length := by
  intro j
  induction j with
  | zero => intro w l; rfl
  | succ j ih =>
    intro w l
    rw [jx_ord]
    split
    · rw [ih, jx_pass_len]
    · rfl
/-- stable order by KEY -/
abbrev srt (l : Jl) : Jl := jx_ord 10 1 l
theorem srt_len (l : Jl) : (srt l).length = l.length := jx_ord_len 10 1 l
theorem srt_fk (hl : l.length ≤ 1000) (k : Int64) : jx_fk k (srt l) = jx_fk k l := (jx_ord_SS hl).2 k
theorem srt_so (hl : l.length ≤ 1000) : jx_so (srt l) := (jx_ord_SS hl).1
/-- two rows that have the same pairs of each KEY are put in order alike -/
theorem srt_eq (hl : l.length ≤ 1000) (hl' : l'.length ≤ 1000) (h : ∀ k, jx_fk k l = jx_fk k l') : srt l = srt l' :=
  jx_so_uniq _ _ (srt_so hl) (srt_so hl') (fun k => by rw [srt_fk hl, srt_fk hl', h])
/-- MAP of RECORDS, one behind the other -/
def me_map (mp : List (Int32 × Int64)) : Jl → Option Jl
  | [] => some []
  | p :: l => if (jq_grp mp 0 [p]).1 = true then (me_map mp l).map (fun e => (jq_grp mp 0 [p]).2 ++ e) else none
theorem me_map_snoc (p : Int64 × Int64) : ∀ (l : Jl), me_map mp (l ++ [p]) = (me_map mp l).bind (fun e => if (jq_grp mp 0 [p]).1 = true then some (e ++ (jq_grp mp 0 [p]).2) else none) := by
  intro l
  induction l with
  | nil =>
    show (if (jq_grp mp 0 [p]).1 = true then (some []).map (fun e => (jq_grp mp 0 [p]).2 ++ e) else none) = (if (jq_grp mp 0 [p]).1 = true then some ([] ++ (jq_grp mp 0 [p]).2) else none)
    split
    · simp
    · rfl
  | cons q l ih =>
    show (if (jq_grp mp 0 [q]).1 = true then (me_map mp (l ++ [p])).map (fun e => (jq_grp mp 0 [q]).2 ++ e) else none) = (if (jq_grp mp 0 [q]).1 = true then (me_map mp l).map (fun e => (jq_grp mp 0 [q]).2 ++ e) else none).bind _
    by_cases hq : (jq_grp mp 0 [q]).1 = true
    · rw [if_pos hq, if_pos hq, ih]
      cases me_map mp l with
      | none => rfl
      | some e =>
        show (if (jq_grp mp 0 [p]).1 = true then some (e ++ (jq_grp mp 0 [p]).2) else none).map (fun e => (jq_grp mp 0 [q]).2 ++ e) = (if (jq_grp mp 0 [p]).1 = true then some (((jq_grp mp 0 [q]).2 ++ e) ++ (jq_grp mp 0 [p]).2) else none)
        split
        · simp
        · rfl
    · rw [if_neg hq, if_neg hq]; rfl
theorem me_map_len : ∀ (l e : Jl), me_map mp l = some e → e.length ≤ 4 * l.length := by
  intro l
  induction l with
  | nil => intro e h; cases h; exact Nat.zero_le _
  | cons p l ih =>
    intro e h
    rw [me_map] at h
    split at h
    · cases h1 : me_map mp l with
      | none => rw [h1] at h; cases h
      | some e1 =>
        rw [h1] at h
        cases h
        have := ih e1 h1
        have h4 := jq_grp_len (pg := mp) (kd := 0) [p]
        rw [List.length_append, List.length_cons]; omega
    · cases h
theorem me_map_app : ∀ (l l2 : Jl), me_map mp l = none → me_map mp (l ++ l2) = none := by
  intro l
  induction l with
  | nil => intro l2 h; cases h
  | cons p l ih =>
    intro l2 h
    rw [me_map] at h
    show (if (jq_grp mp 0 [p]).1 = true then (me_map mp (l ++ l2)).map (fun e => (jq_grp mp 0 [p]).2 ++ e) else none) = none
    by_cases hp : (jq_grp mp 0 [p]).1 = true
    · rw [if_pos hp] at h ⊢
      rw [ih l2 (by cases h1 : me_map mp l with
        | none => rfl
        | some e => rw [h1] at h; cases h)]
      rfl
    · rw [if_neg hp]
/-- how many pairs of the first KEY lie in front -/
def me_k (l : Jl) : Nat := match l with
  | [] => 0
  | p :: t => 1 + (t.takeWhile (fun q => q.1 == p.1)).length
theorem me_k_le (l : Jl) : me_k l ≤ l.length := by
  cases l with
  | nil => exact Nat.le_refl 0
  | cons p t =>
    have : (t.takeWhile (fun q => q.1 == p.1)).length ≤ t.length := (List.takeWhile_prefix _).length_le
    show 1 + _ ≤ t.length + 1
    omega
theorem me_k_pos (p : Int64 × Int64) (t : Jl) : 1 ≤ me_k (p :: t) := Nat.le_add_right 1 _
/-- COMBINE or REDUCE, KEY by KEY -/
def me_fold (pg : List (Int32 × Int64)) (kd : Int32) : Nat → Jl → Option Jl
  | 0, _ => some []
  | n + 1, l => if l = [] then some [] else if (jq_grp pg kd (l.take (me_k l))).1 = true then (me_fold pg kd n (l.drop (me_k l))).map (fun e => (jq_grp pg kd (l.take (me_k l))).2 ++ e) else none
def me_fo (pg : List (Int32 × Int64)) (kd : Int32) (l : Jl) : Option Jl := me_fold pg kd l.length l
theorem me_fold_fuel : ∀ (n m : Nat) (l : Jl), l.length ≤ n → l.length ≤ m → me_fold pg kd n l = me_fold pg kd m l := by
  intro n
  induction n with
  | zero =>
    intro m l h1 h2
    have : l = [] := List.eq_nil_of_length_eq_zero (by omega)
    subst this
    cases m with
    | zero => rfl
    | succ m => rfl
  | succ n ih =>
    intro m l h1 h2
    cases l with
    | nil => cases m <;> rfl
    | cons p t =>
      cases m with
      | zero => simp at h2
      | succ m =>
        have hk := me_k_pos p t
        have hd : ((p :: t).drop (me_k (p :: t))).length ≤ t.length := by rw [List.length_drop, List.length_cons]; omega
        rw [List.length_cons] at h1 h2
        rw [me_fold, me_fold, ih m _ (by omega) (by omega)]
theorem me_fo_nil : me_fo pg kd [] = some [] := rfl
theorem me_fo_step (hl : l ≠ []) : me_fo pg kd l = if (jq_grp pg kd (l.take (me_k l))).1 = true then (me_fo pg kd (l.drop (me_k l))).map (fun e => (jq_grp pg kd (l.take (me_k l))).2 ++ e) else none := by
  cases l with
  | nil => exact absurd rfl hl
  | cons p t =>
    have hk := me_k_pos p t
    have hd : ((p :: t).drop (me_k (p :: t))).length ≤ t.length := by rw [List.length_drop, List.length_cons]; omega
    show me_fold pg kd (t.length + 1) (p :: t) = _
    rw [me_fold, if_neg hl, me_fo, me_fold_fuel t.length ((p :: t).drop (me_k (p :: t))).length _ hd (Nat.le_refl _)]
theorem me_fold_len : ∀ (n : Nat) (l e : Jl), me_fold pg kd n l = some e → e.length ≤ 4 * n := by
  intro n
  induction n with
  | zero => intro l e h; cases h; exact Nat.zero_le _
  | succ n ih =>
    intro l e h
    rw [me_fold] at h
    split at h
    · cases h; exact Nat.zero_le _
    · split at h
      · cases h1 : me_fold pg kd n (l.drop (me_k l)) with
        | none => rw [h1] at h; cases h
        | some e1 =>
          rw [h1] at h
          cases h
          have := ih _ e1 h1
          have h4 := jq_grp_len (pg := pg) (kd := kd) (l.take (me_k l))
          rw [List.length_append]; omega
      · cases h
theorem me_fo_len {e : Jl} (h : me_fo pg kd l = some e) : e.length ≤ 4 * l.length := me_fold_len _ _ _ h
/-- the worker's group at place f -/
theorem jx_eok_k {f : Nat} (hf : f < l.length) : jx_eok l f - f = me_k (l.drop f) := by
  rw [List.drop_eq_getElem_cons hf, jx_eok]
  show f + 1 + _ - f = 1 + _
  rw [show jx_k l f = l[f].1 from by rw [jx_k, List.getElem?_eq_getElem hf]; rfl]
  omega
/-- what SPLIT t makes of the RECORDS in -/
def me_rec (inp : Jl) (t : Nat) : Jl := (inp.drop (16 * t)).take 16
def me_spl (pr : Nat → List (Int32 × Int64)) (inp : Jl) (t : Nat) : Option Jl := (me_map (pr 0) (me_rec inp t)).bind (fun e => if (pr 1).length = 0 then some (srt e) else me_fo (pr 1) 1 (srt e))
def me_ns (inp : Jl) : Nat := (inp.length + 15) / 16
/-- a row of answers, if all are there -/
def me_seq (f : Nat → Option Jl) : Nat → Option (List Jl)
  | 0 => some []
  | n + 1 => (me_seq f n).bind (fun ls => (f n).map (fun l => ls ++ [l]))
theorem me_seq_get {f : Nat → Option Jl} : ∀ (n : Nat) (ls : List Jl), me_seq f n = some ls → ls.length = n ∧ ∀ i, i < n → f i = ls[i]? := by
  intro n
  induction n with
  | zero => intro ls h; cases h; exact ⟨rfl, fun i hi => absurd hi (by omega)⟩
  | succ n ih =>
    intro ls h
    rw [me_seq] at h
    cases h1 : me_seq f n with
    | none => rw [h1] at h; cases h
    | some l1 =>
      rw [h1] at h
      cases h2 : f n with
      | none => simp [h2] at h
      | some l2 =>
        simp [h2] at h
        obtain ⟨e1, e2⟩ := ih l1 h1
        subst h
        refine ⟨by simp [e1], fun i hi => ?_⟩
        by_cases hin : i < n
        · rw [List.getElem?_append_left (by omega)]; exact e2 i hin
        · have : i = n := by omega
          subst this
          rw [h2, ← e1]; simp
theorem me_seq_none {f : Nat → Option Jl} {i : Nat} (hi : f i = none) : ∀ (n : Nat), i < n → me_seq f n = none := by
  intro n
  induction n with
  | zero => intro h; omega
  | succ n ih =>
    intro h
    rw [me_seq]
    by_cases hin : i < n
    · rw [ih hin]; rfl
    · have : i = n := by omega
      subst this
      rw [hi]
      cases me_seq f i <;> rfl
theorem me_seq_some {f : Nat → Option Jl} : ∀ (n : Nat), (∀ i, i < n → f i ≠ none) → ∃ ls, me_seq f n = some ls := by
  intro n
  induction n with
  | zero => intro _; exact ⟨[], rfl⟩
  | succ n ih =>
    intro h
    obtain ⟨ls, e⟩ := ih (fun i hi => h i (by omega))
    obtain ⟨l, e2⟩ := Option.ne_none_iff_exists'.1 (h n (by omega))
    exact ⟨ls ++ [l], by rw [me_seq, e, e2]; rfl⟩
def me_all (pr : Nat → List (Int32 × Int64)) (inp : Jl) : Option (List Jl) := me_seq (me_spl pr inp) (me_ns inp)
def me_sum (ls : List Jl) : Nat := (ls.map List.length).sum
/-- the pairs of PART r of all SPLITS -/
def me_gat (np r : Nat) (ls : List Jl) : Jl := (ls.map (jd_sel np 0 (Int32.ofNat r))).flatten
def me_red (pr : Nat → List (Int32 × Int64)) (np : Nat) (ls : List Jl) (r : Nat) : Option Jl := me_fo (pr 2) 2 (srt (me_gat np r ls))
def me_par (pr : Nat → List (Int32 × Int64)) (np : Nat) (ls : List Jl) : Option (List Jl) := if me_sum ls ≤ 1000 then me_seq (me_red pr np ls) np else none
/-- what a JOB makes, if it does not FAIL -/
def me_out (pr : Nat → List (Int32 × Int64)) (np : Nat) (inp : Jl) : Option Jl := (me_all pr inp).bind (fun ls => (me_par pr np ls).bind (fun os => if me_sum os ≤ 300 then some os.flatten else none))
/-- THE RUN: the FILES behind it, and the JOB that FAILED -/
def me_run (G : Nat → Nat → Int32) (PR : Nat → Nat → List (Int32 × Int64)) : List Nat → (Nat → Jl) → (Nat → Jl) × Option Nat
  | [], F => (F, none)
  | j :: l, F => match me_out (PR j) (ji (G j 5)) (jb_in G F j) with
    | none => (F, some j)
    | some o => me_run G PR l (jx_up F (ji (G j 4)) o)
/-- the FILES behind p JOBS -/
def me_F (G : Nat → Nat → Int32) (PR : Nat → Nat → List (Int32 × Int64)) (cl : List Nat) (F : Nat → Jl) : Nat → (Nat → Jl)
  | 0 => F
  | p + 1 => match cl[p]? with
    | none => me_F G PR cl F p
    | some j => match me_out (PR j) (ji (G j 5)) (jb_in G (me_F G PR cl F p) j) with
      | none => me_F G PR cl F p
      | some o => jx_up (me_F G PR cl F p) (ji (G j 4)) o
end MEAN
