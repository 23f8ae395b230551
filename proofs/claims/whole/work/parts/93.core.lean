/-! the Master's memory and the journal -/
section CORE
variable {cl : List Nat} {G : Nat → Nat → Int32} {F F' : Nat → Jl} {K K' : Jk} {R : Jr} {e : Je}
/-- the part of the memory that the journal keeps -/
def coEq (K K' : Jk) : Prop := K.1 9 = K'.1 9 ∧ K.2.1 = K'.2.1 ∧ K.2.2.1 = K'.2.2.1 ∧ K.2.2.2.1 = K'.2.2.2.1 ∧ K.1 12 = K'.1 12 ∧ K.1 13 = K'.1 13 ∧ K.1 14 = K'.1 14 ∧ K.1 15 = K'.1 15
theorem coEq.refl (K : Jk) : coEq K K := ⟨rfl, rfl, rfl, rfl, rfl, rfl, rfl, rfl⟩
theorem coEq.symm (h : coEq K K') : coEq K' K := ⟨h.1.symm, h.2.1.symm, h.2.2.1.symm, h.2.2.2.1.symm, h.2.2.2.2.1.symm, h.2.2.2.2.2.1.symm, h.2.2.2.2.2.2.1.symm, h.2.2.2.2.2.2.2.symm⟩
theorem coEq.trans {K2 : Jk} (h : coEq K K') (g : coEq K' K2) : coEq K K2 := ⟨h.1.trans g.1, h.2.1.trans g.2.1, h.2.2.1.trans g.2.2.1, h.2.2.2.1.trans g.2.2.2.1, h.2.2.2.2.1.trans g.2.2.2.2.1, h.2.2.2.2.2.1.trans g.2.2.2.2.2.1, h.2.2.2.2.2.2.1.trans g.2.2.2.2.2.2.1, h.2.2.2.2.2.2.2.trans g.2.2.2.2.2.2.2⟩
theorem co_open {p : Nat} (h : coEq K K') : coEq (jk_open cl G F K p) (jk_open cl G F' K' p) := ⟨rfl, h.2.1, rfl, rfl, rfl, rfl, rfl, rfl⟩
theorem co_sf {x : Int32} (h : coEq K K') : coEq (jk_sf K x) (jk_sf K' x) := ⟨h.1, rfl, h.2.2⟩
theorem co_note {t n : Nat} {x : Int32} (h : coEq K K') : coEq (jk_note K t x n) (jk_note K' t x n) := by
  obtain ⟨h1, h2, h3, h4, h5, h6, h7, h8⟩ := h
  rw [jk_note, jk_note]
  split
  · refine ⟨h1, h2, h3, ?_, ?_, h6, ?_, h8⟩
    · show jx_up K.2.2.2.1 t x = jx_up K'.2.2.2.1 t x; rw [h4]
    · show K.1 12 + 1 = K'.1 12 + 1; rw [h5]
    · show K.1 14 + n = K'.1 14 + n; rw [h7]
  · refine ⟨h1, h2, h3, ?_, h5, ?_, h7, ?_⟩
    · show jx_up K.2.2.2.1 t x = jx_up K'.2.2.2.1 t x; rw [h4]
    · show K.1 13 + 1 = K'.1 13 + 1; rw [h6]
    · show K.1 15 + n = K'.1 15 + n; rw [h8]
theorem co_forget : coEq (jk_forget cl G F K) (jk_forget cl G F' K') := ⟨rfl, rfl, rfl, rfl, rfl, rfl, rfl, rfl⟩
theorem co_rec1 (h : coEq K K') : coEq (jk_rec1 cl G F K e) (jk_rec1 cl G F' K' e) := by
  rw [jk_rec1, jk_rec1]
  split
  · rw [h.1]; exact co_open h
  · split
    · rw [h.1]; exact co_sf h
    · exact co_note h
theorem co_recs : ∀ (l : List Je) (K K' : Jk), coEq K K' → coEq (jk_recs cl G F l K) (jk_recs cl G F' l K') := by
  intro l
  induction l with
  | nil => intro K K' h; exact h
  | cons e l ih => intro K K' h; exact ih _ _ (co_rec1 h)
theorem rok_co : ∀ (l : List Je) (K K' : Jk), coEq K K' → jk_rok cl G F l K → jk_rok cl G F' l K' := by
  intro l
  induction l with
  | nil => intro K K' h hr; trivial
  | cons e l ih =>
    intro K K' h hr
    obtain ⟨⟨a1, a2, a3⟩, hr2⟩ := hr
    refine ⟨⟨fun x => by rw [← h.1]; exact a1 x, fun x => by rw [← h.1]; exact a2 x, fun x y => ?_⟩, ih _ _ (co_rec1 h) hr2⟩
    obtain ⟨b1, b2, b3, b4, b5, b6, b7, b8⟩ := a3 x y
    exact ⟨b1, b2, b3, b4, by rw [← h.2.2.2.2.1]; exact b5, by rw [← h.2.2.2.2.2.1]; exact b6, by rw [← h.2.2.2.2.2.2.1]; exact b7, by rw [← h.2.2.2.2.2.2.2]; exact b8⟩
theorem recs_snoc : ∀ (l : List Je) (K : Jk), jk_recs cl G F (l ++ [e]) K = jk_rec1 cl G F (jk_recs cl G F l K) e := by
  intro l
  induction l with
  | nil => intro K; rfl
  | cons x l ih => intro K; exact ih _
theorem rok_snoc : ∀ (l : List Je) (K : Jk), jk_rok cl G F l K → ((e.1 = 1 → (jk_recs cl G F l K).1 9 + 1 < 100) ∧ (e.1 = 2 → (jk_recs cl G F l K).1 9 < cl.length) ∧ (e.1 ≠ 1 → e.1 ≠ 2 → jn0 e.2.1 ∧ ji e.2.1 < 44 ∧ jn0 e.2.2.2 ∧ ji e.2.2.2 < 10000 ∧ (jk_recs cl G F l K).1 12 < 10000 ∧ (jk_recs cl G F l K).1 13 < 10000 ∧ (jk_recs cl G F l K).1 14 < 10000000 ∧ (jk_recs cl G F l K).1 15 < 10000000)) → jk_rok cl G F (l ++ [e]) K := by
  intro l
  induction l with
  | nil => intro K h1 h2; exact ⟨h2, trivial⟩
  | cons x l ih => intro K h1 h2; exact ⟨h1.1, ih _ h1.2 h2⟩
/-- what the journal says -/
abbrev jk_said (cl : List Nat) (G : Nat → Nat → Int32) (F : Nat → Jl) (R : Jr) (K : Jk) : Jk := jk_recs cl G F R.1 (jk_forget cl G F K)
theorem jr_w_1 : (jr_w R e).1 = R.1 ++ [e] := by rw [jr_w]; split <;> rfl
theorem said_w : coEq (jk_said cl G F (jr_w R e) K) (jk_rec1 cl G F (jk_said cl G F R K) e) := by
  show coEq (jk_recs cl G F (jr_w R e).1 (jk_forget cl G F K)) _
  rw [jr_w_1, recs_snoc]; exact coEq.refl _
/-- how many of n tasks are done -/
def dnOn (d : Nat → Int32) (k n : Nat) : Nat := sumOn (fun i => if d (k + i) = -1 then 0 else 1) n
theorem dnOn_up {d : Nat → Int32} {k n t : Nat} {x : Int32} (hk : k ≤ t) (hn : t < k + n) (hd : d t = -1) (hx : x ≠ -1) : dnOn (jx_up d t x) k n = dnOn d k n + 1 := by
  have := sumOn_up (f := fun i => if d (k + i) = -1 then 0 else 1) (g := fun i => if jx_up d t x (k + i) = -1 then 0 else 1) (k := t - k) (fun i hi => by show (if jx_up d t x (k + i) = -1 then 0 else 1) = _; rw [up_ne _ _ (by omega)]) n (by omega)
  simp only [show k + (t - k) = t from by omega, up_eq, hd, if_true, if_neg hx] at this
  show sumOn _ n = sumOn _ n + 1
  omega
theorem dnOn_ne {d : Nat → Int32} {k n t : Nat} {x : Int32} (hk : t < k ∨ k + n ≤ t) : dnOn (jx_up d t x) k n = dnOn d k n :=
  sumOn_eq n (fun i hi => by rw [up_ne _ _ (by omega)])
theorem dnOn_le {d : Nat → Int32} {k n : Nat} : dnOn d k n ≤ n := by
  have h1 : dnOn d k n ≤ sumOn (fun _ => 1) n := sumOn_le n (fun i _ => by split <;> omega)
  have h2 : ∀ m, sumOn (fun _ => 1) m = m := by
    intro m
    induction m with
    | zero => rfl
    | succ m ih => rw [sumOn, ih]
  rw [h2] at h1
  exact h1
/-- if as many are done as there are, all are done -/
theorem dnOn_all {d : Nat → Int32} {k : Nat} : ∀ (n s : Nat), s ≤ n → (∀ i, s ≤ i → i < n → d (k + i) = -1) → s ≤ dnOn d k n → ∀ i, i < s → d (k + i) ≠ -1 := by
  intro n s hs hz hc i hi e
  have h1 : dnOn d k n = dnOn d k s := sumOn_pad n hs (fun j h2 h3 => by rw [hz j h2 h3]; rfl)
  have h2 := sumOn_up (f := fun j => if d (k + j) = -1 then 0 else 1) (g := fun j => if j = i then 1 else if d (k + j) = -1 then 0 else 1) (k := i) (fun j hj => by rw [if_neg hj]) s hi
  simp only [e, if_true] at h2
  have h3 : sumOn (fun j => if j = i then 1 else if d (k + j) = -1 then 0 else 1) s ≤ sumOn (fun _ => 1) s := by
    refine sumOn_le s (fun j _ => ?_)
    show (if j = i then 1 else if d (k + j) = -1 then 0 else 1) ≤ 1
    split
    · omega
    · split <;> omega
  have h4 : ∀ m, sumOn (fun _ => 1) m = m := by
    intro m
    induction m with
    | zero => rfl
    | succ m ih => rw [sumOn, ih]
  rw [h4] at h3
  have h5 : dnOn d k s = sumOn (fun j => if d (k + j) = -1 then 0 else 1) s := rfl
  omega
end CORE
