/-! FETCHING -/
section FETCH
variable {W : Jw} {pr : Nat → List (Int32 × Int64)} {np r : Nat} {ls : List Jl}
/-- of a SPLIT's pairs those of PART r -/
abbrev me_sel (np r : Nat) (l : Jl) : Jl := jd_sel np 0 (Int32.ofNat r) l
/-- FETCHING PART r: ls is what the SPLITS made -/
def w3 (np r : Nat) (ls : List Jl) (W : Jw) : Prop := W.1 11 = ls.length ∧ W.1 15 ≤ ls.length ∧ W.2.2.2.1 1 = me_gat np r (ls.take (W.1 15)) ++ (me_sel np r (ls.getD (W.1 15) [])).take (W.1 16) ∧ (W.1 16 = 0 ∨ (W.1 15 < ls.length ∧ W.1 16 < (me_sel np r (ls.getD (W.1 15) [])).length)) ∧ W.2.2.2.1 2 = []
theorem jd_sel_38 {t : Nat} (ht : t < 38) (x : Int32) (l : Jl) : jd_sel np t x l = jd_sel np 0 x l := by rw [jd_sel, jd_sel, if_pos ht, if_pos (by omega)]
theorem me_sel_le (l : Jl) : (me_sel np r l).length ≤ l.length := by rw [me_sel, jd_sel, if_pos (by omega)]; exact List.length_filter_le _ _
theorem me_gat_snoc (l : Jl) : me_gat np r (ls ++ [l]) = me_gat np r ls ++ me_sel np r l := by rw [me_gat, List.map_append, List.flatten_append]; simp [me_gat]
theorem me_gat_app (l2 : List Jl) : me_gat np r (ls ++ l2) = me_gat np r ls ++ me_gat np r l2 := by rw [me_gat, List.map_append, List.flatten_append]; rfl
theorem me_gat_le : ∀ (ls : List Jl), (me_gat np r ls).length ≤ me_sum ls := by
  intro ls
  induction ls with
  | nil => exact Nat.le_refl 0
  | cons l ls ih =>
    have : me_gat np r (l :: ls) = me_sel np r l ++ me_gat np r ls := rfl
    rw [this, List.length_append]
    have h2 := me_sel_le (np := np) (r := r) l
    show _ ≤ l.length + me_sum ls
    omega
theorem me_sum_take : ∀ (ls : List Jl) (n : Nat), me_sum (ls.take n) ≤ me_sum ls := by
  intro ls
  induction ls with
  | nil => intro n; simp [me_sum]
  | cons l ls ih =>
    intro n
    cases n with
    | zero => exact Nat.zero_le _
    | succ n =>
      have := ih n
      show l.length + me_sum (ls.take n) ≤ l.length + me_sum ls
      omega
/-- what a page says -/
theorem jd_page_f (f : Nat → Int32) (x : Nat) (s : Jl) : (jd_page f x s).1 9 = Int32.ofNat ((s.drop x).take 16).length ∧ (jd_page f x s).1 10 = Int32.ofNat s.length ∧ (∀ i, i ≠ 9 → i ≠ 10 → (jd_page f x s).1 i = f i) ∧ jm_prs (jd_page f x s) ((s.drop x).take 16).length = (s.drop x).take 16 := by
  refine ⟨?_, ?_, fun i h9 h10 => ?_, jd_prs _⟩
  · show jx_up (jx_up f 9 (Int32.ofNat ((s.drop x).take 16).length)) 10 (Int32.ofNat s.length) 9 = _
    rw [up_ne _ _ (by decide), up_eq]
  · show jx_up (jx_up f 9 (Int32.ofNat ((s.drop x).take 16).length)) 10 (Int32.ofNat s.length) 10 = _
    rw [up_eq]
  · show jx_up (jx_up f 9 (Int32.ofNat ((s.drop x).take 16).length)) 10 (Int32.ofNat s.length) i = _
    rw [up_ne _ _ h10, up_ne _ _ h9]
/-- a page that was waited for is taken -/
theorem w3_page {f : Nat → Int32} {l : Jl} (h : w3 np r ls W) (hat : W.1 15 < ls.length) (hl : ls[W.1 15]? = some l) :
    w3 np r ls (jw_pg2 W (jd_page f (W.1 16) (me_sel np r l)) (((me_sel np r l).drop (W.1 16)).take 16).length (me_sel np r l).length)
    ∧ (W.2.2.2.1 1).length + (((me_sel np r l).drop (W.1 16)).take 16).length ≤ me_sum ls := by
  obtain ⟨h1, h2, h3, h4, h5⟩ := h
  have hgd : ls.getD (W.1 15) [] = l := by rw [List.getD_eq_getElem?_getD, hl]; rfl
  rw [hgd] at h3 h4
  have hprs := (jd_page_f f (W.1 16) (me_sel np r l)).2.2.2
  have htk : ls.take (W.1 15 + 1) = ls.take (W.1 15) ++ [l] := by rw [List.take_succ, hl]; rfl
  have hnew : (W.2.2.2.1 1) ++ jm_prs (jd_page f (W.1 16) (me_sel np r l)) (((me_sel np r l).drop (W.1 16)).take 16).length = me_gat np r (ls.take (W.1 15)) ++ (me_sel np r l).take (W.1 16 + 16) := by
    rw [hprs, h3, List.append_assoc, List.take_add]
  have hk : (((me_sel np r l).drop (W.1 16)).take 16).length = min 16 ((me_sel np r l).length - W.1 16) := by rw [List.length_take, List.length_drop]
  constructor
  · rw [jw_pg2]
    by_cases hlt : W.1 16 + (((me_sel np r l).drop (W.1 16)).take 16).length < (me_sel np r l).length
    · rw [if_pos hlt]
      have h16 : (((me_sel np r l).drop (W.1 16)).take 16).length = 16 := by omega
      refine ⟨h1, h2, ?_, Or.inr ⟨hat, ?_⟩, h5⟩
      · show W.2.2.2.1 1 ++ jm_prs _ _ = me_gat np r (ls.take (W.1 15)) ++ (me_sel np r (ls.getD (W.1 15) [])).take (W.1 16 + _)
        rw [hgd, hnew, h16]
      · show W.1 16 + _ < (me_sel np r (ls.getD (W.1 15) [])).length
        rw [hgd]; exact hlt
    · rw [if_neg hlt]
      refine ⟨h1, ?_, ?_, Or.inl rfl, h5⟩
      · show W.1 15 + 1 ≤ ls.length; omega
      · show W.2.2.2.1 1 ++ jm_prs _ _ = me_gat np r (ls.take (W.1 15 + 1)) ++ (me_sel np r (ls.getD (W.1 15 + 1) [])).take 0
        have ht2 : (me_sel np r l).take (W.1 16 + 16) = me_sel np r l := List.take_of_length_le (by omega)
        rw [hnew, htk, me_gat_snoc, List.take_zero, List.append_nil, ht2]
  · have hle : (me_gat np r (ls.take (W.1 15 + 1))).length ≤ me_sum ls := by
      exact Nat.le_trans (me_gat_le _) (me_sum_take _ _)
    rw [htk, me_gat_snoc, List.length_append] at hle
    rw [h3, List.length_append, List.length_take, hk]
    omega
/-- all is fetched -/
theorem w3_end (h : w3 np r ls W) (hat : ¬ W.1 15 < W.1 11) : w2 (pr 2) 2 (me_red pr np ls r) (jw_red W) ∧ (jw_red W).2.2.2.1 1 = srt (me_gat np r ls) ∧ (jw_red W).2.2.2.1 2 = [] := by
  obtain ⟨h1, h2, h3, h4, h5⟩ := h
  have h16 : W.1 16 = 0 := by omega
  have hga : W.2.2.2.1 1 = me_gat np r ls := by
    rw [h3, h16, List.take_zero, List.append_nil, List.take_of_length_le (by omega)]
  refine ⟨⟨Nat.zero_le _, ?_⟩, ?_, h5⟩
  · show me_red pr np ls r = (me_fo (pr 2) 2 ((srt (W.2.2.2.1 1)).drop 0)).map (fun e => W.2.2.2.1 2 ++ e)
    rw [List.drop_zero, hga, h5, me_red]
    simp
  · show srt (W.2.2.2.1 1) = _
    rw [hga]
end FETCH
