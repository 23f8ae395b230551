/-! a worker's own steps, by its stage -/
section WLOC
variable {W : Jw} {L : Jn} {inp : Jl} {pr : Nat → List (Int32 × Int64)} {T : Option Jl}
/-- what a step of its work leaves as it was: number, splits, task, offset, waited, JOB, holders, disk -/
def jw_sm (W W' : Jw) : Prop := W'.1 0 = W.1 0 ∧ W'.1 11 = W.1 11 ∧ W'.1 13 = W.1 13 ∧ W'.1 16 = W.1 16 ∧ W'.1 17 = W.1 17 ∧ W'.2.1 = W.2.1 ∧ W'.2.2.1 = W.2.2.1 ∧ W'.2.2.2.1 4 = W.2.2.2.1 4 ∧ W'.2.2.2.1 5 = W.2.2.2.1 5 ∧ W'.2.2.2.2 = W.2.2.2.2
/-- MAPPING: rec are the SPLIT's RECORDS -/
def w1 (mp : List (Int32 × Int64)) (rec : Jl) (W : Jw) : Prop := ∃ e, W.1 15 ≤ rec.length ∧ me_map mp (rec.take (W.1 15)) = some e ∧ (∀ k, jx_fk k (W.2.2.2.1 3 ++ W.2.2.2.1 0) = jx_fk k e) ∧ (W.2.2.2.1 3).length + (W.2.2.2.1 0).length = e.length ∧ (W.2.2.2.1 0).length ≤ 20 ∧ W.2.2.2.1 1 = [] ∧ W.2.2.2.1 2 = []
/-- COMBINING, REDUCING: T is what the task makes, if it does not FAIL -/
def w2 (pg : List (Int32 × Int64)) (kd : Int32) (T : Option Jl) (W : Jw) : Prop := W.1 15 ≤ (W.2.2.2.1 1).length ∧ T = (me_fo pg kd ((W.2.2.2.1 1).drop (W.1 15))).map (fun e => W.2.2.2.1 2 ++ e)
theorem me_rec_len (t : Nat) : (me_rec inp t).length = min 16 (inp.length - 16 * t) := by rw [me_rec, List.length_take, List.length_drop]
theorem me_rec_get {t i : Nat} (hi : i < 16) : (me_rec inp t)[i]? = inp[t * 16 + i]? := by
  rw [me_rec, List.getElem?_take_of_lt hi, List.getElem?_drop, show 16 * t + i = t * 16 + i from by omega]
theorem w1_len {mp : List (Int32 × Int64)} {rec : Jl} (h : w1 mp rec W) : (W.2.2.2.1 3).length + (W.2.2.2.1 0).length ≤ 4 * W.1 15 := by
  obtain ⟨e, h1, h2, h3, h4, h5, h6, h7⟩ := h
  have := me_map_len _ _ h2
  rw [List.length_take] at this
  omega
theorem jx_fk_srt {l : Jl} (hl : l.length ≤ 1000) (l3 : Jl) (k : Int64) : jx_fk k (l3 ++ srt l) = jx_fk k (l3 ++ l) := by
  rw [jx_fk_app, jx_fk_app, srt_fk hl]
/-- one RECORD more -/
theorem w1_one {t : Nat} (h : w1 (pr 0) (me_rec inp t) W) (ht : W.1 13 = t) (hc : W.1 15 < 16 ∧ W.1 13 * 16 + W.1 15 < inp.length) (hr : (jw_mr W inp (pr 0)).1 = true) :
    (W.2.2.2.1 0).length + (jw_mr W inp (pr 0)).2.length ≤ 24 ∧ (W.2.2.2.1 3).length + (srt (W.2.2.2.1 0 ++ (jw_mr W inp (pr 0)).2)).length ≤ 64
    ∧ w1 (pr 0) (me_rec inp t) (jw_map W L inp pr).1 ∧ (jw_map W L inp pr).2 = L ∧ jw_sm W (jw_map W L inp pr).1 ∧ (jw_map W L inp pr).1.1 12 = W.1 12 ∧ (jw_map W L inp pr).1.1 15 = W.1 15 + 1 := by
  have hl := w1_len h
  obtain ⟨e, h1, h2, h3, h4, h5, h6, h7⟩ := h
  have hlt : W.1 15 < (me_rec inp t).length := by rw [me_rec_len]; omega
  obtain ⟨p, hp⟩ := jx_at hlt
  have hp2 : inp[W.1 13 * 16 + W.1 15]? = some p := by rw [ht, ← me_rec_get hc.1]; exact hp
  have hrc : jw_rc W inp = p := by rw [jw_rc, hp2]; rfl
  have hmr : jw_mr W inp (pr 0) = jq_grp (pr 0) 0 [p] := by rw [jw_mr, hrc]
  have h4l : (jw_mr W inp (pr 0)).2.length ≤ 4 := by rw [hmr]; exact jq_grp_len _
  have hnew : me_map (pr 0) ((me_rec inp t).take (W.1 15 + 1)) = some (e ++ (jw_mr W inp (pr 0)).2) := by
    rw [List.take_succ, hp]
    show me_map (pr 0) ((me_rec inp t).take (W.1 15) ++ [p]) = _
    rw [me_map_snoc, h2]
    show (if (jq_grp (pr 0) 0 [p]).1 = true then _ else _) = _
    rw [← hmr, if_pos hr]
  have hb : (W.2.2.2.1 0).length + (jw_mr W inp (pr 0)).2.length ≤ 24 := by omega
  have hs : (W.2.2.2.1 3).length + (srt (W.2.2.2.1 0 ++ (jw_mr W inp (pr 0)).2)).length ≤ 64 := by rw [srt_len, List.length_append]; omega
  refine ⟨hb, hs, ?_⟩
  rw [jw_map, if_pos hc, if_pos hr]
  by_cases hsp : 24 - (W.2.2.2.1 0 ++ (jw_mr W inp (pr 0)).2).length < 4
  · rw [if_pos hsp]
    refine ⟨⟨e ++ (jw_mr W inp (pr 0)).2, ?_, ?_, ?_, ?_, ?_, h6, h7⟩, rfl, ⟨rfl, rfl, rfl, rfl, rfl, rfl, rfl, rfl, rfl, rfl⟩, rfl, rfl⟩
    · show W.1 15 + 1 ≤ _; omega
    · exact hnew
    · intro k
      show jx_fk k ((W.2.2.2.1 3 ++ srt (W.2.2.2.1 0 ++ (jw_mr W inp (pr 0)).2)) ++ []) = _
      rw [List.append_nil, jx_fk_srt (by rw [List.length_append]; omega), ← List.append_assoc, jx_fk_app, h3, ← jx_fk_app]
    · show (W.2.2.2.1 3 ++ srt (W.2.2.2.1 0 ++ (jw_mr W inp (pr 0)).2)).length + 0 = _
      rw [List.length_append, srt_len, List.length_append, List.length_append]; omega
    · exact Nat.zero_le _
  · rw [if_neg hsp]
    rw [List.length_append] at hsp
    refine ⟨⟨e ++ (jw_mr W inp (pr 0)).2, ?_, ?_, ?_, ?_, ?_, h6, h7⟩, rfl, ⟨rfl, rfl, rfl, rfl, rfl, rfl, rfl, rfl, rfl, rfl⟩, rfl, rfl⟩
    · show W.1 15 + 1 ≤ _; omega
    · exact hnew
    · intro k
      show jx_fk k (W.2.2.2.1 3 ++ (W.2.2.2.1 0 ++ (jw_mr W inp (pr 0)).2)) = _
      rw [← List.append_assoc, jx_fk_app, h3, ← jx_fk_app]
    · show (W.2.2.2.1 3).length + (W.2.2.2.1 0 ++ (jw_mr W inp (pr 0)).2).length = _
      rw [List.length_append, List.length_append]; omega
    · show (W.2.2.2.1 0 ++ (jw_mr W inp (pr 0)).2).length ≤ 20
      rw [List.length_append]; omega
/-- a TRAP -/
theorem w1_trap {t : Nat} (h : w1 (pr 0) (me_rec inp t) W) (ht : W.1 13 = t) (hc : W.1 15 < 16 ∧ W.1 13 * 16 + W.1 15 < inp.length) (hr : ¬ (jw_mr W inp (pr 0)).1 = true) : me_spl pr inp t = none ∧ jw_map W L inp pr = jw_end W L 3 := by
  obtain ⟨e, h1, h2, h3, h4, h5, h6, h7⟩ := h
  have hlt : W.1 15 < (me_rec inp t).length := by rw [me_rec_len]; omega
  obtain ⟨p, hp⟩ := jx_at hlt
  have hp2 : inp[W.1 13 * 16 + W.1 15]? = some p := by rw [ht, ← me_rec_get hc.1]; exact hp
  have hrc : jw_rc W inp = p := by rw [jw_rc, hp2]; rfl
  have hmr : jw_mr W inp (pr 0) = jq_grp (pr 0) 0 [p] := by rw [jw_mr, hrc]
  have hnew : me_map (pr 0) ((me_rec inp t).take (W.1 15 + 1)) = none := by
    rw [List.take_succ, hp]
    show me_map (pr 0) ((me_rec inp t).take (W.1 15) ++ [p]) = _
    rw [me_map_snoc, h2]
    show (if (jq_grp (pr 0) 0 [p]).1 = true then _ else _) = _
    rw [← hmr, if_neg hr]
  refine ⟨?_, by rw [jw_map, if_pos hc, if_neg hr]⟩
  have : me_map (pr 0) (me_rec inp t) = none := by
    rw [← List.take_append_drop (W.1 15 + 1) (me_rec inp t)]
    exact me_map_app _ _ hnew
  rw [me_spl, this]; rfl
/-- the SPLIT's last RECORD is behind it -/
theorem w1_end {t : Nat} (h : w1 (pr 0) (me_rec inp t) W) (ht : W.1 13 = t) (hc : ¬ (W.1 15 < 16 ∧ W.1 13 * 16 + W.1 15 < inp.length)) :
    ((W.2.2.2.1 3).length + (srt (W.2.2.2.1 0)).length ≤ 64 ∧ (W.2.2.2.1 1).length + (W.2.2.2.1 3 ++ srt (W.2.2.2.1 0)).length ≤ 1000 ∧ (jw_all W).length ≤ 64 ∧ ((pr 1).length = 0 → (W.2.2.2.1 2).length + (jw_all W).length ≤ 300))
    ∧ w2 (pr 1) 1 (me_spl pr inp t) (jw_map W L inp pr).1 ∧ ((jw_map W L inp pr).1.2.2.2.1 1).length ≤ 64 ∧ ((jw_map W L inp pr).1.2.2.2.1 2).length + 4 * (((jw_map W L inp pr).1.2.2.2.1 1).length - (jw_map W L inp pr).1.1 15) ≤ 256 ∧ (jw_map W L inp pr).2 = L ∧ jw_sm W (jw_map W L inp pr).1 ∧ (jw_map W L inp pr).1.1 12 = 2 := by
  have hl := w1_len h
  obtain ⟨e, h1, h2, h3, h4, h5, h6, h7⟩ := h
  have hge : (me_rec inp t).length ≤ W.1 15 := by rw [me_rec_len]; omega
  have h16 : (me_rec inp t).length ≤ 16 := by rw [me_rec_len]; omega
  rw [List.take_of_length_le hge] at h2
  have hel := me_map_len _ _ h2
  have hall : jw_all W = srt e := by
    rw [jw_all, h6, List.nil_append]
    refine srt_eq (by rw [List.length_append, srt_len]; omega) (by omega) (fun k => ?_)
    rw [jx_fk_srt (by omega)]; exact h3 k
  have hal : (srt e).length = e.length := srt_len e
  refine ⟨⟨by rw [srt_len]; omega, by rw [h6, List.length_append, srt_len]; simp; omega, by rw [hall, hal]; omega, fun _ => by rw [h7, hall, hal]; simp; omega⟩, ?_⟩
  rw [jw_map, if_neg hc]
  show w2 (pr 1) 1 (me_spl pr inp t) (jw_merge W (pr 1)) ∧ ((jw_merge W (pr 1)).2.2.2.1 1).length ≤ 64 ∧ ((jw_merge W (pr 1)).2.2.2.1 2).length + 4 * (((jw_merge W (pr 1)).2.2.2.1 1).length - (jw_merge W (pr 1)).1 15) ≤ 256 ∧ L = L ∧ jw_sm W (jw_merge W (pr 1)) ∧ (jw_merge W (pr 1)).1 12 = 2
  rw [jw_merge]
  by_cases hco : (pr 1).length = 0
  · rw [if_pos hco]
    refine ⟨⟨Nat.le_refl _, ?_⟩, ?_, ?_, rfl, ⟨rfl, rfl, rfl, rfl, rfl, rfl, rfl, rfl, rfl, rfl⟩, rfl⟩
    · show me_spl pr inp t = (me_fo (pr 1) 1 ((jw_all W).drop (jw_all W).length)).map (fun e => (W.2.2.2.1 2 ++ jw_all W) ++ e)
      rw [List.drop_length, me_fo_nil, h7, List.nil_append, hall, me_spl, h2]
      show (if (pr 1).length = 0 then _ else _) = _
      rw [if_pos hco]
      simp
    · show (jw_all W).length ≤ 64; rw [hall, hal]; omega
    · show (W.2.2.2.1 2 ++ jw_all W).length + 4 * ((jw_all W).length - (jw_all W).length) ≤ 256
      rw [h7, List.nil_append, hall, hal]; omega
  · rw [if_neg hco]
    refine ⟨⟨Nat.zero_le _, ?_⟩, ?_, ?_, rfl, ⟨rfl, rfl, rfl, rfl, rfl, rfl, rfl, rfl, rfl, rfl⟩, rfl⟩
    · show me_spl pr inp t = (me_fo (pr 1) 1 ((jw_all W).drop 0)).map (fun e => W.2.2.2.1 2 ++ e)
      rw [List.drop_zero, h7, hall, me_spl, h2]
      show (if (pr 1).length = 0 then _ else _) = _
      rw [if_neg hco]
      simp
    · show (jw_all W).length ≤ 64; rw [hall, hal]; omega
    · show (W.2.2.2.1 2).length + 4 * ((jw_all W).length - 0) ≤ 256
      rw [h7, hall, hal]; simp; omega
/-- a KEY of what is gathered: its PROGRAM has no TRAP and there is room -/
theorem w2_one (h : w2 (pr (jw_wh W)) (Int32.ofNat (jw_wh W)) T W) (hc : W.1 15 < (W.2.2.2.1 1).length) (hr : (jw_fr1 W pr).1 = true) (hf : (W.2.2.2.1 2).length + (jw_fr1 W pr).2.length ≤ 300) :
    w2 (pr (jw_wh W)) (Int32.ofNat (jw_wh W)) T (jw_fold W L pr).1 ∧ (jw_fold W L pr).2 = L ∧ jw_sm W (jw_fold W L pr).1 ∧ (jw_fold W L pr).1.1 12 = W.1 12 ∧ (jw_fold W L pr).1.2.2.2.1 1 = W.2.2.2.1 1 ∧ W.1 15 < (jw_fold W L pr).1.1 15 ∧ (jw_fold W L pr).1.2.2.2.1 2 = W.2.2.2.1 2 ++ (jw_fr1 W pr).2 ∧ (jw_fr1 W pr).2.length ≤ 4 := by
  obtain ⟨h1, h2⟩ := h
  rw [jw_fold, if_pos hc, if_pos hr, if_pos hf]
  have hk := jx_eok_k hc
  have hle := jx_eok_le hc
  have hlt : W.1 15 < jx_eok (W.2.2.2.1 1) (W.1 15) := by rw [jx_eok]; omega
  have hne : (W.2.2.2.1 1).drop (W.1 15) ≠ [] := by
    intro e
    have := congrArg List.length e
    rw [List.length_drop, List.length_nil] at this
    omega
  have hg : jq_grp (pr (jw_wh W)) (Int32.ofNat (jw_wh W)) (((W.2.2.2.1 1).drop (W.1 15)).take (me_k ((W.2.2.2.1 1).drop (W.1 15)))) = jw_fr1 W pr := by rw [jw_fr1, hk]
  refine ⟨⟨hle, ?_⟩, rfl, ⟨rfl, rfl, rfl, rfl, rfl, rfl, rfl, rfl, rfl, rfl⟩, rfl, rfl, hlt, rfl, by rw [← hg]; exact jq_grp_len _⟩
  show T = (me_fo (pr (jw_wh W)) (Int32.ofNat (jw_wh W)) ((W.2.2.2.1 1).drop (jx_eok (W.2.2.2.1 1) (W.1 15)))).map (fun e => (W.2.2.2.1 2 ++ (jw_fr1 W pr).2) ++ e)
  rw [h2, me_fo_step hne, hg, if_pos hr, List.drop_drop, ← hk, show W.1 15 + (jx_eok (W.2.2.2.1 1) (W.1 15) - W.1 15) = jx_eok (W.2.2.2.1 1) (W.1 15) from by omega]
  cases me_fo (pr (jw_wh W)) (Int32.ofNat (jw_wh W)) ((W.2.2.2.1 1).drop (jx_eok (W.2.2.2.1 1) (W.1 15))) with
  | none => rfl
  | some e => simp
/-- a TRAP -/
theorem w2_trap (h : w2 (pr (jw_wh W)) (Int32.ofNat (jw_wh W)) T W) (hc : W.1 15 < (W.2.2.2.1 1).length) (hr : ¬ (jw_fr1 W pr).1 = true) : T = none ∧ jw_fold W L pr = jw_end W L 3 := by
  obtain ⟨h1, h2⟩ := h
  have hk := jx_eok_k hc
  have hne : (W.2.2.2.1 1).drop (W.1 15) ≠ [] := by
    intro e
    have := congrArg List.length e
    rw [List.length_drop, List.length_nil] at this
    omega
  have hg : jq_grp (pr (jw_wh W)) (Int32.ofNat (jw_wh W)) (((W.2.2.2.1 1).drop (W.1 15)).take (me_k ((W.2.2.2.1 1).drop (W.1 15)))) = jw_fr1 W pr := by rw [jw_fr1, hk]
  refine ⟨?_, by rw [jw_fold, if_pos hc, if_neg hr]⟩
  rw [h2, me_fo_step hne, hg, if_neg hr]; rfl
/-- no room: it makes more than 300 -/
theorem w2_full (h : w2 (pr (jw_wh W)) (Int32.ofNat (jw_wh W)) T W) (hc : W.1 15 < (W.2.2.2.1 1).length) (hr : (jw_fr1 W pr).1 = true) (hf : ¬ (W.2.2.2.1 2).length + (jw_fr1 W pr).2.length ≤ 300) : (∀ x, T = some x → 300 < x.length) ∧ jw_fold W L pr = jw_end W L 3 := by
  obtain ⟨h1, h2⟩ := h
  have hk := jx_eok_k hc
  have hne : (W.2.2.2.1 1).drop (W.1 15) ≠ [] := by
    intro e
    have := congrArg List.length e
    rw [List.length_drop, List.length_nil] at this
    omega
  have hg : jq_grp (pr (jw_wh W)) (Int32.ofNat (jw_wh W)) (((W.2.2.2.1 1).drop (W.1 15)).take (me_k ((W.2.2.2.1 1).drop (W.1 15)))) = jw_fr1 W pr := by rw [jw_fr1, hk]
  refine ⟨fun x hx => ?_, by rw [jw_fold, if_pos hc, if_pos hr, if_neg hf]⟩
  rw [h2, me_fo_step hne, hg, if_pos hr] at hx
  cases e : me_fo (pr (jw_wh W)) (Int32.ofNat (jw_wh W)) (((W.2.2.2.1 1).drop (W.1 15)).drop (me_k ((W.2.2.2.1 1).drop (W.1 15)))) with
  | none => rw [e] at hx; cases hx
  | some y =>
    rw [e] at hx
    have hx2 : W.2.2.2.1 2 ++ ((jw_fr1 W pr).2 ++ y) = x := by simpa using hx
    rw [← hx2, List.length_append, List.length_append]; omega
/-- all KEYS are behind it -/
theorem w2_end (h : w2 (pr (jw_wh W)) (Int32.ofNat (jw_wh W)) T W) (hc : ¬ W.1 15 < (W.2.2.2.1 1).length) : T = some (W.2.2.2.1 2) ∧ jw_fold W L pr = jw_keep W L := by
  obtain ⟨h1, h2⟩ := h
  refine ⟨?_, by rw [jw_fold, if_neg hc]⟩
  rw [h2, List.drop_eq_nil_of_le (by omega), me_fo_nil]
  simp
end WLOC
