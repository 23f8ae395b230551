/-! THE RUN as begin leaves it -/
section BEGIN
/-- the JOBS that are made are as job and program let them be -/
def JG (G : Nat → Nat → Int32) (PR : Nat → Nat → List (Int32 × Int64)) : Prop := ∀ j, j < 8 → G j 1 = 1 → jb_ok G j ∧ (∃ f, f < 16 ∧ G j 4 = Int32.ofNat f) ∧ jn0 (G j 5) ∧ 1 ≤ ji (G j 5) ∧ ji (G j 5) ≤ 6 ∧ ∀ i, i < 3 → jq_ok (PR j i)
/-- what plan sees to: a JOB of THE CHAIN is made, is there once, and stands behind all whose OUTPUT is its INPUT -/
def PN (G : Nat → Nat → Int32) (cl : List Nat) : Prop := ∀ q j, cl[q]? = some j → j < 8 ∧ G j 1 = 1 ∧ ¬ j ∈ cl.take q ∧ ∀ k, k < 8 → G k 1 = 1 → (G j 2 = G k 4 ∨ G j 3 = G k 4) → k ∈ cl.take q
variable {h : sm_H} {s j : Nat} {cl cl' : List Nat} {G : Nat → Nat → Int32} {PR : Nat → Nat → List (Int32 × Int64)} {F : Nat → Jl}
theorem PN_snoc (hs : ST h s cl' G PR F) (hp : PN G cl) (hf : (List.range' 0 8).find? (jx_nc h s cl) = some j) : PN G (cl ++ [j]) := by
  have hG : ∀ k, k < 8 → ∀ i, 1 ≤ i → i ≤ 5 → gI h (s + 52 + 11 * k) i = G k i := fun k hk => (hs.2.2.2 k hk).2.1
  have h8 : j < 8 := by have := List.mem_of_find?_eq_some hf; rw [List.mem_range'_1] at this; omega
  have hn := List.find?_some hf
  rw [jx_nc, Bool.and_eq_true, Bool.and_eq_true, Bool.not_eq_true', Bool.not_eq_true', jx_md] at hn
  obtain ⟨n1, n2, n3⟩ := hn
  have n1 := of_decide_eq_true n1
  have n2 := of_decide_eq_false n2
  rw [hG j h8 1 (by omega) (by omega)] at n1
  intro q i hi
  rcases Nat.lt_trichotomy q cl.length with hq | hq | hq
  · rw [List.getElem?_append_left hq] at hi
    obtain ⟨a1, a2, a3, a4⟩ := hp q i hi
    rw [List.take_append_of_le_length (by omega)]
    exact ⟨a1, a2, a3, a4⟩
  · subst hq
    rw [List.getElem?_append_right (Nat.le_refl _), Nat.sub_self] at hi
    have hi : j = i := by simpa using hi
    subst hi
    rw [List.take_append_of_le_length (Nat.le_refl _), List.take_length]
    refine ⟨h8, n1, n2, fun k hk k1 k2 => ?_⟩
    rcases Decidable.em (k ∈ cl) with z | z
    · exact z
    · exfalso
      have := List.any_eq_false.1 n3 k (by rw [List.mem_range'_1]; omega)
      apply this
      rw [jx_wt, jx_md, hG k hk 1 (by omega) (by omega), hG k hk 4 (by omega) (by omega), hG j h8 2 (by omega) (by omega), hG j h8 3 (by omega) (by omega), decide_eq_true k1, decide_eq_true k2, decide_eq_false z]
      rfl
  · rw [List.getElem?_eq_none (by rw [List.length_append, List.length_singleton]; omega)] at hi; cases hi
theorem PN_plan (hs : ST h s cl' G PR F) : ∀ (k : Nat) (cl : List Nat), PN G cl → PN G (jx_plan h s k cl).2 := by
  intro k
  induction k with
  | zero => intro cl hp; exact hp
  | succ k ih =>
    intro cl hp
    rw [jx_plan]
    split
    · exact hp
    · rename_i j hj
      split
      · exact hp
      · exact ih _ (PN_snoc hs hp hj)
theorem jb_in_up {f : Nat} {o : Jl} (hf : f < 16) (hb : jb_ok G j) (h2 : G j 2 ≠ Int32.ofNat f) (h3 : G j 3 ≠ Int32.ofNat f) : jb_in G (jx_up F f o) j = jb_in G F j := by
  obtain ⟨⟨a, ha, ea⟩, h4⟩ := hb
  have e1 : jx_up F f o (G j 2).toNatClampNeg = F (G j 2).toNatClampNeg := by
    refine up_ne _ _ ?_
    rw [ea, jx_cn (by omega)]
    intro e; subst e; exact h2 ea
  rw [jb_in, jb_in, e1]
  rcases h4 with e | ⟨b, hb, eb⟩
  · rw [if_pos e, if_pos e]
  · have e2 : jx_up F f o (G j 3).toNatClampNeg = F (G j 3).toNatClampNeg := by
      refine up_ne _ _ ?_
      rw [eb, jx_cn (by omega)]
      intro e; subst e; exact h3 eb
    rw [e2]
theorem me_out_len {pr : Nat → List (Int32 × Int64)} {np : Nat} {inp o : Jl} (h : me_out pr np inp = some o) : o.length ≤ 300 := by
  rw [me_out] at h
  cases ha : me_all pr inp with
  | none => rw [ha] at h; cases h
  | some ls =>
    rw [ha] at h
    cases hb : me_par pr np ls with
    | none => rw [show ((some ls).bind fun ls => (me_par pr np ls).bind fun os => if me_sum os ≤ 300 then some os.flatten else none) = (me_par pr np ls).bind (fun os => if me_sum os ≤ 300 then some os.flatten else none) from rfl, hb] at h; cases h
    | some os =>
      rw [show ((some ls).bind fun ls => (me_par pr np ls).bind fun os => if me_sum os ≤ 300 then some os.flatten else none) = (me_par pr np ls).bind (fun os => if me_sum os ≤ 300 then some os.flatten else none) from rfl, hb] at h
      have h' : (if me_sum os ≤ 300 then some os.flatten else none) = some o := h
      split at h'
      · rename_i hs
        cases h'
        rw [List.length_flatten]; exact hs
      · cases h'
theorem me_F_len (hF : jf_ok F) : ∀ q, jf_ok (me_F G PR cl F q) := by
  intro q
  induction q with
  | zero => exact hF
  | succ q ih =>
    rw [me_F]
    split
    · exact ih
    · rename_i j hj
      split
      · exact ih
      · rename_i o ho
        intro f
        by_cases e : f = ji (G j 4)
        · rw [e, up_eq]; exact me_out_len ho
        · rw [up_ne _ _ e]; exact ih f
theorem PN_stay (hp : PN G cl) (hg : JG G PR) {p : Nat} (hj : cl[p]? = some j) : ∀ (d : Nat), jb_in G (me_F G PR cl F (p + d)) j = jb_in G (me_F G PR cl F p) j := by
  obtain ⟨a1, a2, a3, a4⟩ := hp p j hj
  intro d
  induction d with
  | zero => rfl
  | succ d ih =>
    rw [show p + (d + 1) = (p + d) + 1 from rfl, me_F]
    split
    · exact ih
    · rename_i k hk
      split
      · exact ih
      · rename_i o ho
        obtain ⟨b1, b2, b3, b4⟩ := hp _ k hk
        obtain ⟨c1, ⟨f, c2, c3⟩, _⟩ := hg k b1 b2
        have hnot : ¬ (G j 2 = G k 4 ∨ G j 3 = G k 4) := by
          intro z
          have hm := a4 k b1 b2 z
          refine b3 ?_
          rw [List.mem_take_iff_getElem] at hm ⊢
          obtain ⟨i, i1, i2⟩ := hm
          exact ⟨i, by omega, i2⟩
        rw [c3] at hnot ⊢
        rw [ji_of (by omega), jb_in_up c2 (hg j a1 a2).1 (fun z => hnot (Or.inl z)) (fun z => hnot (Or.inr z))]
        exact ih
/-- what CK asks -/
theorem CK_plan (h8 : cl.length ≤ 8) (hp : PN G cl) (hg : JG G PR) (hF : jf_ok F) : CK (cl, G, PR, F) := by
  have hget : ∀ p, p < cl.length → cl[p]? = some (tJ cl p) := by
    intro p hp; rw [tJ, List.getElem?_eq_getElem hp]; rfl
  refine ⟨h8, fun p j hj => ?_, fun p hq => ?_, fun p q h1 h2 h3 => ?_, me_F_len hF⟩
  · obtain ⟨a1, a2, _⟩ := hp p j hj
    exact ⟨a1, (hg j a1 a2).1, (hg j a1 a2).2.1⟩
  · obtain ⟨a1, a2, _⟩ := hp p _ (hget p hq)
    obtain ⟨b1, b2, b3, b4, b5, b6⟩ := hg _ a1 a2
    exact ⟨a1, b6, b3, b4, b5⟩
  · have := PN_stay (F := F) hp hg (hget p h1) (q - p)
    rw [show p + (q - p) = q from by omega] at this
    exact this
end BEGIN
section BEGIO
variable {C : Jc} {L : Jn} {Ws : Nat → Jw} {K : Jk} {ck : Nat}
theorem sum0 {f : Nat → Nat} : ∀ (n : Nat), (∀ i, f i = 0) → sumOn f n = 0 := by
  intro n hf
  induction n with
  | zero => rfl
  | succ n ih => rw [sumOn, ih, hf]
theorem IV_begin (hv : ∀ v, v < 6 → (Ws v).1 0 = v) (hL : ∀ x, x < 7 → L.1 x = []) : IV C (fun u => if u < 6 then jw_reset (Ws u) else Ws u) L 0 := by
  refine ⟨fun v h6 => ?_, fun x hx m hm => ?_, fun m hm => ?_⟩
  · show wOK C _ 0 v (if v < 6 then jw_reset (Ws v) else Ws v)
    rw [if_pos h6]
    exact ⟨hv v h6, Nat.le_refl 4, ⟨⟨(sum0 38 (fun _ => rfl)).symm, (sum0 6 (fun _ => rfl)).symm⟩, fun _ => rfl⟩, Or.inl ⟨rfl, fun _ _ => rfl, rfl⟩⟩
  · rw [hL x (by omega)] at hm; cases hm
  · rw [hL 6 (by omega)] at hm; cases hm
theorem IM_begin : IM C Ws false 0 ck ([], 0, 0) (jk_forget C.1 C.2.1 (cF C 0) K) := by
  refine ⟨⟨rfl, Nat.zero_le _, rfl, rfl, fun p hp => by omega, Or.inl rfl, fun t ht => Or.inl rfl, ⟨(sum0 38 (fun _ => if_pos rfl)).symm, (sum0 6 (fun _ => if_pos rfl)).symm, (sum0 38 (fun _ => if_pos rfl)).symm, (sum0 6 (fun _ => if_pos rfl)).symm⟩, fun _ => ⟨Nat.zero_le _, Nat.zero_le _⟩, Nat.zero_le _, Nat.zero_le _, Nat.le_refl 0, Nat.zero_le _, fun i e _ he => by simp at he, fun i k e e' _ _ he => by simp at he⟩, trivial, fun _ => ⟨co_forget, rfl, Nat.zero_le _, Nat.le_refl 4, ?_, Or.inl rfl, Or.inl rfl, Nat.zero_le _⟩⟩
  rfl
end BEGIO
section BEGIP
variable {h : sm_H} {cl : List Nat} {G : Nat → Nat → Int32} {PR : Nat → Nat → List (Int32 × Int64)} {F : Nat → Jl} {D : List (Int32 × Int64)} {L : Jn} {R : Jr} {K : Jk} {Ws : Nat → Jw} {n : Nat}
/-- begin: THE RUN goes on -/
theorem RS_begin (hg : JG G PR) (hF : jf_ok F) (hv : ∀ v, v < 6 → (Ws v).1 0 = v) (hp : XS h cl G PR F D L R K Ws false n) (hok : (jx_pl h).1 = true) : CK ((jx_pl h).2, G, PR, F) ∧ ∃ h', Run 141 [.ref 0] h (.inl (some (.int (Int32.ofNat (jx_pl h).2.length)))) h' ∧ RS ((jx_pl h).2, G, PR, F) D (n + 1) 0 0 h' ∧ SZ h h' := by
  have hn : PN G (jx_pl h).2 := PN_plan hp.2.1 _ _ (fun q j hj => by simp at hj)
  have hca : jc_all (jx_pl h).2 G := fun p j hj => by
    obtain ⟨a1, a2, _⟩ := hn p j hj
    exact ⟨a1, (hg j a1 a2).1, (hg j a1 a2).2.1⟩
  obtain ⟨h', r1, ib, dn, a1, a2, a3⟩ := s_Mill_begin hp hok hca hF
  have h8 : (jx_pl h).2.length ≤ 8 := a1.2.1.2.1.1
  refine ⟨CK_plan h8 hn hg hF, h', r1, ⟨_, _, _, _, a1, IV_begin hv (fun x hx => (a2 x hx).1), ?_⟩, a3⟩
  show IM _ _ (dn 6) _ _ _ _ ∧ dnK _ _
  rw [(a2 6 (by omega)).2]
  exact ⟨IM_begin (C := ((jx_pl h).2, G, PR, F)), fun _ => ⟨rfl, rfl⟩, gvn_open⟩
end BEGIP
