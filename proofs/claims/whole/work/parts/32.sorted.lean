/-! the order is the stable sort by key -/
section SORTED
variable {l : List (Int64 × Int64)}
theorem jx_so_sub {l l' : List (Int64 × Int64)} (hs : l'.Sublist l) (h : jx_so l) : jx_so l' := List.Pairwise.sublist hs h
theorem jx_so_nil : jx_so [] := List.Pairwise.nil
theorem jx_pass_ok {w : Nat} (hw : 1 ≤ w) : ∀ (k : Nat) (l : List (Int64 × Int64)), l.length ≤ k → jx_ch w l → jx_ch (2 * w) (jx_pass w k l) ∧ ∀ x, jx_fk x (jx_pass w k l) = jx_fk x l := by
  intro k
  induction k with
  | zero =>
    intro l hl hc
    have e : l = [] := List.eq_nil_of_length_eq_zero (by omega)
    subst e
    exact ⟨fun i => by rw [jx_pass, List.drop_nil, List.take_nil]; exact jx_so_nil, fun x => rfl⟩
  | succ k ih =>
    intro l hl hc
    have c0 : jx_so (l.take w) := by have := hc 0; rw [Nat.zero_mul, List.drop_zero] at this; exact this
    have c1 : jx_so ((l.drop w).take w) := by have := hc 1; rw [Nat.one_mul] at this; exact this
    obtain ⟨m1, m2⟩ := jx_so_merge _ _ _ (Nat.le_refl _) c0 c1
    obtain ⟨i1, i2⟩ := ih (l.drop (2 * w)) (by rw [List.length_drop]; omega) (fun i => by
      rw [List.drop_drop, show 2 * w + i * w = (i + 2) * w from by rw [Nat.add_mul, Nat.add_comm]]; exact hc (i + 2))
    have hA : (List.merge (l.take w) ((l.drop w).take w) jx_kle).length = min (2 * w) l.length := by
      rw [List.length_merge]; simp only [List.length_take, List.length_drop]; omega
    rw [jx_pass]
    refine ⟨fun i => ?_, fun x => ?_⟩
    · by_cases hlw : 2 * w ≤ l.length
      · cases i with
        | zero =>
          rw [Nat.zero_mul, List.drop_zero, List.take_append_of_le_length (by omega)]
          exact jx_so_sub (List.take_sublist _ _) m1
        | succ i =>
          rw [List.drop_append, List.drop_eq_nil_of_le (by rw [hA, Nat.add_mul]; omega), List.nil_append, hA, show (i + 1) * (2 * w) - min (2 * w) l.length = i * (2 * w) from by rw [Nat.add_mul, Nat.min_eq_left hlw]; omega]
          exact i1 i
      · rw [show List.drop (2 * w) l = [] from List.drop_eq_nil_of_le (by omega), jx_pass_nil, List.append_nil]
        exact jx_so_sub ((List.take_sublist _ _).trans (List.drop_sublist _ _)) m1
    · rw [jx_fk_app, m2, i2, ← jx_fk_app, ← jx_fk_app]
      congr 1
      rw [List.append_assoc, show List.drop (2 * w) l = (l.drop w).drop w from by rw [List.drop_drop, Nat.two_mul], List.take_append_drop, List.take_append_drop]
theorem jx_ord_ok : ∀ (j w : Nat) (l : List (Int64 × Int64)), 1 ≤ w → 1000 ≤ w * 2 ^ j → l.length ≤ 1000 → jx_ch w l → jx_SS l (jx_ord j w l) := by
  intro j
  induction j with
  | zero =>
    intro w l h1 h2 h3 hc
    have c0 := hc 0
    rw [Nat.zero_mul, List.drop_zero, List.take_of_length_le (by omega)] at c0
    exact ⟨c0, fun _ => rfl⟩
  | succ j ih =>
    intro w l h1 h2 h3 hc
    rw [jx_ord]
    by_cases hw : w < l.length ∧ w < 1000
    · rw [if_pos hw]
      obtain ⟨p1, p2⟩ := jx_pass_ok h1 l.length l (Nat.le_refl _) hc
      obtain ⟨i1, i2⟩ := ih (w * 2) (jx_pass w l.length l) (by omega) (by rw [Nat.pow_succ, Nat.mul_comm (2 ^ j) 2, ← Nat.mul_assoc] at h2; exact h2) (by rw [jx_pass_len]; exact h3) (by rw [Nat.mul_comm]; exact p1)
      exact ⟨i1, fun k => (i2 k).trans (p2 k)⟩
    · rw [if_neg hw]
      have c0 := hc 0
      rw [Nat.zero_mul, List.drop_zero, List.take_of_length_le (by omega)] at c0
      exact ⟨c0, fun _ => rfl⟩
theorem jx_ch1 (l : List (Int64 × Int64)) : jx_ch 1 l := by
  intro i
  have hl : ((l.drop (i * 1)).take 1).length ≤ 1 := by rw [List.length_take]; omega
  match h : (l.drop (i * 1)).take 1 with
  | [] => exact jx_so_nil
  | [x] => exact List.pairwise_singleton _ _
  | x :: y :: r => rw [h] at hl; simp at hl
theorem jx_ord_SS (h : l.length ≤ 1000) : jx_SS l (jx_ord 10 1 l) := jx_ord_ok 10 1 l (Nat.le_refl _) (by decide) h (jx_ch1 l)
theorem jx_fk_mem {k : Int64} {p : Int64 × Int64} : p ∈ jx_fk k l ↔ p ∈ l ∧ p.1 = k := by rw [jx_fk, List.mem_filter]; simp
theorem jx_so_uniq : ∀ (l1 l2 : List (Int64 × Int64)), jx_so l1 → jx_so l2 → (∀ k, jx_fk k l1 = jx_fk k l2) → l1 = l2 := by
  intro l1
  induction l1 with
  | nil =>
    intro l2 _ _ hk
    cases l2 with
    | nil => rfl
    | cons y ys =>
      have := hk y.1
      have hm : y ∈ jx_fk y.1 (y :: ys) := jx_fk_mem.2 ⟨List.mem_cons_self, rfl⟩
      rw [← this] at hm
      simp [jx_fk] at hm
  | cons x xs ih =>
    intro l2 h1 h2 hk
    cases l2 with
    | nil =>
      have hm : x ∈ jx_fk x.1 (x :: xs) := jx_fk_mem.2 ⟨List.mem_cons_self, rfl⟩
      rw [hk x.1] at hm
      simp [jx_fk] at hm
    | cons y ys =>
      have hx' := List.pairwise_cons.1 h1
      have hy' := List.pairwise_cons.1 h2
      have a1 : y.1 ≤ x.1 := by
        have hm : x ∈ jx_fk x.1 (x :: xs) := jx_fk_mem.2 ⟨List.mem_cons_self, rfl⟩
        rw [hk x.1] at hm
        rcases List.mem_cons.1 (jx_fk_mem.1 hm).1 with e | e
        · rw [e]; exact Int64.le_refl _
        · exact hy'.1 x e
      have a2 : x.1 ≤ y.1 := by
        have hm : y ∈ jx_fk y.1 (y :: ys) := jx_fk_mem.2 ⟨List.mem_cons_self, rfl⟩
        rw [← hk y.1] at hm
        rcases List.mem_cons.1 (jx_fk_mem.1 hm).1 with e | e
        · rw [e]; exact Int64.le_refl _
        · exact hx'.1 y e
      have ek : x.1 = y.1 := Int64.le_antisymm a2 a1
      have e0 := hk x.1
      rw [jx_fkc (by simp), jx_fkc (x := y) (by simp [ek])] at e0
      have exy : x = y := (List.cons.inj e0).1
      subst exy
      refine congrArg (x :: ·) (ih ys hx'.2 hy'.2 (fun k => ?_))
      have e1 := hk k
      by_cases hkx : (x.1 == k) = true
      · rw [jx_fkc hkx, jx_fkc hkx] at e1; exact (List.cons.inj e1).2
      · rw [jx_fkn hkx, jx_fkn hkx] at e1; exact e1
theorem jx_SS_uniq {l1 l2 : List (Int64 × Int64)} (h1 : jx_SS l l1) (h2 : jx_SS l l2) : l1 = l2 := jx_so_uniq l1 l2 h1.1 h2.1 (fun k => (h1.2 k).trans (h2.2 k).symm)
end SORTED
