section ORDERT
variable {h : sm_H} {a b n m : Nat} {l : List (Int64 × Int64)}
theorem s_Pairs_order (hp : PL h a n l) (hb : isP h b m) (hm : m ≤ 100000) (hd : a + 3 ≤ b ∨ b + 3 ≤ a) (hml : l.length ≤ m) : ∃ h', Run 10 [.ref a, .ref b] h (.inl none) h' ∧ PL h' a n (jx_ord 10 1 l) ∧ Fr2 a b h h' := by
  have hn := hp.2.1
  have hln := hp.2.2.1
  have hx : Ev 10 0 (sm_pad (sm_ent [.ref a, .ref b]) (sm_prog.2.1 10)) [] h (fun r h1 => r = .inl none ∧ PL h1 a n (jx_ord 10 1 l) ∧ Fr2 a b h h1) := by
    show Ev 10 0 [some (.ref a), some (.ref b), none, none] [] h _
    refine Er_run 1 (pc' := 1) (ls' := [some (.ref a), some (.ref b), none, none]) (st' := [.ref b]) rfl ?_
    refine Er_getR (x := b + 1) rfl hb.1 hb.2.1 ?_
    refine Er_alen (k := 1) rfl hb.2.2.2.1 (by decide) hb.2.2.2.2.1 ?_
    refine Er_run 1 (pc' := 6) (ls' := [some (.ref a), some (.ref b), none, none]) (st' := [.ref a, .int (Int32.ofNat m)]) rfl ?_
    refine Er_getI (v := Int32.ofNat l.length) rfl hp.1.1 hp.2.2.2.1 ?_
    refine Er_run 1 (pc' := bif decide ((Int32.ofNat l.length) ≤ (Int32.ofNat m)) then 13 else 12) (ls' := [some (.ref a), some (.ref b), none, none]) (st' := []) rfl ?_
    refine Er_pc (t := 13) (show (bif decide ((Int32.ofNat l.length) ≤ (Int32.ofNat m)) then 13 else 12) = 13 from by rw [show (decide ((Int32.ofNat l.length) ≤ (Int32.ofNat m))) = true from by rw [jx_le (by omega) (by omega)]; exact decide_eq_true (by omega)]; rfl) ?_
    refine Er_run 2 (pc' := 15) (ls' := [some (.ref a), some (.ref b), some (.int ((1 : Int32))), none]) (st' := []) rfl ?_
    exact l_passes hm hd 10 1 l h none (by omega) (by omega) (by decide) hp hb hml
  obtain ⟨r, h', hr, e, hq⟩ := Run_of (Nat.le_of_ble_eq_true rfl) hx
  subst e
  exact ⟨h', hr, hq⟩
/-- sorted by key -/
def jx_so (l : List (Int64 × Int64)) : Prop := l.Pairwise (fun p q => p.1 ≤ q.1)
/-- those of one key, as they lie -/
def jx_fk (k : Int64) (l : List (Int64 × Int64)) : List (Int64 × Int64) := l.filter (fun p => p.1 == k)
/-- sorted, and for each key the same ones in the same order -/
def jx_SS (l l' : List (Int64 × Int64)) : Prop := jx_so l' ∧ ∀ k, jx_fk k l' = jx_fk k l
theorem jx_fk_app (k : Int64) (l l' : List (Int64 × Int64)) : jx_fk k (l ++ l') = jx_fk k l ++ jx_fk k l' := List.filter_append ..
theorem jx_fkc {k : Int64} {x : Int64 × Int64} {l : List (Int64 × Int64)} (hk : (x.1 == k) = true) : jx_fk k (x :: l) = x :: jx_fk k l := List.filter_cons_of_pos (p := fun p : Int64 × Int64 => p.1 == k) hk
theorem jx_fkn {k : Int64} {x : Int64 × Int64} {l : List (Int64 × Int64)} (hk : ¬ (x.1 == k) = true) : jx_fk k (x :: l) = jx_fk k l := List.filter_cons_of_neg (p := fun p : Int64 × Int64 => p.1 == k) hk
theorem jx_so_merge : ∀ (N : Nat) (xs ys : List (Int64 × Int64)), xs.length + ys.length ≤ N → jx_so xs → jx_so ys → jx_so (List.merge xs ys jx_kle) ∧ ∀ k, jx_fk k (List.merge xs ys jx_kle) = jx_fk k xs ++ jx_fk k ys := by
  intro N
  induction N with
  | zero =>
    intro xs ys hN hx hy
    have h1 : xs = [] := List.eq_nil_of_length_eq_zero (by omega)
    have h2 : ys = [] := List.eq_nil_of_length_eq_zero (by omega)
    subst h1; subst h2
    exact ⟨by rw [List.nil_merge]; exact hy, fun k => by rw [List.nil_merge]; rfl⟩
  | succ N ih =>
    intro xs ys hN hx hy
    cases xs with
    | nil => exact ⟨by rw [List.nil_merge]; exact hy, fun k => by rw [List.nil_merge]; rfl⟩
    | cons x xs =>
      cases ys with
      | nil => exact ⟨by rw [List.merge_right]; exact hx, fun k => by rw [List.merge_right]; simp [jx_fk]⟩
      | cons y ys =>
        have hx' := List.pairwise_cons.1 hx
        have hy' := List.pairwise_cons.1 hy
        rw [List.cons_merge_cons]
        by_cases hxy : x.1 ≤ y.1
        · rw [if_pos (show jx_kle x y = true from decide_eq_true hxy)]
          obtain ⟨i1, i2⟩ := ih xs (y :: ys) (by simp only [List.length_cons] at hN ⊢; omega) hx'.2 hy
          refine ⟨List.pairwise_cons.2 ⟨fun z hz => ?_, i1⟩, fun k => ?_⟩
          · rcases List.mem_merge.1 hz with hz | hz
            · exact hx'.1 z hz
            · rcases List.mem_cons.1 hz with rfl | hz
              · exact hxy
              · exact Int64.le_trans hxy (hy'.1 z hz)
          · have e := i2 k
            by_cases hk : (x.1 == k) = true
            · rw [jx_fkc hk, jx_fkc hk, e]; rfl
            · rw [jx_fkn hk, jx_fkn hk, e]
        · rw [if_neg (show ¬ jx_kle x y = true from by rw [show jx_kle x y = false from decide_eq_false hxy]; decide)]
          have hyx : y.1 < x.1 := Int64.not_le.1 hxy
          obtain ⟨i1, i2⟩ := ih (x :: xs) ys (by simp only [List.length_cons] at hN ⊢; omega) hx hy'.2
          refine ⟨List.pairwise_cons.2 ⟨fun z hz => ?_, i1⟩, fun k => ?_⟩
          · rcases List.mem_merge.1 hz with hz | hz
            · rcases List.mem_cons.1 hz with rfl | hz
              · exact Int64.le_of_lt hyx
              · exact Int64.le_trans (Int64.le_of_lt hyx) (hx'.1 z hz)
            · exact hy'.1 z hz
          · have e := i2 k
            by_cases hk : (y.1 == k) = true
            · have hn : jx_fk k (x :: xs) = [] := by
                rw [jx_fk, List.filter_eq_nil_iff]
                intro z hz hzk
                have e1 : z.1 = k := by simpa using hzk
                have e2 : y.1 = k := by simpa using hk
                rcases List.mem_cons.1 hz with rfl | hz
                · rw [e1, e2] at hyx; exact Int64.lt_irrefl hyx
                · have := hx'.1 z hz
                  rw [e1] at this
                  rw [e2] at hyx
                  exact Int64.lt_irrefl (Int64.lt_of_lt_of_le hyx this)
              rw [jx_fkc hk, e, hn, jx_fkc hk]; rfl
            · rw [jx_fkn hk, e, jx_fkn (x := y) hk]
/-- the pieces of w each are sorted -/
def jx_ch (w : Nat) (l : List (Int64 × Int64)) : Prop := ∀ i, jx_so ((l.drop (i * w)).take w)

end ORDERT
