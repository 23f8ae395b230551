/-- the rows kq, vq hold l -/
def PK (h : sm_H) (kq vq : Nat) (l : Jl) : Prop := ∀ u p, l[u]? = some p → gL h kq u = p.1 ∧ gL h vq u = p.2
section REFP
variable {h g g' : sm_H} {a : Nat} {n vq kq i j : Nat} {A B : Int64} {l ls : Jl} {p : Int64 × Int64}
theorem mr_fk (k : Int64) (l1 l2 : Jl) : jx_fk k (l1 ++ l2) = jx_fk k l1 ++ jx_fk k l2 := by rw [jx_fk, List.filter_append]; rfl
theorem jx_fk_gt {k : Int64} (hk : ∀ q, q ∈ l → k < q.1) : jx_fk k l = [] := by
  rw [jx_fk, List.filter_eq_nil_iff]
  intro q hq e
  have h1 := hk q hq
  have h2 : q.1 = k := by simpa using e
  rw [h2] at h1
  exact Int64.lt_irrefl h1
/-- p is put in at j -/
theorem ins_SS (hs : jx_SS l ls) (h1 : ∀ q, q ∈ ls.drop j → p.1 < q.1) (h2 : ∀ q, q ∈ ls.take j → q.1 ≤ p.1) : jx_SS (l ++ [p]) (ls.take j ++ p :: ls.drop j) := by
  refine ⟨?_, fun k => ?_⟩
  · have hso : List.Pairwise (fun p q => p.1 ≤ q.1) (ls.take j ++ ls.drop j) := by rw [List.take_append_drop]; exact hs.1
    rw [List.pairwise_append] at hso
    show List.Pairwise (fun p q => p.1 ≤ q.1) (ls.take j ++ p :: ls.drop j)
    rw [List.pairwise_append, List.pairwise_cons]
    refine ⟨hso.1, ⟨fun q hq => Int64.le_of_lt (h1 q hq), hso.2.1⟩, fun x hx y hy => ?_⟩
    rcases List.mem_cons.1 hy with e | e
    · subst e; exact h2 x hx
    · exact hso.2.2 x hx y e
  · have hk := hs.2 k
    rw [mr_fk, show p :: ls.drop j = [p] ++ ls.drop j from rfl, mr_fk, mr_fk, ← hk]
    have e0 : jx_fk k ls = jx_fk k (ls.take j) ++ jx_fk k (ls.drop j) := by rw [← mr_fk, List.take_append_drop]
    rw [e0]
    by_cases e : p.1 = k
    · rw [jx_fk_gt (l := ls.drop j) (k := k) (fun q hq => by rw [← e]; exact h1 q hq), List.append_nil, List.append_nil]
    · have e2 : jx_fk k [p] = [] := by
        rw [jx_fk, List.filter_eq_nil_iff]
        intro q hq z
        rw [List.mem_singleton] at hq
        subst hq
        exact e (by simpa using z)
      rw [e2, List.nil_append, List.append_nil]
/-- the rows behind one step of the sort -/
theorem PK_ins (hne : kq ≠ vq) (hl : ls.length = i) (hj : j ≤ i) (hp : l[i]? = some p) (hr : PK g kq vq (ls ++ l.drop i)) (s : SN g g' kq vq i j) : PK (setL (setL g' kq j p.1) vq j p.2) kq vq ((ls.take j ++ p :: ls.drop j) ++ l.drop (i + 1)) := by
  have hi : i < l.length := (List.getElem?_eq_some_iff.1 hp).1
  have ht : (ls.take j).length = j := by rw [List.length_take]; omega
  have hold : ∀ u, u < i → ∀ q, ls[u]? = some q → gL g kq u = q.1 ∧ gL g vq u = q.2 := fun u hu q hq => hr u q (by rw [List.getElem?_append_left (by omega)]; exact hq)
  have hrest : ∀ u, i ≤ u → ∀ q, l[u]? = some q → gL g kq u = q.1 ∧ gL g vq u = q.2 := fun u hu q hq => hr u q (by rw [List.getElem?_append_right (by omega), hl, List.getElem?_drop, show i + (u - i) = u by omega]; exact hq)
  intro u q hq
  by_cases e : u = j
  · subst e
    rw [List.append_assoc, List.getElem?_append_right (by omega), ht, Nat.sub_self] at hq
    have hq' : some p = some q := hq
    cases hq'
    exact ⟨by rw [gL_ne (fun z => hne z.1), gL_eq], gL_eq⟩
  · rw [gL_ne (fun z => e z.2), gL_ne (fun z => e z.2), gL_ne (fun z => e z.2), gL_ne (fun z => e z.2), (s.2 u e).1, (s.2 u e).2]
    rcases Nat.lt_or_ge u j with c | c
    · rw [if_neg (by omega), if_neg (by omega)]
      rw [List.append_assoc, List.getElem?_append_left (by omega), List.getElem?_take_of_lt c] at hq
      exact hold u (by omega) q hq
    · rcases Nat.lt_or_ge i u with d | d
      · rw [if_neg (by omega), if_neg (by omega)]
        rw [List.getElem?_append_right (by rw [List.length_append, List.length_cons, List.length_drop, ht]; omega), List.length_append, List.length_cons, List.length_drop, ht, hl, List.getElem?_drop, show i + 1 + (u - (j + (i - j + 1))) = u by omega] at hq
        exact hrest u (by omega) q hq
      · rw [if_pos ⟨by omega, d⟩, if_pos ⟨by omega, d⟩]
        rw [List.append_assoc, List.getElem?_append_right (by omega), ht, List.cons_append, show u - j = (u - j - 1) + 1 by omega, List.getElem?_cons_succ, List.getElem?_append_left (by rw [List.length_drop]; omega), List.getElem?_drop, show j + (u - j - 1) = u - 1 by omega] at hq
        exact hold (u - 1) (by omega) q hq

set_option maxRecDepth 10000 in
theorem l_sout {len : Nat} (hne : kq ≠ vq) (hak0 : sm_at h kq 1 = true) (hav0 : sm_at h vq 1 = true) (hlk0 : (gS h kq).2 = len) (hlv0 : (gS h vq).2 = len) (hn : n = l.length) (hnl : n ≤ len) (hlen : len < 100000) : ∀ (f i : Nat) (ls : Jl) (g : sm_H) (w5 w6 w7 w8 w9 : Option Value), n ≤ i + f → 1 ≤ i → (i ≤ n ∨ (n = 0 ∧ i = 1)) → FrL [] [kq, vq] h g → ls.length = min i n → jx_SS (l.take i) ls → PK g kq vq (ls ++ l.drop i) → Ev 161 5 [some (.ref kq), some (.ref vq), some (.int ((0 : Int32))), some (.int (Int32.ofNat n)), some (.int (Int32.ofNat i)), w5, w6, w7, w8, w9] [] g (fun r h1 => r = .inl none ∧ FrL [] [kq, vq] h h1 ∧ ∃ ls, jx_SS l ls ∧ PK h1 kq vq ls) := by
  intro f
  induction f with
  | zero =>
    intro i ls g w5 w6 w7 w8 w9 hf h1 hin z hll hss hr
    have hak : sm_at g kq 1 = true := by rw [z.at]; exact hak0
    have hav : sm_at g vq 1 = true := by rw [z.at]; exact hav0
    have hq : (fun (r : sm_R) h1 => r = .inl none ∧ FrL [] [kq, vq] h h1 ∧ ∃ ls, jx_SS l ls ∧ PK h1 kq vq ls) (.inl none) g := by
      rw [List.take_of_length_le (by omega)] at hss
      rw [List.drop_of_length_le (by omega), List.append_nil] at hr
      exact ⟨rfl, z, ls, hss, hr⟩
    have hni : n ≤ i := by omega
    have hi1 : i < 2147483648 := by omega
    refine Er_run 3 (pc' := bif decide ((Int32.ofNat n) ≤ (Int32.ofNat i)) then 89 else 11) (ls' := [some (.ref kq), some (.ref vq), some (.int ((0 : Int32))), some (.int (Int32.ofNat n)), some (.int (Int32.ofNat i)), w5, w6, w7, w8, w9]) (st' := []) rfl ?_
    refine Er_pc (t := 89) (show (bif decide ((Int32.ofNat n) ≤ (Int32.ofNat i)) then 89 else 11) = 89 from by rw [show (decide ((Int32.ofNat n) ≤ (Int32.ofNat i))) = true from by rw [jx_le (by omega) (by omega)]; exact decide_eq_true (by omega)]; rfl) ?_
    exact Er_fin rfl rfl hq
  | succ f ih =>
    intro i ls g w5 w6 w7 w8 w9 hf h1 hin z hll hss hr
    have hak : sm_at g kq 1 = true := by rw [z.at]; exact hak0
    have hav : sm_at g vq 1 = true := by rw [z.at]; exact hav0
    have hlk : (gS g kq).2 = len := by rw [z.2.1]; exact hlk0
    have hlv : (gS g vq).2 = len := by rw [z.2.1]; exact hlv0
    by_cases hni : n ≤ i
    · have hq : (fun (r : sm_R) h1 => r = .inl none ∧ FrL [] [kq, vq] h h1 ∧ ∃ ls, jx_SS l ls ∧ PK h1 kq vq ls) (.inl none) g := by
        rw [List.take_of_length_le (by omega)] at hss
        rw [List.drop_of_length_le (by omega), List.append_nil] at hr
        exact ⟨rfl, z, ls, hss, hr⟩
      have hi1 : i < 2147483648 := by omega
      refine Er_run 3 (pc' := bif decide ((Int32.ofNat n) ≤ (Int32.ofNat i)) then 89 else 11) (ls' := [some (.ref kq), some (.ref vq), some (.int ((0 : Int32))), some (.int (Int32.ofNat n)), some (.int (Int32.ofNat i)), w5, w6, w7, w8, w9]) (st' := []) rfl ?_
      refine Er_pc (t := 89) (show (bif decide ((Int32.ofNat n) ≤ (Int32.ofNat i)) then 89 else 11) = 89 from by rw [show (decide ((Int32.ofNat n) ≤ (Int32.ofNat i))) = true from by rw [jx_le (by omega) (by omega)]; exact decide_eq_true (by omega)]; rfl) ?_
      exact Er_fin rfl rfl hq
    have hll' : ls.length = i := by omega
    obtain ⟨p, hp⟩ : ∃ p, l[i]? = some p := ⟨l[i]'(by omega), List.getElem?_eq_getElem (by omega)⟩
    have hpr : (ls ++ l.drop i)[i]? = some p := by rw [List.getElem?_append_right (by omega), hll', List.getElem?_drop, show i + (i - i) = i by omega]; exact hp
    have hsn : SN g g kq vq i i := ⟨FrL.refl g, fun u hu => ⟨by rw [if_neg (by omega)], by rw [if_neg (by omega)]⟩⟩
    have hold : ∀ u q, ls[u]? = some q → gL g kq u = q.1 := fun u q hq => (hr u q (by rw [List.getElem?_append_left (List.getElem?_eq_some_iff.1 hq).1]; exact hq)).1
    have kk : ∀ j g', j ≤ i → SN g g' kq vq i j → (∀ u, j ≤ u → u < i → p.1 < gL g kq u) → (j = 0 ∨ gL g kq (j - 1) ≤ p.1) → Ev 161 71 [some (.ref kq), some (.ref vq), some (.int ((0 : Int32))), some (.int (Int32.ofNat n)), some (.int (Int32.ofNat i)), some (.long (p.1)), none, some (.long (p.2)), none, some (.int (Int32.ofNat j))] [] g' (fun r h1 => r = .inl none ∧ FrL [] [kq, vq] h h1 ∧ ∃ ls, jx_SS l ls ∧ PK h1 kq vq ls) := by
      intro j g' hj s hgt hle
      have hak2 : sm_at g' kq 1 = true := by rw [s.1.at]; exact hak
      have hav2 : sm_at g' vq 1 = true := by rw [s.1.at]; exact hav
      have hlk2 : (gS g' kq).2 = len := by rw [s.1.2.1]; exact hlk
      have hlv2 : (gS g' vq).2 = len := by rw [s.1.2.1]; exact hlv
      have hd : ∀ q, q ∈ ls.drop j → p.1 < q.1 := by
        intro q hq
        obtain ⟨u, hu, e⟩ := List.getElem_of_mem hq
        rw [List.getElem_drop] at e
        rw [List.length_drop] at hu
        have h2 : ls[j + u]? = some q := by rw [List.getElem?_eq_getElem (by omega), e]
        rw [← hold _ _ h2]
        exact hgt _ (by omega) (by omega)
      have ht : ∀ q, q ∈ ls.take j → q.1 ≤ p.1 := by
        intro q hq
        rcases hle with e0 | hle
        · subst e0; rw [List.take_zero] at hq; cases hq
        · obtain ⟨u, hu, e⟩ := List.getElem_of_mem hq
          rw [List.getElem_take] at e
          rw [List.length_take] at hu
          by_cases hj0 : j = 0
          · omega
          have h2 : ls[u]? = some q := by rw [List.getElem?_eq_getElem (by omega), e]
          have hso : List.Pairwise (fun (p q : Int64 × Int64) => p.1 ≤ q.1) ls := hss.1
          by_cases euj : u = j - 1
          · rw [← euj, hold _ _ h2] at hle; exact hle
          · have h3 := List.pairwise_iff_getElem.1 hso u (j - 1) (by omega) (by omega) (by omega)
            rw [e] at h3
            have h4 : ls[j - 1]? = some (ls[j - 1]'(by omega)) := List.getElem?_eq_getElem (by omega)
            rw [hold _ _ h4] at hle
            exact Int64.le_trans h3 hle
      have kk2 := ih (i + 1) (ls.take j ++ p :: ls.drop j) (setL (setL g' kq j p.1) vq j p.2) (some (.long p.1)) none (some (.long p.2)) none (some (.int (Int32.ofNat j))) (by omega) (by omega) (by omega) (z.trans ((s.1.trans (FrL.setL (by simp))).trans (FrL.setL (by simp)))) (by rw [List.length_append, List.length_cons, List.length_take, List.length_drop]; omega) (by
        have e1 : l.take (i + 1) = l.take i ++ [p] := by
          rw [List.take_succ, hp]; rfl
        rw [e1]
        exact ins_SS hss hd ht) (PK_ins hne hll' hj hp hr s)
      refine Er_run 3 (pc' := 76) (ls' := [some (.ref kq), some (.ref vq), some (.int ((0 : Int32))), some (.int (Int32.ofNat n)), some (.int (Int32.ofNat i)), some (.long (p.1)), none, some (.long (p.2)), none, some (.int (Int32.ofNat j))]) (st' := [.long (p.1), .int (Int32.ofNat j), .ref kq]) rfl ?_
      refine Er_last rfl hak2 (mr_in (i := j) (k := len) rfl (by omega) (by omega) hlk2) ?_
      refine Er_run 3 (pc' := 82) (ls' := [some (.ref kq), some (.ref vq), some (.int ((0 : Int32))), some (.int (Int32.ofNat n)), some (.int (Int32.ofNat i)), some (.long (p.1)), none, some (.long (p.2)), none, some (.int (Int32.ofNat j))]) (st' := [.long (p.2), .int (Int32.ofNat j), .ref vq]) rfl ?_
      refine Er_last rfl hav2 (mr_in (i := j) (k := len) rfl (by omega) (by omega) hlv2) ?_
      refine Er_run 2 (pc' := 5) (ls' := [some (.ref kq), some (.ref vq), some (.int ((0 : Int32))), some (.int (Int32.ofNat n)), some (.int ((Int32.ofNat i) + (1 : Int32))), some (.long (p.1)), none, some (.long (p.2)), none, some (.int (Int32.ofNat j))]) (st' := []) rfl ?_
      rw [jx_s1, mr_cn (x := Int32.ofNat j) rfl (by omega)]
      exact kk2
    refine Er_run 3 (pc' := bif decide ((Int32.ofNat n) ≤ (Int32.ofNat i)) then 89 else 11) (ls' := [some (.ref kq), some (.ref vq), some (.int ((0 : Int32))), some (.int (Int32.ofNat n)), some (.int (Int32.ofNat i)), w5, w6, w7, w8, w9]) (st' := []) rfl ?_
    refine Er_pc (t := 11) (show (bif decide ((Int32.ofNat n) ≤ (Int32.ofNat i)) then 89 else 11) = 11 from by rw [show (decide ((Int32.ofNat n) ≤ (Int32.ofNat i))) = false from by rw [jx_le (by omega) (by omega)]; exact decide_eq_false (by omega)]; rfl) ?_
    refine Er_run 2 (pc' := 14) (ls' := [some (.ref kq), some (.ref vq), some (.int ((0 : Int32))), some (.int (Int32.ofNat n)), some (.int (Int32.ofNat i)), w5, w6, w7, w8, w9]) (st' := [.int (Int32.ofNat i), .ref kq]) rfl ?_
    refine Er_lald (v := p.1) rfl hak (mr_in (i := i) (k := len) rfl (by omega) (by omega) hlk) (mr_atL rfl (by omega) (hr i p hpr).1) ?_
    refine Er_run 3 (pc' := 20) (ls' := [some (.ref kq), some (.ref vq), some (.int ((0 : Int32))), some (.int (Int32.ofNat n)), some (.int (Int32.ofNat i)), some (.long (p.1)), none, w7, w8, w9]) (st' := [.int (Int32.ofNat i), .ref vq]) rfl ?_
    refine Er_lald (v := p.2) rfl hav (mr_in (i := i) (k := len) rfl (by omega) (by omega) hlv) (mr_atL rfl (by omega) (hr i p hpr).2) ?_
    refine Er_run 3 (pc' := 27) (ls' := [some (.ref kq), some (.ref vq), some (.int ((0 : Int32))), some (.int (Int32.ofNat n)), some (.int (Int32.ofNat i)), some (.long (p.1)), none, some (.long (p.2)), none, some (.int (Int32.ofNat i))]) (st' := []) rfl ?_
    exact l_sin hne hak hav hlk hlv (by omega) hlen kk i g (Nat.le_refl i) hsn (fun u h1 h2 => by omega)
/-- sort -/
theorem s_Ref_sort {len : Nat} (hne : kq ≠ vq) (hak : sm_at h kq 1 = true) (hav : sm_at h vq 1 = true) (hlk : (gS h kq).2 = len) (hlv : (gS h vq).2 = len) (hn : n = l.length) (hnl : n ≤ len) (hlen : len < 100000) (hs : n ≤ 1000) (hr : PK h kq vq l) : ∃ h', Run 161 [.ref kq, .ref vq, .int ((0 : Int32)), .int (Int32.ofNat n)] h (.inl none) h' ∧ FrL [] [kq, vq] h h' ∧ PK h' kq vq (srt l) := by
  have hx : Ev 161 0 (sm_pad (sm_ent [.ref kq, .ref vq, .int ((0 : Int32)), .int (Int32.ofNat n)]) (sm_prog.2.1 161)) [] h (fun r h1 => r = .inl none ∧ FrL [] [kq, vq] h h1 ∧ ∃ ls, jx_SS l ls ∧ PK h1 kq vq ls) := by
    have kk := l_sout hne hak hav hlk hlv hn hnl hlen n 1 (l.take 1) h none none none none none (by omega) (by omega) (by omega) (FrL.refl h) (by rw [List.length_take]; omega) (by
      refine ⟨?_, fun k => rfl⟩
      show List.Pairwise (fun p q => p.1 ≤ q.1) (l.take 1)
      rcases l with _ | ⟨q, l⟩
      · exact List.Pairwise.nil
      · exact List.pairwise_singleton _ _) (by rw [List.take_append_drop]; exact hr)
    show Ev 161 0 [some (.ref kq), some (.ref vq), some (.int ((0 : Int32))), some (.int (Int32.ofNat n)), none, none, none, none, none, none] [] h _
    refine Er_run 4 (pc' := 5) (ls' := [some (.ref kq), some (.ref vq), some (.int ((0 : Int32))), some (.int (Int32.ofNat n)), some (.int (((0 : Int32)) + ((1 : Int32)))), none, none, none, none, none]) (st' := []) rfl ?_
    exact kk
  obtain ⟨r, h', hr', e, hz, ls, h1, h2⟩ := Run_of (Nat.le_of_ble_eq_true rfl) hx
  subst e
  refine ⟨h', hr', hz, ?_⟩
  have := jx_SS_uniq h1 (jx_ord_SS (l := l) (by omega))
  show PK h' kq vq (jx_ord 10 1 l)
  rw [← this]; exact h2
end REFP
