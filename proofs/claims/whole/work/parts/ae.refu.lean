section REFU
variable {h h0 g g1 : sm_H} {a : Nat} {Q : sm_R → sm_H → Prop} {n c i j t r np fa n1 : Nat} {k v : Int64} {e em l T S' inp : Jl} {p : Int64 × Int64} {u5 u6 u7 : Option Value} {pg : List (Int32 × Int64)} {pr : Nat → List (Int32 × Int64)} {ls : List Jl}
theorem mr_p16 : Int32.ofNat (16 * t) + 16 = Int32.ofNat (16 * t + 16) := by rw [Int32.ofNat_add]; rfl
theorem me_spl_len {x : Jl} (hx : me_spl pr inp t = some x) : x.length ≤ 256 := by
  rw [me_spl] at hx
  cases hm : me_map (pr 0) (me_rec inp t) with
  | none => rw [hm] at hx; cases hx
  | some e =>
    rw [hm] at hx
    have h1 := me_map_len _ _ hm
    have h2 : (me_rec inp t).length ≤ 16 := by rw [me_rec, List.length_take]; exact Nat.min_le_left _ _
    have hx' : (if (pr 1).length = 0 then some (srt e) else me_fo (pr 1) 1 (srt e)) = some x := hx
    split at hx'
    · cases hx'
      rw [srt_len]; omega
    · have := me_fo_len hx'
      rw [srt_len] at this
      omega
theorem me_rec_min (hn : n = inp.length) : (inp.drop (16 * t)).take (min n (16 * t + 16) - 16 * t) = me_rec inp t := by
  rw [me_rec]
  rcases Nat.le_total n (16 * t + 16) with h | h
  · rw [Nat.min_eq_left h, List.take_of_length_le (by rw [List.length_drop]; omega), List.take_of_length_le (by rw [List.length_drop]; omega)]
  · rw [Nat.min_eq_right h, show 16 * t + 16 - 16 * t = 16 by omega]

set_option maxRecDepth 10000 in
theorem wA_end (hn : n ≤ 600) (hi : n ≤ 16 * t) (ht : t ≤ 40) (kk : Ev 164 80 [some (.ref a), some (.int (Int32.ofNat j)), some (.int (Int32.ofNat n)), some (.int ((0 : Int32))), some (.int (Int32.ofNat (16 * t))), u5, u6, u7] [] g Q) : Ev 164 47 [some (.ref a), some (.int (Int32.ofNat j)), some (.int (Int32.ofNat n)), some (.int ((0 : Int32))), some (.int (Int32.ofNat (16 * t))), u5, u6, u7] [] g Q := by
  refine Er_run 3 (pc' := bif decide ((Int32.ofNat n) ≤ (Int32.ofNat (16 * t))) then 80 else 53) (ls' := [some (.ref a), some (.int (Int32.ofNat j)), some (.int (Int32.ofNat n)), some (.int ((0 : Int32))), some (.int (Int32.ofNat (16 * t))), u5, u6, u7]) (st' := []) rfl ?_
  refine Er_pc (t := 80) (show (bif decide ((Int32.ofNat n) ≤ (Int32.ofNat (16 * t))) then 80 else 53) = 80 from by rw [show (decide ((Int32.ofNat n) ≤ (Int32.ofNat (16 * t)))) = true from by rw [jx_le (by omega) (by omega)]; exact decide_eq_true (by omega)]; rfl) ?_
  exact kk
set_option maxRecDepth 10000 in
theorem wA_c0 (m0 : mrO g a) (hn : n ≤ 600) (hi : 16 * t < n) (hc : Run 162 [.ref a, .int (Int32.ofNat j), .int (Int32.ofNat (16 * t)), .int (Int32.ofNat (min n (16 * t + 16)))] g (.inl (some (.int 0))) g1) (hq : Q (.inl (some (.int 0))) g1) : Ev 164 47 [some (.ref a), some (.int (Int32.ofNat j)), some (.int (Int32.ofNat n)), some (.int ((0 : Int32))), some (.int (Int32.ofNat (16 * t))), u5, u6, u7] [] g Q := by
  refine Er_run 3 (pc' := bif decide ((Int32.ofNat n) ≤ (Int32.ofNat (16 * t))) then 80 else 53) (ls' := [some (.ref a), some (.int (Int32.ofNat j)), some (.int (Int32.ofNat n)), some (.int ((0 : Int32))), some (.int (Int32.ofNat (16 * t))), u5, u6, u7]) (st' := []) rfl ?_
  refine Er_pc (t := 53) (show (bif decide ((Int32.ofNat n) ≤ (Int32.ofNat (16 * t))) then 80 else 53) = 53 from by rw [show (decide ((Int32.ofNat n) ≤ (Int32.ofNat (16 * t)))) = false from by rw [jx_le (by omega) (by omega)]; exact decide_eq_false (by omega)]; rfl) ?_
  refine Er_run 7 (pc' := 63) (ls' := [some (.ref a), some (.int (Int32.ofNat j)), some (.int (Int32.ofNat n)), some (.int ((0 : Int32))), some (.int (Int32.ofNat (16 * t))), u5, u6, u7]) (st' := [.int ((Int32.ofNat (16 * t)) + ((16 : Int32))), .int (Int32.ofNat n), .int (Int32.ofNat (16 * t)), .int (Int32.ofNat j), .ref a]) rfl ?_
  refine Er_sta1 (av := [.int (Int32.ofNat n), .int ((Int32.ofNat (16 * t)) + ((16 : Int32)))]) (rest := [.int (Int32.ofNat (16 * t)), .int (Int32.ofNat j), .ref a]) rfl rfl ⟨Nat.le_of_ble_eq_true rfl, Nat.le_of_ble_eq_true rfl⟩ rfl rfl (by rw [mr_p16]; exact s_min (by omega) (by omega)) ?_
  refine Er_inv1 (q' := a) (ci := 12) (av := [.int (Int32.ofNat j), .int (Int32.ofNat (16 * t)), .int (Int32.ofNat (min n (16 * t + 16)))]) (rest := []) rfl rfl ⟨Nat.le_of_ble_eq_true rfl, Nat.le_of_ble_eq_true rfl⟩ rfl rfl m0.1 hc ?_
  refine Er_run 1 (pc' := bif !decide (((0 : Int32)) = 0) then 74 else 72) (ls' := [some (.ref a), some (.int (Int32.ofNat j)), some (.int (Int32.ofNat n)), some (.int ((0 : Int32))), some (.int (Int32.ofNat (16 * t))), u5, u6, u7]) (st' := []) rfl ?_
  refine Er_pc (t := 72) (show (bif !decide (((0 : Int32)) = 0) then 74 else 72) = 72 from by rw [show (!decide (((0 : Int32)) = 0)) = false from by decide]; rfl) ?_
  refine Er_run 1 (pc' := 73) (ls' := [some (.ref a), some (.int (Int32.ofNat j)), some (.int (Int32.ofNat n)), some (.int ((0 : Int32))), some (.int (Int32.ofNat (16 * t))), u5, u6, u7]) (st' := [.int ((0 : Int32))]) rfl ?_
  exact Er_fin rfl rfl hq
set_option maxRecDepth 10000 in
theorem wA_c1 (m0 : mrO g a) (hn : n ≤ 600) (hi : 16 * t < n) (hc : Run 162 [.ref a, .int (Int32.ofNat j), .int (Int32.ofNat (16 * t)), .int (Int32.ofNat (min n (16 * t + 16)))] g (.inl (some (.int 1))) g1) (kk : Ev 164 47 [some (.ref a), some (.int (Int32.ofNat j)), some (.int (Int32.ofNat n)), some (.int ((0 : Int32))), some (.int (Int32.ofNat (16 * (t + 1)))), u5, u6, u7] [] g1 Q) : Ev 164 47 [some (.ref a), some (.int (Int32.ofNat j)), some (.int (Int32.ofNat n)), some (.int ((0 : Int32))), some (.int (Int32.ofNat (16 * t))), u5, u6, u7] [] g Q := by
  refine Er_run 3 (pc' := bif decide ((Int32.ofNat n) ≤ (Int32.ofNat (16 * t))) then 80 else 53) (ls' := [some (.ref a), some (.int (Int32.ofNat j)), some (.int (Int32.ofNat n)), some (.int ((0 : Int32))), some (.int (Int32.ofNat (16 * t))), u5, u6, u7]) (st' := []) rfl ?_
  refine Er_pc (t := 53) (show (bif decide ((Int32.ofNat n) ≤ (Int32.ofNat (16 * t))) then 80 else 53) = 53 from by rw [show (decide ((Int32.ofNat n) ≤ (Int32.ofNat (16 * t)))) = false from by rw [jx_le (by omega) (by omega)]; exact decide_eq_false (by omega)]; rfl) ?_
  refine Er_run 7 (pc' := 63) (ls' := [some (.ref a), some (.int (Int32.ofNat j)), some (.int (Int32.ofNat n)), some (.int ((0 : Int32))), some (.int (Int32.ofNat (16 * t))), u5, u6, u7]) (st' := [.int ((Int32.ofNat (16 * t)) + ((16 : Int32))), .int (Int32.ofNat n), .int (Int32.ofNat (16 * t)), .int (Int32.ofNat j), .ref a]) rfl ?_
  refine Er_sta1 (av := [.int (Int32.ofNat n), .int ((Int32.ofNat (16 * t)) + ((16 : Int32)))]) (rest := [.int (Int32.ofNat (16 * t)), .int (Int32.ofNat j), .ref a]) rfl rfl ⟨Nat.le_of_ble_eq_true rfl, Nat.le_of_ble_eq_true rfl⟩ rfl rfl (by rw [mr_p16]; exact s_min (by omega) (by omega)) ?_
  refine Er_inv1 (q' := a) (ci := 12) (av := [.int (Int32.ofNat j), .int (Int32.ofNat (16 * t)), .int (Int32.ofNat (min n (16 * t + 16)))]) (rest := []) rfl rfl ⟨Nat.le_of_ble_eq_true rfl, Nat.le_of_ble_eq_true rfl⟩ rfl rfl m0.1 hc ?_
  refine Er_run 1 (pc' := bif !decide (((1 : Int32)) = 0) then 74 else 72) (ls' := [some (.ref a), some (.int (Int32.ofNat j)), some (.int (Int32.ofNat n)), some (.int ((0 : Int32))), some (.int (Int32.ofNat (16 * t))), u5, u6, u7]) (st' := []) rfl ?_
  refine Er_pc (t := 74) (show (bif !decide (((1 : Int32)) = 0) then 74 else 72) = 74 from by rw [show (!decide (((1 : Int32)) = 0)) = true from by decide]; rfl) ?_
  refine Er_run 2 (pc' := 47) (ls' := [some (.ref a), some (.int (Int32.ofNat j)), some (.int (Int32.ofNat n)), some (.int ((0 : Int32))), some (.int ((Int32.ofNat (16 * t)) + (16 : Int32))), u5, u6, u7]) (st' := []) rfl ?_
  rw [mr_p16, show 16 * t + 16 = 16 * (t + 1) by omega]
  exact kk
set_option maxRecDepth 10000 in
theorem MF.trans (x : MF h g a) (y : MF g g1 a) : MF h g1 a := ⟨x.1.trans y.1, fun s h1 h2 => (y.2 s h1 h2).trans (x.2 s h1 h2)⟩
/-- the SPLITS, one behind the other -/
theorem l_wA (m00 : mrO h0 a) (hj : j < 8) (hir : IR h0 a j fa n1 inp) (hp0 : PI2 h0 a (3 * j) (pr 0)) (hp1 : PI2 h0 a (3 * j + 1) (pr 1)) (hn : n = inp.length) (hti : n ≤ 600) (kF : me_all pr inp = none → ∀ g, MF h0 g a → Q (.inl (some (.int 0))) g) (kS : ∀ ls g, me_all pr inp = some ls → MF h0 g a → PW g a ls.flatten → ls.flatten.length ≤ 20000 → Ev 164 80 [some (.ref a), some (.int (Int32.ofNat j)), some (.int (Int32.ofNat n)), some (.int ((0 : Int32))), some (.int (Int32.ofNat (16 * me_ns inp))), u5, u6, u7] [] g Q) : ∀ (f t : Nat) (ls : List Jl) (g : sm_H), t + f = me_ns inp → me_seq (me_spl pr inp) t = some ls → MF h0 g a → PW g a ls.flatten → ls.flatten.length ≤ 256 * t → Ev 164 47 [some (.ref a), some (.int (Int32.ofNat j)), some (.int (Int32.ofNat n)), some (.int ((0 : Int32))), some (.int (Int32.ofNat (16 * t))), u5, u6, u7] [] g Q := by
  have h38 : me_ns inp ≤ 38 := by rw [me_ns]; omega
  intro f
  induction f with
  | zero =>
    intro t ls g ht hs z hw hl
    have e0 : t = me_ns inp := by omega
    subst e0
    exact wA_end hti (by rw [me_ns]; omega) (by omega) (kS ls g hs z hw (by omega))
  | succ f ih =>
    intro t ls g ht hs z hw hl
    have hlt : 16 * t < n := by rw [me_ns] at ht; omega
    have m0 := z.1.mrO m00
    obtain ⟨g1, hc, z1, hq⟩ := s_Ref_mapped (h := g) (ff := 16 * t) (tt := min n (16 * t + 16)) (pr := pr) (T := ls.flatten) m0 hj (IR_fr z.1 (by simp) (by simp) (by simp) (by simp) (by simp) hir) (PI2_fr z.1 (by simp) (by simp) (by simp) hp0) (PI2_fr z.1 (by simp) (by simp) (by simp) hp1) (by omega) (by omega) (by omega) (by omega) (by omega) hw
    rw [me_rec_min hn] at hc hq
    have hsp : (me_map (pr 0) (me_rec inp t)).bind (fun e => if (pr 1).length = 0 then some (srt e) else me_fo (pr 1) 1 (srt e)) = me_spl pr inp t := rfl
    rw [hsp] at hc hq
    cases hx : me_spl pr inp t with
    | none =>
      rw [hx] at hc
      exact wA_c0 m0 hti hlt hc (kF (me_seq_none hx _ (by omega)) g1 (z.trans z1))
    | some x =>
      rw [hx] at hc
      refine wA_c1 m0 hti hlt hc ?_
      have hs2 : me_seq (me_spl pr inp) (t + 1) = some (ls ++ [x]) := by rw [me_seq, hs, hx]; rfl
      have hf : (ls ++ [x]).flatten = ls.flatten ++ x := by rw [List.flatten_append]; simp
      have hxl := me_spl_len hx
      exact ih (t + 1) (ls ++ [x]) g1 (by omega) hs2 (z.trans z1) (by rw [hf]; exact hq x hx) (by rw [hf, List.length_append]; omega)

/-- of the pairs those of PART r -/
abbrev pq (np r : Nat) (p : Int64 × Int64) : Bool := decide (jp_of np p.1 = Int32.ofNat r)
/-- what is gathered for a PART, in order, is what is of it in all pairs in order -/
theorem red_flt (hl : ls.flatten.length ≤ 1000) : srt (me_gat np r ls) = (srt ls.flatten).filter (pq np r) := by
  have e1 : me_gat np r ls = ls.flatten.filter (pq np r) := by
    rw [me_gat]
    have : ∀ (ls : List Jl), (ls.map (jd_sel np 0 (Int32.ofNat r))).flatten = ls.flatten.filter (pq np r) := by
      intro ls
      induction ls with
      | nil => rfl
      | cons x xs ih =>
        rw [List.map_cons, List.flatten_cons, List.flatten_cons, List.filter_append, ih]
        congr 1
    exact this ls
  rw [e1]
  have h2 : (ls.flatten.filter (pq np r)).length ≤ 1000 := Nat.le_trans (List.length_filter_le _ _) hl
  refine jx_so_uniq _ _ (srt_so h2) (jx_so_sub (List.filter_sublist) (srt_so hl)) (fun k => ?_)
  rw [srt_fk h2]
  have h3 := srt_fk hl k
  rw [jx_fk] at h3 ⊢
  rw [jx_fk, List.filter_filter, List.filter_filter]
  have h4 : ∀ (l : Jl), l.filter (fun p => p.1 == k && pq np r p) = (l.filter (fun p => p.1 == k)).filter (pq np r) := by
    intro l
    rw [List.filter_filter]
    congr 1
    funext p
    rw [Bool.and_comm]
  rw [h4, h4]
  have h5 : (srt ls.flatten).filter (fun p => p.1 == k) = ls.flatten.filter (fun p => p.1 == k) := h3
  rw [h5]

end REFU
