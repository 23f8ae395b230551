def mU (G : Nat → Nat → Int32) (cl : List Nat) : Nat := (List.range' 0 8).countP (mOP G cl)
/-- THE CHAIN as the reference keeps it -/
def CO (g : sm_H) (a : Nat) (cl : List Nat) : Prop := gI g a 17 = Int32.ofNat cl.length ∧ ∀ i j, cl[i]? = some j → gI g (a + 13) i = Int32.ofNat j
section REF1
variable {h h0 g g1 h1 : sm_H} {a : Nat} {Q : sm_R → sm_H → Prop} {n c i j k K : Nat} {x y z m x1 x2 x3 x4 xo : Int32} {G : Nat → Nat → Int32} {PR : Nat → Nat → List (Int32 × Int64)} {F : Nat → Jl} {D : List (Int32 × Int64)} {cl cl' : List Nat} {u1 u2 u3 u4 u5 : Option Value}
theorem cnt_drop {p : Nat → Bool} {x : Nat} (hp : p x = true) : ∀ (l : List Nat), l.Nodup → x ∈ l → l.countP (fun y => p y && !decide (y = x)) + 1 = l.countP p := by
  intro l
  induction l with
  | nil => intro _ hx; cases hx
  | cons y t ih =>
    intro hn hx
    rw [List.nodup_cons] at hn
    have e1 : (y :: t).countP (fun y' => p y' && !decide (y' = x)) = t.countP (fun y' => p y' && !decide (y' = x)) + (if (p y && !decide (y = x)) = true then 1 else 0) := by rw [List.countP_cons]
    have e2 : (y :: t).countP p = t.countP p + (if p y = true then 1 else 0) := by rw [List.countP_cons]
    rw [e1, e2]
    by_cases e : y = x
    · have hc : t.countP (fun y' => p y' && !decide (y' = x)) = t.countP p := by
        apply List.countP_congr
        intro z hz
        have hzy : ¬ z = x := fun e3 => hn.1 (by rw [e, ← e3]; exact hz)
        show (p z && !decide (z = x)) = true ↔ p z = true
        rw [decide_eq_false hzy]
        cases p z <;> simp
      rw [hc, e, hp, decide_eq_true (show x = x from rfl)]
      rfl
    · have hm : x ∈ t := by
        rcases List.mem_cons.1 hx with z | z
        · exact absurd z.symm e
        · exact z
      have := ih hn.2 hm
      have e3 : (p y && !decide (y = x)) = p y := by
        rw [decide_eq_false e]
        cases p y <;> rfl
      rw [e3]
      omega
theorem mem8 (hj : j < 8) : j ∈ List.range' 0 8 := by rw [List.mem_range'_1]; omega
theorem lt8 (hj : j ∈ List.range' 0 8) : j < 8 := by rw [List.mem_range'_1] at hj; omega
theorem mU_snoc (hj : j < 8) (hop : mOP G cl j = true) : mU G (cl ++ [j]) + 1 = mU G cl := by
  have e : mOP G (cl ++ [j]) = fun y => mOP G cl y && !decide (y = j) := by
    funext y
    rw [mOP, mOP]
    by_cases h1 : y ∈ cl
    · have h2 : y ∈ cl ++ [j] := List.mem_append_left _ h1
      rw [decide_eq_true h1, decide_eq_true h2]
      cases decide (G y 1 = 1) <;> rfl
    · by_cases h2 : y = j
      · have h3 : y ∈ cl ++ [j] := by rw [h2]; exact List.mem_append_right _ List.mem_cons_self
        rw [decide_eq_true h3, decide_eq_true h2]
        cases decide (G y 1 = 1) <;> cases decide (y ∈ cl) <;> rfl
      · have h3 : ¬ y ∈ cl ++ [j] := by
          intro z
          rcases List.mem_append.1 z with z | z
          · exact h1 z
          · exact h2 (List.mem_singleton.1 z)
        rw [decide_eq_false h3, decide_eq_false h2, decide_eq_false h1]
        cases decide (G y 1 = 1) <;> rfl
  rw [mU, e]
  exact cnt_drop hop _ (by decide) (mem8 hj)
theorem find_cg {p q : Nat → Bool} : ∀ (l : List Nat), (∀ x, x ∈ l → p x = q x) → l.find? p = l.find? q := by
  intro l
  induction l with
  | nil => intro _; rfl
  | cons x t ih => intro h; rw [List.find?_cons, List.find?_cons, h x List.mem_cons_self, ih (fun y hy => h y (List.mem_cons_of_mem _ hy))]
theorem any_cg {p q : Nat → Bool} : ∀ (l : List Nat), (∀ x, x ∈ l → p x = q x) → l.any p = l.any q := by
  intro l
  induction l with
  | nil => intro _; rfl
  | cons x t ih => intro h; rw [List.any_cons, List.any_cons, h x List.mem_cons_self, ih (fun y hy => h y (List.mem_cons_of_mem _ hy))]
theorem count_cg {p q : Nat → Bool} : ∀ (l : List Nat), (∀ x, x ∈ l → p x = q x) → l.countP p = l.countP q := by
  intro l
  induction l with
  | nil => intro _; rfl
  | cons x t ih => intro h; rw [List.countP_cons, List.countP_cons, h x List.mem_cons_self, ih (fun y hy => h y (List.mem_cons_of_mem _ hy))]
theorem find_nc (hf : (List.range' 0 8).find? (mNC G cl) = some j) : j < 8 ∧ mOP G cl j = true ∧ (List.range' 0 8).any (mWT G cl j) = false := by
  have h1 := lt8 (List.mem_of_find?_eq_some hf)
  have h2 := List.find?_some hf
  rw [mNC_eq, Bool.and_eq_true, Bool.not_eq_true'] at h2
  exact ⟨h1, h2.1, h2.2⟩
/-- the class puts THE CHAIN in order so -/
theorem plan_pP {s : Nat} (hs : ST h s cl' G PR F) : ∀ (k : Nat) (cl : List Nat), jx_plan h s k cl = pP G k cl := by
  have hG : ∀ k, k < 8 → ∀ i, 1 ≤ i → i ≤ 5 → gI h (s + 52 + 11 * k) i = G k i := fun k hk => (hs.2.2.2 k hk).2.1
  have hmd : ∀ k, k < 8 → jx_md h s k = decide (G k 1 = 1) := fun k hk => by rw [jx_md, hG k hk 1 (by omega) (by omega)]
  have hwt : ∀ cl j k, j < 8 → k < 8 → jx_wt h s cl j k = mWT G cl j k := fun cl j k hj hk => by rw [jx_wt, mWT, hmd k hk, hG k hk 4 (by omega) (by omega), hG j hj 2 (by omega) (by omega), hG j hj 3 (by omega) (by omega)]
  have hnc : ∀ cl j, j < 8 → jx_nc h s cl j = mNC G cl j := fun cl j hj => by rw [jx_nc, mNC, hmd j hj, any_cg _ (fun x hx => hwt cl j x hj (lt8 hx))]
  have hsh : ∀ j k, j < 8 → k < 8 → jx_sh h s j k = mSH G j k := fun j k hj hk => by rw [jx_sh, mSH, hmd k hk, hG k hk 4 (by omega) (by omega), hG j hj 4 (by omega) (by omega)]
  intro k
  induction k with
  | zero => intro cl; rfl
  | succ k ih =>
    intro cl
    rw [jx_plan, pP, find_cg _ (fun x hx => hnc cl x (lt8 hx))]
    cases hf : (List.range' 0 8).find? (mNC G cl) with
    | none => rfl
    | some j =>
      have hj := (find_nc hf).1
      show (if (List.range' 0 8).any (jx_sh h s j) = true then (false, cl) else jx_plan h s k (cl ++ [j])) = (if (List.range' 0 8).any (mSH G j) = true then (false, cl) else pP G k (cl ++ [j]))
      rw [any_cg _ (fun x hx => hsh j x hj (lt8 hx)), ih]
theorem count_pP {s : Nat} (hs : ST h s cl' G PR F) : (List.range' 0 8).countP (jx_md h s) = mU G [] := by
  rw [mU]
  refine count_cg _ (fun k hk => ?_)
  rw [jx_md, (hs.2.2.2 k (lt8 hk)).2.1 1 (by omega) (by omega), mOP]
  cases decide (G k 1 = 1) <;> rfl
/-- where THE CHAIN can be run, no JOB shares its OUTPUT or reads it -/
theorem pP_ok : ∀ (k : Nat) (cl : List Nat), mU G cl = k → (pP G k cl).1 = true → ∀ j, j < 8 → mOP G cl j = true → (List.range' 0 8).any (mSH G j) = false ∧ ¬ (G j 2 = G j 4 ∨ G j 3 = G j 4) := by
  intro k
  induction k with
  | zero =>
    intro cl hu _ j hj ho
    exact absurd ho (List.countP_eq_zero.1 hu j (mem8 hj))
  | succ k ih =>
    intro cl hu hp j hj ho
    rw [pP] at hp
    cases hf : (List.range' 0 8).find? (mNC G cl) with
    | none => rw [hf] at hp; cases hp
    | some x =>
      rw [hf] at hp
      obtain ⟨x1, x2, x3⟩ := find_nc hf
      have hp' : (if (List.range' 0 8).any (mSH G x) = true then (false, cl) else pP G k (cl ++ [x])).1 = true := hp
      cases hs : (List.range' 0 8).any (mSH G x) with
      | true => rw [hs, if_pos rfl] at hp'; cases hp'
      | false =>
        rw [hs, if_neg (by decide)] at hp'
        by_cases e : j = x
        · subst e
          refine ⟨hs, fun z => ?_⟩
          exact List.any_eq_false.1 x3 j (mem8 hj) (mWT_2 x2 z)
        · have hm := mU_snoc x1 x2
          refine ih (cl ++ [x]) (by omega) hp' j hj ?_
          obtain ⟨o1, o2⟩ := mOP_1 ho
          refine mOP_2 o1 (fun z => ?_)
          rcases List.mem_append.1 z with z | z
          · exact o2 z
          · exact e (List.mem_singleton.1 z)
theorem pP_bad (hj : j < 8) (hi : i < 8) (hr : rb G j i) : (pP G (mU G []) []).1 = false := by
  cases hp : (pP G (mU G []) []).1 with
  | false => rfl
  | true =>
    exfalso
    obtain ⟨r1, r2, r3⟩ := hr
    obtain ⟨q1, q2⟩ := pP_ok _ [] rfl hp j hj (mOP_2 r2 (by simp))
    rcases r3 with ⟨z1, z2⟩ | ⟨z1, z2⟩
    · refine List.any_eq_false.1 q1 i (mem8 hi) ?_
      rw [mSH, decide_eq_false (show ¬ i = j by omega), decide_eq_true r1, decide_eq_true z2]; rfl
    · exact q2 z2
theorem pP_len : ∀ (k : Nat) (cl : List Nat), (∀ j, j ∈ cl → j < 8 ∧ G j 1 = 1) → (pP G k cl).2.length ≤ cl.length + k ∧ ∀ j, j ∈ (pP G k cl).2 → j < 8 ∧ G j 1 = 1 := by
  intro k
  induction k with
  | zero => intro cl hc; exact ⟨Nat.le_refl _, hc⟩
  | succ k ih =>
    intro cl hc
    rw [pP]
    cases hf : (List.range' 0 8).find? (mNC G cl) with
    | none => exact ⟨Nat.le_add_right _ _, hc⟩
    | some x =>
      show (if (List.range' 0 8).any (mSH G x) = true then (false, cl) else pP G k (cl ++ [x])).2.length ≤ _ ∧ ∀ j, j ∈ (if (List.range' 0 8).any (mSH G x) = true then (false, cl) else pP G k (cl ++ [x])).2 → _
      obtain ⟨x1, x2, x3⟩ := find_nc hf
      split
      · exact ⟨Nat.le_add_right _ _, hc⟩
      · obtain ⟨b1, b2⟩ := ih (cl ++ [x]) (fun j hj => by
          rcases List.mem_append.1 hj with z | z
          · exact hc j z
          · rw [List.mem_singleton.1 z]; exact ⟨x1, (mOP_1 x2).1⟩)
        rw [List.length_append, List.length_singleton] at b1
        exact ⟨by omega, b2⟩
/-- one JOB more -/
theorem CO_add (hj : j < 8) (hop : mOP G cl j = true) (z : FrL [a, a + 13, a + 15] [] h0 g) (hs : ∀ s, s ≠ 17 → gI g a s = gI h0 a s) (hc : CO g a cl) (hd : ∀ u, u < 8 → gI g (a + 15) u = (if mOP G cl u then 0 else 1)) : FrL [a, a + 13, a + 15] [] h0 (setI (setI (setI g (a + 13) cl.length (Int32.ofNat j)) a 17 (Int32.ofNat cl.length + 1)) (a + 15) j 1) ∧ (∀ s, s ≠ 17 → gI (setI (setI (setI g (a + 13) cl.length (Int32.ofNat j)) a 17 (Int32.ofNat cl.length + 1)) (a + 15) j 1) a s = gI h0 a s) ∧ CO (setI (setI (setI g (a + 13) cl.length (Int32.ofNat j)) a 17 (Int32.ofNat cl.length + 1)) (a + 15) j 1) a (cl ++ [j]) ∧ ∀ u, u < 8 → gI (setI (setI (setI g (a + 13) cl.length (Int32.ofNat j)) a 17 (Int32.ofNat cl.length + 1)) (a + 15) j 1) (a + 15) u = (if mOP G (cl ++ [j]) u then 0 else 1) := by
  have f3 : FrL [a, a + 13, a + 15] [] h0 (setI (setI (setI g (a + 13) cl.length (Int32.ofNat j)) a 17 (Int32.ofNat cl.length + 1)) (a + 15) j 1) := ((z.trans (FrL.setI (by simp))).trans (FrL.setI (by simp))).trans (FrL.setI (by simp))
  have gi : ∀ c i, gI (setI (setI (setI g (a + 13) cl.length (Int32.ofNat j)) a 17 (Int32.ofNat cl.length + 1)) (a + 15) j 1) c i = if c = a + 15 ∧ i = j then 1 else if c = a ∧ i = 17 then Int32.ofNat cl.length + 1 else if c = a + 13 ∧ i = cl.length then Int32.ofNat j else gI g c i := fun c i => rfl
  generalize setI (setI (setI g (a + 13) cl.length (Int32.ofNat j)) a 17 (Int32.ofNat cl.length + 1)) (a + 15) j 1 = g3 at f3 gi ⊢
  refine ⟨f3, fun s h1 => by rw [gi, if_neg (by omega), if_neg (by omega), if_neg (by omega)]; exact hs s h1, ⟨?_, fun i x hx => ?_⟩, fun u hu => ?_⟩
  · rw [gi, if_neg (by omega), if_pos ⟨rfl, rfl⟩, List.length_append, List.length_singleton, jx_s1]
  · by_cases hi : i < cl.length
    · rw [List.getElem?_append_left hi] at hx
      rw [gi, if_neg (by omega), if_neg (by omega), if_neg (by omega)]
      exact hc.2 i x hx
    · have h2 : i < (cl ++ [j]).length := (List.getElem?_eq_some_iff.1 hx).1
      rw [List.length_append, List.length_singleton] at h2
      have h3 : i = cl.length := by omega
      subst h3
      have h4 : j = x := by simpa using hx
      subst h4
      rw [gi, if_neg (by omega), if_neg (by omega), if_pos ⟨rfl, rfl⟩]
  · by_cases e : u = j
    · subst e
      have : mOP G (cl ++ [u]) u = false := by rw [mOP, decide_eq_true (List.mem_append_right cl List.mem_cons_self)]; cases decide (G u 1 = 1) <;> rfl
      rw [gi, if_pos ⟨rfl, rfl⟩, this]; rfl
    · have : mOP G (cl ++ [j]) u = mOP G cl u := by
        rw [mOP, mOP]
        have e2 : decide (u ∈ cl ++ [j]) = decide (u ∈ cl) := by
          rw [decide_eq_decide, List.mem_append, List.mem_singleton]
          exact ⟨fun z => z.elim id (fun z => absurd z e), Or.inl⟩
        rw [e2]
      rw [gi, if_neg (by omega), if_neg (by omega), if_neg (by omega), this]; exact hd u hu
/-- the second passes, one behind the other -/
theorem l_ch (r : RG h0 a G) (hns : ∀ j i, j < 8 → i < 8 → ¬ rb G j i) (kk : ∀ g, FrL [a, a + 13, a + 15] [] h0 g → (∀ s, s ≠ 17 → gI g a s = gI h0 a s) → CO g a (pP G K []).2 → Q (.inl (some (.int (if (pP G K []).1 = true then 1 else 0)))) g) : ∀ (k : Nat) (cl : List Nat) (g : sm_H) (u1 u2 u3 u4 u5 : Option Value), mU G cl = k → cl.length + k ≤ 8 → pP G k cl = pP G K [] → FrL [a, a + 13, a + 15] [] h0 g → (∀ s, s ≠ 17 → gI g a s = gI h0 a s) → CO g a cl → (∀ u, u < 8 → gI g (a + 15) u = (if mOP G cl u then 0 else 1)) → Ev 166 112 [some (.ref a), u1, u2, u3, u4, u5] [] g Q := by
  have start : ∀ (g : sm_H) (cl : List Nat) (u1 u2 u3 u4 u5 : Option Value), FrL [a, a + 13, a + 15] [] h0 g → (∀ u, u < 8 → gI g (a + 15) u = (if mOP G cl u then 0 else 1)) → (∀ u3 u4 u5 : Option Value, Ev 166 197 [some (.ref a), some (.int (jx_op ((List.range' 0 8).find? (mNC G cl)))), some (.int (if (List.range' 0 8).any (mOP G cl) = true then 1 else 0)), u3, u4, u5] [] g Q) → Ev 166 112 [some (.ref a), u1, u2, u3, u4, u5] [] g Q := by
    intro g cl u1 u2 u3 u4 u5 z hd k2
    have := l_ie (RG_fr z r) hd k2 8 u4 u5 (Nat.le_refl 8)
    have e1 : jx_op ((List.range' 8 (8 - 8)).find? (mNC G cl)) = -1 := rfl
    have e2 : (if (List.range' 8 (8 - 8)).any (mOP G cl) = true then (1 : Int32) else 0) = 0 := rfl
    rw [show Int32.ofNat 8 + (-1 : Int32) = Int32.ofNat 7 from jx_dec, e1, e2] at this
    exact ie_0 this
  intro k
  induction k with
  | zero =>
    intro cl g u1 u2 u3 u4 u5 hu hl he z hs hc hd
    refine start g cl u1 u2 u3 u4 u5 z hd (fun u3 u4 u5 => ?_)
    have hz := List.countP_eq_zero.1 hu
    rw [List.any_eq_false.2 hz, if_neg (by decide), List.find?_eq_none.2 (fun x hx => by rw [mNC_eq, Bool.eq_false_iff.2 (hz x hx), Bool.false_and]; exact Bool.false_ne_true)]
    refine ig_n0 ?_
    have := kk g z hs (by rw [← he]; exact hc)
    rw [← he] at this
    exact this
  | succ k ih =>
    intro cl g u1 u2 u3 u4 u5 hu hl he z hs hc hd
    refine start g cl u1 u2 u3 u4 u5 z hd (fun u3 u4 u5 => ?_)
    have hpos : 0 < (List.range' 0 8).countP (mOP G cl) := by rw [show (List.range' 0 8).countP (mOP G cl) = k + 1 from hu]; omega
    obtain ⟨x, x1, x2⟩ := List.countP_pos_iff.1 hpos
    rw [List.any_eq_true.2 ⟨x, x1, x2⟩, if_pos rfl]
    rw [pP] at he
    cases hf : (List.range' 0 8).find? (mNC G cl) with
    | none =>
      rw [hf] at he
      have he' : (false, cl) = pP G K [] := he
      refine ig_n1 ?_
      have := kk g z hs (by rw [← he']; exact hc)
      rw [← he'] at this
      exact this
    | some j =>
      rw [hf] at he
      obtain ⟨j1, j2, j3⟩ := find_nc hf
      have hsh : (List.range' 0 8).any (mSH G j) = false := by
        refine List.any_eq_false.2 (fun i hi hsh => ?_)
        have hi8 := lt8 hi
        rw [mSH, Bool.and_eq_true, Bool.and_eq_true, Bool.not_eq_true'] at hsh
        have e1 := of_decide_eq_false hsh.1
        have e2 := of_decide_eq_true hsh.2.1
        have e3 := of_decide_eq_true hsh.2.2
        rcases Nat.lt_or_ge i j with y | y
        · exact hns j i j1 hi8 ⟨e2, (mOP_1 j2).1, Or.inl ⟨y, e3⟩⟩
        · exact hns i j hi8 j1 ⟨(mOP_1 j2).1, e2, Or.inl ⟨by omega, e3.symm⟩⟩
      have he' : (if (List.range' 0 8).any (mSH G j) = true then (false, cl) else pP G k (cl ++ [j])) = pP G K [] := he
      rw [hsh, if_neg (by decide)] at he'
      have hm := mU_snoc j1 j2
      obtain ⟨y1, y2, y3, y4⟩ := CO_add j1 j2 z hs hc hd
      refine ig_s (z.mrO r.1) j1 (show cl.length < 8 by omega) hc.1 ?_
      exact ih (cl ++ [j]) _ _ _ _ _ _ (by omega) (by rw [List.length_append, List.length_singleton]; omega) he' y1 y2 y3 y4
set_option maxRecDepth 10000 in
theorem ih_0 (m0 : mrO g a) (kk : Ev 166 7 [some (.ref a), some (.int (Int32.ofNat 0)), none, none, none, none] [] (setI g a 17 0) Q) : Ev 166 0 [some (.ref a), none, none, none, none, none] [] g Q := by
  refine Er_run 2 (pc' := 2) (ls' := [some (.ref a), none, none, none, none, none]) (st' := [.int ((0 : Int32)), .ref a]) rfl ?_
  refine Er_putI rfl m0.1 ?_
  refine Er_run 2 (pc' := 7) (ls' := [some (.ref a), some (.int ((0 : Int32))), none, none, none, none]) (st' := []) rfl ?_
  exact kk
/-- isChain -/
theorem s_Ref_isChain (r : RG h a G) : ∃ h', Run 166 [.ref a] h (.inl (some (.int (if (pP G (mU G []) []).1 = true then 1 else 0)))) h' ∧ FrL [a, a + 13, a + 15] [] h h' ∧ (∀ s, s ≠ 17 → gI h' a s = gI h a s) ∧ ((pP G (mU G []) []).1 = true → CO h' a (pP G (mU G []) []).2) := by
  have hx : Ev 166 0 (sm_pad (sm_ent [.ref a]) (sm_prog.2.1 166)) [] h (fun r h1 => r = .inl (some (.int (if (pP G (mU G []) []).1 = true then 1 else 0))) ∧ FrL [a, a + 13, a + 15] [] h h1 ∧ (∀ s, s ≠ 17 → gI h1 a s = gI h a s) ∧ ((pP G (mU G []) []).1 = true → CO h1 a (pP G (mU G []) []).2)) := by
    show Ev 166 0 [some (.ref a), none, none, none, none, none] [] h _
    refine ih_0 r.1 ?_
    have z0 : FrL [a, a + 13, a + 15] [] h (setI h a 17 0) := FrL.setI (by simp)
    have s0 : ∀ s, s ≠ 17 → gI (setI h a 17 0) a s = gI h a s := fun s hs => gI_ne (by omega)
    have c0 : CO (setI h a 17 0) a [] := ⟨gI_eq, fun i j e => by simp at e⟩
    generalize setI h a 17 0 = h0 at z0 s0 c0 ⊢
    refine l_ij (RG_fr z0 r) (fun g j i hj hi hr z hs => ?_) (fun g u2 hn z e0 hd => ?_) 8 0 h0 none (by omega) (fun j i hj => absurd hj (by omega)) (FrL.refl h0) rfl (fun u hu => absurd hu (by omega))
    · have hb := pP_bad hj hi hr
      rw [hb]
      exact ⟨rfl, z0.trans z, fun s h1 => (hs s h1).trans (s0 s h1), fun e => by cases e⟩
    · refine l_ch (h0 := h0) (K := mU G []) (RG_fr z0 r) hn (fun g z hs hc => ⟨rfl, z0.trans z, fun s h1 => (hs s h1).trans (s0 s h1), fun _ => hc⟩) (mU G []) [] g _ _ _ _ _ rfl ?_ rfl z (fun s _ => by rw [e0]) ⟨by rw [e0]; exact c0.1, fun i j e => by simp at e⟩ hd
      have := List.countP_le_length (p := mOP G []) (l := List.range' 0 8)
      rw [List.length_range'] at this
      show 0 + (List.range' 0 8).countP (mOP G []) ≤ 8
      omega
  obtain ⟨r, h', hr, e, hq⟩ := Run_of (Nat.le_of_ble_eq_true rfl) hx
  subst e
  exact ⟨h', hr, hq⟩
set_option maxRecDepth 10000 in
theorem s_Ref_begin1 (m0 : mrO h a) (on0 : gI h a 19 = 1) : Run 174 [.ref a] h (.inl (some (.int 0))) (setI h a 18 1) := by
  refine ⟨Nat.le_of_ble_eq_true rfl, ?_⟩
  show Ev 174 0 [some (.ref a)] [] h _
  refine Er_run 2 (pc' := 2) (ls' := [some (.ref a)]) (st' := [.ref a, .ref a]) rfl ?_
  refine Er_getI (v := (1 : Int32)) rfl m0.1 on0 ?_
  refine Er_run 1 (pc' := bif decide (((1 : Int32)) = 0) then 12 else 8) (ls' := [some (.ref a)]) (st' := [.ref a]) rfl ?_
  refine Er_pc (t := 8) (show (bif decide (((1 : Int32)) = 0) then 12 else 8) = 8 from by rw [show (decide (((1 : Int32)) = 0)) = false from by decide]; rfl) ?_
  refine Er_run 2 (pc' := 24) (ls' := [some (.ref a)]) (st' := [.int ((1 : Int32)), .ref a]) rfl ?_
  refine Er_putI rfl m0.1 ?_
  refine Er_run 1 (pc' := 28) (ls' := [some (.ref a)]) (st' := [.ref a]) rfl ?_
  refine Er_getI (v := (1 : Int32)) rfl m0.1 gI_eq ?_
  refine Er_run 1 (pc' := bif decide (((1 : Int32)) ≤ 0) then 36 else 34) (ls' := [some (.ref a)]) (st' := []) rfl ?_
  refine Er_pc (t := 34) (show (bif decide (((1 : Int32)) ≤ 0) then 36 else 34) = 34 from by rw [show (decide (((1 : Int32)) ≤ 0)) = false from by decide]; rfl) ?_
  refine Er_run 1 (pc' := 35) (ls' := [some (.ref a)]) (st' := [.int ((0 : Int32))]) rfl ?_
  exact Er_fin rfl rfl ⟨rfl, rfl⟩
set_option maxRecDepth 10000 in
theorem s_Ref_begin2 (m0 : mrO h a) (on0 : gI h a 19 = 0) (hc : Run 166 [.ref a] h (.inl (some (.int 0))) g1) (m1 : mrO g1 a) : Run 174 [.ref a] h (.inl (some (.int 0))) (setI g1 a 18 2) := by
  refine ⟨Nat.le_of_ble_eq_true rfl, ?_⟩
  show Ev 174 0 [some (.ref a)] [] h _
  refine Er_run 2 (pc' := 2) (ls' := [some (.ref a)]) (st' := [.ref a, .ref a]) rfl ?_
  refine Er_getI (v := (0 : Int32)) rfl m0.1 on0 ?_
  refine Er_run 1 (pc' := bif decide (((0 : Int32)) = 0) then 12 else 8) (ls' := [some (.ref a)]) (st' := [.ref a]) rfl ?_
  refine Er_pc (t := 12) (show (bif decide (((0 : Int32)) = 0) then 12 else 8) = 12 from by rw [show (decide (((0 : Int32)) = 0)) = true from by decide]; rfl) ?_
  refine Er_run 1 (pc' := 13) (ls' := [some (.ref a)]) (st' := [.ref a, .ref a]) rfl ?_
  refine Er_inv1 (q' := a) (ci := 12) (av := []) (rest := [.ref a]) rfl rfl ⟨Nat.le_of_ble_eq_true rfl, Nat.le_of_ble_eq_true rfl⟩ rfl rfl m0.1 hc ?_
  refine Er_run 1 (pc' := bif !decide (((0 : Int32)) = 0) then 23 else 19) (ls' := [some (.ref a)]) (st' := [.ref a]) rfl ?_
  refine Er_pc (t := 19) (show (bif !decide (((0 : Int32)) = 0) then 23 else 19) = 19 from by rw [show (!decide (((0 : Int32)) = 0)) = false from by decide]; rfl) ?_
  refine Er_run 2 (pc' := 24) (ls' := [some (.ref a)]) (st' := [.int ((2 : Int32)), .ref a]) rfl ?_
  refine Er_putI rfl m1.1 ?_
  refine Er_run 1 (pc' := 28) (ls' := [some (.ref a)]) (st' := [.ref a]) rfl ?_
  refine Er_getI (v := (2 : Int32)) rfl m1.1 gI_eq ?_
  refine Er_run 1 (pc' := bif decide (((2 : Int32)) ≤ 0) then 36 else 34) (ls' := [some (.ref a)]) (st' := []) rfl ?_
  refine Er_pc (t := 34) (show (bif decide (((2 : Int32)) ≤ 0) then 36 else 34) = 34 from by rw [show (decide (((2 : Int32)) ≤ 0)) = false from by decide]; rfl) ?_
  refine Er_run 1 (pc' := 35) (ls' := [some (.ref a)]) (st' := [.int ((0 : Int32))]) rfl ?_
  exact Er_fin rfl rfl ⟨rfl, rfl⟩
set_option maxRecDepth 10000 in
theorem s_Ref_begin0 (m0 : mrO h a) (on0 : gI h a 19 = 0) (hc : Run 166 [.ref a] h (.inl (some (.int 1))) g1) (m1 : mrO g1 a) (rn0 : gI g1 a 16 = Int32.ofNat n) (ch0 : gI g1 a 17 = Int32.ofNat c) : Run 174 [.ref a] h (.inl (some (.int (Int32.ofNat c)))) (setI (setI (setI g1 a 18 0) a 19 1) a 16 (Int32.ofNat n + 1)) := by
  refine ⟨Nat.le_of_ble_eq_true rfl, ?_⟩
  show Ev 174 0 [some (.ref a)] [] h _
  refine Er_run 2 (pc' := 2) (ls' := [some (.ref a)]) (st' := [.ref a, .ref a]) rfl ?_
  refine Er_getI (v := (0 : Int32)) rfl m0.1 on0 ?_
  refine Er_run 1 (pc' := bif decide (((0 : Int32)) = 0) then 12 else 8) (ls' := [some (.ref a)]) (st' := [.ref a]) rfl ?_
  refine Er_pc (t := 12) (show (bif decide (((0 : Int32)) = 0) then 12 else 8) = 12 from by rw [show (decide (((0 : Int32)) = 0)) = true from by decide]; rfl) ?_
  refine Er_run 1 (pc' := 13) (ls' := [some (.ref a)]) (st' := [.ref a, .ref a]) rfl ?_
  refine Er_inv1 (q' := a) (ci := 12) (av := []) (rest := [.ref a]) rfl rfl ⟨Nat.le_of_ble_eq_true rfl, Nat.le_of_ble_eq_true rfl⟩ rfl rfl m0.1 hc ?_
  refine Er_run 1 (pc' := bif !decide (((1 : Int32)) = 0) then 23 else 19) (ls' := [some (.ref a)]) (st' := [.ref a]) rfl ?_
  refine Er_pc (t := 23) (show (bif !decide (((1 : Int32)) = 0) then 23 else 19) = 23 from by rw [show (!decide (((1 : Int32)) = 0)) = true from by decide]; rfl) ?_
  refine Er_run 1 (pc' := 24) (ls' := [some (.ref a)]) (st' := [.int ((0 : Int32)), .ref a]) rfl ?_
  refine Er_putI rfl m1.1 ?_
  refine Er_run 1 (pc' := 28) (ls' := [some (.ref a)]) (st' := [.ref a]) rfl ?_
  refine Er_getI (v := (0 : Int32)) rfl m1.1 gI_eq ?_
  refine Er_run 1 (pc' := bif decide (((0 : Int32)) ≤ 0) then 36 else 34) (ls' := [some (.ref a)]) (st' := []) rfl ?_
  refine Er_pc (t := 36) (show (bif decide (((0 : Int32)) ≤ 0) then 36 else 34) = 36 from by rw [show (decide (((0 : Int32)) ≤ 0)) = true from by decide]; rfl) ?_
  refine Er_run 2 (pc' := 38) (ls' := [some (.ref a)]) (st' := [.int ((1 : Int32)), .ref a]) rfl ?_
  refine Er_putZ rfl m1.1 (by decide) ?_
  refine Er_run 2 (pc' := 43) (ls' := [some (.ref a)]) (st' := [.ref a, .ref a]) rfl ?_
  refine Er_getI (v := Int32.ofNat n) rfl m1.1 (by rw [gI_ne (by omega), gI_ne (by omega)]; exact rn0) ?_
  refine Er_run 2 (pc' := 48) (ls' := [some (.ref a)]) (st' := [.int ((Int32.ofNat n) + ((1 : Int32))), .ref a]) rfl ?_
  refine Er_putI rfl m1.1 ?_
  refine Er_run 1 (pc' := 52) (ls' := [some (.ref a)]) (st' := [.ref a]) rfl ?_
  refine Er_getI (v := Int32.ofNat c) rfl m1.1 (by rw [gI_ne (by omega), gI_ne (by omega), gI_ne (by omega)]; exact ch0) ?_
  exact Er_fin rfl rfl ⟨rfl, rfl⟩
theorem RM_RG {b : Bool} (hp : RM h a G PR F D b n) : RG h a G := ⟨hp.1, fun u hu => ⟨(hp.2.2.2.2.1 u hu).1, (hp.2.2.2.2.1 u hu).2.1, fun e => ⟨((hp.2.2.2.2.1 u hu).2.2 e).1, ((hp.2.2.2.2.1 u hu).2.2 e).2.1, ((hp.2.2.2.2.1 u hu).2.2 e).2.2.1⟩⟩⟩
theorem chn_Fr (z : FrL [a, a + 13, a + 15] [] h g) : Fr a (a + 26) h g := z.Fr (fun c hc => by simp at hc; omega) (fun c hc => by cases hc)
/-- begin: THE RUN begins -/
theorem RM_begin (hok : (pP G (mU G []) []).1 = true) (hp : RM h a G PR F D false n) : ∃ h', Run 174 [.ref a] h (.inl (some (.int (Int32.ofNat (pP G (mU G []) []).2.length)))) h' ∧ RM h' a G PR F D true (n + 1) ∧ CO h' a (pP G (mU G []) []).2 ∧ gI h' a 18 = 0 ∧ Fr a (a + 26) h h' := by
  obtain ⟨g1, r1, z1, s1, c1⟩ := s_Ref_isChain (RM_RG hp)
  have c1 := c1 hok
  rw [hok] at r1
  have r2 := s_Ref_begin0 (n := n) hp.1 hp.2.2.2.2.2.1 r1 (z1.mrO hp.1) ((s1 16 (by omega)).trans hp.2.2.2.2.2.2) c1.1
  have z2 : FrL [a, a + 13, a + 15] [] h (setI (setI (setI g1 a 18 0) a 19 1) a 16 (Int32.ofNat n + 1)) := ((z1.trans (FrL.setI (by simp))).trans (FrL.setI (by simp))).trans (FrL.setI (by simp))
  have gi : ∀ c i, gI (setI (setI (setI g1 a 18 0) a 19 1) a 16 (Int32.ofNat n + 1)) c i = if c = a ∧ i = 16 then Int32.ofNat n + 1 else if c = a ∧ i = 19 then 1 else if c = a ∧ i = 18 then 0 else gI g1 c i := fun c i => rfl
  generalize setI (setI (setI g1 a 18 0) a 19 1) a 16 (Int32.ofNat n + 1) = g4 at r2 z2 gi
  have e17 : gI g4 a 17 = gI g1 a 17 := by rw [gi, if_neg (by omega), if_neg (by omega), if_neg (by omega)]
  have e13 : ∀ i, gI g4 (a + 13) i = gI g1 (a + 13) i := fun i => by rw [gi, if_neg (by omega), if_neg (by omega), if_neg (by omega)]
  refine ⟨g4, r2, RM_fl z2 (fun c hc => by simp at hc ⊢; omega) (fun c hc => by simp) ?_ ?_ ?_ (fun f hf => ?_) hp, ⟨by rw [e17]; exact c1.1, fun i j e => by rw [e13]; exact c1.2 i j e⟩, ?_, chn_Fr z2⟩
  · rw [gi, if_neg (by omega), if_neg (by omega), if_neg (by omega)]; exact s1 15 (by omega)
  · rw [gi, if_neg (by omega), if_pos ⟨rfl, rfl⟩]; rfl
  · rw [gi, if_pos ⟨rfl, rfl⟩, jx_s1]
  · rw [z2.gi (by simp), z2.gl (by simp), z2.gl (by simp)]; exact hp.2.1 f hf
  · rw [gi, if_neg (by omega), if_neg (by omega), if_pos ⟨rfl, rfl⟩]
/-- begin where THE CHAIN can't be run -/
theorem RM_begin_u (hok : ¬ (pP G (mU G []) []).1 = true) (hp : RM h a G PR F D false n) : ∃ h', Run 174 [.ref a] h (.inl (some (.int 0))) h' ∧ RM h' a G PR F D false n ∧ gI h' a 18 = 2 ∧ Fr a (a + 26) h h' := by
  obtain ⟨g1, r1, z1, s1, -⟩ := s_Ref_isChain (RM_RG hp)
  rw [if_neg hok] at r1
  have r2 := s_Ref_begin2 hp.1 hp.2.2.2.2.2.1 r1 (z1.mrO hp.1)
  have hq : RM g1 a G PR F D false n := RM_fl z1 (fun c hc => by simp at hc ⊢; omega) (fun c hc => by simp) (s1 15 (by omega)) ((s1 19 (by omega)).trans hp.2.2.2.2.2.1) ((s1 16 (by omega)).trans hp.2.2.2.2.2.2) (fun f hf => by rw [z1.gi (by simp), z1.gl (by simp), z1.gl (by simp)]; exact hp.2.1 f hf) hp
  exact ⟨_, r2, RM_thr hq, gI_eq, chn_Fr (z1.trans (FrL.setI (q := a) (by simp)))⟩
end REF1
