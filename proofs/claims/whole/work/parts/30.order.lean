section ORDER
variable {h : sm_H} {a b n m : Nat} {l : List (Int64 × Int64)}
theorem isP_fr1 {lo hi : Nat} {h' : sm_H} (x : Fr lo hi h h') (hd : a < lo ∨ hi ≤ a) (hp : isP h a n) : isP h' a n := by
  refine ⟨by rw [x.at]; exact hp.1, ?_, ?_, by rw [x.at]; exact hp.2.2.2.1, by rw [x.2.1]; exact hp.2.2.2.2.1, by rw [x.at]; exact hp.2.2.2.2.2.1, by rw [x.2.1]; exact hp.2.2.2.2.2.2⟩
  · rw [(x.2.2.2.2 a hd).2.2]; exact hp.2.1
  · rw [(x.2.2.2.2 a hd).2.2]; exact hp.2.2.1
theorem jx_f2 (f w : Nat) : Int32.ofNat f + (2 : Int32) * Int32.ofNat w = Int32.ofNat (f + 2 * w) := by
  rw [Int32.ofNat_add, Int32.ofNat_mul]; rfl
theorem jx_w2 (w : Nat) : Int32.ofNat w * (2 : Int32) = Int32.ofNat (w * 2) := by
  rw [Int32.ofNat_mul]; rfl
theorem jx_sl1 {f w : Nat} : (l.drop f).take (min (f + w) l.length - f) = (l.drop f).take w := by
  rw [List.take_eq_take_iff, List.length_drop]; omega
theorem jx_sl2 {f w : Nat} : (l.drop (min (f + w) l.length)).take (min (min (f + w) l.length + w) l.length - min (f + w) l.length) = ((l.drop f).drop w).take w := by
  rw [List.drop_drop]
  by_cases hc : f + w ≤ l.length
  · rw [Nat.min_eq_left hc, List.take_eq_take_iff, List.length_drop]; omega
  · rw [Nat.min_eq_right (a := f + w) (by omega), List.drop_eq_nil_of_le (Nat.le_refl _), List.drop_eq_nil_of_le (by omega)]; simp
/-- one pass over the row -/
def jx_pass (w : Nat) : Nat → List (Int64 × Int64) → List (Int64 × Int64)
  | 0, l => l
  | k + 1, l => List.merge (l.take w) ((l.drop w).take w) jx_kle ++ jx_pass w k (l.drop (2 * w))
def jx_ord : Nat → Nat → List (Int64 × Int64) → List (Int64 × Int64)
  | 0, _, l => l
  | j + 1, w, l => if w < l.length ∧ w < 1000 then jx_ord j (w * 2) (jx_pass w l.length l) else l
theorem jx_pass_len (w : Nat) : ∀ (k : Nat) (l : List (Int64 × Int64)), (jx_pass w k l).length = l.length := by
  intro k
  induction k with
  | zero => intro l; rfl
  | succ k ih =>
    intro l
    rw [jx_pass, List.length_append, List.length_merge, ih]
    simp only [List.length_take, List.length_drop]
    omega
theorem jx_pass_nil (w k : Nat) : jx_pass w k [] = [] := List.eq_nil_of_length_eq_zero (jx_pass_len w k [])

theorem l_pass {w : Nat} {Q : sm_R → sm_H → Prop} (hm : m ≤ 100000) (hd : a + 3 ≤ b ∨ b + 3 ≤ a) (hml : l.length ≤ m) (hw : w ≤ 1000000) (hw1 : 1 ≤ w) : ∀ (k f : Nat) (h : sm_H) (out : List (Int64 × Int64)), PL h a n l → isP h b m → SC h b out → out.length = min f l.length → l.length ≤ f + k → f ≤ 10000000 → (∀ h1 x3, PL h1 a n l → isP h1 b m → SC h1 b (out ++ jx_pass w k (l.drop f)) → Fr (b + 1) (b + 3) h h1 → Ev 10 56 [some (.ref a), some (.ref b), some (.int (Int32.ofNat w)), some (.int x3)] [] h1 Q) → Ev 10 32 [some (.ref a), some (.ref b), some (.int (Int32.ofNat w)), some (.int (Int32.ofNat f))] [] h Q := by
  intro k
  induction k with
  | zero =>
    intro f h out hp hb hs ho hk hf kk
    have hn := hp.2.1
    have hln := hp.2.2.1
    refine Er_run 2 (pc' := 34) (ls' := [some (.ref a), some (.ref b), some (.int (Int32.ofNat w)), some (.int (Int32.ofNat f))]) (st' := [.ref a, .int (Int32.ofNat f)]) rfl ?_
    refine Er_getI (v := Int32.ofNat l.length) rfl hp.1.1 hp.2.2.2.1 ?_
    refine Er_run 1 (pc' := bif decide ((Int32.ofNat l.length) ≤ (Int32.ofNat f)) then 56 else 40) (ls' := [some (.ref a), some (.ref b), some (.int (Int32.ofNat w)), some (.int (Int32.ofNat f))]) (st' := []) rfl ?_
    refine Er_pc (t := 56) (show (bif decide ((Int32.ofNat l.length) ≤ (Int32.ofNat f)) then 56 else 40) = 56 from by rw [show (decide ((Int32.ofNat l.length) ≤ (Int32.ofNat f))) = true from by rw [jx_le (by omega) (by omega)]; exact decide_eq_true (by omega)]; rfl) ?_
    have e : l.drop f = [] := List.drop_eq_nil_of_le (by omega)
    exact kk h (Int32.ofNat f) hp hb (by rw [e, jx_pass_nil, List.append_nil]; exact hs) (Fr.refl _ _ _)
  | succ k ih =>
    intro f h out hp hb hs ho hk hf kk
    have hn := hp.2.1
    have hln := hp.2.2.1
    by_cases hfl : l.length ≤ f
    · skip
      refine Er_run 2 (pc' := 34) (ls' := [some (.ref a), some (.ref b), some (.int (Int32.ofNat w)), some (.int (Int32.ofNat f))]) (st' := [.ref a, .int (Int32.ofNat f)]) rfl ?_
      refine Er_getI (v := Int32.ofNat l.length) rfl hp.1.1 hp.2.2.2.1 ?_
      refine Er_run 1 (pc' := bif decide ((Int32.ofNat l.length) ≤ (Int32.ofNat f)) then 56 else 40) (ls' := [some (.ref a), some (.ref b), some (.int (Int32.ofNat w)), some (.int (Int32.ofNat f))]) (st' := []) rfl ?_
      refine Er_pc (t := 56) (show (bif decide ((Int32.ofNat l.length) ≤ (Int32.ofNat f)) then 56 else 40) = 56 from by rw [show (decide ((Int32.ofNat l.length) ≤ (Int32.ofNat f))) = true from by rw [jx_le (by omega) (by omega)]; exact decide_eq_true (by omega)]; rfl) ?_
      have e : l.drop f = [] := List.drop_eq_nil_of_le (by omega)
      exact kk h (Int32.ofNat f) hp hb (by rw [e, jx_pass_nil, List.append_nil]; exact hs) (Fr.refl _ _ _)
    · skip
      refine Er_run 2 (pc' := 34) (ls' := [some (.ref a), some (.ref b), some (.int (Int32.ofNat w)), some (.int (Int32.ofNat f))]) (st' := [.ref a, .int (Int32.ofNat f)]) rfl ?_
      refine Er_getI (v := Int32.ofNat l.length) rfl hp.1.1 hp.2.2.2.1 ?_
      refine Er_run 1 (pc' := bif decide ((Int32.ofNat l.length) ≤ (Int32.ofNat f)) then 56 else 40) (ls' := [some (.ref a), some (.ref b), some (.int (Int32.ofNat w)), some (.int (Int32.ofNat f))]) (st' := []) rfl ?_
      refine Er_pc (t := 40) (show (bif decide ((Int32.ofNat l.length) ≤ (Int32.ofNat f)) then 56 else 40) = 40 from by rw [show (decide ((Int32.ofNat l.length) ≤ (Int32.ofNat f))) = false from by rw [jx_le (by omega) (by omega)]; exact decide_eq_false (by omega)]; rfl) ?_
      refine Er_run 4 (pc' := 44) (ls' := [some (.ref a), some (.ref b), some (.int (Int32.ofNat w)), some (.int (Int32.ofNat f))]) (st' := [.int (Int32.ofNat w), .int (Int32.ofNat f), .ref b, .ref a]) rfl ?_
      obtain ⟨h1, hr, hs1, fr1⟩ := s_merge (w := w) hp hb hm hd hml hs (show out.length = f by omega) (by omega) hw
      rw [jx_sl1, jx_sl2] at hs1
      refine Er_inv0 (q' := a) (ci := 0) (av := [.ref b, .int (Int32.ofNat f), .int (Int32.ofNat w)]) (rest := []) rfl rfl ⟨Nat.le_of_ble_eq_true rfl, Nat.le_of_ble_eq_true rfl⟩ rfl rfl hp.1.1 hr ?_
      refine Er_run 7 (pc' := 32) (ls' := [some (.ref a), some (.ref b), some (.int (Int32.ofNat w)), some (.int ((Int32.ofNat f) + (((2 : Int32)) * (Int32.ofNat w))))]) (st' := []) rfl ?_
      rw [jx_f2]
      refine ih (f + 2 * w) h1 _ (PL_fr fr1 (by omega) hp) (isP_fr1 fr1 (by omega) hb) hs1 (by simp only [List.length_append, List.length_merge, List.length_take, List.length_drop]; omega) (by omega) (by omega) (fun h2 x3 p1 p2 p3 p4 => kk h2 x3 p1 p2 ?_ (fr1.trans p4))
      rw [jx_pass, ← List.append_assoc, show List.drop (2 * w) (List.drop f l) = List.drop (f + 2 * w) l from List.drop_drop]
      exact p3
theorem l_back {w : Nat} {x3 : Int32} {res : List (Int64 × Int64)} {Q : sm_R → sm_H → Prop} (hp : PL h a n l) (hb : isP h b m) (hd : a + 3 ≤ b ∨ b + 3 ≤ a) (hml : l.length ≤ m) (hs : SC h b res) (hr : res.length = l.length) (kk : ∀ h', PL h' a n res → Fr a (a + 3) h h' → Ev 10 15 [some (.ref a), some (.ref b), some (.int (Int32.ofNat (w * 2))), some (.int x3)] [] h' Q) : Ev 10 56 [some (.ref a), some (.ref b), some (.int (Int32.ofNat w)), some (.int x3)] [] h Q := by
  have hn := hp.2.1
  have hln := hp.2.2.1
  refine Er_run 1 (pc' := 57) (ls' := [some (.ref a), some (.ref b), some (.int (Int32.ofNat w)), some (.int x3)]) (st' := [.ref b]) rfl ?_
  refine Er_getR (x := b + 1) rfl hb.1 hb.2.1 ?_
  refine Er_run 2 (pc' := 62) (ls' := [some (.ref a), some (.ref b), some (.int (Int32.ofNat w)), some (.int x3)]) (st' := [.ref a, .int ((0 : Int32)), .ref (b + 1)]) rfl ?_
  refine Er_getR (x := a + 1) rfl hp.1.1 hp.1.2.1 ?_
  refine Er_run 2 (pc' := 67) (ls' := [some (.ref a), some (.ref b), some (.int (Int32.ofNat w)), some (.int x3)]) (st' := [.ref a, .int ((0 : Int32)), .ref (a + 1), .int ((0 : Int32)), .ref (b + 1)]) rfl ?_
  refine Er_getI (v := Int32.ofNat l.length) rfl hp.1.1 hp.2.2.2.1 ?_
  refine Er_cpL rfl hb.2.2.2.1 hp.1.2.2.2.1 (Nat.le_of_ble_eq_true rfl) (by decide) (by decide) (by rw [sm_ofNat_toInt (by omega)]; omega) (by show (0 : Int) + _ ≤ (((gS h (b + 1)).2 : Nat) : Int); rw [hb.2.2.2.2.1, sm_ofNat_toInt (by omega)]; omega) (by show (0 : Int) + _ ≤ (((gS h (a + 1)).2 : Nat) : Int); rw [hp.1.2.2.2.2.1, sm_ofNat_toInt (by omega)]; omega) ?_
  refine Er_run 1 (pc' := 74) (ls' := [some (.ref a), some (.ref b), some (.int (Int32.ofNat w)), some (.int x3)]) (st' := [.ref b]) rfl ?_
  refine Er_getR (x := b + 2) rfl hb.1 hb.2.2.1 ?_
  refine Er_run 2 (pc' := 79) (ls' := [some (.ref a), some (.ref b), some (.int (Int32.ofNat w)), some (.int x3)]) (st' := [.ref a, .int ((0 : Int32)), .ref (b + 2)]) rfl ?_
  refine Er_getR (x := a + 2) rfl hp.1.1 hp.1.2.2.1 ?_
  refine Er_run 2 (pc' := 84) (ls' := [some (.ref a), some (.ref b), some (.int (Int32.ofNat w)), some (.int x3)]) (st' := [.ref a, .int ((0 : Int32)), .ref (a + 2), .int ((0 : Int32)), .ref (b + 2)]) rfl ?_
  refine Er_getI (v := Int32.ofNat l.length) rfl hp.1.1 hp.2.2.2.1 ?_
  refine Er_cpL rfl hb.2.2.2.2.2.1 hp.1.2.2.2.2.2.1 (Nat.le_of_ble_eq_true rfl) (by decide) (by decide) (by rw [sm_ofNat_toInt (by omega)]; omega) (by show (0 : Int) + _ ≤ (((gS h (b + 2)).2 : Nat) : Int); rw [hb.2.2.2.2.2.2, sm_ofNat_toInt (by omega)]; omega) (by show (0 : Int) + _ ≤ (((gS h (a + 2)).2 : Nat) : Int); rw [hp.1.2.2.2.2.2.2, sm_ofNat_toInt (by omega)]; omega) ?_
  refine Er_run 5 (pc' := 15) (ls' := [some (.ref a), some (.ref b), some (.int ((Int32.ofNat w) * ((2 : Int32)))), some (.int x3)]) (st' := []) rfl ?_
  rw [jx_w2, jx_cn (i := l.length) (by omega), show (0 : Int32).toNatClampNeg = 0 from rfl]
  refine kk _ ⟨hp.1, hp.2.1, by omega, by rw [hr]; exact hp.2.2.2.1, ?_⟩ ((Fr.rowL (by omega) (by omega)).trans (Fr.rowL (by omega) (by omega)))
  intro i p e
  have hi : i < l.length := by have := (List.getElem?_eq_some_iff.1 e).1; omega
  have e1 : gL (sm_cpL (sm_cpL h (b + 1) 0 (a + 1) 0 l.length) (b + 2) 0 (a + 2) 0 l.length) (a + 1) i = if 0 ≤ i ∧ i < 0 + l.length then gL h (b + 1) (0 + (i - 0)) else gL h (a + 1) i := by
    show (if a + 1 = a + 2 then _ else if a + 1 = a + 1 then va_cpy (gL h (b + 1)) (gL h (a + 1)) 0 0 l.length else gL h (a + 1)) i = _
    rw [if_neg (by omega), if_pos rfl]; rfl
  have e2 : gL (sm_cpL (sm_cpL h (b + 1) 0 (a + 1) 0 l.length) (b + 2) 0 (a + 2) 0 l.length) (a + 2) i = if 0 ≤ i ∧ i < 0 + l.length then gL h (b + 2) (0 + (i - 0)) else gL h (a + 2) i := by
    show (if a + 2 = a + 2 then va_cpy (if b + 2 = a + 1 then _ else gL h (b + 2)) (if a + 2 = a + 1 then _ else gL h (a + 2)) 0 0 l.length else _) i = _
    rw [if_pos rfl, if_neg (c := b + 2 = a + 1) (by omega), if_neg (c := a + 2 = a + 1) (by omega)]; rfl
  rw [e1, e2, if_pos (by omega), if_pos (by omega), Nat.zero_add, Nat.sub_zero]
  exact hs i p e
/-- nothing has changed but the row at a and the arrays of the row at b -/
def Fr2 (a b : Nat) (h h' : sm_H) : Prop := gN h' = gN h ∧ gS h' = gS h ∧ gJ h' = gJ h ∧ gD h' = gD h ∧ ∀ c, (c < a ∨ a + 3 ≤ c) → (c < b + 1 ∨ b + 3 ≤ c) → gI h' c = gI h c ∧ gL h' c = gL h c ∧ gR h' c = gR h c
theorem Fr2.refl (a b : Nat) (h : sm_H) : Fr2 a b h h := ⟨rfl, rfl, rfl, rfl, fun _ _ _ => ⟨rfl, rfl, rfl⟩⟩
theorem Fr2.trans {h1 h2 : sm_H} (x : Fr2 a b h h1) (y : Fr2 a b h1 h2) : Fr2 a b h h2 :=
  ⟨y.1.trans x.1, y.2.1.trans x.2.1, y.2.2.1.trans x.2.2.1, y.2.2.2.1.trans x.2.2.2.1, fun c hc hc2 => ⟨(y.2.2.2.2 c hc hc2).1.trans (x.2.2.2.2 c hc hc2).1, (y.2.2.2.2 c hc hc2).2.1.trans (x.2.2.2.2 c hc hc2).2.1, (y.2.2.2.2 c hc hc2).2.2.trans (x.2.2.2.2 c hc hc2).2.2⟩⟩
theorem Fr2.ofA {h1 : sm_H} (x : Fr a (a + 3) h h1) : Fr2 a b h h1 := ⟨x.1, x.2.1, x.2.2.1, x.2.2.2.1, fun c hc _ => x.2.2.2.2 c hc⟩
theorem Fr2.ofB {h1 : sm_H} (x : Fr (b + 1) (b + 3) h h1) : Fr2 a b h h1 := ⟨x.1, x.2.1, x.2.2.1, x.2.2.2.1, fun c _ hc => x.2.2.2.2 c hc⟩
theorem l_passes (hm : m ≤ 100000) (hd : a + 3 ≤ b ∨ b + 3 ≤ a) : ∀ (j w : Nat) (l : List (Int64 × Int64)) (h : sm_H) (x3 : Option Value), 1 ≤ w → w ≤ 1000000 → 1000 ≤ w * 2 ^ j → PL h a n l → isP h b m → l.length ≤ m → Ev 10 15 [some (.ref a), some (.ref b), some (.int (Int32.ofNat w)), x3] [] h (fun r h1 => r = .inl none ∧ PL h1 a n (jx_ord j w l) ∧ Fr2 a b h h1) := by
  intro j
  induction j with
  | zero =>
    intro w l h x3 h1 h2 h3 hp hb hml
    have hn := hp.2.1
    have hln := hp.2.2.1
    by_cases hwl : l.length ≤ w
    · skip
      refine Er_run 2 (pc' := 17) (ls' := [some (.ref a), some (.ref b), some (.int (Int32.ofNat w)), x3]) (st' := [.ref a, .int (Int32.ofNat w)]) rfl ?_
      refine Er_getI (v := Int32.ofNat l.length) rfl hp.1.1 hp.2.2.2.1 ?_
      refine Er_run 1 (pc' := bif decide ((Int32.ofNat l.length) ≤ (Int32.ofNat w)) then 97 else 23) (ls' := [some (.ref a), some (.ref b), some (.int (Int32.ofNat w)), x3]) (st' := []) rfl ?_
      refine Er_pc (t := 97) (show (bif decide ((Int32.ofNat l.length) ≤ (Int32.ofNat w)) then 97 else 23) = 97 from by rw [show (decide ((Int32.ofNat l.length) ≤ (Int32.ofNat w))) = true from by rw [jx_le (by omega) (by omega)]; exact decide_eq_true (by omega)]; rfl) ?_
      exact Er_fin rfl rfl ⟨rfl, hp, Fr2.refl _ _ _⟩
    · skip
      refine Er_run 2 (pc' := 17) (ls' := [some (.ref a), some (.ref b), some (.int (Int32.ofNat w)), x3]) (st' := [.ref a, .int (Int32.ofNat w)]) rfl ?_
      refine Er_getI (v := Int32.ofNat l.length) rfl hp.1.1 hp.2.2.2.1 ?_
      refine Er_run 1 (pc' := bif decide ((Int32.ofNat l.length) ≤ (Int32.ofNat w)) then 97 else 23) (ls' := [some (.ref a), some (.ref b), some (.int (Int32.ofNat w)), x3]) (st' := []) rfl ?_
      refine Er_pc (t := 23) (show (bif decide ((Int32.ofNat l.length) ≤ (Int32.ofNat w)) then 97 else 23) = 23 from by rw [show (decide ((Int32.ofNat l.length) ≤ (Int32.ofNat w))) = false from by rw [jx_le (by omega) (by omega)]; exact decide_eq_false (by omega)]; rfl) ?_
      refine Er_run 3 (pc' := bif decide (((1000 : Int32)) ≤ (Int32.ofNat w)) then 97 else 30) (ls' := [some (.ref a), some (.ref b), some (.int (Int32.ofNat w)), x3]) (st' := []) rfl ?_
      refine Er_pc (t := 97) (show (bif decide (((1000 : Int32)) ≤ (Int32.ofNat w)) then 97 else 30) = 97 from by rw [show (decide (((1000 : Int32)) ≤ (Int32.ofNat w))) = true from by rw [show (1000 : Int32) = Int32.ofNat 1000 from rfl, jx_le (by omega) (by omega)]; exact decide_eq_true (by omega)]; rfl) ?_
      exact Er_fin rfl rfl ⟨rfl, hp, Fr2.refl _ _ _⟩
  | succ j ih =>
    intro w l h x3 h1 h2 h3 hp hb hml
    have hn := hp.2.1
    have hln := hp.2.2.1
    by_cases hwl : l.length ≤ w
    · rw [jx_ord, if_neg (by omega)]
      refine Er_run 2 (pc' := 17) (ls' := [some (.ref a), some (.ref b), some (.int (Int32.ofNat w)), x3]) (st' := [.ref a, .int (Int32.ofNat w)]) rfl ?_
      refine Er_getI (v := Int32.ofNat l.length) rfl hp.1.1 hp.2.2.2.1 ?_
      refine Er_run 1 (pc' := bif decide ((Int32.ofNat l.length) ≤ (Int32.ofNat w)) then 97 else 23) (ls' := [some (.ref a), some (.ref b), some (.int (Int32.ofNat w)), x3]) (st' := []) rfl ?_
      refine Er_pc (t := 97) (show (bif decide ((Int32.ofNat l.length) ≤ (Int32.ofNat w)) then 97 else 23) = 97 from by rw [show (decide ((Int32.ofNat l.length) ≤ (Int32.ofNat w))) = true from by rw [jx_le (by omega) (by omega)]; exact decide_eq_true (by omega)]; rfl) ?_
      exact Er_fin rfl rfl ⟨rfl, hp, Fr2.refl _ _ _⟩
    · by_cases hwk : 1000 ≤ w
      · rw [jx_ord, if_neg (by omega)]
        refine Er_run 2 (pc' := 17) (ls' := [some (.ref a), some (.ref b), some (.int (Int32.ofNat w)), x3]) (st' := [.ref a, .int (Int32.ofNat w)]) rfl ?_
        refine Er_getI (v := Int32.ofNat l.length) rfl hp.1.1 hp.2.2.2.1 ?_
        refine Er_run 1 (pc' := bif decide ((Int32.ofNat l.length) ≤ (Int32.ofNat w)) then 97 else 23) (ls' := [some (.ref a), some (.ref b), some (.int (Int32.ofNat w)), x3]) (st' := []) rfl ?_
        refine Er_pc (t := 23) (show (bif decide ((Int32.ofNat l.length) ≤ (Int32.ofNat w)) then 97 else 23) = 23 from by rw [show (decide ((Int32.ofNat l.length) ≤ (Int32.ofNat w))) = false from by rw [jx_le (by omega) (by omega)]; exact decide_eq_false (by omega)]; rfl) ?_
        refine Er_run 3 (pc' := bif decide (((1000 : Int32)) ≤ (Int32.ofNat w)) then 97 else 30) (ls' := [some (.ref a), some (.ref b), some (.int (Int32.ofNat w)), x3]) (st' := []) rfl ?_
        refine Er_pc (t := 97) (show (bif decide (((1000 : Int32)) ≤ (Int32.ofNat w)) then 97 else 30) = 97 from by rw [show (decide (((1000 : Int32)) ≤ (Int32.ofNat w))) = true from by rw [show (1000 : Int32) = Int32.ofNat 1000 from rfl, jx_le (by omega) (by omega)]; exact decide_eq_true (by omega)]; rfl) ?_
        exact Er_fin rfl rfl ⟨rfl, hp, Fr2.refl _ _ _⟩
      · rw [jx_ord, if_pos (by omega)]
        refine Er_run 2 (pc' := 17) (ls' := [some (.ref a), some (.ref b), some (.int (Int32.ofNat w)), x3]) (st' := [.ref a, .int (Int32.ofNat w)]) rfl ?_
        refine Er_getI (v := Int32.ofNat l.length) rfl hp.1.1 hp.2.2.2.1 ?_
        refine Er_run 1 (pc' := bif decide ((Int32.ofNat l.length) ≤ (Int32.ofNat w)) then 97 else 23) (ls' := [some (.ref a), some (.ref b), some (.int (Int32.ofNat w)), x3]) (st' := []) rfl ?_
        refine Er_pc (t := 23) (show (bif decide ((Int32.ofNat l.length) ≤ (Int32.ofNat w)) then 97 else 23) = 23 from by rw [show (decide ((Int32.ofNat l.length) ≤ (Int32.ofNat w))) = false from by rw [jx_le (by omega) (by omega)]; exact decide_eq_false (by omega)]; rfl) ?_
        refine Er_run 3 (pc' := bif decide (((1000 : Int32)) ≤ (Int32.ofNat w)) then 97 else 30) (ls' := [some (.ref a), some (.ref b), some (.int (Int32.ofNat w)), x3]) (st' := []) rfl ?_
        refine Er_pc (t := 30) (show (bif decide (((1000 : Int32)) ≤ (Int32.ofNat w)) then 97 else 30) = 30 from by rw [show (decide (((1000 : Int32)) ≤ (Int32.ofNat w))) = false from by rw [show (1000 : Int32) = Int32.ofNat 1000 from rfl, jx_le (by omega) (by omega)]; exact decide_eq_false (by omega)]; rfl) ?_
        refine Er_run 2 (pc' := 32) (ls' := [some (.ref a), some (.ref b), some (.int (Int32.ofNat w)), some (.int ((0 : Int32)))]) (st' := []) rfl ?_
        refine l_pass hm hd hml h2 h1 l.length 0 h [] hp hb (fun j p e => by simp at e) (by simp) (by omega) (by omega) (fun g1 y3 p1 p2 p3 p4 => ?_)
        rw [List.nil_append, List.drop_zero] at p3
        refine l_back p1 p2 hd hml p3 (jx_pass_len _ _ _) (fun g2 q1 q2 => ?_)
        have ik := ih (w * 2) (jx_pass w l.length l) g2 (some (.int y3)) (by omega) (by omega) (by rw [Nat.pow_succ, Nat.mul_comm (2 ^ j) 2, ← Nat.mul_assoc] at h3; exact h3) q1 (isP_fr1 q2 (by omega) p2) (by rw [jx_pass_len]; exact hml)
        exact ik.mono (fun r h5 hq => ⟨hq.1, hq.2.1, ((Fr2.ofB p4).trans (Fr2.ofA q2)).trans hq.2.2⟩)
end ORDER
