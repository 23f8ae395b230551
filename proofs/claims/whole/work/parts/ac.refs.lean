/-- the pairs that were made: counted all, kept to 4000 -/
def PW (h : sm_H) (a : Nat) (T : Jl) : Prop := gI h a 30 = Int32.ofNat T.length ∧ ∀ u p, T[u]? = some p → u < 4000 → gL h (a + 18) u = p.1 ∧ gL h (a + 19) u = p.2
/-- a step that makes pairs -/
def PC (h g : sm_H) (a : Nat) : Prop := FrL [a] [a + 18, a + 19] h g ∧ ∀ s, s ≠ 30 → gI g a s = gI h a s
section REFS
variable {h h0 g : sm_H} {a : Nat} {Q : sm_R → sm_H → Prop} {n c i j tt ff : Nat} {k v : Int64} {e em l T S' : Jl} {p : Int64 × Int64} {u6 u7 : Option Value} {pg : List (Int32 × Int64)}
theorem PC.refl (h : sm_H) : PC h h a := ⟨FrL.refl h, fun _ _ => rfl⟩
theorem PC.trans {g1 : sm_H} (x : PC h g a) (y : PC g g1 a) : PC h g1 a := ⟨x.1.trans y.1, fun s hs => (y.2 s hs).trans (x.2 s hs)⟩
theorem s_pair (m0 : mrO g a) (hT : T.length < 100000) (hw : PW g a T) : ∃ g', Run 163 [.ref a, .long k, .long v] g (.inl none) g' ∧ PW g' a (T ++ [(k, v)]) ∧ PC g g' a := by
  have hlen : (T ++ [(k, v)]).length = T.length + 1 := by rw [List.length_append, List.length_singleton]
  by_cases hn : T.length < 4000
  · refine ⟨_, s_Ref_pair0 m0 hw.1 hn, ⟨by rw [gI_eq, jx_s1, hlen], fun u d hu h4 => ?_⟩, ((FrL.setL (by simp)).trans (FrL.setL (by simp))).trans (FrL.setI (by simp)), fun s hs => gI_ne (by omega)⟩
    show gL (setL (setL g (a + 18) T.length k) (a + 19) T.length v) (a + 18) u = d.1 ∧ gL (setL (setL g (a + 18) T.length k) (a + 19) T.length v) (a + 19) u = d.2
    rcases Nat.lt_or_ge u T.length with c | c
    · rw [List.getElem?_append_left c] at hu
      rw [gL_ne (by omega), gL_ne (by omega), gL_ne (by omega), gL_ne (by omega)]; exact hw.2 u d hu h4
    · rw [List.getElem?_append_right c] at hu
      have e0 : u = T.length := by
        have := (List.getElem?_eq_some_iff.1 hu).1
        rw [List.length_singleton] at this
        omega
      subst e0
      rw [Nat.sub_self] at hu
      cases hu
      exact ⟨by rw [gL_ne (by omega), gL_eq], gL_eq⟩
  · refine ⟨_, s_Ref_pair1 m0 hw.1 (by omega) (by omega), ⟨by rw [gI_eq, jx_s1, hlen], fun u d hu h4 => ?_⟩, FrL.setI (by simp), fun s hs => gI_ne (by omega)⟩
    rw [List.getElem?_append_left (by omega)] at hu
    exact hw.2 u d hu h4

set_option maxRecDepth 10000 in
theorem lp_187 {g1 : sm_H} (m0 : mrO g a) (hi : i < n) (hn : n ≤ 200) (sk0 : ∀ u d, S'[u]? = some d → gL g (a + 16) u = d.1) (sv0 : ∀ u d, S'[u]? = some d → gL g (a + 17) u = d.2) (hp : S'[i]? = some p) (hc : Run 163 [.ref a, .long p.1, .long p.2] g (.inl none) g1) (kk : Ev 162 187 [some (.ref a), some (.int (Int32.ofNat j)), some (.int (Int32.ofNat ff)), some (.int (Int32.ofNat tt)), some (.int (Int32.ofNat n)), some (.int (Int32.ofNat (i + 1))), u6, u7] [] g1 Q) : Ev 162 187 [some (.ref a), some (.int (Int32.ofNat j)), some (.int (Int32.ofNat ff)), some (.int (Int32.ofNat tt)), some (.int (Int32.ofNat n)), some (.int (Int32.ofNat i)), u6, u7] [] g Q := by
  refine Er_run 3 (pc' := bif decide ((Int32.ofNat n) ≤ (Int32.ofNat i)) then 218 else 194) (ls' := [some (.ref a), some (.int (Int32.ofNat j)), some (.int (Int32.ofNat ff)), some (.int (Int32.ofNat tt)), some (.int (Int32.ofNat n)), some (.int (Int32.ofNat i)), u6, u7]) (st' := []) rfl ?_
  refine Er_pc (t := 194) (show (bif decide ((Int32.ofNat n) ≤ (Int32.ofNat i)) then 218 else 194) = 194 from by rw [show (decide ((Int32.ofNat n) ≤ (Int32.ofNat i))) = false from by rw [jx_le (by omega) (by omega)]; exact decide_eq_false (by omega)]; rfl) ?_
  refine Er_run 2 (pc' := 196) (ls' := [some (.ref a), some (.int (Int32.ofNat j)), some (.int (Int32.ofNat ff)), some (.int (Int32.ofNat tt)), some (.int (Int32.ofNat n)), some (.int (Int32.ofNat i)), u6, u7]) (st' := [.ref a, .ref a]) rfl ?_
  refine Er_getR (x := a + 16) rfl m0.1 (m0.2 (20, 16, 1, 200) (by decide)).1 ?_
  refine Er_run 1 (pc' := 201) (ls' := [some (.ref a), some (.int (Int32.ofNat j)), some (.int (Int32.ofNat ff)), some (.int (Int32.ofNat tt)), some (.int (Int32.ofNat n)), some (.int (Int32.ofNat i)), u6, u7]) (st' := [.int (Int32.ofNat i), .ref (a + 16), .ref a]) rfl ?_
  refine Er_lald (v := p.1) rfl (m0.2 (20, 16, 1, 200) (by decide)).2.1 (mr_in (i := i) (k := 200) rfl (by omega) (by decide) (m0.2 (20, 16, 1, 200) (by decide)).2.2) (mr_atL rfl (by omega) (sk0 i p hp)) ?_
  refine Er_run 1 (pc' := 203) (ls' := [some (.ref a), some (.int (Int32.ofNat j)), some (.int (Int32.ofNat ff)), some (.int (Int32.ofNat tt)), some (.int (Int32.ofNat n)), some (.int (Int32.ofNat i)), u6, u7]) (st' := [.ref a, .long (p.1), .ref a]) rfl ?_
  refine Er_getR (x := a + 17) rfl m0.1 (m0.2 (21, 17, 1, 200) (by decide)).1 ?_
  refine Er_run 1 (pc' := 208) (ls' := [some (.ref a), some (.int (Int32.ofNat j)), some (.int (Int32.ofNat ff)), some (.int (Int32.ofNat tt)), some (.int (Int32.ofNat n)), some (.int (Int32.ofNat i)), u6, u7]) (st' := [.int (Int32.ofNat i), .ref (a + 17), .long (p.1), .ref a]) rfl ?_
  refine Er_lald (v := p.2) rfl (m0.2 (21, 17, 1, 200) (by decide)).2.1 (mr_in (i := i) (k := 200) rfl (by omega) (by decide) (m0.2 (21, 17, 1, 200) (by decide)).2.2) (mr_atL rfl (by omega) (sv0 i p hp)) ?_
  refine Er_inv0 (q' := a) (ci := 12) (av := [.long (p.1), .long (p.2)]) (rest := []) rfl rfl ⟨Nat.le_of_ble_eq_true rfl, Nat.le_of_ble_eq_true rfl⟩ rfl rfl m0.1 hc ?_
  refine Er_run 2 (pc' := 187) (ls' := [some (.ref a), some (.int (Int32.ofNat j)), some (.int (Int32.ofNat ff)), some (.int (Int32.ofNat tt)), some (.int (Int32.ofNat n)), some (.int ((Int32.ofNat i) + (1 : Int32))), u6, u7]) (st' := []) rfl ?_
  rw [jx_s1]
  exact kk
set_option maxRecDepth 10000 in
theorem lp_187e (hi : n ≤ i) (hi2 : i ≤ 200) (hq : Q (.inl (some (.int 1))) g) : Ev 162 187 [some (.ref a), some (.int (Int32.ofNat j)), some (.int (Int32.ofNat ff)), some (.int (Int32.ofNat tt)), some (.int (Int32.ofNat n)), some (.int (Int32.ofNat i)), u6, u7] [] g Q := by
  refine Er_run 3 (pc' := bif decide ((Int32.ofNat n) ≤ (Int32.ofNat i)) then 218 else 194) (ls' := [some (.ref a), some (.int (Int32.ofNat j)), some (.int (Int32.ofNat ff)), some (.int (Int32.ofNat tt)), some (.int (Int32.ofNat n)), some (.int (Int32.ofNat i)), u6, u7]) (st' := []) rfl ?_
  refine Er_pc (t := 218) (show (bif decide ((Int32.ofNat n) ≤ (Int32.ofNat i)) then 218 else 194) = 218 from by rw [show (decide ((Int32.ofNat n) ≤ (Int32.ofNat i))) = true from by rw [jx_le (by omega) (by omega)]; exact decide_eq_true (by omega)]; rfl) ?_
  refine Er_run 1 (pc' := 219) (ls' := [some (.ref a), some (.int (Int32.ofNat j)), some (.int (Int32.ofNat ff)), some (.int (Int32.ofNat tt)), some (.int (Int32.ofNat n)), some (.int (Int32.ofNat i)), u6, u7]) (st' := [.int ((1 : Int32))]) rfl ?_
  exact Er_fin rfl rfl hq
set_option maxRecDepth 10000 in
theorem l_mpr (hS : S'.length = n) (hn : n ≤ 200) (hT : T.length ≤ 90000) (kE : ∀ g, PC h0 g a → PW g a (T ++ S') → Q (.inl (some (.int 1))) g) : ∀ (f i : Nat) (g : sm_H), i + f = n → mrO g a → PC h0 g a → (∀ u d, S'[u]? = some d → gL g (a + 16) u = d.1) → (∀ u d, S'[u]? = some d → gL g (a + 17) u = d.2) → PW g a (T ++ S'.take i) → Ev 162 187 [some (.ref a), some (.int (Int32.ofNat j)), some (.int (Int32.ofNat ff)), some (.int (Int32.ofNat tt)), some (.int (Int32.ofNat n)), some (.int (Int32.ofNat i)), u6, u7] [] g Q := by
  intro f
  induction f with
  | zero =>
    intro i g hi m0 z sk sv hw
    refine lp_187e (by omega) (by omega) (kE g z ?_)
    rw [List.take_of_length_le (by omega)] at hw; exact hw
  | succ f ih =>
    intro i g hi m0 z sk sv hw
    obtain ⟨p, hp⟩ : ∃ p, S'[i]? = some p := ⟨S'[i]'(by omega), List.getElem?_eq_getElem (by omega)⟩
    obtain ⟨g1, hc, w1, c1⟩ := s_pair (k := p.1) (v := p.2) m0 (by rw [List.length_append, List.length_take]; omega) hw
    refine lp_187 m0 (by omega) hn sk sv hp hc ?_
    refine ih (i + 1) g1 (by omega) (c1.1.mrO m0) (z.trans c1) (by rw [c1.1.gl (by simp)]; exact sk) (by rw [c1.1.gl (by simp)]; exact sv) ?_
    rw [take_snoc hp]; exact w1

set_option maxRecDepth 10000 in
theorem lp_299 {g1 : sm_H} {x6 : Int32} (m0 : mrO g a) (em0 : gI g a 31 = Int32.ofNat em.length) (ek0 : ∀ u d, em[u]? = some d → gL g (a + 24) u = d.1) (ew0 : ∀ u d, em[u]? = some d → gL g (a + 25) u = d.2) (hem : em.length ≤ 4) (hi : c < em.length) (hp : em[c]? = some p) (hc : Run 163 [.ref a, .long p.1, .long p.2] g (.inl none) g1) (kk : Ev 162 299 [some (.ref a), some (.int (Int32.ofNat j)), some (.int (Int32.ofNat ff)), some (.int (Int32.ofNat tt)), some (.int (Int32.ofNat n)), some (.int (Int32.ofNat i)), some (.int x6), some (.int (Int32.ofNat (c + 1)))] [] g1 Q) : Ev 162 299 [some (.ref a), some (.int (Int32.ofNat j)), some (.int (Int32.ofNat ff)), some (.int (Int32.ofNat tt)), some (.int (Int32.ofNat n)), some (.int (Int32.ofNat i)), some (.int x6), some (.int (Int32.ofNat c))] [] g Q := by
  refine Er_run 2 (pc' := 302) (ls' := [some (.ref a), some (.int (Int32.ofNat j)), some (.int (Int32.ofNat ff)), some (.int (Int32.ofNat tt)), some (.int (Int32.ofNat n)), some (.int (Int32.ofNat i)), some (.int x6), some (.int (Int32.ofNat c))]) (st' := [.ref a, .int (Int32.ofNat c)]) rfl ?_
  refine Er_getI (v := Int32.ofNat em.length) rfl m0.1 em0 ?_
  refine Er_run 1 (pc' := bif decide ((Int32.ofNat em.length) ≤ (Int32.ofNat c)) then 332 else 308) (ls' := [some (.ref a), some (.int (Int32.ofNat j)), some (.int (Int32.ofNat ff)), some (.int (Int32.ofNat tt)), some (.int (Int32.ofNat n)), some (.int (Int32.ofNat i)), some (.int x6), some (.int (Int32.ofNat c))]) (st' := []) rfl ?_
  refine Er_pc (t := 308) (show (bif decide ((Int32.ofNat em.length) ≤ (Int32.ofNat c)) then 332 else 308) = 308 from by rw [show (decide ((Int32.ofNat em.length) ≤ (Int32.ofNat c))) = false from by rw [jx_le (by omega) (by omega)]; exact decide_eq_false (by omega)]; rfl) ?_
  refine Er_run 2 (pc' := 310) (ls' := [some (.ref a), some (.int (Int32.ofNat j)), some (.int (Int32.ofNat ff)), some (.int (Int32.ofNat tt)), some (.int (Int32.ofNat n)), some (.int (Int32.ofNat i)), some (.int x6), some (.int (Int32.ofNat c))]) (st' := [.ref a, .ref a]) rfl ?_
  refine Er_getR (x := a + 24) rfl m0.1 (m0.2 (28, 24, 1, 4) (by decide)).1 ?_
  refine Er_run 1 (pc' := 315) (ls' := [some (.ref a), some (.int (Int32.ofNat j)), some (.int (Int32.ofNat ff)), some (.int (Int32.ofNat tt)), some (.int (Int32.ofNat n)), some (.int (Int32.ofNat i)), some (.int x6), some (.int (Int32.ofNat c))]) (st' := [.int (Int32.ofNat c), .ref (a + 24), .ref a]) rfl ?_
  refine Er_lald (v := p.1) rfl (m0.2 (28, 24, 1, 4) (by decide)).2.1 (mr_in (i := c) (k := 4) rfl (by omega) (by decide) (m0.2 (28, 24, 1, 4) (by decide)).2.2) (mr_atL rfl (by omega) (ek0 c p hp)) ?_
  refine Er_run 1 (pc' := 317) (ls' := [some (.ref a), some (.int (Int32.ofNat j)), some (.int (Int32.ofNat ff)), some (.int (Int32.ofNat tt)), some (.int (Int32.ofNat n)), some (.int (Int32.ofNat i)), some (.int x6), some (.int (Int32.ofNat c))]) (st' := [.ref a, .long (p.1), .ref a]) rfl ?_
  refine Er_getR (x := a + 25) rfl m0.1 (m0.2 (29, 25, 1, 4) (by decide)).1 ?_
  refine Er_run 1 (pc' := 322) (ls' := [some (.ref a), some (.int (Int32.ofNat j)), some (.int (Int32.ofNat ff)), some (.int (Int32.ofNat tt)), some (.int (Int32.ofNat n)), some (.int (Int32.ofNat i)), some (.int x6), some (.int (Int32.ofNat c))]) (st' := [.int (Int32.ofNat c), .ref (a + 25), .long (p.1), .ref a]) rfl ?_
  refine Er_lald (v := p.2) rfl (m0.2 (29, 25, 1, 4) (by decide)).2.1 (mr_in (i := c) (k := 4) rfl (by omega) (by decide) (m0.2 (29, 25, 1, 4) (by decide)).2.2) (mr_atL rfl (by omega) (ew0 c p hp)) ?_
  refine Er_inv0 (q' := a) (ci := 12) (av := [.long (p.1), .long (p.2)]) (rest := []) rfl rfl ⟨Nat.le_of_ble_eq_true rfl, Nat.le_of_ble_eq_true rfl⟩ rfl rfl m0.1 hc ?_
  refine Er_run 2 (pc' := 299) (ls' := [some (.ref a), some (.int (Int32.ofNat j)), some (.int (Int32.ofNat ff)), some (.int (Int32.ofNat tt)), some (.int (Int32.ofNat n)), some (.int (Int32.ofNat i)), some (.int x6), some (.int ((Int32.ofNat c) + (1 : Int32)))]) (st' := []) rfl ?_
  rw [jx_s1]
  exact kk
set_option maxRecDepth 10000 in
theorem lp_299e {x6 : Int32} (m0 : mrO g a) (em0 : gI g a 31 = Int32.ofNat em.length) (hem : em.length ≤ 4) (kk : Ev 162 223 [some (.ref a), some (.int (Int32.ofNat j)), some (.int (Int32.ofNat ff)), some (.int (Int32.ofNat tt)), some (.int (Int32.ofNat n)), some (.int x6), some (.int x6), some (.int (Int32.ofNat em.length))] [] g Q) : Ev 162 299 [some (.ref a), some (.int (Int32.ofNat j)), some (.int (Int32.ofNat ff)), some (.int (Int32.ofNat tt)), some (.int (Int32.ofNat n)), some (.int (Int32.ofNat i)), some (.int x6), some (.int (Int32.ofNat em.length))] [] g Q := by
  refine Er_run 2 (pc' := 302) (ls' := [some (.ref a), some (.int (Int32.ofNat j)), some (.int (Int32.ofNat ff)), some (.int (Int32.ofNat tt)), some (.int (Int32.ofNat n)), some (.int (Int32.ofNat i)), some (.int x6), some (.int (Int32.ofNat em.length))]) (st' := [.ref a, .int (Int32.ofNat em.length)]) rfl ?_
  refine Er_getI (v := Int32.ofNat em.length) rfl m0.1 em0 ?_
  refine Er_run 1 (pc' := bif decide ((Int32.ofNat em.length) ≤ (Int32.ofNat em.length)) then 332 else 308) (ls' := [some (.ref a), some (.int (Int32.ofNat j)), some (.int (Int32.ofNat ff)), some (.int (Int32.ofNat tt)), some (.int (Int32.ofNat n)), some (.int (Int32.ofNat i)), some (.int x6), some (.int (Int32.ofNat em.length))]) (st' := []) rfl ?_
  refine Er_pc (t := 332) (show (bif decide ((Int32.ofNat em.length) ≤ (Int32.ofNat em.length)) then 332 else 308) = 332 from by rw [show (decide ((Int32.ofNat em.length) ≤ (Int32.ofNat em.length))) = true from by rw [jx_le (by omega) (by omega)]; exact decide_eq_true (by omega)]; rfl) ?_
  refine Er_run 3 (pc' := 223) (ls' := [some (.ref a), some (.int (Int32.ofNat j)), some (.int (Int32.ofNat ff)), some (.int (Int32.ofNat tt)), some (.int (Int32.ofNat n)), some (.int x6), some (.int x6), some (.int (Int32.ofNat em.length))]) (st' := []) rfl ?_
  exact kk
set_option maxRecDepth 10000 in
theorem l_mem {x6 : Int32} (hem : em.length ≤ 4) (hT : T.length ≤ 90000) (kE : ∀ g, PC h0 g a → PW g a (T ++ em) → Ev 162 223 [some (.ref a), some (.int (Int32.ofNat j)), some (.int (Int32.ofNat ff)), some (.int (Int32.ofNat tt)), some (.int (Int32.ofNat n)), some (.int x6), some (.int x6), some (.int (Int32.ofNat em.length))] [] g Q) : ∀ (f c : Nat) (g : sm_H), c + f = em.length → mrO g a → PC h0 g a → gI g a 31 = Int32.ofNat em.length → (∀ u d, em[u]? = some d → gL g (a + 24) u = d.1) → (∀ u d, em[u]? = some d → gL g (a + 25) u = d.2) → PW g a (T ++ em.take c) → Ev 162 299 [some (.ref a), some (.int (Int32.ofNat j)), some (.int (Int32.ofNat ff)), some (.int (Int32.ofNat tt)), some (.int (Int32.ofNat n)), some (.int (Int32.ofNat i)), some (.int x6), some (.int (Int32.ofNat c))] [] g Q := by
  intro f
  induction f with
  | zero =>
    intro c g hi m0 z em0 ek ew hw
    have e0 : c = em.length := by omega
    subst e0
    rw [List.take_length] at hw
    exact lp_299e m0 em0 hem (kE g z hw)
  | succ f ih =>
    intro c g hi m0 z em0 ek ew hw
    obtain ⟨p, hp⟩ : ∃ p, em[c]? = some p := ⟨em[c]'(by omega), List.getElem?_eq_getElem (by omega)⟩
    obtain ⟨g1, hc, w1, c1⟩ := s_pair (k := p.1) (v := p.2) m0 (by rw [List.length_append, List.length_take]; omega) hw
    refine lp_299 m0 em0 ek ew hem (by omega) hp hc ?_
    refine ih (c + 1) g1 (by omega) (c1.1.mrO m0) (z.trans c1) ((c1.2 31 (by omega)).trans em0) (by rw [c1.1.gl (by simp)]; exact ek) (by rw [c1.1.gl (by simp)]; exact ew) ?_
    rw [take_snoc hp]; exact w1

set_option maxRecDepth 10000 in
theorem lp_234 (m0 : mrO g a) (sk0 : ∀ u d, S'[u]? = some d → gL g (a + 16) u = d.1) (hn : n ≤ 200) (hin : i < n) (hk : gL g (a + 16) i = k) (hi : c < n) (hp : S'[c]? = some p) (hkk : p.1 = k) (kk : Ev 162 234 [some (.ref a), some (.int (Int32.ofNat j)), some (.int (Int32.ofNat ff)), some (.int (Int32.ofNat tt)), some (.int (Int32.ofNat n)), some (.int (Int32.ofNat i)), some (.int (Int32.ofNat (c + 1))), u7] [] g Q) : Ev 162 234 [some (.ref a), some (.int (Int32.ofNat j)), some (.int (Int32.ofNat ff)), some (.int (Int32.ofNat tt)), some (.int (Int32.ofNat n)), some (.int (Int32.ofNat i)), some (.int (Int32.ofNat c)), u7] [] g Q := by
  refine Er_run 3 (pc' := bif decide ((Int32.ofNat n) ≤ (Int32.ofNat c)) then 265 else 241) (ls' := [some (.ref a), some (.int (Int32.ofNat j)), some (.int (Int32.ofNat ff)), some (.int (Int32.ofNat tt)), some (.int (Int32.ofNat n)), some (.int (Int32.ofNat i)), some (.int (Int32.ofNat c)), u7]) (st' := []) rfl ?_
  refine Er_pc (t := 241) (show (bif decide ((Int32.ofNat n) ≤ (Int32.ofNat c)) then 265 else 241) = 241 from by rw [show (decide ((Int32.ofNat n) ≤ (Int32.ofNat c))) = false from by rw [jx_le (by omega) (by omega)]; exact decide_eq_false (by omega)]; rfl) ?_
  refine Er_run 1 (pc' := 242) (ls' := [some (.ref a), some (.int (Int32.ofNat j)), some (.int (Int32.ofNat ff)), some (.int (Int32.ofNat tt)), some (.int (Int32.ofNat n)), some (.int (Int32.ofNat i)), some (.int (Int32.ofNat c)), u7]) (st' := [.ref a]) rfl ?_
  refine Er_getR (x := a + 16) rfl m0.1 (m0.2 (20, 16, 1, 200) (by decide)).1 ?_
  refine Er_run 1 (pc' := 247) (ls' := [some (.ref a), some (.int (Int32.ofNat j)), some (.int (Int32.ofNat ff)), some (.int (Int32.ofNat tt)), some (.int (Int32.ofNat n)), some (.int (Int32.ofNat i)), some (.int (Int32.ofNat c)), u7]) (st' := [.int (Int32.ofNat c), .ref (a + 16)]) rfl ?_
  refine Er_lald (v := p.1) rfl (m0.2 (20, 16, 1, 200) (by decide)).2.1 (mr_in (i := c) (k := 200) rfl (by omega) (by decide) (m0.2 (20, 16, 1, 200) (by decide)).2.2) (mr_atL rfl (by omega) (sk0 c p hp)) ?_
  refine Er_run 1 (pc' := 249) (ls' := [some (.ref a), some (.int (Int32.ofNat j)), some (.int (Int32.ofNat ff)), some (.int (Int32.ofNat tt)), some (.int (Int32.ofNat n)), some (.int (Int32.ofNat i)), some (.int (Int32.ofNat c)), u7]) (st' := [.ref a, .long (p.1)]) rfl ?_
  refine Er_getR (x := a + 16) rfl m0.1 (m0.2 (20, 16, 1, 200) (by decide)).1 ?_
  refine Er_run 1 (pc' := 254) (ls' := [some (.ref a), some (.int (Int32.ofNat j)), some (.int (Int32.ofNat ff)), some (.int (Int32.ofNat tt)), some (.int (Int32.ofNat n)), some (.int (Int32.ofNat i)), some (.int (Int32.ofNat c)), u7]) (st' := [.int (Int32.ofNat i), .ref (a + 16), .long (p.1)]) rfl ?_
  refine Er_lald (v := k) rfl (m0.2 (20, 16, 1, 200) (by decide)).2.1 (mr_in (i := i) (k := 200) rfl (by omega) (by decide) (m0.2 (20, 16, 1, 200) (by decide)).2.2) (mr_atL rfl (by omega) hk) ?_
  refine Er_run 2 (pc' := bif !decide ((lg_cmp p.1 k) = 0) then 265 else 259) (ls' := [some (.ref a), some (.int (Int32.ofNat j)), some (.int (Int32.ofNat ff)), some (.int (Int32.ofNat tt)), some (.int (Int32.ofNat n)), some (.int (Int32.ofNat i)), some (.int (Int32.ofNat c)), u7]) (st' := []) rfl ?_
  refine Er_pc (t := 259) (show (bif !decide ((lg_cmp p.1 k) = 0) then 265 else 259) = 259 from by rw [show (!decide ((lg_cmp p.1 k) = 0)) = false from by rw [jx_cmp0, decide_eq_true hkk]; rfl]; rfl) ?_
  refine Er_run 2 (pc' := 234) (ls' := [some (.ref a), some (.int (Int32.ofNat j)), some (.int (Int32.ofNat ff)), some (.int (Int32.ofNat tt)), some (.int (Int32.ofNat n)), some (.int (Int32.ofNat i)), some (.int ((Int32.ofNat c) + (1 : Int32))), u7]) (st' := []) rfl ?_
  rw [jx_s1]
  exact kk
set_option maxRecDepth 10000 in
theorem lp_234n (m0 : mrO g a) (sk0 : ∀ u d, S'[u]? = some d → gL g (a + 16) u = d.1) (hn : n ≤ 200) (hin : i < n) (hk : gL g (a + 16) i = k) (hi : c < n) (hp : S'[c]? = some p) (hkk : ¬ p.1 = k) (kk : Ev 162 265 [some (.ref a), some (.int (Int32.ofNat j)), some (.int (Int32.ofNat ff)), some (.int (Int32.ofNat tt)), some (.int (Int32.ofNat n)), some (.int (Int32.ofNat i)), some (.int (Int32.ofNat c)), u7] [] g Q) : Ev 162 234 [some (.ref a), some (.int (Int32.ofNat j)), some (.int (Int32.ofNat ff)), some (.int (Int32.ofNat tt)), some (.int (Int32.ofNat n)), some (.int (Int32.ofNat i)), some (.int (Int32.ofNat c)), u7] [] g Q := by
  refine Er_run 3 (pc' := bif decide ((Int32.ofNat n) ≤ (Int32.ofNat c)) then 265 else 241) (ls' := [some (.ref a), some (.int (Int32.ofNat j)), some (.int (Int32.ofNat ff)), some (.int (Int32.ofNat tt)), some (.int (Int32.ofNat n)), some (.int (Int32.ofNat i)), some (.int (Int32.ofNat c)), u7]) (st' := []) rfl ?_
  refine Er_pc (t := 241) (show (bif decide ((Int32.ofNat n) ≤ (Int32.ofNat c)) then 265 else 241) = 241 from by rw [show (decide ((Int32.ofNat n) ≤ (Int32.ofNat c))) = false from by rw [jx_le (by omega) (by omega)]; exact decide_eq_false (by omega)]; rfl) ?_
  refine Er_run 1 (pc' := 242) (ls' := [some (.ref a), some (.int (Int32.ofNat j)), some (.int (Int32.ofNat ff)), some (.int (Int32.ofNat tt)), some (.int (Int32.ofNat n)), some (.int (Int32.ofNat i)), some (.int (Int32.ofNat c)), u7]) (st' := [.ref a]) rfl ?_
  refine Er_getR (x := a + 16) rfl m0.1 (m0.2 (20, 16, 1, 200) (by decide)).1 ?_
  refine Er_run 1 (pc' := 247) (ls' := [some (.ref a), some (.int (Int32.ofNat j)), some (.int (Int32.ofNat ff)), some (.int (Int32.ofNat tt)), some (.int (Int32.ofNat n)), some (.int (Int32.ofNat i)), some (.int (Int32.ofNat c)), u7]) (st' := [.int (Int32.ofNat c), .ref (a + 16)]) rfl ?_
  refine Er_lald (v := p.1) rfl (m0.2 (20, 16, 1, 200) (by decide)).2.1 (mr_in (i := c) (k := 200) rfl (by omega) (by decide) (m0.2 (20, 16, 1, 200) (by decide)).2.2) (mr_atL rfl (by omega) (sk0 c p hp)) ?_
  refine Er_run 1 (pc' := 249) (ls' := [some (.ref a), some (.int (Int32.ofNat j)), some (.int (Int32.ofNat ff)), some (.int (Int32.ofNat tt)), some (.int (Int32.ofNat n)), some (.int (Int32.ofNat i)), some (.int (Int32.ofNat c)), u7]) (st' := [.ref a, .long (p.1)]) rfl ?_
  refine Er_getR (x := a + 16) rfl m0.1 (m0.2 (20, 16, 1, 200) (by decide)).1 ?_
  refine Er_run 1 (pc' := 254) (ls' := [some (.ref a), some (.int (Int32.ofNat j)), some (.int (Int32.ofNat ff)), some (.int (Int32.ofNat tt)), some (.int (Int32.ofNat n)), some (.int (Int32.ofNat i)), some (.int (Int32.ofNat c)), u7]) (st' := [.int (Int32.ofNat i), .ref (a + 16), .long (p.1)]) rfl ?_
  refine Er_lald (v := k) rfl (m0.2 (20, 16, 1, 200) (by decide)).2.1 (mr_in (i := i) (k := 200) rfl (by omega) (by decide) (m0.2 (20, 16, 1, 200) (by decide)).2.2) (mr_atL rfl (by omega) hk) ?_
  refine Er_run 2 (pc' := bif !decide ((lg_cmp p.1 k) = 0) then 265 else 259) (ls' := [some (.ref a), some (.int (Int32.ofNat j)), some (.int (Int32.ofNat ff)), some (.int (Int32.ofNat tt)), some (.int (Int32.ofNat n)), some (.int (Int32.ofNat i)), some (.int (Int32.ofNat c)), u7]) (st' := []) rfl ?_
  refine Er_pc (t := 265) (show (bif !decide ((lg_cmp p.1 k) = 0) then 265 else 259) = 265 from by rw [show (!decide ((lg_cmp p.1 k) = 0)) = true from by rw [jx_cmp0, decide_eq_false hkk]; rfl]; rfl) ?_
  exact kk
set_option maxRecDepth 10000 in
theorem lp_234e (hn : n ≤ 200) (hi : n ≤ c) (hc : c ≤ n) (kk : Ev 162 265 [some (.ref a), some (.int (Int32.ofNat j)), some (.int (Int32.ofNat ff)), some (.int (Int32.ofNat tt)), some (.int (Int32.ofNat n)), some (.int (Int32.ofNat i)), some (.int (Int32.ofNat c)), u7] [] g Q) : Ev 162 234 [some (.ref a), some (.int (Int32.ofNat j)), some (.int (Int32.ofNat ff)), some (.int (Int32.ofNat tt)), some (.int (Int32.ofNat n)), some (.int (Int32.ofNat i)), some (.int (Int32.ofNat c)), u7] [] g Q := by
  refine Er_run 3 (pc' := bif decide ((Int32.ofNat n) ≤ (Int32.ofNat c)) then 265 else 241) (ls' := [some (.ref a), some (.int (Int32.ofNat j)), some (.int (Int32.ofNat ff)), some (.int (Int32.ofNat tt)), some (.int (Int32.ofNat n)), some (.int (Int32.ofNat i)), some (.int (Int32.ofNat c)), u7]) (st' := []) rfl ?_
  refine Er_pc (t := 265) (show (bif decide ((Int32.ofNat n) ≤ (Int32.ofNat c)) then 265 else 241) = 265 from by rw [show (decide ((Int32.ofNat n) ≤ (Int32.ofNat c))) = true from by rw [jx_le (by omega) (by omega)]; exact decide_eq_true (by omega)]; rfl) ?_
  exact kk
/-- where the KEY ends -/
theorem me_k_at {l : Jl} {x : Int64 × Int64} (h0 : l[0]? = some x) (hc : 1 ≤ c) (hcl : c ≤ l.length) (hk : ∀ u d, u < c → l[u]? = some d → d.1 = x.1) (he : c = l.length ∨ ∃ d, l[c]? = some d ∧ ¬ d.1 = x.1) : me_k l = c := by
  rcases l with _ | ⟨y, t⟩
  · cases h0
  · cases h0
    show 1 + (t.takeWhile (fun q => q.1 == x.1)).length = c
    have h2 : ∀ (m : Nat) (t : Jl), m ≤ t.length → (∀ u d, u < m → t[u]? = some d → d.1 = x.1) → (m = t.length ∨ ∃ d, t[m]? = some d ∧ ¬ d.1 = x.1) → (t.takeWhile (fun q => q.1 == x.1)).length = m := by
      intro m
      induction m with
      | zero =>
        intro t _ _ h3
        rcases t with _ | ⟨z, t⟩
        · rfl
        · rcases h3 with h3 | ⟨d, h3, h4⟩
          · rw [List.length_cons] at h3; omega
          · cases h3
            rw [List.takeWhile_cons, if_neg (by simpa using h4)]; rfl
      | succ m ih =>
        intro t h1 h2 h3
        rcases t with _ | ⟨z, t⟩
        · rw [List.length_nil] at h1; omega
        · have e : z.1 = x.1 := h2 0 z (by omega) rfl
          rw [List.takeWhile_cons, if_pos (by simpa using e), List.length_cons]
          rw [ih t (by rw [List.length_cons] at h1; omega) (fun u d hu hd => h2 (u + 1) d (by omega) hd) (by
            rcases h3 with h3 | ⟨d, h3, h4⟩
            · left; rw [List.length_cons] at h3; omega
            · exact Or.inr ⟨d, h3, h4⟩)]
    rw [h2 (c - 1) t (by rw [List.length_cons] at hcl; omega) (fun u d hu hd => hk (u + 1) d (by omega) hd) (by
      rcases he with he | ⟨d, he, h4⟩
      · left; rw [List.length_cons] at he; omega
      · refine Or.inr ⟨d, ?_, h4⟩
        rw [show c = (c - 1) + 1 by omega, List.getElem?_cons_succ] at he
        exact he)]
    omega
theorem l_mend {x : Int64 × Int64} (m0 : mrO g a) (sk0 : ∀ u d, S'[u]? = some d → gL g (a + 16) u = d.1) (hS : S'.length = n) (hn : n ≤ 200) (hx : S'[i]? = some x) (kk : Ev 162 265 [some (.ref a), some (.int (Int32.ofNat j)), some (.int (Int32.ofNat ff)), some (.int (Int32.ofNat tt)), some (.int (Int32.ofNat n)), some (.int (Int32.ofNat i)), some (.int (Int32.ofNat (i + me_k (S'.drop i)))), u7] [] g Q) : ∀ (f c : Nat), c + f = n → i ≤ c → (∀ u d, i ≤ u → u < c → S'[u]? = some d → d.1 = x.1) → Ev 162 234 [some (.ref a), some (.int (Int32.ofNat j)), some (.int (Int32.ofNat ff)), some (.int (Int32.ofNat tt)), some (.int (Int32.ofNat n)), some (.int (Int32.ofNat i)), some (.int (Int32.ofNat c)), u7] [] g Q := by
  have hin : i < n := by rw [← hS]; exact (List.getElem?_eq_some_iff.1 hx).1
  have fin : ∀ c, i < c → c ≤ n → (∀ u d, i ≤ u → u < c → S'[u]? = some d → d.1 = x.1) → (c = n ∨ ∃ d, S'[c]? = some d ∧ ¬ d.1 = x.1) → c = i + me_k (S'.drop i) := by
    intro c h1 h2 h3 h4
    have := me_k_at (c := c - i) (l := S'.drop i) (x := x) (by rw [List.getElem?_drop]; exact hx) (by omega) (by rw [List.length_drop]; omega) (fun u d hu hd => h3 (i + u) d (by omega) (by omega) (by rw [List.getElem?_drop] at hd; exact hd)) (by
      rcases h4 with h4 | ⟨d, h4, h5⟩
      · left; rw [List.length_drop]; omega
      · refine Or.inr ⟨d, ?_, h5⟩
        rw [List.getElem?_drop, show i + (c - i) = c by omega]; exact h4)
    omega
  intro f
  induction f with
  | zero =>
    intro c hc hic hk
    have e := fin c (by omega) (by omega) hk (Or.inl (by omega))
    refine lp_234e hn (by omega) (by omega) ?_
    rw [e]; exact kk
  | succ f ih =>
    intro c hc hic hk
    obtain ⟨p, hp⟩ : ∃ p, S'[c]? = some p := ⟨S'[c]'(by omega), List.getElem?_eq_getElem (by omega)⟩
    by_cases hkk : p.1 = x.1
    · refine lp_234 m0 sk0 hn hin (sk0 i x hx) (by omega) hp hkk ?_
      exact ih (c + 1) (by omega) (by omega) (fun u d h1 h2 hd => by
        by_cases e : u = c
        · subst e; rw [hp] at hd; cases hd; exact hkk
        · exact hk u d h1 (by omega) hd)
    · by_cases hic2 : i = c
      · subst hic2
        rw [hp] at hx; cases hx
        exact absurd rfl hkk
      · have e := fin c (by omega) (by omega) hk (Or.inr ⟨p, hp, hkk⟩)
        refine lp_234n m0 sk0 hn hin (sk0 i x hx) (by omega) hp hkk ?_
        rw [e]; exact kk

end REFS
