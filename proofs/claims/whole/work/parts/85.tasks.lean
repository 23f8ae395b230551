/-! the JOB at place p of THE CHAIN, its tasks -/
section TASKS
variable {cl : List Nat} {G : Nat → Nat → Int32} {PR : Nat → Nat → List (Int32 × Int64)} {F0 : Nat → Jl} {p t : Nat}
def tJ (cl : List Nat) (p : Nat) : Nat := (cl[p]?).getD 0
def tI (cl : List Nat) (G : Nat → Nat → Int32) (PR : Nat → Nat → List (Int32 × Int64)) (F0 : Nat → Jl) (p : Nat) : Jl := jb_in G (me_F G PR cl F0 p) (tJ cl p)
def tN (cl : List Nat) (G : Nat → Nat → Int32) (p : Nat) : Nat := ji (G (tJ cl p) 5)
/-- what its SPLITS make -/
def tA (cl : List Nat) (G : Nat → Nat → Int32) (PR : Nat → Nat → List (Int32 × Int64)) (F0 : Nat → Jl) (p : Nat) : Option (List Jl) := me_all (PR (tJ cl p)) (tI cl G PR F0 p)
/-- what task t makes -/
def tT (cl : List Nat) (G : Nat → Nat → Int32) (PR : Nat → Nat → List (Int32 × Int64)) (F0 : Nat → Jl) (p t : Nat) : Option Jl := if t < 38 then me_spl (PR (tJ cl p)) (tI cl G PR F0 p) t else (tA cl G PR F0 p).bind (fun ls => me_red (PR (tJ cl p)) (tN cl G p) ls (t - 38))
/-- the tasks that there are: SPLITS, and PARTS once all SPLITS are fine -/
def tV (cl : List Nat) (G : Nat → Nat → Int32) (PR : Nat → Nat → List (Int32 × Int64)) (F0 : Nat → Jl) (p t : Nat) : Prop := (t < 38 ∧ t < me_ns (tI cl G PR F0 p)) ∨ (38 ≤ t ∧ t - 38 < tN cl G p ∧ ∃ ls, tA cl G PR F0 p = some ls ∧ me_sum ls ≤ 1000)
/-- it FAILS -/
def tX (cl : List Nat) (G : Nat → Nat → Int32) (PR : Nat → Nat → List (Int32 × Int64)) (F0 : Nat → Jl) (p : Nat) : Prop := me_out (PR (tJ cl p)) (tN cl G p) (tI cl G PR F0 p) = none
theorem tX_all (h : tA cl G PR F0 p = none) : tX cl G PR F0 p := by rw [tX, me_out, show me_all (PR (tJ cl p)) (tI cl G PR F0 p) = none from h]; rfl
theorem tX_sum {ls : List Jl} (h : tA cl G PR F0 p = some ls) (hs : 1000 < me_sum ls) : tX cl G PR F0 p := by
  rw [tX, me_out, show me_all (PR (tJ cl p)) (tI cl G PR F0 p) = some ls from h]
  show (me_par (PR (tJ cl p)) (tN cl G p) ls).bind _ = none
  rw [me_par, if_neg (by omega)]; rfl
/-- a task that can not be done shows that the JOB FAILS -/
theorem tX_task (hv : tV cl G PR F0 p t) (h : tT cl G PR F0 p t = none) : tX cl G PR F0 p := by
  rcases hv with ⟨h1, h2⟩ | ⟨h1, h2, ls, h3, h4⟩
  · rw [tT, if_pos h1] at h
    exact tX_all (me_seq_none h _ h2)
  · rw [tT, if_neg (by omega), h3] at h
    have h5 : me_red (PR (tJ cl p)) (tN cl G p) ls (t - 38) = none := h
    rw [tX, me_out, show me_all (PR (tJ cl p)) (tI cl G PR F0 p) = some ls from h3]
    show (me_par (PR (tJ cl p)) (tN cl G p) ls).bind _ = none
    rw [me_par, if_pos h4, me_seq_none h5 _ h2]; rfl
/-- a sum over tasks -/
def sumOn (f : Nat → Nat) : Nat → Nat
  | 0 => 0
  | n + 1 => sumOn f n + f n
theorem sumOn_le {f g : Nat → Nat} : ∀ (n : Nat), (∀ i, i < n → f i ≤ g i) → sumOn f n ≤ sumOn g n := by
  intro n
  induction n with
  | zero => intro _; exact Nat.le_refl 0
  | succ n ih => intro h; have h1 := ih (fun i hi => h i (by omega)); have h2 := h n (by omega); rw [sumOn, sumOn]; omega
theorem sumOn_eq {f g : Nat → Nat} : ∀ (n : Nat), (∀ i, i < n → f i = g i) → sumOn f n = sumOn g n := by
  intro n
  induction n with
  | zero => intro _; rfl
  | succ n ih => intro h; rw [sumOn, sumOn, ih (fun i hi => h i (by omega)), h n (by omega)]
theorem sumOn_zero {f : Nat → Nat} (n : Nat) (h : ∀ i, i < n → f i = 0) : sumOn f n = 0 := by
  induction n with
  | zero => rfl
  | succ n ih => rw [sumOn, ih (fun i hi => h i (by omega)), h n (by omega)]
theorem sumOn_pad {f : Nat → Nat} {n : Nat} : ∀ (m : Nat), n ≤ m → (∀ i, n ≤ i → i < m → f i = 0) → sumOn f m = sumOn f n := by
  intro m
  induction m with
  | zero => intro h1 _; rw [show n = 0 from by omega]
  | succ m ih =>
    intro h1 h2
    by_cases e : n = m + 1
    · rw [e]
    · rw [sumOn, ih (by omega) (fun i h3 h4 => h2 i h3 (by omega)), h2 m (by omega) (by omega)]; rfl
theorem sumOn_up {f g : Nat → Nat} {k : Nat} (hg : ∀ i, i ≠ k → g i = f i) : ∀ (n : Nat), k < n → sumOn g n + f k = sumOn f n + g k := by
  intro n
  induction n with
  | zero => intro h; omega
  | succ n ih =>
    intro h
    rw [sumOn, sumOn]
    by_cases e : k = n
    · subst e
      rw [sumOn_eq k (fun i hi => hg i (by omega))]; omega
    · have := ih (by omega)
      rw [hg n (by omega)]; omega
theorem sumOn_mono {f : Nat → Nat} {n : Nat} : ∀ (m : Nat), n ≤ m → sumOn f n ≤ sumOn f m := by
  intro m
  induction m with
  | zero => intro h; rw [show n = 0 from by omega]; exact Nat.le_refl _
  | succ m ih =>
    intro h
    by_cases e : n = m + 1
    · rw [e]; exact Nat.le_refl _
    · have h1 := ih (by omega)
      have h2 : sumOn f (m + 1) = sumOn f m + f m := rfl
      omega
theorem sumOn_cons (f : Nat → Nat) : ∀ (n : Nat), sumOn f (n + 1) = f 0 + sumOn (fun i => f (i + 1)) n := by
  intro n
  induction n with
  | zero => show 0 + f 0 = f 0 + 0; omega
  | succ n ih => rw [sumOn, ih, sumOn]; omega
theorem me_sum_on : ∀ (ls : List Jl), me_sum ls = sumOn (fun i => (ls.getD i []).length) ls.length := by
  intro ls
  induction ls with
  | nil => rfl
  | cons l ls ih =>
    rw [List.length_cons, sumOn_cons]
    show l.length + me_sum ls = l.length + sumOn (fun i => (ls.getD i []).length) ls.length
    rw [ih]
/-- what is held of SPLITS is not more than all of them make -/
theorem tX_held {f : Nat → Option Jl} {n : Nat} (hn : n = 38) (hf : ∀ i l, i < 38 → f i = some l → tV cl G PR F0 p i ∧ tT cl G PR F0 p i = some l) (hs : 1000 < sumOn (fun i => jd_am (f i)) n) : tX cl G PR F0 p := by
  subst hn
  cases hA : tA cl G PR F0 p with
  | none => exact tX_all hA
  | some ls =>
    refine tX_sum hA (Nat.lt_of_lt_of_le hs ?_)
    obtain ⟨e1, e2⟩ := me_seq_get _ _ hA
    rw [me_sum_on]
    have hb : ∀ i, i < 38 → jd_am (f i) ≤ (ls.getD i []).length := by
      intro i hi
      cases e : f i with
      | none => exact Nat.zero_le _
      | some l =>
        obtain ⟨v1, v2⟩ := hf i l hi e
        rcases v1 with ⟨_, v3⟩ | ⟨v3, _⟩
        · rw [tT, if_pos hi] at v2
          rw [List.getD_eq_getElem?_getD, ← e2 i v3, v2]
          exact Nat.le_refl _
        · omega
    have hz : ∀ i, ls.length ≤ i → (ls.getD i []).length = 0 := by
      intro i hi
      rw [List.getD_eq_getElem?_getD, List.getElem?_eq_none hi]; rfl
    refine Nat.le_trans (sumOn_le 38 hb) ?_
    rcases Nat.le_total ls.length 38 with h | h
    · rw [sumOn_pad 38 h (fun i hi _ => hz i hi)]
      exact Nat.le_refl _
    · exact sumOn_mono _ h
/-- the same of PARTS -/
theorem tX_heldP {f : Nat → Option Jl} {n : Nat} (hn : n = 6) (hf : ∀ i l, i < 6 → f i = some l → tV cl G PR F0 p (38 + i) ∧ tT cl G PR F0 p (38 + i) = some l) (hs : 300 < sumOn (fun i => jd_am (f i)) n) : tX cl G PR F0 p := by
  subst hn
  cases hA : tA cl G PR F0 p with
  | none => exact tX_all hA
  | some ls =>
    rw [tX, me_out, show me_all (PR (tJ cl p)) (tI cl G PR F0 p) = some ls from hA]
    show (me_par (PR (tJ cl p)) (tN cl G p) ls).bind _ = none
    cases hP : me_par (PR (tJ cl p)) (tN cl G p) ls with
    | none => rfl
    | some os =>
      show (if me_sum os ≤ 300 then _ else none) = none
      rw [if_neg ?_]
      have hP2 := hP
      rw [me_par] at hP2
      split at hP2
      · obtain ⟨e1, e2⟩ := me_seq_get _ _ hP2
        have hb : ∀ i, i < 6 → jd_am (f i) ≤ (os.getD i []).length := by
          intro i hi
          cases e : f i with
          | none => exact Nat.zero_le _
          | some l =>
            obtain ⟨v1, v2⟩ := hf i l hi e
            rcases v1 with ⟨v3, _⟩ | ⟨_, v3, _⟩
            · omega
            · rw [tT, if_neg (by omega), hA] at v2
              have v2' : me_red (PR (tJ cl p)) (tN cl G p) ls (38 + i - 38) = some l := v2
              rw [show 38 + i - 38 = i from by omega] at v2' v3
              rw [List.getD_eq_getElem?_getD, ← e2 i v3, v2']
              exact Nat.le_refl _
        have hz : ∀ i, os.length ≤ i → (os.getD i []).length = 0 := by
          intro i hi
          rw [List.getD_eq_getElem?_getD, List.getElem?_eq_none hi]; rfl
        have h1 := sumOn_le 6 hb
        rw [me_sum_on]
        rcases Nat.le_total os.length 6 with h | h
        · rw [← sumOn_pad 6 h (fun i hi _ => hz i hi)]
          omega
        · have := sumOn_mono (f := fun i => (os.getD i []).length) _ h
          omega
      · cases hP2
end TASKS
