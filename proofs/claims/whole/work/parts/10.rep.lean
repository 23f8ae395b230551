/-! the pure heap in the machine's heap: cell a of it lies at b + a -/
def sm_ad (b scr k : Nat) : Nat := if k = sm_S then scr else b + k
def sm_c (b scr : Nat) : Value → Value
  | .ref k => .ref (sm_ad b scr k)
  | v => v
def sm_fv (b scr : Nat) (h : sm_H) (a : Nat) (d : String) (j : Nat) : Value :=
  if d = "I" ∨ d = "Z" then .int (gI h a j) else if d = "J" then .long (gL h a j) else va_rf ((gR h a j).map (sm_ad b scr))
def sm_arr (b scr : Nat) (h : sm_H) (a k : Nat) : (Nat → Int32) ⊕ (Nat → Int64) ⊕ (Nat → UInt32) ⊕ (Nat → UInt64) ⊕ (Nat → Option Nat) :=
  if k = 0 ∨ k = 2 then .inl (gI h a) else if k = 1 then .inr (.inl (gL h a)) else .inr (.inr (.inr (.inr (fun j => (gR h a j).map (sm_ad b scr)))))
def sm_obj (cl : List vw_C) (b scr : Nat) (h : sm_H) (a ci : Nat) : List Value := match cl[ci]? with
  | some q => (List.range q.2.2).map (fun j => sm_fv b scr h a (q.2.1 j).2.2.1 j)
  | none => []
def sm_cell (cl : List vw_C) (b scr : Nat) (ac : Nat → ClassId) (h : sm_H) (a : Nat) : va_E :=
  if (gS h a).1 < 10 then .inl (ac (gS h a).1, (gS h a).2, sm_arr b scr h a (gS h a).1) else .inr ((gS h a).1 - 10, sm_obj cl b scr h a ((gS h a).1 - 10))
def sm_ws (cl : List vw_C) (b scr : Nat) (ac : Nat → ClassId) (h : sm_H) : va_W := (List.range (gN h)).map (fun a => (b + a, sm_cell cl b scr ac h a))
def sm_A (b : Nat) : Nat → Prop := fun q => b ≤ q
section SMW
variable {cl : List vw_C} {b scr : Nat} {ac : Nat → ClassId} {h h' : sm_H} {a : Nat}
theorem sm_ws_get (ha : a < gN h) : (sm_ws cl b scr ac h)[a]? = some (b + a, sm_cell cl b scr ac h a) := by
  simp [sm_ws, ha]
theorem sm_ws_D : va_D (sm_A b) (sm_ws cl b scr ac h) := by
  refine ⟨fun i j p q hp hq e => ?_, fun k q hq => ?_⟩
  · simp only [sm_ws, List.getElem?_map] at hp hq
    have h1 : i < gN h := by
      rcases Nat.lt_or_ge i (gN h) with h1 | h1
      · exact h1
      · rw [List.getElem?_eq_none (by simpa using h1)] at hp; cases hp
    have h2 : j < gN h := by
      rcases Nat.lt_or_ge j (gN h) with h1 | h1
      · exact h1
      · rw [List.getElem?_eq_none (by simpa using h1)] at hq; cases hq
    simp [h1] at hp
    simp [h2] at hq
    subst hp; subst hq
    simp at e
    exact e
  · simp only [sm_ws, List.getElem?_map] at hq
    have h1 : k < gN h := by
      rcases Nat.lt_or_ge k (gN h) with h1 | h1
      · exact h1
      · rw [List.getElem?_eq_none (by simpa using h1)] at hq; cases hq
    simp [h1] at hq
    subst hq
    exact Nat.le_add_right b k
theorem sm_ws_set (hn : gN h' = gN h) (ha : a < gN h) (ho : ∀ x, x ≠ a → sm_cell cl b scr ac h' x = sm_cell cl b scr ac h x) : sm_ws cl b scr ac h' = (sm_ws cl b scr ac h).set a (b + a, sm_cell cl b scr ac h' a) := by
  apply List.ext_getElem?
  intro i
  rw [List.getElem?_set]
  by_cases hi : a = i
  · subst hi
    rw [if_pos rfl, sm_ws_get (by rw [hn]; exact ha), if_pos (by simpa [sm_ws] using ha)]
  · rw [if_neg hi]
    simp only [sm_ws, List.getElem?_map, hn]
    by_cases h1 : i < gN h
    · simp [h1, ho i (fun e => hi e.symm)]
    · rw [List.getElem?_eq_none (by simpa using Nat.not_lt.mp h1)]; simp
theorem sm_up_o {α : Type} {f : Nat → Nat → α} {a i x : Nat} {v : α} (hx : x ≠ a) : sm_up f a i v x = f x := by
  funext j; simp [sm_up, hx]
theorem sm_up_s {α : Type} {f : Nat → Nat → α} {a i : Nat} {v : α} : sm_up f a i v a = fun j => if j = i then v else f a j := by
  funext j; simp [sm_up]
theorem sm_ro_o {α : Type} {f : Nat → Nat → α} {a x : Nat} {g : Nat → α} (hx : x ≠ a) : sm_ro f a g x = f x := by simp [sm_ro, hx]
theorem sm_ro_s {α : Type} {f : Nat → Nat → α} {a : Nat} {g : Nat → α} : sm_ro f a g a = g := by simp [sm_ro]
/-- a cell is read off its own row alone -/
theorem sm_cell_eq {x : Nat} (h1 : gS h' x = gS h x) (h2 : gI h' x = gI h x) (h3 : gL h' x = gL h x) (h4 : gR h' x = gR h x) : sm_cell cl b scr ac h' x = sm_cell cl b scr ac h x := by
  simp only [sm_cell, sm_arr, sm_obj, sm_fv, h1, h2, h3, h4]
theorem sm_setI_o {i x : Nat} {v : Int32} (hx : x ≠ a) : sm_cell cl b scr ac (setI h a i v) x = sm_cell cl b scr ac h x :=
  sm_cell_eq rfl (sm_up_o hx) rfl rfl
theorem sm_setL_o {i x : Nat} {v : Int64} (hx : x ≠ a) : sm_cell cl b scr ac (setL h a i v) x = sm_cell cl b scr ac h x :=
  sm_cell_eq rfl rfl (sm_up_o hx) rfl
theorem sm_setR_o {i x : Nat} {v : Option Nat} (hx : x ≠ a) : sm_cell cl b scr ac (setR h a i v) x = sm_cell cl b scr ac h x :=
  sm_cell_eq rfl rfl rfl (sm_up_o hx)
theorem sm_rowI_o {x : Nat} {g : Nat → Int32} (hx : x ≠ a) : sm_cell cl b scr ac (rowI h a g) x = sm_cell cl b scr ac h x :=
  sm_cell_eq rfl (sm_ro_o hx) rfl rfl
theorem sm_rowL_o {x : Nat} {g : Nat → Int64} (hx : x ≠ a) : sm_cell cl b scr ac (rowL h a g) x = sm_cell cl b scr ac h x :=
  sm_cell_eq rfl rfl (sm_ro_o hx) rfl
end SMW
/-! locals: a list of the values that are known -/
def sm_as (b scr : Nat) (ls : sm_L) : List (Nat × Value) := (List.range ls.length).filterMap (fun i => match ls[i]? with
  | some (some v) => some (i, sm_c b scr v)
  | _ => none)
theorem sm_as_mem {b scr : Nat} {ls : sm_L} {q : Nat × Value} : q ∈ sm_as b scr ls ↔ ∃ v, ls[q.1]? = some (some v) ∧ q.2 = sm_c b scr v := by
  obtain ⟨i, w⟩ := q
  simp only [sm_as, List.mem_filterMap, List.mem_range]
  constructor
  · rintro ⟨j, hj, e⟩
    split at e
    · rename_i v hv
      cases e
      exact ⟨v, hv, rfl⟩
    · cases e
  · rintro ⟨v, hv, e⟩
    refine ⟨i, (List.getElem?_eq_some_iff.mp hv).1, ?_⟩
    simp only [hv]
    try dsimp only at e
    rw [e]
def sm_lv (b scr : Nat) (lsA : Array Slot) (n : Nat) (ls : sm_L) : Prop := ls.length = n ∧ lv_has lsA n (sm_as b scr ls)
theorem sm_lv_get {b scr n i : Nat} {lsA : Array Slot} {ls : sm_L} {v : Value} (h : sm_lv b scr lsA n ls) (hv : ls[i]? = some (some v)) : lsA[i]? = some (.val (sm_c b scr v)) :=
  h.2.2.2 (i, sm_c b scr v) (sm_as_mem.mpr ⟨v, hv, rfl⟩)
theorem sm_c_cat (b scr : Nat) (v : Value) : (sm_c b scr v).category = v.category := by cases v <;> rfl
theorem sm_cl_len (ls : sm_L) (i : Nat) : (sm_cl ls i).length = ls.length := by
  unfold sm_cl
  split
  · rfl
  · split <;> simp
theorem sm_cl_get {ls : sm_L} {i j : Nat} {v : Value} (h : (sm_cl ls i)[j]? = some (some v)) : ls[j]? = some (some v) ∧ ¬ (j + 1 = i ∧ v.category = 2) := by
  unfold sm_cl at h
  split at h
  · exact ⟨h, fun q => by omega⟩
  · rename_i k
    split at h
    · rename_i x hx
      rw [List.getElem?_set] at h
      by_cases e : k = j
      · subst e
        rw [if_pos rfl] at h
        split at h
        · cases h
        · cases h
      · rw [if_neg e] at h
        exact ⟨h, fun q => e (by omega)⟩
    · rename_i x hx
      rw [List.getElem?_set] at h
      by_cases e : k = j
      · subst e
        rw [if_pos rfl] at h
        split at h
        · cases h
        · cases h
      · rw [if_neg e] at h
        exact ⟨h, fun q => e (by omega)⟩
    · rename_i n1 n2
      refine ⟨h, fun q => ?_⟩
      obtain ⟨q1, q2⟩ := q
      have e : k = j := by omega
      subst e
      cases v <;> first | exact n1 _ h | exact n2 _ h | (simp [Value.category] at q2)
theorem sm_lv_st1 {b scr n i : Nat} {lsA : Array Slot} {ls : sm_L} {v : Value} (h : sm_lv b scr lsA n ls) (lsB : Array Slot) (hB : lv_has lsB n ((i, sm_c b scr v) :: (sm_as b scr ls).filter (fun q => !(q.1 == i) && !(q.1 + 1 == i && q.2.category == 2)))) : sm_lv b scr lsB n (sm_st1 ls i v) := by
  refine ⟨by simp [sm_st1, sm_cl_len, h.1], hB.1, hB.2.1, fun q hq => ?_⟩
  obtain ⟨w, hw, e⟩ := sm_as_mem.mp hq
  obtain ⟨j, u⟩ := q
  dsimp only at hw e ⊢
  subst e
  unfold sm_st1 at hw
  rw [List.getElem?_set] at hw
  by_cases e : i = j
  · subst e
    rw [if_pos rfl] at hw
    split at hw
    · cases hw
      exact hB.2.2 (i, sm_c b scr v) List.mem_cons_self
    · cases hw
  · rw [if_neg e] at hw
    obtain ⟨h1, h2⟩ := sm_cl_get hw
    refine hB.2.2 (j, sm_c b scr w) (List.mem_cons_of_mem _ (List.mem_filter.mpr ⟨sm_as_mem.mpr ⟨w, h1, rfl⟩, ?_⟩))
    dsimp only
    rw [sm_c_cat]
    simp only [Bool.and_eq_true, Bool.not_eq_true', beq_eq_false_iff_ne, ne_eq]
    refine ⟨fun q => e q.symm, ?_⟩
    rw [Bool.and_eq_false_iff]
    by_cases q1 : j + 1 = i
    · right
      simp only [beq_eq_false_iff_ne]
      exact fun q2 => h2 ⟨q1, q2⟩
    · left
      simpa using q1
theorem sm_lv_st2 {b scr n i : Nat} {lsA : Array Slot} {ls : sm_L} {v : Value} (h : sm_lv b scr lsA n ls) (lsB : Array Slot) (hB : lv_has lsB n ((i, sm_c b scr v) :: (sm_as b scr ls).filter (fun q => !(q.1 == i) && (!(q.1 == i + 1) && !(q.1 + 1 == i && q.2.category == 2))))) : sm_lv b scr lsB n (sm_st2 ls i v) := by
  refine ⟨by simp [sm_st2, sm_cl_len, h.1], hB.1, hB.2.1, fun q hq => ?_⟩
  obtain ⟨w, hw, e⟩ := sm_as_mem.mp hq
  obtain ⟨j, u⟩ := q
  dsimp only at hw e ⊢
  subst e
  unfold sm_st2 at hw
  rw [List.getElem?_set] at hw
  by_cases e1 : i + 1 = j
  · subst e1
    rw [if_pos rfl] at hw
    split at hw
    · cases hw
    · cases hw
  · rw [if_neg e1, List.getElem?_set] at hw
    by_cases e : i = j
    · subst e
      rw [if_pos rfl] at hw
      split at hw
      · cases hw
        exact hB.2.2 (i, sm_c b scr v) List.mem_cons_self
      · cases hw
    · rw [if_neg e] at hw
      obtain ⟨h1, h2⟩ := sm_cl_get hw
      refine hB.2.2 (j, sm_c b scr w) (List.mem_cons_of_mem _ (List.mem_filter.mpr ⟨sm_as_mem.mpr ⟨w, h1, rfl⟩, ?_⟩))
      dsimp only
      rw [sm_c_cat]
      simp only [Bool.and_eq_true, Bool.not_eq_true', beq_eq_false_iff_ne, ne_eq]
      refine ⟨fun q => e q.symm, fun q => e1 q.symm, ?_⟩
      rw [Bool.and_eq_false_iff]
      by_cases q1 : j + 1 = i
      · right
        simp only [beq_eq_false_iff_ne]
        exact fun q2 => h2 ⟨q1, q2⟩
      · left
        simpa using q1
theorem sm_ent_cons (v : Value) (r : List Value) : sm_ent (v :: r) = if v.category = 2 then some v :: none :: sm_ent r else some v :: sm_ent r := by
  cases v <;> rfl
theorem sm_ent_len (av : List Value) (b scr : Nat) : (sm_ent av).length = (lg_sl (av.map (sm_c b scr))).length := by
  induction av with
  | nil => rfl
  | cons v r ih =>
    rw [sm_ent_cons]
    simp only [lg_sl, List.map_cons, List.flatMap_cons, List.length_append] at ih ⊢
    rw [sm_c_cat]
    split
    · simp only [List.length_cons, List.length_nil]; omega
    · simp only [List.length_cons, List.length_nil]; omega
theorem sm_ent_arg {b scr : Nat} : ∀ (av : List Value) (k i : Nat) (v : Value), (sm_ent av)[i]? = some (some v) → (k + i, sm_c b scr v) ∈ lv_args k (av.map (sm_c b scr))
  | [], k, i, v, h => by simp [sm_ent] at h
  | w :: r, k, i, v, h => by
    rw [sm_ent_cons] at h
    simp only [List.map_cons, lv_args, sm_c_cat]
    by_cases hc : w.category = 2
    · rw [if_pos hc] at h ⊢
      match i, h with
      | 0, h => simp only [List.getElem?_cons_zero, Option.some.injEq] at h; subst h; exact List.mem_cons_self
      | 1, h => simp at h
      | j + 2, h =>
        simp only [List.getElem?_cons_succ] at h
        have := sm_ent_arg (b := b) (scr := scr) r (k + 2) j v h
        rw [show k + 2 + j = k + (j + 2) by omega] at this
        exact List.mem_cons_of_mem _ this
    · rw [if_neg hc] at h ⊢
      match i, h with
      | 0, h => simp only [List.getElem?_cons_zero, Option.some.injEq] at h; subst h; exact List.mem_cons_self
      | j + 1, h =>
        simp only [List.getElem?_cons_succ] at h
        have := sm_ent_arg (b := b) (scr := scr) r (k + 1) j v h
        rw [show k + 1 + j = k + (j + 1) by omega] at this
        exact List.mem_cons_of_mem _ this
theorem sm_lv_ent {b scr n : Nat} {av : List Value} (hn : (sm_ent av).length ≤ n) : sm_lv b scr ((lg_sl (av.map (sm_c b scr)) ++ List.replicate (n - (lg_sl (av.map (sm_c b scr))).length) Slot.unset).toArray) n (sm_pad (sm_ent av) n) := by
  have h := lv_entry (av.map (sm_c b scr)) (n := n) (by rw [← sm_ent_len av b scr]; exact hn)
  refine ⟨by simp [sm_pad]; omega, h.1, h.2.1, fun q hq => ?_⟩
  obtain ⟨v, hv, e⟩ := sm_as_mem.mp hq
  obtain ⟨j, u⟩ := q
  dsimp only at hv e ⊢
  subst e
  unfold sm_pad at hv
  by_cases hj : j < (sm_ent av).length
  · rw [List.getElem?_append_left hj] at hv
    have := sm_ent_arg (b := b) (scr := scr) av 0 j v hv
    rw [Nat.zero_add] at this
    exact h.2.2 _ this
  · rw [List.getElem?_append_right (by omega), List.getElem?_replicate] at hv
    split at hv
    · cases hv
    · cases hv
