/-! the script is not touched by what never has it in its hands -/
def ov (L : Nat) (xs : Nat → Int32) (h : sm_H) : sm_H := (gN h, (fun a => if a = sm_S then (0, L) else gS h a), (fun a => if a = sm_S then xs else gI h a), gL h, gR h, gJ h, gD h)
def hasS (st : List Value) : Bool := st.any (fun v => match v with
  | .ref q => decide (q = sm_S)
  | _ => false)
def ovN (L : Nat) (xs : Nat → Int32) : sm_N → sm_N
  | .inl (pc, ls, st, h) => .inl (pc, ls, st, ov L xs h)
  | .inr (.inl z) => .inr (.inl z)
  | .inr (.inr (r, h)) => .inr (.inr (r, ov L xs h))
section OV
variable {L : Nat} {xs : Nat → Int32} {h : sm_H} {q i : Nat}
theorem ov_at (hN : gN h ≤ sm_S) (k : Nat) : sm_at (ov L xs h) q k = sm_at h q k := by
  show (decide (q < gN h) && decide ((if q = sm_S then (0, L) else gS h q).1 = k)) = (decide (q < gN h) && decide ((gS h q).1 = k))
  by_cases e : q = sm_S
  · rw [decide_eq_false (show ¬ q < gN h by omega)]; rfl
  · rw [if_neg e]
theorem ov_S (e : q ≠ sm_S) : gS (ov L xs h) q = gS h q := if_neg e
theorem ov_I (e : q ≠ sm_S) : gI (ov L xs h) q = gI h q := if_neg e
theorem ov_setI {x : Int32} (e : q ≠ sm_S) : setI (ov L xs h) q i x = ov L xs (setI h q i x) := by
  show (gN h, _, sm_up (fun a => if a = sm_S then xs else gI h a) q i x, gL h, gR h, gJ h, gD h) = (gN h, _, (fun a => if a = sm_S then xs else sm_up (gI h) q i x a), gL h, gR h, gJ h, gD h)
  congr 3
  funext a j
  rw [sm_up]
  by_cases e2 : a = sm_S
  · rw [if_pos e2, if_pos e2, if_neg (fun z => e (z.1.symm.trans e2))]
  · rw [if_neg e2, if_neg e2, sm_up]
theorem ov_setL {x : Int64} : setL (ov L xs h) q i x = ov L xs (setL h q i x) := rfl
theorem ov_setR {x : Option Nat} : setR (ov L xs h) q i x = ov L xs (setR h q i x) := rfl
theorem ov_rowL {g : Nat → Int64} : rowL (ov L xs h) q g = ov L xs (rowL h q g) := rfl
theorem ov_rowI {g : Nat → Int32} (e : q ≠ sm_S) : rowI (ov L xs h) q g = ov L xs (rowI h q g) := by
  show (gN h, _, sm_ro (fun a => if a = sm_S then xs else gI h a) q g, gL h, gR h, gJ h, gD h) = (gN h, _, (fun a => if a = sm_S then xs else sm_ro (gI h) q g a), gL h, gR h, gJ h, gD h)
  congr 3
  funext a
  rw [sm_ro]
  by_cases e2 : a = sm_S
  · rw [if_pos e2, if_pos e2, if_neg (fun z => e (z.symm.trans e2))]
  · rw [if_neg e2, if_neg e2, sm_ro]
theorem ov_new {k n : Nat} (hN : gN h < sm_S) : hnew (ov L xs h) k n = ov L xs (hnew h k n) := by
  have e : gN h ≠ sm_S := by omega
  have a1 : (fun b => if b = gN h then (k, n) else (if b = sm_S then ((0, L) : Nat × Nat) else gS h b)) = (fun b => if b = sm_S then (0, L) else (if b = gN h then (k, n) else gS h b)) := by
    funext b
    by_cases e2 : b = sm_S
    · rw [if_pos e2, if_neg (fun z => e (z.symm.trans e2)), if_pos e2]
    · rw [if_neg e2, if_neg e2]
  have a2 : sm_ro (fun a => if a = sm_S then xs else gI h a) (gN h) (fun _ => 0) = (fun a => if a = sm_S then xs else sm_ro (gI h) (gN h) (fun _ => 0) a) := by
    funext b
    rw [sm_ro]
    by_cases e2 : b = sm_S
    · rw [if_pos e2, if_neg (fun z => e (z.symm.trans e2)), if_pos e2]
    · rw [if_neg e2, if_neg e2, sm_ro]
  show (gN h + 1, _, _, _, _, _, _) = (gN h + 1, _, _, _, _, _, _)
  have b1 : (gN (hnew (ov L xs h) k n), gS (hnew (ov L xs h) k n), gI (hnew (ov L xs h) k n), gL (hnew (ov L xs h) k n), gR (hnew (ov L xs h) k n), gJ (hnew (ov L xs h) k n), gD (hnew (ov L xs h) k n)) = hnew (ov L xs h) k n := rfl
  refine Prod.ext rfl (Prod.ext a1 (Prod.ext a2 rfl))
theorem hasS_cons {v : Value} {st : List Value} (hs : hasS (v :: st) = false) : hasS st = false ∧ ∀ q, v = .ref q → q ≠ sm_S := by
  rw [hasS, List.any_cons, Bool.or_eq_false_iff] at hs
  refine ⟨hs.2, fun q e z => ?_⟩
  subst e
  have h1 : decide (q = sm_S) = false := hs.1
  rw [decide_eq_true z] at h1
  cases h1
theorem nx_map {pc : Nat} {ls : sm_L} {st : List Value} : (nx pc ls st h).map (ovN L xs) = nx pc ls st (ov L xs h) := rfl
theorem fin_map {r : sm_R} : (sm_fin r h).map (ovN L xs) = sm_fin r (ov L xs h) := rfl
theorem junk_ov : hjunk (ov L xs h) = ov L xs (hjunk h) := rfl
theorem call_map {z : Nat × List Value × List Value} : (some (Sum.inr (Sum.inl z)) : Option sm_N).map (ovN L xs) = some (.inr (.inl z)) := rfl
theorem bin_ov {f : Int32 → Int32 → Int32} {pc : Nat} {ls : sm_L} {st : List Value} : sm_bin f pc ls st (ov L xs h) = (sm_bin f pc ls st h).map (ovN L xs) := by unfold sm_bin; split <;> rfl
theorem bil_ov {f : Int64 → Int64 → Int64} {pc : Nat} {ls : sm_L} {st : List Value} : sm_bil f pc ls st (ov L xs h) = (sm_bil f pc ls st h).map (ovN L xs) := by unfold sm_bil; split <;> rfl
theorem if_ov {f : Int32 → Bool} {t pc : Nat} {ls : sm_L} {st : List Value} : sm_if f t pc ls st (ov L xs h) = (sm_if f t pc ls st h).map (ovN L xs) := by unfold sm_if; split <;> rfl
theorem ic_ov {f : Int32 → Int32 → Bool} {t pc : Nat} {ls : sm_L} {st : List Value} : sm_ic f t pc ls st (ov L xs h) = (sm_ic f t pc ls st h).map (ovN L xs) := by unfold sm_ic; split <;> rfl
theorem ov_N : gN (ov L xs h) = gN h := rfl
theorem ov_J : gJ (ov L xs h) = gJ h := rfl
theorem ov_L : gL (ov L xs h) = gL h := rfl
theorem ov_R : gR (ov L xs h) = gR h := rfl
theorem rcv_ov {k : Nat} {av : List Value} (hN : gN h ≤ sm_S) : sm_rcv (ov L xs h) k av = sm_rcv h k av := by
  unfold sm_rcv
  split
  · rfl
  · split
    · exact ov_at hN _
    · rfl
theorem step65 {pc a b : Nat} {c : Int} {l : List Nat} {ls : sm_L} {st : List Value} (hs : hasS st = false) : sm_step (ov L xs h) pc (65, a, b, c, l) ls st = (sm_step h pc (65, a, b, c, l) ls st).map (ovN L xs) := by
  rcases st with _ | ⟨v, r⟩
  · rfl
  · cases v with
    | ref q =>
      have e := (hasS_cons hs).2 q rfl
      show (if (decide (q < gN h) && decide ((gS (ov L xs h) q).1 < 8)) || decide (q = sm_S) then nx (pc + 1) ls (.int (Int32.ofNat (gS (ov L xs h) q).2) :: r) (ov L xs h) else none) = Option.map (ovN L xs) (if (decide (q < gN h) && decide ((gS h q).1 < 8)) || decide (q = sm_S) then nx (pc + 1) ls (.int (Int32.ofNat (gS h q).2) :: r) h else none)
      rw [ov_S e]
      by_cases hc : ((decide (q < gN h) && decide ((gS h q).1 < 8)) || decide (q = sm_S)) = true
      · rw [if_pos hc, if_pos hc]; rfl
      · rw [if_neg hc, if_neg hc]; rfl
    | _ => rfl
theorem step66 {pc a b : Nat} {c : Int} {l : List Nat} {ls : sm_L} {st : List Value} : sm_step (ov L xs h) pc (66, a, b, c, l) ls st = (sm_step h pc (66, a, b, c, l) ls st).map (ovN L xs) := by
  show (if gJ h = 0 ∧ gN h < sm_S then nx (pc + 3) ls (.ref (gN h) :: st) (hnew (ov L xs h) (10 + a) b) else none) = Option.map (ovN L xs) (if gJ h = 0 ∧ gN h < sm_S then nx (pc + 3) ls (.ref (gN h) :: st) (hnew h (10 + a) b) else none)
  by_cases hc : gJ h = 0 ∧ gN h < sm_S
  · rw [if_pos hc, if_pos hc, ov_new hc.2]; rfl
  · rw [if_neg hc, if_neg hc]; rfl
theorem step67 {pc a b : Nat} {c : Int} {l : List Nat} {ls : sm_L} {st : List Value} : sm_step (ov L xs h) pc (67, a, b, c, l) ls st = (sm_step h pc (67, a, b, c, l) ls st).map (ovN L xs) := by
  rcases st with _ | ⟨v, r⟩
  · rfl
  · cases v with
    | int n =>
      show (if gJ h = 0 ∧ gN h < sm_S ∧ ¬ n < 0 ∧ n.toNatClampNeg ≤ 1000000 then nx (pc + 2) ls (.ref (gN h) :: r) (hnew (ov L xs h) a n.toNatClampNeg) else none) = Option.map (ovN L xs) (if gJ h = 0 ∧ gN h < sm_S ∧ ¬ n < 0 ∧ n.toNatClampNeg ≤ 1000000 then nx (pc + 2) ls (.ref (gN h) :: r) (hnew h a n.toNatClampNeg) else none)
      by_cases hc : gJ h = 0 ∧ gN h < sm_S ∧ ¬ n < 0 ∧ n.toNatClampNeg ≤ 1000000
      · rw [if_pos hc, if_pos hc, ov_new hc.2.1]; rfl
      · rw [if_neg hc, if_neg hc]; rfl
    | _ => rfl
theorem step68 {pc a b : Nat} {c : Int} {l : List Nat} {ls : sm_L} {st : List Value} : sm_step (ov L xs h) pc (68, a, b, c, l) ls st = (sm_step h pc (68, a, b, c, l) ls st).map (ovN L xs) := by
  rcases st with _ | ⟨v, r⟩
  · rfl
  · cases v with
    | int n =>
      show (if gJ h = 0 ∧ gN h < sm_S ∧ ¬ n < 0 ∧ n.toNatClampNeg ≤ 1000000 then nx (pc + 3) ls (.ref (gN h) :: r) (hnew (ov L xs h) a n.toNatClampNeg) else none) = Option.map (ovN L xs) (if gJ h = 0 ∧ gN h < sm_S ∧ ¬ n < 0 ∧ n.toNatClampNeg ≤ 1000000 then nx (pc + 3) ls (.ref (gN h) :: r) (hnew h a n.toNatClampNeg) else none)
      by_cases hc : gJ h = 0 ∧ gN h < sm_S ∧ ¬ n < 0 ∧ n.toNatClampNeg ≤ 1000000
      · rw [if_pos hc, if_pos hc, ov_new hc.2.1]; rfl
      · rw [if_neg hc, if_neg hc]; rfl
    | _ => rfl
theorem step69 {pc a b : Nat} {c : Int} {l : List Nat} {ls : sm_L} {st : List Value} (hN : gN h ≤ sm_S) : sm_step (ov L xs h) pc (69, a, b, c, l) ls st = (sm_step h pc (69, a, b, c, l) ls st).map (ovN L xs) := by
  show (if b ≤ st.length ∧ sm_wt (st.drop b) ≤ 8 ∧ sm_rcv (ov L xs h) (l.getD 1 0) (st.take b).reverse = true then some (.inr (.inl (a, (st.take b).reverse, st.drop b))) else none) = Option.map (ovN L xs) (if b ≤ st.length ∧ sm_wt (st.drop b) ≤ 8 ∧ sm_rcv h (l.getD 1 0) (st.take b).reverse = true then some (.inr (.inl (a, (st.take b).reverse, st.drop b))) else none)
  rw [rcv_ov hN]
  split <;> rfl
theorem step_ov {pc : Nat} {o : sm_O} {ls : sm_L} {st : List Value} (hN : gN h ≤ sm_S) (hs : hasS st = false) : sm_step (ov L xs h) pc o ls st = (sm_step h pc o ls st).map (ovN L xs) := by
  unfold sm_step
  split
  case h_66 => exact step65 (a := 0) (b := 0) (c := 0) (l := []) hs
  case h_67 => exact step66 (c := 0) (l := [])
  case h_68 => exact step67 (b := 0) (c := 0) (l := [])
  case h_69 => exact step68 (b := 0) (c := 0) (l := [])
  case h_70 => exact step69 (pc := pc) (ls := ls) (c := 0) hN
  all_goals try simp only [nx_map, bin_ov, bil_ov, if_ov, ic_ov, Option.map_none]
  all_goals try (split <;> simp only [nx_map, Option.map_none])
  all_goals try simp only [apply_ite (Option.map (ovN L xs)), nx_map, Option.map_none, ov_N, ov_J, ov_at hN, ov_L, ov_R, ov_setL, ov_setR, fin_map, junk_ov, call_map]
  all_goals (split <;> simp only [hasS, List.any_cons, Bool.or_eq_false_iff, decide_eq_false_iff_not] at hs <;> simp [hs, ov_S, ov_I, ov_setI, ov_rowI, ov_at hN, ov_L, ov_R, ov_setL, ov_setR, ov_rowL, sm_cpI, sm_cpL, fin_map, nx_map, apply_ite (Option.map (ovN L xs))])
/-- the machine, where it must never have the script in its hands -/
def sm_exeC (P : sm_P) : Nat → Nat → Nat → sm_L → List Value → sm_H → Option (sm_R × sm_H)
  | 0, _, _, _, _, _ => none
  | f + 1, M, pc, ls, st, h => if hasS st || decide (sm_S < gN h) then none else match P.1 M pc with
    | none => none
    | some o => match sm_step h pc o ls st with
      | none => none
      | some (.inl (pc', ls', st', h')) => sm_exeC P f M pc' ls' st' h'
      | some (.inr (.inr (r, h'))) => some (r, h')
      | some (.inr (.inl (N, av, rest))) => if (sm_ent av).length ≤ P.2.1 N then (match sm_exeC P f N 0 (sm_pad (sm_ent av) (P.2.1 N)) [] h with
        | some (.inl v, h') => sm_exeC P f M (pc + 3) ls (v.toList ++ rest) h'
        | _ => none) else none
theorem exeC_ov {P : sm_P} : ∀ (f M pc : Nat) (ls : sm_L) (st : List Value) (h : sm_H) (r : sm_R) (h' : sm_H), sm_exeC P f M pc ls st h = some (r, h') → sm_exec P f M pc ls st (ov L xs h) = some (r, ov L xs h') := by
  intro f
  induction f with
  | zero => intro M pc ls st h r h' e; cases e
  | succ f ih =>
    intro M pc ls st h r h' e
    rw [sm_exeC] at e
    by_cases hb : (hasS st || decide (sm_S < gN h)) = true
    · rw [if_pos hb] at e; cases e
    rw [if_neg hb] at e
    have hb' : (hasS st || decide (sm_S < gN h)) = false := by
      cases hz : (hasS st || decide (sm_S < gN h)) with
      | true => exact absurd hz hb
      | false => rfl
    rw [Bool.or_eq_false_iff] at hb'
    have hN : gN h ≤ sm_S := by
      have := of_decide_eq_false hb'.2
      omega
    rw [sm_exec]
    cases ho : P.1 M pc with
    | none => rw [ho] at e; cases e
    | some o =>
      rw [ho] at e
      simp only at e ⊢
      rw [step_ov hN hb'.1]
      cases hst : sm_step h pc o ls st with
      | none => rw [hst] at e; cases e
      | some z =>
        rw [hst] at e
        rcases z with ⟨pc', ls', st', h1⟩ | ⟨N, av, rest⟩ | ⟨r1, h1⟩
        · simp only [Option.map_some, ovN] at e ⊢
          exact ih _ _ _ _ _ _ _ e
        · simp only [Option.map_some, ovN] at e ⊢
          by_cases hl : (sm_ent av).length ≤ P.2.1 N
          · rw [if_pos hl] at e ⊢
            cases hc : sm_exeC P f N 0 (sm_pad (sm_ent av) (P.2.1 N)) [] h with
            | none => rw [hc] at e; cases e
            | some y =>
              rw [hc] at e
              obtain ⟨r2, h2⟩ := y
              rw [ih _ _ _ _ _ _ _ hc]
              cases r2 with
              | inr k => cases e
              | inl v =>
                simp only at e ⊢
                exact ih _ _ _ _ _ _ _ e
          · rw [if_neg hl] at e; cases e
        · simp only [Option.map_some, ovN] at e ⊢
          cases e
          rfl
end OV
