/-! what THE RUN has come to when it is over -/
section OVER
variable {C : Jc} {S : Gs} {ck n : Nat} {D : List (Int32 × Int64)} {h : sm_H}
theorem get_cJ {p : Nat} (hp : p < C.1.length) : C.1[p]? = some (cJ C p) := by
  show C.1[p]? = some (tJ C.1 p)
  rw [tJ, List.getElem?_eq_getElem hp]; rfl
theorem drop_cJ {p : Nat} (hp : p < C.1.length) : C.1.drop p = cJ C p :: C.1.drop (p + 1) := by
  rw [List.drop_eq_getElem_cons hp]
  have := get_cJ hp
  rw [List.getElem?_eq_getElem hp] at this
  rw [Option.some.inj this]
theorem me_run_at : ∀ (k : Nat), k ≤ C.1.length → (∀ p, p < k → ¬ cX C p) → me_run C.2.1 C.2.2.1 C.1 C.2.2.2 = me_run C.2.1 C.2.2.1 (C.1.drop k) (cF C k) := by
  intro k
  induction k with
  | zero => intro _ _; rfl
  | succ k ih =>
    intro hk hx
    rw [ih (by omega) (fun p hp => hx p (by omega)), drop_cJ (show k < C.1.length by omega), me_run]
    cases ho : me_out (C.2.2.1 (cJ C k)) (ji (C.2.1 (cJ C k) 5)) (jb_in C.2.1 (cF C k) (cJ C k)) with
    | none => exact absurd ho (hx k (by omega))
    | some o => rw [cF_next (show k < C.1.length by omega) ho]
/-- the answer of finish, and the FILES -/
theorem run_over (h0 : GI C ck S) (ho : gOv C S = true) : ∃ y, me_run C.2.1 C.2.2.1 C.1 C.2.2.2 = (cF C (gK S), y) ∧ S.2.2.1.2.1 = jx_op y := by
  obtain ⟨hi, hm, hdk⟩ := h0
  obtain ⟨a1, a2, a3, a4, a5, a6, a7⟩ := hm.1
  have hrun := me_run_at (gK S) a2 a5
  have hov : S.2.2.1.2.1 = -1 → C.1.length ≤ S.2.2.1.1 9 := by
    intro e
    have ho' : (decide (S.2.2.1.2.1 ≠ -1) || decide (C.1.length ≤ S.2.2.1.1 9)) = true := ho
    rw [decide_eq_false (fun z => z e), Bool.false_or] at ho'
    exact of_decide_eq_true ho'
  have hend : C.1.length ≤ gK S → me_run C.2.1 C.2.2.1 C.1 C.2.2.2 = (cF C (gK S), none) := by
    intro z
    rw [hrun, List.drop_eq_nil_of_le z]; rfl
  cases hd : S.1.2.1 6 with
  | true =>
    obtain ⟨b1, b2⟩ := hdk.1 hd
    have := hov b1
    rw [b2] at this
    exact ⟨none, hend (by omega), b1⟩
  | false =>
    obtain ⟨c1, c2⟩ := hm.2.2 hd
    rcases a6 with e | ⟨e1, e2, e3⟩
    · have e' := c1.2.1.symm.trans e
      have := hov e'
      rw [← c1.1, a3] at this
      exact ⟨none, hend this, e'⟩
    · refine ⟨some (cJ C (gK S)), ?_, c1.2.1.symm.trans e2⟩
      rw [hrun, drop_cJ e1, me_run]
      have e3' : me_out (C.2.2.1 (cJ C (gK S))) (ji (C.2.1 (cJ C (gK S)) 5)) (jb_in C.2.1 (cF C (gK S)) (cJ C (gK S))) = none := e3
      rw [e3']
/-- JOBS and PROGRAMS are as job, program and code let them be -/
def VJ (G : Nat → Nat → Int32) (PR : Nat → Nat → List (Int32 × Int64)) (D : List (Int32 × Int64)) : Prop := (∀ j, j < 8 → (G j 1 = 0 ∨ G j 1 = 1) ∧ ∀ i, i < 3 → jq_ok (PR j i)) ∧ jq_ok D ∧ JG G PR
/-- no RUN goes on: what check and the next begin need -/
def XI (h : sm_H) (G : Nat → Nat → Int32) (PR : Nat → Nat → List (Int32 × Int64)) (F : Nat → Jl) (D : List (Int32 × Int64)) (n : Nat) : Prop :=
  ∃ cl L R K Ws, XS h cl G PR F D L R K Ws false n ∧ VJ G PR D ∧ jf_ok F ∧ (∀ v, v < 6 → (Ws v).1 0 = v) ∧ jr_one R ∧ jr_lies R Ws
/-- finish, whole -/
theorem RS_finish {kc : Nat} (hC : CK C) (hg : VJ C.2.1 C.2.2.1 D) (hL : Live C) (hck : ck ≤ 70000000) (h0 : RS C D n kc ck h) : ∃ h', Run 145 [.ref 0] h (.inl (some (.int (jx_op (me_run C.2.1 C.2.2.1 C.1 C.2.2.2).2)))) h' ∧ XI h' C.2.1 C.2.2.1 (me_run C.2.1 C.2.2.1 C.1 C.2.2.2).1 D n ∧ SZ h h' := by
  obtain ⟨L, R, K, Ws, hx, hi, hm, hdk⟩ := h0
  have hk : R.2.1 = kc := hm.1.1
  have hx' : GX C D n true (L, R, K, Ws) h := by
    show XS h C.1 C.2.1 C.2.2.1 (cF C R.2.1) D L R K Ws true n
    rw [hk]; exact hx
  have hg' : GI C ck (L, R, K, Ws) := by
    refine ⟨?_, ?_, hdk⟩
    · show IV C Ws L R.2.1
      rw [hk]; exact hi
    · show IM C Ws (L.2.1 6) R.2.1 ck R K
      rw [hk]; exact hm
  obtain ⟨h', S', ck', r1, x1, x2, x3, x4⟩ := GX_finish hC hL hck hg' hx'
  obtain ⟨y, y1, y2⟩ := run_over x2 x3
  rw [y1]
  rw [y2] at r1
  obtain ⟨c1, c2⟩ := IM_check hC x2.1 x2.2.1
  exact ⟨h', r1, ⟨_, _, _, _, _, x1, hg, hC.2.2.2.2 _, fun v hv => (x2.1.1 v hv).1, c1, c2⟩, x4⟩
theorem XI_check {G : Nat → Nat → Int32} {PR : Nat → Nat → List (Int32 × Int64)} {F : Nat → Jl} (h0 : XI h G PR F D n) : Run 149 [.ref 0] h (.inl (some (.int 0))) h := by
  obtain ⟨cl, L, R, K, Ws, hx, _, _, _, c1, c2⟩ := h0
  exact s_Mill_check hx c1 c2
theorem XI_begin {G : Nat → Nat → Int32} {PR : Nat → Nat → List (Int32 × Int64)} {F : Nat → Jl} (h0 : XI h G PR F D n) (hok : (jx_pl h).1 = true) : CK ((jx_pl h).2, G, PR, F) ∧ ∃ h', Run 141 [.ref 0] h (.inl (some (.int (Int32.ofNat (jx_pl h).2.length)))) h' ∧ RS ((jx_pl h).2, G, PR, F) D (n + 1) 0 0 h' ∧ SZ h h' := by
  obtain ⟨cl, L, R, K, Ws, hx, h1, h2, h3, c1, c2⟩ := h0
  exact RS_begin h1.2.2 h2 h3 hx hok
theorem XI_begin_u {G : Nat → Nat → Int32} {PR : Nat → Nat → List (Int32 × Int64)} {F : Nat → Jl} (h0 : XI h G PR F D n) (hok : ¬ (jx_pl h).1 = true) : ∃ h1, Run 141 [.ref 0] h (.inr 3) (hjunk h1) ∧ XI (hjunk h1) G PR F D n ∧ SZ h h1 := by
  obtain ⟨cl, L, R, K, Ws, hx, a1, a2, a3, c1, c2⟩ := h0
  obtain ⟨h1, r1, b1, b2⟩ := s_Mill_begin_u hx hok
  exact ⟨h1, r1, ⟨_, _, _, _, _, XS_junk b1, a1, a2, a3, c1, c2⟩, b2⟩
end OVER
