/-! crash, line and check while THE RUN goes on -/
section RUNT
variable {C : Jc} {Ws : Nat → Jw} {L : Jn} {kc ck v n : Nat} {W : Jw} {m : Jm} {K : Jk} {R : Jr} {D : List (Int32 × Int64)} {h : sm_H}
theorem wOK_forget {Ws' : Nat → Jw} (h : wOK C Ws kc v W) : wOK C Ws' kc v (jw_forget W) := by
  obtain ⟨h1, h2, h3, h4 | ⟨p, a1, a2, a3, a4, a5⟩⟩ := h
  · exact ⟨h1, Nat.le_refl 4, ⟨h3.1, fun _ => rfl⟩, Or.inl ⟨h4.1, h4.2.1, rfl⟩⟩
  · exact ⟨h1, Nat.le_refl 4, ⟨h3.1, fun _ => rfl⟩, Or.inr ⟨p, a1, a2, a3, a4, fun j hj => by cases hj⟩⟩
theorem IV_cut {x : Nat} (h : IV C Ws L kc) : IV C Ws (jn_cut L x) kc := by
  have hsub : ∀ y m, m ∈ (jn_cut L x).1 y → m ∈ L.1 y := by
    intro y m hm
    have hm' : m ∈ jx_up L.1 x [] y := hm
    by_cases e : y = x
    · subst e; rw [up_eq] at hm'; simp at hm'
    · rw [up_ne _ _ e] at hm'; exact hm'
  exact ⟨h.1, fun y hy m hm => h.2.1 y hy m (hsub y m hm), fun m hm => h.2.2 m (hsub 6 m hm)⟩
/-- crash -/
theorem RS_crash (hC : CK C) (hv : v < 7) (h0 : RS C D n kc ck h) : ∃ h', Run 143 [.ref 0, .int (Int32.ofNat v)] h (.inl none) h' ∧ RS C D n kc ck h' ∧ SZ h h' := by
  obtain ⟨L, R, K, Ws, hx, hi, hm, hdk⟩ := h0
  by_cases h6 : v = 6
  · subst h6
    obtain ⟨h', r1, a1, a2⟩ := s_Mill_crash6 hC.2.1 (hC.2.2.2.2 kc) hx
    refine ⟨h', r1, ⟨_, _, _, _, a1, IV_cut hi, ?_⟩, a2⟩
    have hd : (jn_cut L 6).2.1 6 = true := up_eq L.2.1 6 true
    rw [hd]
    exact ⟨⟨MJ_co hm.1 (co_recs _ _ _ co_forget), rok_co _ _ _ co_forget hm.2.1, fun z => by cases z⟩, fun _ => ⟨rfl, rfl⟩, gvn_open⟩
  · have hv6 : v < 6 := by omega
    obtain ⟨h', r1, a1, a2⟩ := s_Mill_crash hv6 hx
    have hle : Wle (Ws v) (jw_forget (Ws v)) := Or.inl ⟨rfl, fun _ _ e => e⟩
    refine ⟨h', r1, ⟨_, _, _, _, a1, ?_, ?_⟩, a2⟩
    · exact IV_step hC.1 (IV_cut (x := v) hi) hv6 hle (wOK_forget (hi.1 v hv6)) (fun _ _ _ hm => Or.inl hm) (fun _ hm => Or.inl hm)
    · have hd : (jn_cut L v).2.1 6 = L.2.1 6 := up_ne L.2.1 _ (by omega)
      rw [hd]
      exact ⟨IM_mono hC.1 (Wle_up hle) hm, fun z => hdk.1 (hd.symm.trans z), hdk.2⟩
/-- line -/
theorem RS_line {a b : Int32} (h0 : RS C D n kc ck h) : ∃ h', Run 144 [.ref 0, .int a, .int b] h (.inl none) h' ∧ RS C D n kc ck h' ∧ SZ h h' := by
  obtain ⟨L, R, K, Ws, hx, hi, hm, hdk⟩ := h0
  obtain ⟨h', r1, a1, a2⟩ := s_Mill_line (a := a) (b := b) hx
  exact ⟨h', r1, ⟨_, _, _, _, a1, hi, hm, hdk⟩, a2⟩
/-- what check asks of the journal -/
theorem IM_check (hC : CK C) (hi : IV C Ws L kc) {dn : Bool} (hm : IM C Ws dn kc ck R K) : jr_one R ∧ jr_lies R Ws := by
  have h8 := hC.1
  obtain ⟨a1, a2, a3, a4, a5, a6, a7, a8, a9, a10, a11, a12, a13, a14, a15⟩ := hm.1
  refine ⟨a15, fun i e h1 h2 h3 => ?_⟩
  obtain ⟨t, u, c1, c2, c3, c4, c5⟩ := a14 i e h1 h2 h3
  rcases a7 t c1 with z | ⟨w, l, z1, z2, z3, z4, z5, z6⟩
  · rw [z] at c5; exact absurd c5.symm (jx_m1 (by omega))
  · have hwu : w = u := jx_inj (by omega) (by omega) (z2.symm.trans c5)
    subst hwu
    refine ⟨w, t, c2, c1, c4, c3, ?_⟩
    rw [a1]
    rcases z6 with ⟨l2, y1, y2⟩ | ⟨q, y1, y2, y3⟩
    · exact ⟨y1, by rw [y2]; rfl⟩
    · exfalso
      rcases (hi.1 w c2).2.2.2 with ⟨d1, _⟩ | ⟨p, d1, d2, d3, _⟩
      · rw [d1] at y1; exact absurd y1.symm (jx_m1 (by omega))
      · have := jx_inj (by omega) (by omega) (d1.symm.trans y1)
        omega
/-- check -/
theorem RS_check (hC : CK C) (h0 : RS C D n kc ck h) : Run 149 [.ref 0] h (.inl (some (.int 0))) h := by
  obtain ⟨L, R, K, Ws, hx, hi, hm, hdk⟩ := h0
  obtain ⟨c1, c2⟩ := IM_check hC hi hm
  exact s_Mill_check hx c1 c2
end RUNT
