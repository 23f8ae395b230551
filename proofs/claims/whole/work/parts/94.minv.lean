/-! what holds of the Master -/
section MINV
variable {C : Jc} {Ws Ws' : Nat → Jw} {L : Jn} {kc p t : Nat} {K K' : Jk} {R : Jr} {m : Jm}
abbrev cSz (C : Jc) (p t : Nat) : Nat := jd_am (cT C p t)
/-- what task t made, or nothing -/
abbrev cQ (C : Jc) (p t : Nat) : Jl := (cT C p t).getD []
/-- doneBy -/
def mD (C : Jc) (Ws : Nat → Jw) (kc : Nat) (d : Nat → Int32) : Prop := ∀ t, t < 44 → d t = -1 ∨ ∃ u l, u < 6 ∧ d t = Int32.ofNat u ∧ kc < C.1.length ∧ cV C kc t ∧ cT C kc t = some l ∧ HD Ws u kc t
/-- counts -/
def mC (C : Jc) (kc : Nat) (K : Jk) : Prop := K.1 12 = dnOn K.2.2.2.1 0 38 ∧ K.1 13 = dnOn K.2.2.2.1 38 6 ∧ K.1 14 = sumOn (fun i => if K.2.2.2.1 i = -1 then 0 else cSz C kc i) 38 ∧ K.1 15 = sumOn (fun i => if K.2.2.2.1 (38 + i) = -1 then 0 else cSz C kc (38 + i)) 6
/-- what the journal says, K, and the journal itself -/
def MJ (C : Jc) (Ws : Nat → Jw) (kc : Nat) (R : Jr) (K : Jk) : Prop :=
  R.2.1 = kc ∧ kc ≤ C.1.length ∧ K.1 9 = kc ∧ K.2.2.1 = C.1[kc]? ∧ (∀ p, p < kc → ¬ cX C p)
  ∧ (K.2.1 = -1 ∨ (kc < C.1.length ∧ K.2.1 = Int32.ofNat (cJ C kc) ∧ cX C kc))
  ∧ mD C Ws kc K.2.2.2.1 ∧ mC C kc K ∧ (K.2.1 = -1 → K.1 14 ≤ 1000 ∧ K.1 15 ≤ 300) ∧ K.1 14 ≤ 300000 ∧ K.1 15 ≤ 300000
  ∧ R.2.2 ≤ R.1.length ∧ R.1.length ≤ 45 * kc + K.1 12 + K.1 13 + (if K.2.1 = -1 then 0 else 1)
  ∧ (∀ i (e : Je), R.2.2 ≤ i → R.1[i]? = some e → e.1 = 0 → ∃ t u, t < 44 ∧ u < 6 ∧ e.2.1 = Int32.ofNat t ∧ e.2.2.1 = Int32.ofNat u ∧ K.2.2.2.1 t = Int32.ofNat u)
  ∧ jr_one R
/-- what is staged of the PARTS -/
def mG (C : Jc) (kc : Nat) (K : Jk) : Prop := K.2.2.2.2.2.2 = (((List.range (K.1 17)).map (fun r => cQ C kc (38 + r))).flatten ++ (cQ C kc (38 + K.1 17)).take (K.1 18)).take 300 ∧ (K.1 18 = 0 ∨ (K.1 17 < cN C kc ∧ K.1 18 < (cQ C kc (38 + K.1 17)).length)) ∧ (K.1 17 = 0 ∨ (kc < C.1.length ∧ K.1 17 ≤ cN C kc)) ∧ K.1 18 ≤ 4000
/-- the memory of a Master that is up; ck: how often it may have ticked -/
def MK (C : Jc) (kc ck : Nat) (K : Jk) : Prop := K.1 11 = jk_spl C.2.1 (cF C kc) C.1[kc]? ∧ K.1 16 ≤ ck ∧ K.1 19 ≤ 4 ∧ mG C kc K
/-- the Master and the journal -/
def IM (C : Jc) (Ws : Nat → Jw) (dn : Bool) (kc ck : Nat) (R : Jr) (K : Jk) : Prop :=
  MJ C Ws kc R (jk_said C.1 C.2.1 (cF C kc) R K) ∧ jk_rok C.1 C.2.1 (cF C kc) R.1 (jk_forget C.1 C.2.1 (cF C kc) K) ∧ (dn = false → coEq (jk_said C.1 C.2.1 (cF C kc) R K) K ∧ MK C kc ck K)
theorem MJ_co (h : MJ C Ws kc R K) (hc : coEq K K') : MJ C Ws kc R K' := by
  obtain ⟨a1, a2, a3, a4, a5, a6, a7, ⟨b1, b2, b3, b4⟩, a9, a10, a11, a12, a13, a14, a15⟩ := h
  obtain ⟨c1, c2, c3, c4, c5, c6, c7, c8⟩ := hc
  refine ⟨a1, a2, by rw [← c1]; exact a3, by rw [← c3]; exact a4, a5, by rw [← c2]; exact a6, by rw [← c4]; exact a7, ?_, by rw [← c2, ← c7, ← c8]; exact a9, by rw [← c7]; exact a10, by rw [← c8]; exact a11, a12, by rw [← c2, ← c5, ← c6]; exact a13, by rw [← c4]; exact a14, a15⟩
  rw [mC, ← c4, ← c5, ← c6, ← c7, ← c8]
  exact ⟨b1, b2, b3, b4⟩
theorem MJ_mono (h8 : C.1.length ≤ 8) (hw : ∀ u, u < 6 → Wle (Ws u) (Ws' u)) (h : MJ C Ws kc R K) : MJ C Ws' kc R K := by
  obtain ⟨a1, a2, a3, a4, a5, a6, a7, a8⟩ := h
  refine ⟨a1, a2, a3, a4, a5, a6, fun t ht => ?_, a8⟩
  rcases a7 t ht with e | ⟨u, l, b1, b2, b3, b4, b5, b6⟩
  · exact Or.inl e
  · exact Or.inr ⟨u, l, b1, b2, b3, b4, b5, HD_mono (by omega) (hw u b1) b6⟩
theorem IM_mono {dn : Bool} {ck : Nat} (h8 : C.1.length ≤ 8) (hw : ∀ u, u < 6 → Wle (Ws u) (Ws' u)) (h : IM C Ws dn kc ck R K) : IM C Ws' dn kc ck R K := ⟨MJ_mono h8 hw h.1, h.2⟩
/-- all SPLITS are done: they are fine -/
theorem splits_all (hC : CK C) (h : MJ C Ws kc R K) (hf : K.2.1 = -1) (hk : kc < C.1.length) (hs : me_ns (cI C kc) ≤ K.1 12) : ∃ ls, cA C kc = some ls ∧ me_sum ls ≤ 1000 := by
  obtain ⟨a1, a2, a3, a4, a5, a6, a7, ⟨b1, b2, b3, b4⟩, a9, _⟩ := h
  have h38 : me_ns (cI C kc) ≤ 38 := me_ns_38 (cI_600 hC)
  have hbad : ∀ i, me_ns (cI C kc) ≤ i → i < 38 → K.2.2.2.1 (0 + i) = -1 := by
    intro i h1 h2
    rw [Nat.zero_add]
    rcases a7 i (by omega) with e | ⟨u, l, _, _, _, c4, _⟩
    · exact e
    · rcases c4 with ⟨_, c5⟩ | ⟨c5, _⟩
      · have c5' : i < me_ns (cI C kc) := c5
        omega
      · omega
  have hall := dnOn_all (d := K.2.2.2.1) (k := 0) 38 (me_ns (cI C kc)) h38 hbad (by omega)
  have hsome : ∀ i, i < me_ns (cI C kc) → K.2.2.2.1 i ≠ -1 ∧ me_spl (C.2.2.1 (cJ C kc)) (cI C kc) i ≠ none := by
    intro i hi
    have h1 := hall i hi
    rw [Nat.zero_add] at h1
    rcases a7 i (by omega) with e | ⟨u, l, _, _, _, _, c5, _⟩
    · exact absurd e h1
    · refine ⟨h1, ?_⟩
      rw [cT, tT, if_pos (by omega)] at c5
      intro e
      have := e.symm.trans c5
      cases this
  obtain ⟨ls, hls⟩ := me_seq_some (f := me_spl (C.2.2.1 (cJ C kc)) (cI C kc)) (me_ns (cI C kc)) (fun i hi => (hsome i hi).2)
  refine ⟨ls, hls, ?_⟩
  obtain ⟨e1, e2⟩ := me_seq_get _ _ hls
  have h14 := (a9 hf).1
  rw [b3] at h14
  rw [me_sum_on, e1]
  refine Nat.le_trans (Nat.le_trans (sumOn_le _ (fun i hi => ?_)) (sumOn_mono 38 h38)) h14
  show (ls.getD i []).length ≤ (if K.2.2.2.1 i = -1 then 0 else cSz C kc i)
  rw [if_neg (hsome i hi).1, cSz, cT, tT, if_pos (by omega), show me_spl (C.2.2.1 (tJ C.1 kc)) (tI C.1 C.2.1 C.2.2.1 C.2.2.2 kc) i = ls[i]? from e2 i hi, List.getD_eq_getElem?_getD]
  cases ls[i]? with
  | none => exact Nat.zero_le _
  | some l => exact Nat.le_refl _
/-- all PARTS are done: that is what the JOB makes -/
theorem parts_all (hC : CK C) (h : MJ C Ws kc R K) (hf : K.2.1 = -1) (hk : kc < C.1.length) (hs : cN C kc ≤ K.1 13) : me_out (C.2.2.1 (cJ C kc)) (cN C kc) (cI C kc) = some ((List.range (cN C kc)).map (fun r => cQ C kc (38 + r))).flatten ∧ (((List.range (cN C kc)).map (fun r => cQ C kc (38 + r))).flatten).length ≤ 300 ∧ ∀ r, r < cN C kc → ∃ u, u < 6 ∧ K.2.2.2.1 (38 + r) = Int32.ofNat u := by
  obtain ⟨a1, a2, a3, a4, a5, a6, a7, ⟨b1, b2, b3, b4⟩, a9, _⟩ := h
  obtain ⟨q1, q2, q3, q4, q5⟩ := hC.2.2.1 kc hk
  have hbad : ∀ i, cN C kc ≤ i → i < 6 → K.2.2.2.1 (38 + i) = -1 := by
    intro i h1 h2
    rcases a7 (38 + i) (by omega) with e | ⟨u, l, _, _, _, c4, _⟩
    · exact e
    · rcases c4 with ⟨c5, _⟩ | ⟨_, c5, _⟩
      · omega
      · have c5' : 38 + i - 38 < cN C kc := c5
        omega
  have hall := dnOn_all (d := K.2.2.2.1) (k := 38) 6 (cN C kc) q5 hbad (by omega)
  have hget : ∀ r, r < cN C kc → ∃ u l, u < 6 ∧ K.2.2.2.1 (38 + r) = Int32.ofNat u ∧ cT C kc (38 + r) = some l ∧ cV C kc (38 + r) := by
    intro r hr
    rcases a7 (38 + r) (by omega) with e | ⟨u, l, c1, c2, c3, c4, c5, c6⟩
    · exact absurd e (hall r hr)
    · exact ⟨u, l, c1, c2, c5, c4⟩
  obtain ⟨ls, hls, hsum⟩ : ∃ ls, cA C kc = some ls ∧ me_sum ls ≤ 1000 := by
    obtain ⟨u, l, _, _, _, c4⟩ := hget 0 (by omega)
    rcases c4 with ⟨c5, _⟩ | ⟨_, _, ls, c6, c7⟩
    · omega
    · exact ⟨ls, c6, c7⟩
  have hred : ∀ r, r < cN C kc → ∃ l, me_red (C.2.2.1 (cJ C kc)) (cN C kc) ls r = some l ∧ cT C kc (38 + r) = some l := by
    intro r hr
    obtain ⟨u, l, _, _, c3, _⟩ := hget r hr
    refine ⟨l, ?_, c3⟩
    rw [cT, tT, if_neg (by omega), show tA C.1 C.2.1 C.2.2.1 C.2.2.2 kc = some ls from hls, show 38 + r - 38 = r from by omega] at c3
    exact c3
  obtain ⟨os, hos⟩ := me_seq_some (f := me_red (C.2.2.1 (cJ C kc)) (cN C kc) ls) (cN C kc) (fun i hi => by obtain ⟨l, e, _⟩ := hred i hi; rw [e]; exact fun z => by cases z)
  obtain ⟨e1, e2⟩ := me_seq_get _ _ hos
  have hoe : os = (List.range (cN C kc)).map (fun r => cQ C kc (38 + r)) := by
    apply List.ext_getElem?
    intro i
    by_cases hi : i < cN C kc
    · obtain ⟨l, f1, f2⟩ := hred i hi
      rw [List.getElem?_map, List.getElem?_range hi, ← e2 i hi, f1]
      show some l = some (cQ C kc (38 + i))
      rw [cQ, f2]; rfl
    · rw [List.getElem?_eq_none (by omega), List.getElem?_eq_none (by simpa using hi)]
  have h15 := (a9 hf).2
  rw [b4] at h15
  have hso : me_sum os ≤ 300 := by
    rw [me_sum_on, e1]
    refine Nat.le_trans (Nat.le_trans (sumOn_le _ (fun i hi => ?_)) (sumOn_mono 6 q5)) h15
    show (os.getD i []).length ≤ (if K.2.2.2.1 (38 + i) = -1 then 0 else cSz C kc (38 + i))
    obtain ⟨l, f1, f2⟩ := hred i hi
    rw [if_neg (hall i hi), cSz, f2, List.getD_eq_getElem?_getD, ← e2 i hi, f1]
    exact Nat.le_refl _
  have hfl : os.flatten.length = me_sum os := by rw [List.length_flatten, me_sum]
  rw [← hoe]
  refine ⟨?_, by omega, fun r hr => by obtain ⟨u, l, c1, c2, _⟩ := hget r hr; exact ⟨u, c1, c2⟩⟩
  rw [me_out, show me_all (C.2.2.1 (cJ C kc)) (cI C kc) = some ls from hls]
  show (me_par (C.2.2.1 (cJ C kc)) (cN C kc) ls).bind _ = _
  rw [me_par, if_pos hsum, hos]
  show (if me_sum os ≤ 300 then some os.flatten else none) = _
  rw [if_pos hso]
end MINV
