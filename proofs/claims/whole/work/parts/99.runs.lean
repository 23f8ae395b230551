/-! a tick of any node, on the object itself -/
section RUNS
variable {C : Jc} {Ws : Nat → Jw} {L : Jn} {kc ck v n : Nat} {W : Jw} {m : Jm} {K : Jk} {R : Jr} {D : List (Int32 × Int64)} {h : sm_H}
theorem Wle.trans {W1 W2 W3 : Jw} (a : Wle W1 W2) (b : Wle W2 W3) : Wle W1 W3 := by
  rcases a with ⟨a1, a2⟩ | ⟨q, a1, a2, a3⟩
  · rcases b with ⟨b1, b2⟩ | ⟨q, b1, b2, b3⟩
    · exact Or.inl ⟨b1.trans a1, fun t l e => b2 t l (a2 t l e)⟩
    · exact Or.inr ⟨q, b1, b2, fun p hp e => b3 p hp (a1.trans e)⟩
  · rcases b with ⟨b1, b2⟩ | ⟨q', b1, b2, b3⟩
    · exact Or.inr ⟨q, b1.trans a1, a2, a3⟩
    · exact Or.inr ⟨q', b1, b2, fun p hp e => Nat.lt_trans (a3 p hp e) (b3 q a2 a1)⟩
theorem hears_wle (hC : CK C) (hv : v < 6) : ∀ (n : Nat) (Ws : Nat → Jw) (L : Jn), IV C Ws L kc → Wle (Ws v) (jw_hears C.1 C.2.1 n (Ws v, L)).1 := by
  intro n
  induction n with
  | zero => intro Ws L h; exact Wle.refl _
  | succ n ih =>
    intro Ws L h
    have hno : (Ws v).1 0 = v := (h.1 v hv).1
    rw [jw_hears]
    cases hib : L.1 v with
    | nil => simp only [hno, hib]; exact ih Ws L h
    | cons m l =>
      simp only [hno, hib]
      have hpop : IV C Ws (jn_pop L v l) kc := by
        refine ⟨h.1, fun x hx m' hm => h.2.1 x hx m' ?_, fun m' hm => h.2.2 m' ?_⟩
        · have hm' : m' ∈ jx_up L.1 v l x := hm
          by_cases e : x = v
          · subst e; rw [up_eq] at hm'; rw [hib]; exact List.mem_cons_of_mem _ hm'
          · rw [up_ne _ _ e] at hm'; exact hm'
        · have hm' : m' ∈ jx_up L.1 v l 6 := hm
          rw [up_ne _ _ (by omega)] at hm'; exact hm'
      obtain ⟨k1, k2⟩ := hear_all hC hpop hv (h.2.1 v hv m (by rw [hib]; exact List.mem_cons_self))
      have := ih _ _ (IV_sp hC.1 hpop hv k2)
      rw [up_eq] at this
      exact k2.1.trans this
theorem work_wle (hC : CK C) (h : IV C Ws L kc) (hv : v < 6) (hk : kc ≤ C.1.length) : Wle (Ws v) (jw_work C.1 C.2.1 C.2.2.1 (cF C kc) (Ws v) L).1 := by
  have hup : IV C Ws (jn_up L ((Ws v).1 0)) kc := h
  have h1 := hears_wle hC hv (L.1 ((Ws v).1 0)).length Ws _ hup
  obtain ⟨i1, i2⟩ := hears_all hC hv (L.1 ((Ws v).1 0)).length Ws _ hup
  obtain ⟨a1, a2⟩ := act_all hC i2 hv hk
  have h2 := a2.1
  rw [up_eq] at h2
  exact h1.trans h2
/-! which nodes are down -/
theorem dn_give {p j t k : Nat} : (jw_give W L m p j t k).2.2.1 = L.2.1 := by
  have ht : ∀ W, (jw_take W L m j t k).2.2.1 = L.2.1 := by intro W; rw [jw_take]; split <;> rfl
  rw [jw_give]
  split
  · rfl
  · split
    · rfl
    · split
      · exact ht _
      · exact ht _
theorem dn_fet {np x t xo : Nat} : (jw_fet W L m np x t xo).2.1 = L.2.1 := by
  rw [jw_fet]
  split
  · rfl
  · split <;> rfl
theorem dn_hear {cl : List Nat} {G : Nat → Nat → Int32} : (jw_hear cl G W L m).2.2.1 = L.2.1 := by
  rw [jw_hear]
  split
  · exact dn_give
  · split
    · exact dn_fet
    · split
      · rfl
      · split <;> rfl
theorem dn_hears {cl : List Nat} {G : Nat → Nat → Int32} : ∀ (n : Nat) (z : Jw × Jn), (jw_hears cl G n z).2.2.1 = z.2.2.1 := by
  intro n
  induction n with
  | zero => intro z; rfl
  | succ n ih =>
    intro z
    rw [jw_hears]
    split
    · exact ih z
    · rw [ih, dn_hear]; rfl
theorem dn_act {cl : List Nat} {G : Nat → Nat → Int32} {PR : Nat → Nat → List (Int32 × Int64)} {F : Nat → Jl} : (jw_act cl G PR F W L).2.2.1 = L.2.1 := by
  have hk : (jw_keep W L).2.2.1 = L.2.1 := by
    rw [jw_keep]
    split
    · split <;> rfl
    · split <;> rfl
  rw [jw_act]
  split
  · rw [jw_ask]; split <;> rfl
  · split
    · rw [jw_map]
      split
      · split
        · split <;> rfl
        · rfl
      · rfl
    · split
      · rw [jw_fo1, jw_fo]
        split
        · split
          · rfl
          · split <;> rfl
        · rfl
      · rw [jw_fold]
        split
        · split
          · split <;> rfl
          · rfl
        · exact hk
theorem dn_work {cl : List Nat} {G : Nat → Nat → Int32} {PR : Nat → Nat → List (Int32 × Int64)} {F : Nat → Jl} : (jw_work cl G PR F W L).2.2.1 = jx_up L.2.1 (W.1 0) false := by
  rw [jw_work, dn_act, jw_heard, dn_hears]; rfl
theorem dn_mhear {cl : List Nat} {G : Nat → Nat → Int32} : (jk_hear cl G K L R m).2.1.2.1 = L.2.1 := by
  rw [jk_hear]
  split
  · show (jk_ask K L _ _).2.2.1 = _
    rw [jk_ask]; split <;> rfl
  · split
    · split
      · rfl
      · split
        · rfl
        · split <;> rfl
    · rfl
theorem dn_mhears {cl : List Nat} {G : Nat → Nat → Int32} : ∀ (n : Nat) (z : Jy), (jk_hears cl G n z).2.1.2.1 = z.2.1.2.1 := by
  intro n
  induction n with
  | zero => intro z; rfl
  | succ n ih =>
    intro z
    rw [jk_hears]
    split
    · exact ih z
    · split
      · rw [ih]; rfl
      · rw [ih, dn_mhear]; rfl
theorem dn_mwork {cl : List Nat} {G : Nat → Nat → Int32} {F : Nat → Jl} : (jk_work cl G F K L R).2.1.2.1 = jx_up L.2.1 6 false := by
  have hf : ∀ (K : Jk) (L : Jn) (R : Jr), (jk_fin cl G F K L R).2.1.2.1 = L.2.1 := by
    intro K L R
    rw [jk_fin]
    split
    · rfl
    · split
      · rfl
      · split
        · rw [jk_gath]
          split
          · split <;> rfl
          · rfl
        · rfl
  rw [jk_work, jk_body, hf, jk_heard, dn_mhears]; rfl
/-- a Master that is down has forgotten; tasks are given to workers -/
def dnK (L : Jn) (K : Jk) : Prop := (L.2.1 6 = true → K.2.1 = -1 ∧ K.1 9 = 0) ∧ gvn K
/-- THE RUN goes on: kc JOBS are committed, the Master has ticked at most ck times -/
def RS (C : Jc) (D : List (Int32 × Int64)) (n kc ck : Nat) (h : sm_H) : Prop := ∃ L R K Ws, XS h C.1 C.2.1 C.2.2.1 (cF C kc) D L R K Ws true n ∧ IV C Ws L kc ∧ IM C Ws (L.2.1 6) kc ck R K ∧ dnK L K
theorem IM_ck {dn : Bool} {ck' : Nat} (hk : ck ≤ ck') (h : IM C Ws dn kc ck R K) : IM C Ws dn kc ck' R K := ⟨h.1, h.2.1, fun z => ⟨(h.2.2 z).1, (h.2.2 z).2.1, by have := (h.2.2 z).2.2.1; omega, (h.2.2 z).2.2.2⟩⟩
/-- a worker's tick -/
theorem RS_w (hC : CK C) (hv : v < 6) (h0 : RS C D n kc ck h) : sm_at h (388 + 35 * v) 18 = true ∧ isX h ∧ ∃ h', Run 92 [.ref (388 + 35 * v)] h (.inl none) h' ∧ RS C D n kc ck h' ∧ SZ h h' := by
  obtain ⟨L, R, K, Ws, hx, hi, hm, hdk⟩ := h0
  have hkc : kc ≤ C.1.length := hm.1.2.1
  obtain ⟨w0, w1, w2, w3⟩ := work_all hC hi hv hkc
  obtain ⟨h', r1, a1, a2, a3, a4⟩ := s_Worker_work (s := 1) (y := 144) (w := 388 + 35 * v) (by omega) w1 w2 (by omega) (by omega) (hx.2.2.2.2.2 v hv) hx.2.2.1 hx.2.1
  obtain ⟨b1, b2⟩ := XS_w hv a4 a1 a2 a3 hx
  refine ⟨(hx.2.2.2.2.2 v hv).1.1, hx.1.1, h', r1, ⟨_, R, K, _, b1, w3, ?_⟩, b2⟩
  have hd : (jw_work C.1 C.2.1 C.2.2.1 (cF C kc) (Ws v) L).2.2.1 6 = L.2.1 6 := by rw [dn_work, w0, up_ne _ _ (by omega)]
  rw [hd]
  exact ⟨IM_mono hC.1 (Wle_up (work_wle hC hi hv hkc)) hm, fun z => hdk.1 (hd.symm.trans z), hdk.2⟩
/-- the Master's tick -/
theorem RS_m (hC : CK C) (hck : ck < 80000000) (h0 : RS C D n kc ck h) : sm_at h 379 20 = true ∧ isX h ∧ ∃ h' kc', (kc' = kc ∨ kc' = kc + 1) ∧ Run 127 [.ref 379] h (.inl none) h' ∧ RS C D n kc' (ck + 1) h' ∧ SZ h h' := by
  obtain ⟨L, R, K, Ws, hx, hi, hm, hdk⟩ := h0
  obtain ⟨m1, m2, kc', m3, m4, m5, m6⟩ := mwork_all hC hi hm rfl hck
  obtain ⟨h', r1, a1, a2, a3, a4, a5⟩ := s_Master_work (s := 1) (y := 144) (r := 373) (a := 379) hC.2.1 (hC.2.2.2.2 kc) m1 m2 (by omega) (by omega) (by omega) hx.2.2.2.2.1 hx.2.2.1 hx.2.1 hx.2.2.2.1
  rw [m6] at a3
  obtain ⟨b1, b2⟩ := XS_m a5 a1 a2 a3 a4 hx
  refine ⟨hx.2.2.2.2.1.1.1, hx.1.1, h', kc', m3, r1, ⟨_, _, _, Ws, b1, m4, ?_⟩, b2⟩
  have hd : (jk_work C.1 C.2.1 (cF C kc) K L R).2.1.2.1 6 = false := by rw [dn_mwork, up_eq]
  rw [hd]
  exact ⟨m5, fun z => (by rw [hd] at z; cases z), gvn_work hC hi hm rfl hdk.2⟩
/-- tick -/
theorem RS_tick {k : Nat} (hC : CK C) (hv : v < 7) (hk1 : 1 ≤ k) (hk2 : k ≤ 200) (hck : ck < 70000000) (h0 : RS C D n kc ck h) : ∃ h', Run 142 [.ref 0, .int (Int32.ofNat v), .int (Int32.ofNat k)] h (.inl none) h' ∧ ∃ kc', RS C D n kc' (ck + k) h' ∧ SZ h h' := by
  have hrun : gI h 0 6 = 1 := by
    obtain ⟨L, R, K, Ws, hx, _⟩ := h0
    exact hx.1.2.2.1
  refine s_Mill_tick (P := fun i h1 => ∃ kc', RS C D n kc' (ck + i) h1 ∧ SZ h h1) hv hk1 hk2 (fun i h1 hi hp => ?_) ⟨kc, h0, SZ.refl h⟩ hrun
  obtain ⟨kc', p1, p2⟩ := hp
  by_cases hm : v = 6
  · obtain ⟨m1, m2, h2, k2, m3, m4, m5, m6⟩ := RS_m hC (by omega) p1
    exact ⟨m2, h2, ⟨fun _ => ⟨m1, m4⟩, fun z => absurd hm z⟩, k2, m5, p2.trans m6⟩
  · obtain ⟨m1, m2, h2, m3, m4, m5⟩ := RS_w hC (show v < 6 by omega) p1
    refine ⟨m2, h2, ⟨fun z => absurd z hm, fun _ => ⟨m1, m3⟩⟩, kc', ?_, p2.trans m5⟩
    obtain ⟨L, R, K, Ws, a1, a2, a3, a4⟩ := m4
    exact ⟨L, R, K, Ws, a1, a2, IM_ck (by omega) a3, a4⟩
end RUNS
