/-! the object as a whole -/
section WHOLE
variable {h h' : sm_H} {w s y a r : Nat} {cl : List Nat} {G : Nat → Nat → Int32} {PR : Nat → Nat → List (Int32 × Int64)} {F : Nat → Jl} {D : List (Int32 × Int64)} {L : Jn} {R : Jr} {K : Jk} {Ws : Nat → Jw} {b : Bool} {n : Nat}
/-- cells lo to hi of h', all others of h -/
def jx_mix (lo hi : Nat) (h h' : sm_H) : sm_H := (gN h, gS h, (fun c => if lo ≤ c ∧ c < hi then gI h' c else gI h c), (fun c => if lo ≤ c ∧ c < hi then gL h' c else gL h c), (fun c => if lo ≤ c ∧ c < hi then gR h' c else gR h c), gJ h, gD h)
theorem jx_mix_in {lo hi c : Nat} (hc : lo ≤ c ∧ c < hi) : gI (jx_mix lo hi h h') c = gI h' c ∧ gL (jx_mix lo hi h h') c = gL h' c ∧ gR (jx_mix lo hi h h') c = gR h' c :=
  ⟨if_pos hc, if_pos hc, if_pos hc⟩
theorem jx_mix_out {lo hi c : Nat} (hc : c < lo ∨ hi ≤ c) : gI (jx_mix lo hi h h') c = gI h c ∧ gL (jx_mix lo hi h h') c = gL h c ∧ gR (jx_mix lo hi h h') c = gR h c :=
  ⟨if_neg (by omega), if_neg (by omega), if_neg (by omega)⟩
theorem jx_mix_fr (lo hi : Nat) (h h' : sm_H) : Fr lo hi h (jx_mix lo hi h h') := ⟨rfl, rfl, rfl, rfl, fun _ hc => jx_mix_out hc⟩
theorem FW_split (z : FW w y h h') : ∃ h1, Fr y (y + 229) h h1 ∧ Fr w (w + 35) h1 h' := by
  refine ⟨jx_mix y (y + 229) h h', jx_mix_fr _ _ _ _, z.1, z.2.1, z.2.2.1, z.2.2.2.1, fun c hc => ?_⟩
  by_cases hy : y ≤ c ∧ c < y + 229
  · obtain ⟨e1, e2, e3⟩ := jx_mix_in (h := h) (h' := h') hy
    rw [e1, e2, e3]; exact ⟨rfl, rfl, rfl⟩
  · obtain ⟨e1, e2, e3⟩ := jx_mix_out (h := h) (h' := h') (lo := y) (hi := y + 229) (c := c) (by omega)
    rw [e1, e2, e3]; exact z.2.2.2.2 c hc (by omega)
theorem FK_split (z : FK a y r s h h') : ∃ h1 h2 h3, Fr y (y + 229) h h1 ∧ Fr r (r + 5) h1 h2 ∧ Fr (s + 4) (s + 52) h2 h3 ∧ Fr a (a + 9) h3 h' := by
  refine ⟨jx_mix y (y + 229) h h', jx_mix r (r + 5) (jx_mix y (y + 229) h h') h', jx_mix (s + 4) (s + 52) (jx_mix r (r + 5) (jx_mix y (y + 229) h h') h') h', jx_mix_fr _ _ _ _, jx_mix_fr _ _ _ _, jx_mix_fr _ _ _ _, z.1, z.2.1, z.2.2.1, z.2.2.2.1, fun c hc => ?_⟩
  by_cases h3 : s + 4 ≤ c ∧ c < s + 52
  · obtain ⟨e1, e2, e3⟩ := jx_mix_in (h := jx_mix r (r + 5) (jx_mix y (y + 229) h h') h') (h' := h') h3
    rw [e1, e2, e3]; exact ⟨rfl, rfl, rfl⟩
  · obtain ⟨e1, e2, e3⟩ := jx_mix_out (h := jx_mix r (r + 5) (jx_mix y (y + 229) h h') h') (h' := h') (lo := s + 4) (hi := s + 52) (c := c) (by omega)
    rw [e1, e2, e3]
    by_cases h2 : r ≤ c ∧ c < r + 5
    · obtain ⟨e1, e2, e3⟩ := jx_mix_in (h := jx_mix y (y + 229) h h') (h' := h') h2
      rw [e1, e2, e3]; exact ⟨rfl, rfl, rfl⟩
    · obtain ⟨e1, e2, e3⟩ := jx_mix_out (h := jx_mix y (y + 229) h h') (h' := h') (lo := r) (hi := r + 5) (c := c) (by omega)
      rw [e1, e2, e3]
      by_cases h1 : y ≤ c ∧ c < y + 229
      · obtain ⟨e1, e2, e3⟩ := jx_mix_in (h := h) (h' := h') h1
        rw [e1, e2, e3]; exact ⟨rfl, rfl, rfl⟩
      · obtain ⟨e1, e2, e3⟩ := jx_mix_out (h := h) (h' := h') (lo := y) (hi := y + 229) (c := c) (by omega)
        rw [e1, e2, e3]; exact z.2.2.2.2 c hc (by omega) (by omega) (by omega)
/-- no cell more, no exception more, nothing but the class's own cells has changed -/
def SZ (h h' : sm_H) : Prop := Fr 0 598 h h'
theorem SZ.refl (h : sm_H) : SZ h h := Fr.refl 0 598 h
theorem SZ.trans {h1 h2 : sm_H} (x : SZ h h1) (z : SZ h1 h2) : SZ h h2 := Fr.trans x z
theorem SZ.ofFr {lo hi : Nat} (x : Fr lo hi h h') (hh : hi ≤ 598 := by omega) : SZ h h' := x.mono (Nat.zero_le _) hh
/-- the draft, whether THE RUN goes on, RUNS -/
def DR (h : sm_H) (D : List (Int32 × Int64)) (b : Bool) (n : Nat) : Prop := isX h ∧ GL h 141 D ∧ gI h 0 6 = (if b then 1 else 0) ∧ gI h 0 7 = Int32.ofNat n
def XS (h : sm_H) (cl : List Nat) (G : Nat → Nat → Int32) (PR : Nat → Nat → List (Int32 × Int64)) (F : Nat → Jl) (D : List (Int32 × Int64)) (L : Jn) (R : Jr) (K : Jk) (Ws : Nat → Jw) (b : Bool) (n : Nat) : Prop :=
  DR h D b n ∧ ST h 1 cl G PR F ∧ LL h 144 L ∧ JR h 373 R ∧ KK h 379 1 144 373 K ∧ ∀ v, v < 6 → WW h (388 + 35 * v) 1 144 (Ws v)
theorem DR_fr {lo hi : Nat} (z : Fr lo hi h h') (h0 : 1 ≤ lo) (hd : hi ≤ 141 ∨ 144 ≤ lo) (hd2 : hi ≤ 378 ∨ 379 ≤ lo) (hp : DR h D b n) : DR h' D b n :=
  ⟨isX_fr z hd2 h0 hp.1, GL_fr z (by omega) hp.2.1, by rw [(z.2.2.2.2 0 (by omega)).1]; exact hp.2.2.1, by rw [(z.2.2.2.2 0 (by omega)).1]; exact hp.2.2.2⟩
/-- a tick of worker v -/
theorem XS_w {v : Nat} {W' : Jw} {L' : Jn} (hv : v < 6) (z : FW (388 + 35 * v) 144 h h') (hw : WW h' (388 + 35 * v) 1 144 W') (hl : LL h' 144 L') (hs : ST h' 1 cl G PR F) (hp : XS h cl G PR F D L R K Ws b n) : XS h' cl G PR F D L' R K (jx_up Ws v W') b n ∧ SZ h h' := by
  obtain ⟨h1, z1, z2⟩ := FW_split z
  obtain ⟨a1, a2, a3, a4, a5, a6⟩ := hp
  refine ⟨⟨DR_fr z2 (by omega) (by omega) (by omega) (DR_fr z1 (by omega) (by omega) (by omega) a1), hs, hl, JR_fr z2 (by omega) (JR_fr z1 (by omega) a4), KK_fr z2 (by omega) (KK_fr z1 (by omega) a5), fun u hu => ?_⟩, (SZ.ofFr z1).trans (SZ.ofFr z2)⟩
  by_cases e : u = v
  · subst e; rw [up_eq]; exact hw
  · rw [up_ne _ _ e]
    have hne : u < v ∨ v < u := by omega
    exact WW_fr z2 (by omega) (WW_fr z1 (by omega) (a6 u hu))
/-- a tick of the Master -/
theorem XS_m {K' : Jk} {L' : Jn} {R' : Jr} {F' : Nat → Jl} (z : FK 379 144 373 1 h h') (hk : KK h' 379 1 144 373 K') (hl : LL h' 144 L') (hs : ST h' 1 cl G PR F') (hr : JR h' 373 R') (hp : XS h cl G PR F D L R K Ws b n) : XS h' cl G PR F' D L' R' K' Ws b n ∧ SZ h h' := by
  obtain ⟨h1, h2, h3, z1, z2, z3, z4⟩ := FK_split z
  obtain ⟨a1, a2, a3, a4, a5, a6⟩ := hp
  refine ⟨⟨DR_fr z4 (by omega) (by omega) (by omega) (DR_fr z3 (by omega) (by omega) (by omega) (DR_fr z2 (by omega) (by omega) (by omega) (DR_fr z1 (by omega) (by omega) (by omega) a1))), hs, hl, hr, hk, fun u hu => WW_fr z4 (by omega) (WW_fr z3 (by omega) (WW_fr z2 (by omega) (WW_fr z1 (by omega) (a6 u hu))))⟩, (((SZ.ofFr z1).trans (SZ.ofFr z2)).trans (SZ.ofFr z3)).trans (SZ.ofFr z4)⟩
theorem XS_line {L' : Jn} (z : Fr 144 (144 + 229) h h') (hl : LL h' 144 L') (hp : XS h cl G PR F D L R K Ws b n) : XS h' cl G PR F D L' R K Ws b n ∧ SZ h h' := by
  obtain ⟨a1, a2, a3, a4, a5, a6⟩ := hp
  exact ⟨⟨DR_fr z (by omega) (by omega) (by omega) a1, ST_fr z (by omega) a2, hl, JR_fr z (by omega) a4, KK_fr z (by omega) a5, fun u hu => WW_fr z (by omega) (a6 u hu)⟩, SZ.ofFr z⟩
theorem XS_jr {R' : Jr} (z : Fr 373 (373 + 5) h h') (hr : JR h' 373 R') (hp : XS h cl G PR F D L R K Ws b n) : XS h' cl G PR F D L R' K Ws b n ∧ SZ h h' := by
  obtain ⟨a1, a2, a3, a4, a5, a6⟩ := hp
  exact ⟨⟨DR_fr z (by omega) (by omega) (by omega) a1, ST_fr z (by omega) a2, LL_fr z (by omega) a3, hr, KK_fr z (by omega) a5, fun u hu => WW_fr z (by omega) (a6 u hu)⟩, SZ.ofFr z⟩
/-- the Store has changed, in cells of its own -/
theorem XS_st {lo hi : Nat} {cl' : List Nat} {G' : Nat → Nat → Int32} {PR' : Nat → Nat → List (Int32 × Int64)} {F' : Nat → Jl} (z : Fr lo hi h h') (h1 : 1 ≤ lo) (h2 : hi ≤ 141) (hs : ST h' 1 cl' G' PR' F') (hp : XS h cl G PR F D L R K Ws b n) : XS h' cl' G' PR' F' D L R K Ws b n ∧ SZ h h' := by
  obtain ⟨a1, a2, a3, a4, a5, a6⟩ := hp
  exact ⟨⟨DR_fr z (by omega) (by omega) (by omega) a1, hs, LL_fr z (by omega) a3, JR_fr z (by omega) a4, KK_fr z (by omega) a5, fun u hu => WW_fr z (by omega) (a6 u hu)⟩, SZ.ofFr z⟩
theorem XS_dr {D' : List (Int32 × Int64)} (z : Fr 141 (141 + 3) h h') (hd : GL h' 141 D') (hp : XS h cl G PR F D L R K Ws b n) : XS h' cl G PR F D' L R K Ws b n ∧ SZ h h' := by
  obtain ⟨a1, a2, a3, a4, a5, a6⟩ := hp
  exact ⟨⟨⟨isX_fr z (by omega) (by omega) a1.1, hd, by rw [(z.2.2.2.2 0 (by omega)).1]; exact a1.2.2.1, by rw [(z.2.2.2.2 0 (by omega)).1]; exact a1.2.2.2⟩, ST_fr z (by omega) a2, LL_fr z (by omega) a3, JR_fr z (by omega) a4, KK_fr z (by omega) a5, fun u hu => WW_fr z (by omega) (a6 u hu)⟩, SZ.ofFr z⟩
theorem XS_run {b' : Bool} (hp : XS h cl G PR F D L R K Ws b n) : XS (setI h 0 6 (if b' then 1 else 0)) cl G PR F D L R K Ws b' n ∧ SZ h (setI h 0 6 (if b' then 1 else 0)) := by
  obtain ⟨a1, a2, a3, a4, a5, a6⟩ := hp
  have z : Fr 0 1 h (setI h 0 6 (if b' then 1 else 0)) := Fr.setI (by omega) (by omega)
  exact ⟨⟨⟨a1.1, GL_fr z (by omega) a1.2.1, gI_eq, by rw [gI_ne (by omega)]; exact a1.2.2.2⟩, ST_fr z (by omega) a2, LL_fr z (by omega) a3, JR_fr z (by omega) a4, KK_fr z (by omega) a5, fun u hu => WW_fr z (by omega) (a6 u hu)⟩, SZ.ofFr z⟩
theorem XS_runs {n' : Nat} (hp : XS h cl G PR F D L R K Ws b n) : XS (setI h 0 7 (Int32.ofNat n')) cl G PR F D L R K Ws b n' ∧ SZ h (setI h 0 7 (Int32.ofNat n')) := by
  obtain ⟨a1, a2, a3, a4, a5, a6⟩ := hp
  have z : Fr 0 1 h (setI h 0 7 (Int32.ofNat n')) := Fr.setI (by omega) (by omega)
  exact ⟨⟨⟨a1.1, GL_fr z (by omega) a1.2.1, by rw [gI_ne (by omega)]; exact a1.2.2.1, gI_eq⟩, ST_fr z (by omega) a2, LL_fr z (by omega) a3, JR_fr z (by omega) a4, KK_fr z (by omega) a5, fun u hu => WW_fr z (by omega) (a6 u hu)⟩, SZ.ofFr z⟩
theorem XS_junk (hp : XS h cl G PR F D L R K Ws b n) : XS (hjunk h) cl G PR F D L R K Ws b n := hp
end WHOLE
