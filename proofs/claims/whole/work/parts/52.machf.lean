section MACHF
variable {h h2 : sm_H} {a g : Nat} {kd : Int32} {rw : Nat} {n : Nat} {l em : List (Int64 × Int64)} {pg : List (Int32 × Int64)}
/-- a Machine at rest -/
def MA (h : sm_H) (a : Nat) : Prop := isM h a ∧ ∃ em, PL h (a + 3) 4 em
theorem MA_fr {lo hi : Nat} {h' : sm_H} (x : Fr lo hi h h') (hd : a + 6 ≤ lo ∨ hi ≤ a) (hp : MA h a) : MA h' a := by
  obtain ⟨em, he⟩ := hp.2
  exact ⟨isM_fr x (by omega) hp.1, em, PL_fr x (by omega) he⟩
/-- one call of a PROGRAM: no TRAP, and what it emits -/
def jq_call (pg : List (Int32 × Int64)) (kd : Int32) (l : List (Int64 × Int64)) (f t : Nat) : Bool × List (Int64 × Int64) :=
  ((jq_loop pg kd (jx_k l f) l t 400 0 ([], false, fun _ => 0, [], f)).1, (jq_loop pg kd (jx_k l f) l t 400 0 ([], false, fun _ => 0, [], f)).2.2.2.2.1)
theorem gR_ne {c i : Nat} {x : Option Nat} {d j : Nat} (hn : ¬ (d = c ∧ j = i)) : gR (setR h c i x) d j = gR h d j := by show (if d = c ∧ j = i then x else gR h d j) = _; rw [if_neg hn]
theorem gR_eq {c i : Nat} {x : Option Nat} : gR (setR h c i x) c i = x := by show (if c = c ∧ i = i then x else gR h c i) = _; rw [if_pos ⟨rfl, rfl⟩]
theorem PL_setR {n c i : Nat} {x : Option Nat} {l : List (Int64 × Int64)} {b : Nat} (hd : c < b ∨ b + 3 ≤ c) (hp : PL h b n l) : PL (setR h c i x) b n l := PL_fr (Fr.setR (Nat.le_refl c) (Nat.lt_succ_self c)) (by omega) hp
theorem l_call_pre {ky : Int64} {f t : Nat} (hI : isM h2 a) (hp : PL h2 (a + 3) 4 []) (h3 : gI h2 a 3 = 0) (h4 : gI h2 a 4 = 0) (hc : ∀ i, i < 4 → gL h2 (a + 2) i = 0) : QM (setI (setI (setR (setL (setI h2 a 5 kd) a 6 ky) a 7 (some rw)) a 8 (Int32.ofNat f)) a 9 (Int32.ofNat t)) a kd ky rw t ([], false, fun _ => 0, [], f) := by
  refine ⟨⟨hI.1, ?_, ?_, ?_, hI.2.2.2.2⟩, Nat.zero_le _, ?_, fun i x e => by simp at e, ?_, PL_setI (by omega) (PL_setI (by omega) (PL_setR (by omega) (PL_setL (by omega) (PL_setI (by omega) hp)))), ?_, ?_, ?_, ?_, ?_, gI_eq⟩
  · show gR (setR (setL (setI h2 a 5 kd) a 6 ky) a 7 (some rw)) a 0 = _
    rw [gR_ne (by omega)]; exact hI.2.1
  · show gR (setR (setL (setI h2 a 5 kd) a 6 ky) a 7 (some rw)) a 1 = _
    rw [gR_ne (by omega)]; exact hI.2.2.1
  · show gR (setR (setL (setI h2 a 5 kd) a 6 ky) a 7 (some rw)) a 2 = _
    rw [gR_ne (by omega)]; exact hI.2.2.2.1
  · rw [gI_ne (by omega), gI_ne (by omega)]
    show gI (setI h2 a 5 kd) a 3 = _
    rw [gI_ne (by omega)]; exact h3
  · intro i hi
    show gL (setL (setI h2 a 5 kd) a 6 ky) (a + 2) i = _
    rw [gL_ne (by omega)]; exact hc i hi
  · rw [gI_ne (by omega), gI_ne (by omega)]
    show gI (setI h2 a 5 kd) a 4 = _
    rw [gI_ne (by omega)]; exact h4
  · rw [gI_ne (by omega), gI_ne (by omega)]
    show gI (setI h2 a 5 kd) a 5 = _
    exact gI_eq
  · show gL (setL (setI h2 a 5 kd) a 6 ky) a 6 = _
    exact gL_eq
  · show gR (setR (setL (setI h2 a 5 kd) a 6 ky) a 7 (some rw)) a 7 = _
    exact gR_eq
  · rw [gI_ne (by omega)]; exact gI_eq

theorem s_Machine_call {f t : Nat} (hm : MA h a) (hg : GL h g pg) (hok : jq_ok pg) (hr : PL h rw n l) (hft : f ≤ t) (he : t < 2147483647) (hdg : g + 3 ≤ a ∨ a + 6 ≤ g) (hdr : rw + 3 ≤ a ∨ a + 6 ≤ rw) : ∃ h', Run 51 [.ref a, .ref g, .int kd, .ref rw, .int (Int32.ofNat f), .int (Int32.ofNat t)] h (.inl (some (.int (if (jq_call pg kd l f t).1 = true then 1 else 0)))) h' ∧ MA h' a ∧ PL h' (a + 3) 4 (jq_call pg kd l f t).2 ∧ Fr a (a + 6) h h' := by
  obtain ⟨hI, em, hp⟩ := hm
  have hx : Ev 51 0 (sm_pad (sm_ent [.ref a, .ref g, .int kd, .ref rw, .int (Int32.ofNat f), .int (Int32.ofNat t)]) (sm_prog.2.1 51)) [] h (fun r h1 => r = .inl (some (.int (if (jq_call pg kd l f t).1 = true then 1 else 0))) ∧ MA h1 a ∧ PL h1 (a + 3) 4 (jq_call pg kd l f t).2 ∧ Fr a (a + 6) h h1) := by
    show Ev 51 0 [some (.ref a), some (.ref g), some (.int kd), some (.ref rw), some (.int (Int32.ofNat f)), some (.int (Int32.ofNat t)), none, none, none] [] h _
    refine Er_run 2 (pc' := 2) (ls' := [some (.ref a), some (.ref g), some (.int kd), some (.ref rw), some (.int (Int32.ofNat f)), some (.int (Int32.ofNat t)), none, none, none]) (st' := [.int ((0 : Int32)), .ref a]) rfl ?_
    refine Er_putI rfl hI.1 ?_
    refine Er_run 2 (pc' := 7) (ls' := [some (.ref a), some (.ref g), some (.int kd), some (.ref rw), some (.int (Int32.ofNat f)), some (.int (Int32.ofNat t)), none, none, none]) (st' := [.int ((0 : Int32)), .ref a]) rfl ?_
    refine Er_putZ rfl hI.1 (by decide) ?_
    refine Er_run 1 (pc' := 11) (ls' := [some (.ref a), some (.ref g), some (.int kd), some (.ref rw), some (.int (Int32.ofNat f)), some (.int (Int32.ofNat t)), none, none, none]) (st' := [.ref a]) rfl ?_
    refine Er_getR (x := a + 2) rfl hI.1 hI.2.2.1 ?_
    refine Er_run 1 (pc' := 15) (ls' := [some (.ref a), some (.ref g), some (.int kd), some (.ref rw), some (.int (Int32.ofNat f)), some (.int (Int32.ofNat t)), none, none, none]) (st' := [.long ((0 : Int64)), .ref (a + 2)]) rfl ?_
    obtain ⟨h1, r1, z1, f1⟩ := s_fillL (h := (setI (setI h a 3 (0 : Int32)) a 4 (0 : Int32))) (c := a + 2) (n := 4) (x := 0) (by omega) hI.2.2.2.2.2.2.1 hI.2.2.2.2.2.2.2
    have hI1 : isM h1 a := isM_fr f1 (by omega) (show isM (setI (setI h a 3 (0 : Int32)) a 4 (0 : Int32)) a from hI)
    have q1 : PL h1 (a + 3) 4 em := PL_fr f1 (by omega) (PL_setI (by omega) (PL_setI (by omega) hp))
    have e3 : gI h1 a 3 = 0 := by rw [(f1.2.2.2.2 a (by omega)).1, gI_ne (by omega)]; exact gI_eq
    have e4 : gI h1 a 4 = 0 := by rw [(f1.2.2.2.2 a (by omega)).1]; exact gI_eq
    have F1 : Fr a (a + 6) h h1 := ((Fr.setI (by omega) (by omega)).trans (Fr.setI (by omega) (by omega))).trans (f1.mono (by omega) (by omega))
    refine Er_sta0 (av := [.ref (a + 2), .long ((0 : Int64))]) (rest := []) rfl rfl ⟨Nat.le_of_ble_eq_true rfl, Nat.le_of_ble_eq_true rfl⟩ rfl rfl r1 ?_
    refine Er_run 1 (pc' := 19) (ls' := [some (.ref a), some (.ref g), some (.int kd), some (.ref rw), some (.int (Int32.ofNat f)), some (.int (Int32.ofNat t)), none, none, none]) (st' := [.ref a]) rfl ?_
    refine Er_getR (x := a + 3) rfl hI1.1 hI1.2.2.2.1 ?_
    obtain ⟨h2, r2, p2, f2⟩ := s_Pairs_empty q1
    have hI2 : isM h2 a := isM_fr f2 (by omega) hI1
    have F2 : Fr a (a + 6) h h2 := F1.trans (f2.mono (by omega) (by omega))
    have hr2 : PL h2 rw n l := PL_fr F2 hdr hr
    refine Er_inv0 (q' := a + 3) (ci := 0) (av := []) (rest := []) rfl rfl ⟨Nat.le_of_ble_eq_true rfl, Nat.le_of_ble_eq_true rfl⟩ rfl rfl q1.1.1 r2 ?_
    refine Er_run 2 (pc' := 27) (ls' := [some (.ref a), some (.ref g), some (.int kd), some (.ref rw), some (.int (Int32.ofNat f)), some (.int (Int32.ofNat t)), none, none, none]) (st' := [.int kd, .ref a]) rfl ?_
    refine Er_putI rfl hI2.1 ?_
    refine Er_run 3 (pc' := 34) (ls' := [some (.ref a), some (.ref g), some (.int kd), some (.ref rw), some (.int (Int32.ofNat f)), some (.int (Int32.ofNat t)), none, none, none]) (st' := [.int (Int32.ofNat f), .ref rw, .ref a]) rfl ?_
    refine Er_inv1 (q' := rw) (ci := 0) (av := [.int (Int32.ofNat f)]) (rest := [.ref a]) rfl rfl ⟨Nat.le_of_ble_eq_true rfl, Nat.le_of_ble_eq_true rfl⟩ rfl rfl hr2.1.1 (s_Pairs_keyT (PL_fr (Fr.setI (Nat.le_refl a) (Nat.lt_succ_self a)) (by omega) hr2) (by omega)) ?_
    refine Er_putL rfl hI2.1 ?_
    refine Er_run 2 (pc' := 42) (ls' := [some (.ref a), some (.ref g), some (.int kd), some (.ref rw), some (.int (Int32.ofNat f)), some (.int (Int32.ofNat t)), none, none, none]) (st' := [.ref rw, .ref a]) rfl ?_
    refine Er_putR rfl hI2.1 ?_
    refine Er_run 2 (pc' := 48) (ls' := [some (.ref a), some (.ref g), some (.int kd), some (.ref rw), some (.int (Int32.ofNat f)), some (.int (Int32.ofNat t)), none, none, none]) (st' := [.int (Int32.ofNat f), .ref a]) rfl ?_
    refine Er_putI rfl hI2.1 ?_
    refine Er_run 2 (pc' := 54) (ls' := [some (.ref a), some (.ref g), some (.int kd), some (.ref rw), some (.int (Int32.ofNat f)), some (.int (Int32.ofNat t)), none, none, none]) (st' := [.int (Int32.ofNat t), .ref a]) rfl ?_
    refine Er_putI rfl hI2.1 ?_
    refine Er_run 4 (pc' := 63) (ls' := [some (.ref a), some (.ref g), some (.int kd), some (.ref rw), some (.int (Int32.ofNat f)), some (.int (Int32.ofNat t)), some (.int ((0 : Int32))), some (.int ((0 : Int32))), none]) (st' := []) rfl ?_
    have hq := l_call_pre (kd := kd) (rw := rw) (ky := jx_k l f) (f := f) (t := t) hI2 p2 (by rw [(f2.2.2.2.2 a (by omega)).1]; exact e3) (by rw [(f2.2.2.2.2 a (by omega)).1]; exact e4) (fun i hi => by rw [(f2.2.2.2.2 (a + 2) (by omega)).2.1]; exact z1 i hi)
    have F3 : Fr a (a + 6) h _ := F2.trans ((((Fr.setI (i := 5) (x := kd) (Nat.le_refl a) (by omega)).trans (Fr.setL (i := 6) (x := jx_k l f) (Nat.le_refl a) (by omega))).trans (Fr.setR (i := 7) (x := some rw) (Nat.le_refl a) (by omega))).trans ((Fr.setI (i := 8) (x := Int32.ofNat f) (Nat.le_refl a) (by omega)).trans (Fr.setI (i := 9) (x := Int32.ofNat t) (Nat.le_refl a) (by omega))))
    refine sm_Ev.mono (l_Machine_call (x4 := Int32.ofNat f) (x5 := Int32.ofNat t) he hok hdg hdr 400 0 0 _ _ none (by omega) (by omega) hq rfl (GL_fr F3 hdg hg) (PL_fr F3 hdr hr) hft) (fun r h9 y => ⟨y.1, ?_, ?_, F3.trans y.2.2⟩)
    · exact ⟨QM_is y.2.1, _, QM_em y.2.1⟩
    · exact QM_em y.2.1
  obtain ⟨r, h', hr, e, hq⟩ := Run_of (Nat.le_of_ble_eq_true rfl) hx
  subst e
  exact ⟨h', hr, hq⟩
theorem s_Machine_emitted (hm : MA h a) : Run 50 [.ref a] h (.inl (some (.ref (a + 3)))) h := by
  refine ⟨Nat.le_of_ble_eq_true rfl, ?_⟩
  show Ev 50 0 [some (.ref a)] [] h _
  refine Er_run 1 (pc' := 1) (ls' := [some (.ref a)]) (st' := [.ref a]) rfl ?_
  refine Er_getR (x := a + 3) rfl hm.1.1 hm.1.2.2.2.1 ?_
  exact Er_fin rfl rfl ⟨rfl, rfl⟩
end MACHF
