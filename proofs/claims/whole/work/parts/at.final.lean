/-! the law, whole -/
section FINAL
variable {L : Nat} {xs : Nat → Int32} {h : sm_H}
theorem and15 (x : Int32) : ∃ k, k < 16 ∧ x &&& 15 = Int32.ofNat k := by
  have h1 : (x &&& 15).toBitVec.toNat ≤ 15 := by
    rw [Int32.toBitVec_and, BitVec.toNat_and]
    exact Nat.and_le_right
  have h2 : (x &&& 15).toInt = ((x &&& 15).toBitVec.toNat : Int) := BitVec.toInt_eq_toNat_of_lt (by omega)
  exact jn_in (x &&& 15) (fun z => by rcases z with z | z <;> omega)
theorem INV_up {c : Nat} (hv : INV L xs c h) : INV L xs (c + 1) h := by
  obtain ⟨hs, b, cl, G, PR, F, D, n, hc, hr⟩ := hv
  exact ⟨HS_up hs, b, cl, G, PR, F, D, n, CSt_B (by omega) hc, hr⟩
/-- the loop over the script -/
theorem l_law (hL : L ≤ 3072) : ∀ (f c : Nat) (h : sm_H) (u5 u6 u7 : Option Value), L < 6 * c + 6 * f + 6 → 6 * c ≤ L → INV L xs c h → Ev 197 23 [some (.ref sm_S), some (.ref 0), some (.ref 598), some (.ref 624), some (.int (Int32.ofNat (6 * c))), u5, u6, u7] [] h (fun r h1 => r = .inl (some (.int 1)) ∧ gN h1 + gJ h1 ≤ 601024 ∧ gD h1 ≤ 7293034) := by
  have fin : ∀ (c : Nat) (h : sm_H) (u5 u6 u7 : Option Value), L < 6 * c + 6 → 6 * c ≤ L → INV L xs c h → Ev 197 23 [some (.ref sm_S), some (.ref 0), some (.ref 598), some (.ref 624), some (.int (Int32.ofNat (6 * c))), u5, u6, u7] [] h (fun r h1 => r = .inl (some (.int 1)) ∧ gN h1 + gJ h1 ≤ 601024 ∧ gD h1 ≤ 7293034) := by
    intro c h u5 u6 u7 h1 h2 hv
    obtain ⟨a1, a2, a3, -⟩ := hv.1
    have hq : gN h + gJ h ≤ 601024 ∧ gD h ≤ 7293034 := ⟨by omega, by omega⟩
    by_cases h6 : 6 ≤ L
    · exact lw_e1 hv.1 hL h1 h6 (by omega) ⟨rfl, hq⟩
    · have e : c = 0 := by omega
      subst e
      exact lw_e0 hv.1 (by omega) ⟨rfl, hq⟩
  intro f
  induction f with
  | zero => intro c h u5 u6 u7 h1 h2 hv; exact fin c h u5 u6 u7 (by omega) h2 hv
  | succ f ih =>
    intro c h u5 u6 u7 h1 h2 hv
    by_cases hn : L < 6 * c + 6
    · exact fin c h u5 u6 u7 hn h2 hv
    have hi : 6 * c + 6 ≤ L := by omega
    have next : ∀ (h2 : sm_H) (u5 u6 u7 : Option Value), INV L xs (c + 1) h2 → Ev 197 1071 [some (.ref sm_S), some (.ref 0), some (.ref 598), some (.ref 624), some (.int (Int32.ofNat (6 * c))), u5, u6, u7] [] h2 (fun r h1 => r = .inl (some (.int 1)) ∧ gN h1 + gJ h1 ≤ 601024 ∧ gD h1 ≤ 7293034) := by
      intro h2 u5 u6 u7 hv2
      refine lw_next ?_
      rw [show 6 * c + 6 = 6 * (c + 1) by omega]
      exact ih (c + 1) h2 u5 u6 u7 (by omega) (by omega) hv2
    refine lw_40 hv.1 hL hi ?_
    obtain ⟨k, hk16, hk⟩ := and15 (xs (6 * c))
    have h16 : k = 0 ∨ k = 1 ∨ k = 2 ∨ k = 3 ∨ k = 4 ∨ k = 5 ∨ k = 6 ∨ k = 7 ∨ k = 8 ∨ k = 9 ∨ k = 10 ∨ k = 11 ∨ k = 12 ∨ k = 13 ∨ k = 14 ∨ k = 15 := by omega
    rcases h16 with e | e | e | e | e | e | e | e | e | e | e | e | e | e | e | e
    · subst e
      refine lw_s0 hk ?_
      exact lw_record hv.1 hL hi (C_record hv) next
    · subst e
      refine lw_s1 hk ?_
      exact lw_clear hv.1 hL hi (C_clear hv) next
    · subst e
      refine lw_s2 hk ?_
      exact lw_code hv.1 hL hi (C_code hv) next
    · subst e
      refine lw_s3 hk ?_
      exact lw_program hv.1 hL hi (C_program hv) next
    · subst e
      refine lw_s4 hk ?_
      exact lw_job hv.1 hL hi (C_job hv) next
    · subst e
      refine lw_s5 hk ?_
      exact lw_drop hv.1 hL hi (C_drop hv) next
    · subst e
      refine lw_s6 hk ?_
      exact lw_begin hv.1 hL hi (C_begin hv) next
    · subst e
      refine lw_s7 hk ?_
      exact lw_tick hv.1 hL hi (C_tick (by omega) hv) next
    · subst e
      refine lw_s8 hk ?_
      exact lw_crash hv.1 hL hi (C_crash hv) next
    · subst e
      refine lw_s9 hk ?_
      exact lw_line hv.1 hL hi (C_line hv) next
    · subst e
      refine lw_s10 hk ?_
      exact lw_finish hv.1 hL hi (C_finish (by omega) hv) next
    · subst e
      refine lw_s11 hk ?_
      by_cases hz : xs (6 * c + 3) = 0
      · exact lw_told0 hv.1 hL hi hz (C_told hv) next
      · exact lw_told1 hv.1 hL hi hz (C_told hv) next
    · subst e
      refine lw_s12 hk ?_
      exact lw_size hv.1 hL hi (C_size hv) next
    · subst e
      refine lw_s13 hk ?_
      exact lw_count hv.1 hL hi (C_count hv) next
    · subst e
      refine lw_s14 hk ?_
      obtain ⟨y1, y2, y3, y4⟩ := C_check hv
      exact lw_check y1 y2 y3 y4 next
    · subst e
      exact lw_s15 hk (next h u5 u6 u7 (INV_up hv))
theorem at_new {k m : Nat} : sm_at (hnew h k m) (gN h) k = true := by
  have e1 : gN (hnew h k m) = gN h + 1 := rfl
  have e2 : gS (hnew h k m) (gN h) = (k, m) := if_pos rfl
  rw [sm_at, e1, e2, decide_eq_true (show gN h < gN h + 1 by omega), decide_eq_true rfl]; rfl
theorem goal : sm_Goal := by
  intro L xs hL
  obtain ⟨h1, h2, r1, n1, j1, r2, n2, j2, d2, o1, o2, s1, s2, G, hxi, hrm⟩ := run_start (L := L) (xs := xs)
  have hS : sm_S = 1000000000 := rfl
  have hv : INV L xs 0 (hnew h2 1 1) := by
    refine ⟨⟨?_, ?_, ?_, o1, o2, by rw [s1], s2⟩, false, [], G, _, _, _, _, CSt_of hxi, RSt_of hrm⟩
    · show gN h2 + 1 = 625
      rw [n2]
    · show gJ h2 ≤ 0
      rw [j2]; exact Nat.le_refl 0
    · show gD h2 + 1 ≤ 100000 + 6 * 0
      omega
  have key : Ev 197 0 [some (.ref sm_S), none, none, none, none, none, none, none] [] (sm_h0 L xs) (fun r h1 => r = .inl (some (.int 1)) ∧ gN h1 + gJ h1 ≤ 601024 ∧ gD h1 ≤ 7293034) := by
    have g0 : gN (sm_h0 L xs) = 0 := rfl
    have a0 : sm_at (hnew (sm_h0 L xs) 21 8) 0 21 = true := by
      have := at_new (h := sm_h0 L xs) (k := 21) (m := 8)
      rw [g0] at this; exact this
    have a1 : sm_at (hnew h1 22 32) 598 22 = true := by
      have := at_new (h := h1) (k := 22) (m := 32)
      rw [n1] at this; exact this
    refine Er_new rfl rfl (by rw [g0, hS]; omega) ?_
    rw [g0]
    refine Er_run 1 (pc' := 4) (ls' := [some (.ref sm_S), none, none, none, none, none, none, none]) (st' := [.ref 0, .ref 0]) rfl ?_
    refine Er_inv0 (q' := 0) (ci := 11) (av := []) (rest := [.ref 0]) rfl rfl ⟨Nat.le_of_ble_eq_true rfl, Nat.le_of_ble_eq_true rfl⟩ rfl rfl a0 r1 ?_
    refine Er_run 1 (pc' := 8) (ls' := [some (.ref sm_S), some (.ref 0), none, none, none, none, none, none]) (st' := []) rfl ?_
    refine Er_new rfl j1 (by rw [n1, hS]; omega) ?_
    rw [n1]
    refine Er_run 1 (pc' := 12) (ls' := [some (.ref sm_S), some (.ref 0), none, none, none, none, none, none]) (st' := [.ref 598, .ref 598]) rfl ?_
    refine Er_inv0 (q' := 598) (ci := 12) (av := []) (rest := [.ref 598]) rfl rfl ⟨Nat.le_of_ble_eq_true rfl, Nat.le_of_ble_eq_true rfl⟩ rfl rfl a1 r2 ?_
    refine Er_run 2 (pc' := 17) (ls' := [some (.ref sm_S), some (.ref 0), some (.ref 598), none, none, none, none, none]) (st' := [.int (1 : Int32)]) rfl ?_
    refine Er_newa rfl j2 (by rw [n2, hS]; omega) (by decide) (by decide) ?_
    rw [n2]
    refine Er_run 3 (pc' := 23) (ls' := [some (.ref sm_S), some (.ref 0), some (.ref 598), some (.ref 624), some (.int (Int32.ofNat (6 * 0))), none, none, none]) (st' := []) rfl ?_
    exact l_law hL 512 0 _ none none none (by omega) (by omega) hv
  obtain ⟨f, r, h', hx, hr, hq⟩ := key
  subst hr
  exact ⟨f, h', hx, hq⟩
theorem i_vc : Claimed_1_1 ∧ Claimed_1_2 := i_vc_of goal
end FINAL
