/-! count -/
section CALLC
variable {h h' g : sm_H} {L c n B N M lo hi : Nat} {xs : Nat → Int32} {b b' : Bool} {cl cl' : List Nat} {G G' : Nat → Nat → Int32} {PR PR' : Nat → Nat → List (Int32 × Int64)} {F F' : Nat → Jl} {D D' : List (Int32 × Int64)} {k v p0 : Int32} {m : Nat}
theorem R_count_x (m0 : mrO g 598) (hm : m < 2147483648) (hx : 3 < m) (hy : m < 10 ∨ 48 ≤ m ∨ 8 ≤ m % 10) : Run 181 [.ref 598, .int (Int32.ofNat m)] g (.inl (some (.int 0))) (setI g 598 18 1) :=
  s_Ref_countX m0 rfl (jm_f (lo := 0) (hi := 3) hm (by omega) (by omega) (by omega)) (jm_f (lo := 10) (hi := 17) hm (by omega) (by omega) (by omega)) (jm_f (lo := 20) (hi := 27) hm (by omega) (by omega) (by omega)) (jm_f (lo := 30) (hi := 37) hm (by omega) (by omega) (by omega)) (jm_f (lo := 40) (hi := 47) hm (by omega) (by omega) (by omega))
theorem out4 (hm : 4 ≤ m) (hm2 : m < 2147483648) : jn_out (Int32.ofNat m) 4 := Or.inr (by rw [sm_ofNat_toInt hm2]; omega)
theorem md01 (hr : RSt b cl G PR F D n g) : ∀ j, j < 8 → gI g (598 + 14) j = 0 ∨ gI g (598 + 14) j = 1 := fun j hj => by
  rw [(hr.1.2.2.2.2.1 j hj).1]; exact (hr.1.2.2.2.2.1 j hj).2.1
theorem cnt_ref (hr : RSt b cl G PR F D n g) : 0 + List.countP (jm_md g 598) (List.range' 0 8) = mU G [] := by
  rw [Nat.zero_add, mU]
  refine count_cg _ (fun j hj => ?_)
  rw [jm_md, (hr.1.2.2.2.2.1 j (lt8 hj)).1, mOP]
  cases decide (G j 1 = 1) <;> rfl
/-- count -/
theorem C_count (hv : INV L xs c h) : OKI L xs c h 196 [.ref 0, .int p0, .ref 624] 181 [.ref 598, .int p0] := by
  obtain ⟨hs, b, cl, G, PR, F, D, n, hc, hr⟩ := hv
  obtain ⟨x1, x2, x3, x4, x5, cl', F', x6, x7⟩ := CSt_f hc
  have fin : ∀ (m : Nat) (v : Int32), Run 148 [.ref 0, .int (Int32.ofNat m)] h (.inl (some (.int v))) h → (∀ g, RSt b cl G PR F D n g → Run 181 [.ref 598, .int (Int32.ofNat m)] g (.inl (some (.int v))) (setI g 598 18 0)) → OKI L xs c h 196 [.ref 0, .int (Int32.ofNat m), .ref 624] 181 [.ref 598, .int (Int32.ofNat m)] := by
    intro m v r1 r2
    exact OKI_O hs hr (SZ.refl h) (Or.inr (Or.inr (by decide))) (fun o1 o2 => ho_count x1.1 o1 o2 r1) (CSt_B (by omega) hc) (fun g hg => ⟨_, r2 g hg, thr_0 hg⟩)
  have bad : ∀ m, m < 2147483648 → 3 < m → (m < 10 ∨ 48 ≤ m ∨ 8 ≤ m % 10) → Run 150 [.ref 0, .int (Int32.ofNat m)] h (.inr 1) (hjunk h) → OKI L xs c h 196 [.ref 0, .int (Int32.ofNat m), .ref 624] 181 [.ref 598, .int (Int32.ofNat m)] := by
    intro m h1 h2 h3 r1
    exact OKI_T (k := 1) hs hc hr (hx_count x1.1 (s_Mill_count_t x1 (out4 (by omega) h1) r1) ca_196_1) (by decide) (R_count_x (RSt_junk hr).1.1 h1 h2 h3)
  by_cases ho : jn_out p0 50
  · by_cases h0 : p0.toInt < 0
    · have hf : ∀ lo hi : Nat, lo < 2147483648 → jm_in p0 (Int32.ofNat lo) (Int32.ofNat hi) = false := fun lo hi hl => jm_neg h0 hl
      exact OKI_T (k := 1) hs hc hr (hx_count x1.1 (s_Mill_count_t x1 (Or.inl h0) (s_Mill_coj_x ho)) ca_196_1) (by decide) (s_Ref_countX (RSt_junk hr).1.1 rfl (hf 0 3 (by omega)) (hf 10 17 (by omega)) (hf 20 27 (by omega)) (hf 30 37 (by omega)) (hf 40 47 (by omega)))
    · obtain ⟨m, hm, rfl⟩ := i_nn (x := p0) (by omega)
      have h50 : 50 ≤ m := by
        rcases ho with z | z
        · exact absurd z h0
        · rw [sm_ofNat_toInt hm] at z; omega
      exact bad m hm (by omega) (by omega) (s_Mill_coj_x ho)
  · obtain ⟨m, hm, rfl⟩ := jn_in p0 ho
    have f0 : 4 ≤ m → jm_in (Int32.ofNat m) 0 3 = false := fun z => jm_f (lo := 0) (hi := 3) (by omega) (by omega) (by omega) (by omega)
    by_cases h4 : m < 4
    · have h4' : m = 0 ∨ m = 1 ∨ m = 2 ∨ m = 3 := by omega
      rcases h4' with e | e | e | e
      · subst e
        cases b with
        | true => exact fin 0 1 (s_Mill_count0_1 x1 x2) (fun g hg => s_Ref_count01 hg.1.1 rfl hg.1.2.2.2.2.2.1 (md01 hg))
        | false => exact fin 0 0 (s_Mill_count0_0 x1 x2) (fun g hg => s_Ref_count00 hg.1.1 rfl hg.1.2.2.2.2.2.1 (md01 hg))
      · subst e
        refine fin 1 (Int32.ofNat (mU G [])) ?_ (fun g hg => ?_)
        · have := s_Mill_count1 x1 x6
          rw [count_pP x6] at this
          exact this
        · have := s_Ref_count1 hg.1.1 rfl (md01 hg)
          rw [cnt_ref (RSt_thr hg)] at this
          exact this
      · subst e
        exact fin 2 (Int32.ofNat D.length) (s_Mill_count2 x1 x3) (fun g hg => s_Ref_count2 hg.1.1 rfl hg.1.2.2.2.1.1 (md01 hg))
      · subst e
        refine fin 3 (Int32.ofNat n) ?_ (fun g hg => s_Ref_count3 hg.1.1 rfl hg.1.2.2.2.2.2.2 (md01 hg))
        have := s_Mill_count3 x1
        rw [x4] at this
        exact this
    · by_cases h10 : m < 10
      · exact bad m (by omega) (by omega) (Or.inl h10) (s_Mill_coj_s h10)
      · by_cases h8 : 8 ≤ m % 10
        · exact bad m (by omega) (by omega) (Or.inr (Or.inr h8)) (s_Mill_coj_j (by omega) hm h8)
        · have hj : m % 10 < 8 := by omega
          have c1 : ∀ v, Run 150 [.ref 0, .int (Int32.ofNat m)] h (.inl (some (.int v))) h → Run 148 [.ref 0, .int (Int32.ofNat m)] h (.inl (some (.int v))) h := fun v r => s_Mill_count_v x1 (out4 (by omega) (by omega)) r
          by_cases h20 : m < 20
          · have t1 : jm_in (Int32.ofNat m) 10 17 = true := jm_t (lo := 10) (hi := 17) (by omega) (by omega) (by omega)
            rcases (hr.1.2.2.2.2.1 (m % 10) hj).2.1 with e | e
            · exact fin m 0 (c1 0 (s_Mill_coj_m0 x6 x1 hj (by omega) h20 e)) (fun g hg => s_Ref_countJ0 hg.1.1 rfl ((hg.1.2.2.2.2.1 (m % 10) hj).1.trans e) (by omega) (by omega) (f0 (by omega)) t1)
            · exact fin m 1 (c1 1 (s_Mill_coj_m1 x6 x1 hj (by omega) h20 e)) (fun g hg => s_Ref_countJ1 hg.1.1 rfl ((hg.1.2.2.2.2.1 (m % 10) hj).1.trans e) (by omega) (by omega) (f0 (by omega)) t1)
          · have t1 : jm_in (Int32.ofNat m) 10 17 = false := jm_f (lo := 10) (hi := 17) (by omega) (by omega) (by omega) (by omega)
            by_cases h30 : m < 30
            · have t2 : jm_in (Int32.ofNat m) 20 27 = true := jm_t (lo := 20) (hi := 27) (by omega) (by omega) (by omega)
              exact fin m _ (c1 _ (s_Mill_coj_p0 x6 x1 hj (by omega) h30)) (fun g hg => s_Ref_countM20 hg.1.1 rfl (by rw [show 3 * (m % 10) + m / 10 - 2 = 3 * (m % 10) + 0 by omega]; exact (hg.1.2.2.1 (m % 10) 0 hj (by omega)).1) (by omega) (by omega) (f0 (by omega)) t1 t2)
            · have t2 : jm_in (Int32.ofNat m) 20 27 = false := jm_f (lo := 20) (hi := 27) (by omega) (by omega) (by omega) (by omega)
              by_cases h40 : m < 40
              · have t3 : jm_in (Int32.ofNat m) 30 37 = true := jm_t (lo := 30) (hi := 37) (by omega) (by omega) (by omega)
                exact fin m _ (c1 _ (s_Mill_coj_p1 x6 x1 hj (by omega) h40)) (fun g hg => s_Ref_countM30 hg.1.1 rfl (by rw [show 3 * (m % 10) + m / 10 - 2 = 3 * (m % 10) + 1 by omega]; exact (hg.1.2.2.1 (m % 10) 1 hj (by omega)).1) (by omega) (by omega) (f0 (by omega)) t1 t2 t3)
              · have t3 : jm_in (Int32.ofNat m) 30 37 = false := jm_f (lo := 30) (hi := 37) (by omega) (by omega) (by omega) (by omega)
                have t4 : jm_in (Int32.ofNat m) 40 47 = true := jm_t (lo := 40) (hi := 47) (by omega) (by omega) (by omega)
                exact fin m _ (c1 _ (s_Mill_coj_p2 x6 x1 hj (by omega) hm)) (fun g hg => s_Ref_countM40 hg.1.1 rfl (by rw [show 3 * (m % 10) + m / 10 - 2 = 3 * (m % 10) + 2 by omega]; exact (hg.1.2.2.1 (m % 10) 2 hj (by omega)).1) (by omega) (by omega) (f0 (by omega)) t1 t2 t3 t4)
end CALLC
