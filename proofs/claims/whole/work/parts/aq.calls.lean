/-! the calls, one by one: class and reference answer alike -/
section CALLS
variable {h h' g : sm_H} {L c n B N M lo hi : Nat} {xs : Nat → Int32} {b b' : Bool} {cl cl' : List Nat} {G G' : Nat → Nat → Int32} {PR PR' : Nat → Nat → List (Int32 × Int64)} {F F' : Nat → Jl} {D D' : List (Int32 × Int64)} {n' k' : Nat} {av mv : List Value} {k v p0 p1 p2 p3 p4 : Int32} {w q1 q2 : Int64}
theorem XS_fr {Ln : Jn} {R : Jr} {K : Jk} {Ws : Nat → Jw} (z : Fr lo hi h h') (hl : 598 ≤ lo) (hp : XS h cl G PR F D Ln R K Ws b n) : XS h' cl G PR F D Ln R K Ws b n := by
  obtain ⟨a1, a2, a3, a4, a5, a6⟩ := hp
  exact ⟨DR_fr z (by omega) (by omega) (by omega) a1, ST_fr z (by omega) a2, LL_fr z (by omega) a3, JR_fr z (by omega) a4, KK_fr z (by omega) a5, fun u hu => WW_fr z (by omega) (a6 u hu)⟩
theorem CSt_fr (z : Fr lo hi h h') (hl : 598 ≤ lo) (hc : CSt b cl G PR F D n B h) : CSt b cl G PR F D n B h' := by
  rcases hc with ⟨e, c1, Ln, R, K, Ws, hx, hr⟩ | ⟨e, a1, a2, a3, kc, ck, a4, Ln, R, K, Ws, hx, hr⟩
  · exact Or.inl ⟨e, c1, Ln, R, K, Ws, XS_fr z hl hx, hr⟩
  · exact Or.inr ⟨e, a1, a2, a3, kc, ck, a4, Ln, R, K, Ws, XS_fr z hl hx, hr⟩
theorem CSt_junk (hc : CSt b cl G PR F D n B h) : CSt b cl G PR F D n B (hjunk h) := by
  rcases hc with ⟨e, c1, Ln, R, K, Ws, hx, hr⟩ | ⟨e, a1, a2, a3, kc, ck, a4, Ln, R, K, Ws, hx, hr⟩
  · exact Or.inl ⟨e, c1, Ln, R, K, Ws, XS_junk hx, hr⟩
  · exact Or.inr ⟨e, a1, a2, a3, kc, ck, a4, Ln, R, K, Ws, XS_junk hx, hr⟩
theorem CSt_B {B' : Nat} (hB : B ≤ B') (hc : CSt b cl G PR F D n B h) : CSt b cl G PR F D n B' h := by
  rcases hc with e | ⟨e, a1, a2, a3, kc, ck, a4, a5⟩
  · exact Or.inl e
  · exact Or.inr ⟨e, a1, a2, a3, kc, ck, Nat.le_trans a4 hB, a5⟩
theorem CSt_f (hc : CSt b cl G PR F D n B h) : isX h ∧ gI h 0 6 = (if b then 1 else 0) ∧ GL h 141 D ∧ gI h 0 7 = Int32.ofNat n ∧ VJ G PR D ∧ ∃ cl' F', ST h 1 cl' G PR F' ∧ (b = false → F' = F) := by
  rcases hc with ⟨e, c1, Ln, R, K, Ws, hx, hr⟩ | ⟨e, a1, a2, a3, kc, ck, a4, Ln, R, K, Ws, hx, hr⟩
  · subst e; exact ⟨hx.1.1, hx.1.2.2.1, hx.1.2.1, hx.1.2.2.2, hr.1, _, _, hx.2.1, fun _ => rfl⟩
  · subst e; exact ⟨hx.1.1, hx.1.2.2.1, hx.1.2.1, hx.1.2.2.2, a2, _, _, hx.2.1, fun e => by cases e⟩
theorem CSt_0 (hc : CSt false cl G PR F D n B h) : XI h G PR F D n := by
  rcases hc with e | e
  · exact e.2
  · cases e.1
theorem CSt_1 (hc : CSt true cl G PR F D n B h) : CK (cl, G, PR, F) ∧ VJ G PR D ∧ (∀ j, j ∈ cl → j < 8 ∧ G j 1 = 1) ∧ ∃ kc ck, ck ≤ B ∧ RS (cl, G, PR, F) D n kc ck h := by
  rcases hc with e | e
  · cases e.1
  · exact e.2
theorem RM_fr (z : Fr lo hi h h') (hl : hi ≤ 598 ∨ 624 ≤ lo) (hp : RM h 598 G PR F D b n) : RM h' 598 G PR F D b n := by
  have e : ∀ d, d ≤ 25 → gI h' (598 + d) = gI h (598 + d) ∧ gL h' (598 + d) = gL h (598 + d) ∧ gR h' (598 + d) = gR h (598 + d) := fun d hd => z.2.2.2.2 _ (by omega)
  obtain ⟨a1, a2, a3, a4, a5, a6, a7⟩ := hp
  have e0 : gI h' 598 = gI h 598 := (e 0 (by omega)).1
  refine ⟨⟨by rw [z.at]; exact a1.1, fun x hx => ?_⟩, fun f hf => ?_, fun j i hj hi => ?_, ⟨by rw [e0]; exact a4.1, a4.2.1, fun k p hk => ?_⟩, fun j hj => ?_, by rw [e0]; exact a6, by rw [e0]; exact a7⟩
  · obtain ⟨b1, b2, b3⟩ := a1.2 x hx
    exact ⟨by rw [(e 0 (by omega)).2.2]; exact b1, by rw [z.at]; exact b2, by rw [z.2.1]; exact b3⟩
  · rw [(e 3 (by omega)).1, (e 1 (by omega)).2.1, (e 2 (by omega)).2.1]; exact a2 f hf
  · rw [(e 5 (by omega)).1, (e 4 (by omega)).1, (e 7 (by omega)).2.1]; exact a3 j i hj hi
  · rw [(e 6 (by omega)).1, (e 8 (by omega)).2.1]; exact a4.2.2 k p hk
  · rw [(e 14 (by omega)).1, (e 9 (by omega)).1, (e 10 (by omega)).1, (e 11 (by omega)).1, (e 12 (by omega)).1]; exact a5 j hj
theorem RSt_fr (z : Fr lo hi h h') (hl : hi ≤ 598 ∨ 624 ≤ lo) (hp : RSt b cl G PR F D n h) : RSt b cl G PR F D n h' := by
  refine ⟨RM_fr z hl hp.1, fun e => ⟨?_, fun i j hi => ?_⟩⟩
  · rw [(z.2.2.2.2 598 (by omega)).1]; exact (hp.2 e).1
  · rw [(z.2.2.2.2 (598 + 13) (by omega)).1]; exact (hp.2 e).2 i j hi
theorem RSt_junk (hp : RSt b cl G PR F D n h) : RSt b cl G PR F D n (hjunk h) := hp
theorem RSt_thr (hp : RSt b cl G PR F D n h) : RSt b cl G PR F D n (setI h 598 18 k) :=
  ⟨RM_thr hp.1, fun e => ⟨by rw [gI_ne (by omega)]; exact (hp.2 e).1, fun i j hi => by rw [gI_ne (by omega)]; exact (hp.2 e).2 i j hi⟩⟩
theorem HS_fr (z : Fr lo hi h h') (hl : hi ≤ 625) (hs : HS L xs c h) : HS L xs c h' := by
  obtain ⟨a1, a2, a3, a4, a5, a6, a7⟩ := hs
  have hS : sm_S = 1000000000 := rfl
  exact ⟨z.1.trans a1, by rw [z.2.2.1]; exact a2, by rw [z.2.2.2.1]; exact a3, by rw [z.at]; exact a4, by rw [z.2.1]; exact a5, by rw [z.2.1]; exact a6, by rw [(z.2.2.2.2 sm_S (by rw [hS]; omega)).1]; exact a7⟩
theorem HS_junk (hs : HS L xs c h) : HS L xs (c + 1) (hjunk h) := by
  obtain ⟨a1, a2, a3, a4, a5, a6, a7⟩ := hs
  refine ⟨a1, ?_, ?_, a4, a5, a6, a7⟩
  · show gJ h + 1 ≤ c + 1; omega
  · show gD h + 6 ≤ 100000 + 6 * (c + 1); omega
theorem HS_up (hs : HS L xs c h) : HS L xs (c + 1) h := by
  obtain ⟨a1, a2, a3, a4, a5, a6, a7⟩ := hs
  exact ⟨a1, by omega, by omega, a4, a5, a6, a7⟩
/-- a call that throws -/
theorem OKI_X {h2 : sm_H} (hs : HS L xs c h) (z : SZ h h') (hc : CSt b cl G PR F D n (200 * c) (hjunk h')) (hr : RSt b cl G PR F D n h2) (r1 : Run N av h (.inl (some (.int k))) (hjunk h')) (hk : k ≠ 0) (m1 : mrO (hjunk h') 598) (r2 : Run M mv (hjunk h') (.inl (some (.int v))) h2) (ht : gI h2 598 18 = k) (z2 : Fr 598 624 (hjunk h') h2) : OKI L xs c h N av M mv := by
  have s1 : HS L xs (c + 1) (hjunk h') := HS_junk (HS_fr z (by omega) hs)
  exact ⟨k, v, _, h2, r1, r2, s1, m1, hr.1.1, ht, fun e => absurd e hk, HS_fr z2 (by omega) s1, b, cl, G, PR, F, D, n, CSt_fr z2 (by omega) (CSt_B (by omega) hc), hr⟩
theorem OKI_T (hs : HS L xs c h) (hc : CSt b cl G PR F D n (200 * c) h) (hr : RSt b cl G PR F D n h) (r1 : Run N av h (.inl (some (.int k))) (hjunk h)) (hk : k ≠ 0) (r2 : Run M mv (hjunk h) (.inl (some (.int v))) (setI (hjunk h) 598 18 k)) : OKI L xs c h N av M mv :=
  OKI_X hs (SZ.refl h) (CSt_junk hc) (RSt_thr (RSt_junk hr)) r1 hk (RSt_junk hr).1.1 r2 gI_eq (Fr.setI (by omega) (by omega))
theorem OKL_T (hs : HS L xs c h) (hc : CSt b cl G PR F D n (200 * c) h) (hr : RSt b cl G PR F D n h) (r1 : Run N av h (.inl (some (.int k))) (hjunk h)) (hk : k ≠ 0) (r2 : Run M mv (hjunk h) (.inl (some (.long w))) (setI (hjunk h) 598 18 k)) : OKL L xs c h N av M mv := by
  have s1 : HS L xs (c + 1) (hjunk h) := HS_junk hs
  have z2 : Fr 598 624 (hjunk h) (setI (hjunk h) 598 18 k) := Fr.setI (by omega) (by omega)
  have hr2 : RSt b cl G PR F D n (setI (hjunk h) 598 18 k) := RSt_thr (RSt_junk hr)
  exact ⟨k, w, _, _, r1, r2, s1, (RSt_junk hr).1.1, hr2.1.1, gI_eq, fun e => absurd e hk, HS_fr z2 (by omega) s1, b, cl, G, PR, F, D, n, CSt_fr z2 (by omega) (CSt_B (by omega) (CSt_junk hc)), hr2⟩
theorem OKV_T (hs : HS L xs c h) (hc : CSt b cl G PR F D n (200 * c) h) (hr : RSt b cl G PR F D n h) (r1 : Run N av h (.inl (some (.int k))) (hjunk h)) (r2 : Run M mv (hjunk h) (.inl none) (setI (hjunk h) 598 18 k)) : OKV L xs c h N av M mv := by
  have s1 : HS L xs (c + 1) (hjunk h) := HS_junk hs
  have z2 : Fr 598 624 (hjunk h) (setI (hjunk h) 598 18 k) := Fr.setI (by omega) (by omega)
  have hr2 : RSt b cl G PR F D n (setI (hjunk h) 598 18 k) := RSt_thr (RSt_junk hr)
  exact ⟨k, _, _, r1, r2, s1, (RSt_junk hr).1.1, hr2.1.1, gI_eq, HS_fr z2 (by omega) s1, b, cl, G, PR, F, D, n, CSt_fr z2 (by omega) (CSt_B (by omega) (CSt_junk hc)), hr2⟩
/-- a call that answers -/
theorem OKI_O (hs : HS L xs c h) (hr : RSt b cl G PR F D n h) (z : SZ h h') (hN : v = 0 ∨ v = 1 ∨ N ≠ 188) (r1 : sm_at h' 624 1 = true → (gS h' 624).2 = 1 → Run N av h (.inl (some (.int 0))) (setL h' 624 0 v.toInt64)) (hc' : CSt b' cl' G' PR' F' D' n' (200 * (c + 1)) h') (r2 : ∀ g, RSt b cl G PR F D n g → ∃ h2, Run M mv g (.inl (some (.int v))) h2 ∧ RSt b' cl' G' PR' F' D' n' h2 ∧ gI h2 598 18 = 0 ∧ Fr 598 624 g h2) : OKI L xs c h N av M mv := by
  have s1 : HS L xs (c + 1) h' := HS_up (HS_fr z (by omega) hs)
  have zg : Fr 624 625 h' (setL h' 624 0 v.toInt64) := Fr.setL (by omega) (by omega)
  have r1 := r1 s1.2.2.2.1 s1.2.2.2.2.1
  have eg : gL (setL h' 624 0 v.toInt64) 624 0 = v.toInt64 := gL_eq
  generalize setL h' 624 0 v.toInt64 = g at zg r1 eg
  have hrg : RSt b cl G PR F D n g := RSt_fr zg (by omega) (RSt_fr z (by omega) hr)
  obtain ⟨h2, r2, q1, q2, q3⟩ := r2 g hrg
  have sg := HS_fr zg (by omega) s1
  exact ⟨0, v, g, h2, r1, r2, sg, hrg.1.1, q1.1.1, q2, fun _ => ⟨by rw [(q3.2.2.2.2 624 (by omega)).2.1]; exact eg, hN⟩, HS_fr q3 (by omega) sg, b', cl', G', PR', F', D', n', CSt_fr q3 (by omega) (CSt_fr zg (by omega) hc'), q1⟩
theorem OKL_O (hs : HS L xs c h) (hr : RSt b cl G PR F D n h) (z : SZ h h') (r1 : sm_at h' 624 1 = true → (gS h' 624).2 = 1 → Run N av h (.inl (some (.int 0))) (setL h' 624 0 w)) (hc' : CSt b' cl' G' PR' F' D' n' (200 * (c + 1)) h') (r2 : ∀ g, RSt b cl G PR F D n g → ∃ h2, Run M mv g (.inl (some (.long w))) h2 ∧ RSt b' cl' G' PR' F' D' n' h2 ∧ gI h2 598 18 = 0 ∧ Fr 598 624 g h2) : OKL L xs c h N av M mv := by
  have s1 : HS L xs (c + 1) h' := HS_up (HS_fr z (by omega) hs)
  have zg : Fr 624 625 h' (setL h' 624 0 w) := Fr.setL (by omega) (by omega)
  have r1 := r1 s1.2.2.2.1 s1.2.2.2.2.1
  have eg : gL (setL h' 624 0 w) 624 0 = w := gL_eq
  generalize setL h' 624 0 w = g at zg r1 eg
  have hrg : RSt b cl G PR F D n g := RSt_fr zg (by omega) (RSt_fr z (by omega) hr)
  obtain ⟨h2, r2, q1, q2, q3⟩ := r2 g hrg
  have sg := HS_fr zg (by omega) s1
  exact ⟨0, w, g, h2, r1, r2, sg, hrg.1.1, q1.1.1, q2, fun _ => (by rw [(q3.2.2.2.2 624 (by omega)).2.1]; exact eg), HS_fr q3 (by omega) sg, b', cl', G', PR', F', D', n', CSt_fr q3 (by omega) (CSt_fr zg (by omega) hc'), q1⟩
theorem OKV_O (hs : HS L xs c h) (hr : RSt b cl G PR F D n h) (z : SZ h h') (r1 : Run N av h (.inl (some (.int 0))) h') (hc' : CSt b' cl' G' PR' F' D' n' (200 * (c + 1)) h') (r2 : ∀ g, RSt b cl G PR F D n g → ∃ h2, Run M mv g (.inl none) h2 ∧ RSt b' cl' G' PR' F' D' n' h2 ∧ gI h2 598 18 = 0 ∧ Fr 598 624 g h2) : OKV L xs c h N av M mv := by
  have s1 : HS L xs (c + 1) h' := HS_up (HS_fr z (by omega) hs)
  have hrg : RSt b cl G PR F D n h' := RSt_fr z (by omega) hr
  obtain ⟨h2, r2, q1, q2, q3⟩ := r2 h' hrg
  exact ⟨0, h', h2, r1, r2, s1, hrg.1.1, q1.1.1, q2, HS_fr q3 (by omega) s1, b', cl', G', PR', F', D', n', CSt_fr q3 (by omega) hc', q1⟩
theorem thr_0 (hg : RSt b cl G PR F D n g) : RSt b cl G PR F D n (setI g 598 18 0) ∧ gI (setI g 598 18 0) 598 18 = 0 ∧ Fr 598 624 g (setI g 598 18 0) := ⟨RSt_thr hg, gI_eq, Fr.setI (by omega) (by omega)⟩
theorem RSt_of (hp : RM h 598 G PR F D false n) : RSt false cl G PR F D n h := ⟨hp, fun e => by cases e⟩
theorem CSt_of (hp : XI h G PR F D n) : CSt false cl G PR F D n B h := Or.inl ⟨rfl, hp⟩
/-- record -/
theorem C_record (hv : INV L xs c h) : OKI L xs c h 183 [.ref 0, .int p0, .long q1, .long q2, .ref 624] 168 [.ref 598, .int p0, .long q1, .long q2] := by
  obtain ⟨hs, b, cl, G, PR, F, D, n, hc, hr⟩ := hv
  obtain ⟨x1, x2, x3, x4, x5, cl', F', x6, x7⟩ := CSt_f hc
  by_cases ho : jn_out p0 16
  · exact OKI_T (k := 1) hs hc hr (hx_record x1.1 (s_Mill_record_x x1 ho) ca_183_0) (by decide) (s_Ref_record1 (RSt_junk hr).1.1 (jm_out (m := 15) (by omega) ho))
  · obtain ⟨f, hf, rfl⟩ := jn_in p0 ho
    obtain ⟨f1, f2, f3⟩ := hr.1.2.1 f hf
    have ref2 : b = true ∨ (F f).length = 300 → Run 168 [.ref 598, .int (Int32.ofNat f), .long q1, .long q2] (hjunk h) (.inl (some (.int 0))) (setI (hjunk h) 598 18 2) := by
      intro hb
      by_cases hl : (F f).length = 300
      · exact s_Ref_record2f (RSt_junk hr).1.1 hf (by rw [hl] at f1; exact f1)
      · have hb' : b = true := hb.resolve_right hl
        subst hb'
        exact s_Ref_record2o (x := Int32.ofNat (F f).length) (RSt_junk hr).1.1 hf f1 (fun e => hl (jx_inj (by omega) (by omega) e)) (RSt_junk hr).1.2.2.2.2.2.1
    cases b with
    | true => exact OKI_T (k := 2) hs hc hr (hx_record x1.1 (s_Mill_record_r x1 hf x2) ca_183_2) (by decide) (ref2 (Or.inl rfl))
    | false =>
      have x7 := x7 rfl
      subst x7
      by_cases hl : (F' f).length = 300
      · exact OKI_T (k := 2) hs hc hr (hx_record x1.1 (s_Mill_record_f x1 x6 hf x2 hl) ca_183_2) (by decide) (ref2 (Or.inr hl))
      · obtain ⟨h', r1, y1, y2⟩ := XI_record (a := q1) (b := q2) hf (by omega) (CSt_0 hc)
        exact OKI_O (cl' := []) hs hr y2 (Or.inr (Or.inr (by decide))) (fun o1 o2 => ho_record x1.1 o1 o2 r1) (CSt_of y1) (fun g hg => by
          obtain ⟨h2, r2, t1, t2, t3⟩ := RM_record (k := q1) (v := q2) hf (by omega) hg.1
          exact ⟨h2, r2, RSt_of t1, t2, t3⟩)
/-- clear -/
theorem C_clear (hv : INV L xs c h) : OKI L xs c h 184 [.ref 0, .int p0, .ref 624] 169 [.ref 598, .int p0] := by
  obtain ⟨hs, b, cl, G, PR, F, D, n, hc, hr⟩ := hv
  obtain ⟨x1, x2, x3, x4, x5, cl', F', x6, x7⟩ := CSt_f hc
  by_cases ho : jn_out p0 16
  · exact OKI_T (k := 1) hs hc hr (hx_clear x1.1 (s_Mill_clear_x x1 ho) ca_184_0) (by decide) (s_Ref_clear1 (RSt_junk hr).1.1 (jm_out (m := 15) (by omega) ho))
  · obtain ⟨f, hf, rfl⟩ := jn_in p0 ho
    cases b with
    | true => exact OKI_T (k := 2) hs hc hr (hx_clear x1.1 (s_Mill_clear_r x1 hf x2) ca_184_2) (by decide) (s_Ref_clear2 (RSt_junk hr).1.1 (jm_in_n (k := 15) (by omega) (by omega)) (RSt_junk hr).1.2.2.2.2.2.1)
    | false =>
      obtain ⟨h', r1, y1, y2⟩ := XI_clear hf (CSt_0 hc)
      exact OKI_O (cl' := []) hs hr y2 (Or.inr (Or.inr (by decide))) (fun o1 o2 => ho_clear x1.1 o1 o2 r1) (CSt_of y1) (fun g hg => by
        obtain ⟨h2, r2, t1, t2, t3⟩ := RM_clear hf hg.1
        exact ⟨h2, r2, RSt_of t1, t2, t3⟩)
/-- size -/
theorem C_size (hv : INV L xs c h) : OKI L xs c h 195 [.ref 0, .int p0, .ref 624] 180 [.ref 598, .int p0] := by
  obtain ⟨hs, b, cl, G, PR, F, D, n, hc, hr⟩ := hv
  obtain ⟨x1, x2, x3, x4, x5, cl', F', x6, x7⟩ := CSt_f hc
  by_cases ho : jn_out p0 16
  · exact OKI_T (k := 1) hs hc hr (hx_size x1.1 (s_Mill_size_x x1 ho) ca_195_0) (by decide) (s_Ref_size1 (RSt_junk hr).1.1 (jm_out (m := 15) (by omega) ho))
  · obtain ⟨f, hf, rfl⟩ := jn_in p0 ho
    cases b with
    | true => exact OKI_T (k := 2) hs hc hr (hx_size x1.1 (s_Mill_size_r x1 hf x2) ca_195_2) (by decide) (s_Ref_size2 (RSt_junk hr).1.1 (jm_in_n (k := 15) (by omega) (by omega)) (RSt_junk hr).1.2.2.2.2.2.1)
    | false =>
      have x7 := x7 rfl
      subst x7
      exact OKI_O hs hr (SZ.refl h) (Or.inr (Or.inr (by decide))) (fun o1 o2 => ho_size x1.1 o1 o2 (s_Mill_size x1 x6 hf x2)) (CSt_B (by omega) hc) (fun g hg => ⟨_, RM_size hf hg.1, thr_0 hg⟩)
/-- told -/
theorem C_told (hv : INV L xs c h) : OKL L xs c h 194 [.ref 0, .int p0, .int p1, .int p2, .ref 624] 179 [.ref 598, .int p0, .int p1, .int p2] := by
  obtain ⟨hs, b, cl, G, PR, F, D, n, hc, hr⟩ := hv
  obtain ⟨x1, x2, x3, x4, x5, cl', F', x6, x7⟩ := CSt_f hc
  by_cases ho : jn_out p0 16
  · exact OKL_T (k := 1) hs hc hr (hx_told x1.1 (s_Mill_told_x x1 ho) ca_194_0) (by decide) (s_Ref_told1 (RSt_junk hr).1.1 (jm_out (m := 15) (by omega) ho))
  · obtain ⟨f, hf, rfl⟩ := jn_in p0 ho
    cases b with
    | true => exact OKL_T (k := 2) hs hc hr (hx_told x1.1 (s_Mill_told_r x1 hf x2) ca_194_2) (by decide) (s_Ref_told2 (RSt_junk hr).1.1 (jm_in_n (k := 15) (by omega) (by omega)) (RSt_junk hr).1.2.2.2.2.2.1)
    | false =>
      have x7 := x7 rfl
      subst x7
      obtain ⟨f1, f2, f3⟩ := hr.1.2.1 f hf
      by_cases hi : jn_out p1 (F' f).length
      · have hj : jm_in p1 0 (Int32.ofNat (F' f).length - 1) = false := by
          cases e : (F' f).length with
          | zero =>
            rw [jm_in]
            by_cases e0 : (0 : Int32) ≤ p1
            · rw [decide_eq_false (show ¬ p1 ≤ Int32.ofNat 0 - 1 from fun z => by
                have := Int32.le_trans e0 z
                exact absurd this (by decide))]
              cases decide ((0 : Int32) ≤ p1) <;> rfl
            · rw [decide_eq_false e0]; rfl
          | succ m =>
            rw [e] at hi f2
            rw [show Int32.ofNat (m + 1) - 1 = Int32.ofNat m from by rw [show (1 : Int32) = Int32.ofNat 1 from rfl, jx_sub (by omega)]; rfl]
            exact jm_out (by omega) hi
        exact OKL_T (k := 1) hs hc hr (hx_told x1.1 (s_Mill_told_o x1 x6 hf x2 hi) ca_194_0) (by decide) (s_Ref_told3 (n := (F' f).length) (RSt_junk hr).1.1 rfl (RSt_junk hr).1.2.2.2.2.2.1 f1 hf f2 hj)
      · obtain ⟨i, hil, rfl⟩ := jn_in p1 hi
        have he : (F' f)[i]? = some ((F' f)[i]'hil) := List.getElem?_eq_getElem hil
        have hin : jm_in (Int32.ofNat i) 0 (Int32.ofNat (F' f).length - 1) = true := by
          rw [show (1 : Int32) = Int32.ofNat 1 from rfl, jx_sub (by omega)]
          exact jm_in_n (by omega) (by omega)
        generalize (F' f)[i]'hil = p at he
        by_cases hb : p2 = 0
        · exact OKL_O hs hr (SZ.refl h) (fun o1 o2 => ho_told x1.1 o1 o2 (s_Mill_told0 x1 x6 hf x2 he hb)) (CSt_B (by omega) hc) (fun g hg => ⟨_, s_Ref_toldK hg.1.1 rfl hg.1.2.2.2.2.2.1 (hg.1.2.1 f hf).1 hf f2 hin hil hb ((hg.1.2.1 f hf).2.2 i p he).1, thr_0 hg⟩)
        · exact OKL_O hs hr (SZ.refl h) (fun o1 o2 => ho_told x1.1 o1 o2 (s_Mill_told1 x1 x6 hf x2 he hb)) (CSt_B (by omega) hc) (fun g hg => ⟨_, s_Ref_toldV hg.1.1 rfl hg.1.2.2.2.2.2.1 (hg.1.2.1 f hf).1 hf f2 hin hil hb ((hg.1.2.1 f hf).2.2 i p he).2, thr_0 hg⟩)
/-- code -/
theorem C_code (hv : INV L xs c h) : OKI L xs c h 185 [.ref 0, .int p0, .long q1, .ref 624] 170 [.ref 598, .int p0, .long q1] := by
  obtain ⟨hs, b, cl, G, PR, F, D, n, hc, hr⟩ := hv
  obtain ⟨x1, x2, x3, x4, x5, cl', F', x6, x7⟩ := CSt_f hc
  by_cases ho : jn_out p0 19
  · exact OKI_T (k := 1) hs hc hr (hx_code x1.1 (s_Mill_code_x ho x1) ca_185_1) (by decide) (R_code_x (RSt_junk hr).1.1 ho)
  · obtain ⟨k, hk, rfl⟩ := jn_in p0 ho
    by_cases ha : jc_arg k q1
    · cases b with
      | true => exact OKI_T (k := 2) hs hc hr (hx_code x1.1 (s_Mill_code_r hk ha x1 x2) ca_185_2) (by decide) (R_code_2 hk ha (RSt_junk hr).1 (Or.inl rfl))
      | false =>
        by_cases hl : D.length = 40
        · exact OKI_T (k := 2) hs hc hr (hx_code x1.1 (s_Mill_code_f hk ha x1 x2 x3 hl) ca_185_2) (by decide) (R_code_2 hk ha (RSt_junk hr).1 (Or.inr hl))
        · have hl' : D.length < 40 := by have := hr.1.2.2.2.1.2.1; omega
          obtain ⟨h', r1, y1, y2⟩ := XI_code hk ha hl' (CSt_0 hc)
          exact OKI_O (cl' := []) hs hr y2 (Or.inr (Or.inr (by decide))) (fun o1 o2 => ho_code x1.1 o1 o2 r1) (CSt_of y1) (fun g hg => by
            obtain ⟨h2, r2, t1, t2, t3⟩ := RM_code hk ha hl' hg.1
            exact ⟨h2, r2, RSt_of t1, t2, t3⟩)
    · exact OKI_T (k := 1) hs hc hr (hx_code x1.1 (s_Mill_code_a hk ha x1) ca_185_1) (by decide) (R_code_a (RSt_junk hr).1.1 hk ha)
/-- program -/
theorem C_program (hv : INV L xs c h) : OKI L xs c h 186 [.ref 0, .int p0, .int p1, .ref 624] 171 [.ref 598, .int p0, .int p1] := by
  obtain ⟨hs, b, cl, G, PR, F, D, n, hc, hr⟩ := hv
  obtain ⟨x1, x2, x3, x4, x5, cl', F', x6, x7⟩ := CSt_f hc
  by_cases ho : jn_out p0 8
  · exact OKI_T (k := 1) hs hc hr (hx_program x1.1 (s_Mill_program_x ho) ca_186_0) (by decide) (R_prog_1 (RSt_junk hr).1 ho)
  · obtain ⟨j, hj, rfl⟩ := jn_in p0 ho
    by_cases hy : jn_out p1 3
    · refine OKI_T (k := 2) hs hc hr (hx_program x1.1 (s_Mill_program_w hj hy) ca_186_1) (by decide) (R_prog_2 (RSt_junk hr).1 hj (fun e => ?_))
      have e1 := e.1.1
      have e2 : jm_in p1 0 2 = false := jm_out (m := 2) (by omega) hy
      rw [e2] at e1
      cases e1
    · obtain ⟨i, hi, rfl⟩ := jn_in p1 hy
      have hin : jm_in (Int32.ofNat i) 0 2 = true := jm_in_n (k := 2) (by omega) (by omega)
      by_cases hD : D.length = 0 ∧ i ≠ 1
      · have hne : ¬ pfine D (Int32.ofNat i) := fun e => by
          rcases e.1.2 with z | z
          · exact z hD.1
          · exact hD.2 (jx_inj (by omega) (by omega) z)
        have hi2 : i = 0 ∨ i = 2 := by omega
        rcases hi2 with e | e
        · subst e
          exact OKI_T (k := 2) hs hc hr (hx_program x1.1 (s_Mill_program0_e hj x1 x3 hD.1) ca_186_1) (by decide) (R_prog_2 (RSt_junk hr).1 hj hne)
        · subst e
          exact OKI_T (k := 2) hs hc hr (hx_program x1.1 (s_Mill_program2_e hj x1 x3 hD.1) ca_186_1) (by decide) (R_prog_2 (RSt_junk hr).1 hj hne)
      · have hD1 : D.length ≠ 0 ∨ Int32.ofNat i = 1 := by
          by_cases e : D.length = 0
          · right
            have : i = 1 := by
              by_cases e1 : i = 1
              · exact e1
              · exact absurd ⟨e, e1⟩ hD
            subst this; rfl
          · exact Or.inl e
        by_cases hL : D.any (jx_lb D.length) = true
        · have hne : ¬ pfine D (Int32.ofNat i) := fun e => e.2 hL
          have hnz : ¬ D.length = 0 := fun e => by
            rw [List.eq_nil_of_length_eq_zero e] at hL
            cases hL
          have r1 : Run 138 [.ref 0, .int (Int32.ofNat j), .int (Int32.ofNat i)] h (.inr 1) (hjunk h) := by
            have hi3 : i = 0 ∨ i = 1 ∨ i = 2 := by omega
            rcases hi3 with e | e | e
            · subst e; exact s_Mill_program0_l hj x1 x3 hnz hL
            · subst e; exact s_Mill_program1_l hj x1 x3 hL
            · subst e; exact s_Mill_program2_l hj x1 x3 hnz hL
          exact OKI_T (k := 2) hs hc hr (hx_program x1.1 r1 ca_186_1) (by decide) (R_prog_2 (RSt_junk hr).1 hj hne)
        · have hf : pfine D (Int32.ofNat i) := ⟨⟨hin, hD1⟩, hL⟩
          have hD2 : i = 1 ∨ ¬ D.length = 0 := by
            rcases hD1 with e | e
            · exact Or.inr e
            · exact Or.inl (jx_inj (by omega) (by omega) e)
          cases b with
          | true =>
            have r1 : Run 138 [.ref 0, .int (Int32.ofNat j), .int (Int32.ofNat i)] h (.inr 2) (hjunk h) := by
              have hi3 : i = 0 ∨ i = 1 ∨ i = 2 := by omega
              rcases hi3 with e | e | e
              · subst e; exact s_Mill_program0_r hj x1 x3 (hD2.resolve_left (by decide)) hL x2
              · subst e; exact s_Mill_program1_r hj x1 x3 hL x2
              · subst e; exact s_Mill_program2_r hj x1 x3 (hD2.resolve_left (by decide)) hL x2
            exact OKI_T (k := 3) hs hc hr (hx_program x1.1 r1 ca_186_2) (by decide) (R_prog_3 (RSt_junk hr).1 hj hf)
          | false =>
            obtain ⟨h', r1, y1, y2⟩ := XI_program hj hi hD2 hL (CSt_0 hc)
            exact OKI_O (cl' := []) hs hr y2 (Or.inr (Or.inr (by decide))) (fun o1 o2 => ho_program x1.1 o1 o2 r1) (CSt_of y1) (fun g hg => by
              obtain ⟨h2, r2, t1, t2, t3⟩ := RM_program hj hi hf hg.1
              exact ⟨h2, r2, RSt_of t1, t2, t3⟩)
end CALLS
