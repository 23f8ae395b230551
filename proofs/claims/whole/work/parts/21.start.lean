/-! the start of the law: what the Statement gives -/
set_option maxRecDepth 20000 in
theorem zi_0 : Cond.instantiable (sm_cn.getD 0 "") 3 ∈ lw_tbl := sm_m1 42 rfl
set_option maxRecDepth 20000 in
theorem zi_1 : Cond.instantiable (sm_cn.getD 1 "") 3 ∈ lw_tbl := sm_m1 66 rfl
set_option maxRecDepth 20000 in
theorem zi_2 : Cond.instantiable (sm_cn.getD 2 "") 6 ∈ lw_tbl := sm_m1 59 rfl
set_option maxRecDepth 20000 in
theorem zi_3 : Cond.instantiable (sm_cn.getD 3 "") 4 ∈ lw_tbl := sm_m1 33 rfl
set_option maxRecDepth 20000 in
theorem zi_4 : Cond.instantiable (sm_cn.getD 4 "") 10 ∈ lw_tbl := sm_m2 104 rfl
set_option maxRecDepth 20000 in
theorem zi_5 : Cond.instantiable (sm_cn.getD 5 "") 11 ∈ lw_tbl := sm_m1 123 rfl
set_option maxRecDepth 20000 in
theorem zi_6 : Cond.instantiable (sm_cn.getD 6 "") 6 ∈ lw_tbl := sm_m1 116 rfl
set_option maxRecDepth 20000 in
theorem zi_7 : Cond.instantiable (sm_cn.getD 7 "") 7 ∈ lw_tbl := sm_m2 71 rfl
set_option maxRecDepth 20000 in
theorem zi_8 : Cond.instantiable (sm_cn.getD 8 "") 18 ∈ lw_tbl := sm_m2 65 rfl
set_option maxRecDepth 20000 in
theorem zi_9 : Cond.instantiable (sm_cn.getD 9 "") 7 ∈ lw_tbl := sm_m1 205 rfl
set_option maxRecDepth 20000 in
theorem zi_10 : Cond.instantiable (sm_cn.getD 10 "") 20 ∈ lw_tbl := sm_m1 235 rfl
set_option maxRecDepth 20000 in
theorem zi_11 : Cond.instantiable (sm_cn.getD 11 "") 8 ∈ lw_tbl := sm_m1 25 rfl
set_option maxRecDepth 20000 in
theorem zi_12 : Cond.instantiable (sm_cn.getD 12 "") 32 ∈ lw_tbl := sm_m6 97 rfl
theorem sm_insw : ∀ ci, ci < 13 → ∃ n, Cond.instantiable (sm_cn.getD ci "") n ∈ lw_tbl
  | 0, _ => ⟨_, zi_0⟩
  | 1, _ => ⟨_, zi_1⟩
  | 2, _ => ⟨_, zi_2⟩
  | 3, _ => ⟨_, zi_3⟩
  | 4, _ => ⟨_, zi_4⟩
  | 5, _ => ⟨_, zi_5⟩
  | 6, _ => ⟨_, zi_6⟩
  | 7, _ => ⟨_, zi_7⟩
  | 8, _ => ⟨_, zi_8⟩
  | 9, _ => ⟨_, zi_9⟩
  | 10, _ => ⟨_, zi_10⟩
  | 11, _ => ⟨_, zi_11⟩
  | 12, _ => ⟨_, zi_12⟩
  | n + 13, h => absurd h (by omega)
set_option maxRecDepth 20000 in
theorem zo_0 : Cond.arrayOver (.object (sm_ra.getD 0 "")) ∈ lw_tbl := sm_m1 39 rfl
set_option maxRecDepth 20000 in
theorem zo_1 : Cond.arrayOver (.object (sm_ra.getD 1 "")) ∈ lw_tbl := sm_m1 41 rfl
set_option maxRecDepth 20000 in
theorem zo_2 : Cond.arrayOver (.object (sm_ra.getD 2 "")) ∈ lw_tbl := sm_m1 65 rfl
set_option maxRecDepth 20000 in
theorem zo_3 : Cond.arrayOver (.object (sm_ra.getD 3 "")) ∈ lw_tbl := sm_m1 122 rfl
set_option maxRecDepth 20000 in
theorem zo_4 : Cond.arrayOver (.object (sm_ra.getD 4 "")) ∈ lw_tbl := sm_m1 233 rfl
set_option maxRecDepth 20000 in
theorem za_0 : Cond.arrayClass .int ∈ lw_tbl := sm_m1 57 rfl
set_option maxRecDepth 20000 in
theorem za_1 : Cond.arrayClass .long ∈ lw_tbl := sm_m1 58 rfl
set_option maxRecDepth 20000 in
theorem za_2 : Cond.arrayClass .boolean ∈ lw_tbl := sm_m1 184 rfl
set_option maxRecDepth 20000 in
theorem zs_0 : Cond.stringRef "ShuffleMill" 74 "the FILE is full" ∈ lw_tbl := sm_m3 168 rfl
set_option maxRecDepth 20000 in
theorem zs_1 : Cond.stringRef "ShuffleMill" 88 "no such INSTRUCTION" ∈ lw_tbl := sm_m3 201 rfl
set_option maxRecDepth 20000 in
theorem zs_2 : Cond.stringRef "ShuffleMill" 97 "no such CELL" ∈ lw_tbl := sm_m3 212 rfl
set_option maxRecDepth 20000 in
theorem zs_3 : Cond.stringRef "ShuffleMill" 104 "no PROGRAM is so long" ∈ lw_tbl := sm_m3 217 rfl
set_option maxRecDepth 20000 in
theorem zs_4 : Cond.stringRef "ShuffleMill" 109 "the PROGRAM is full" ∈ lw_tbl := sm_m3 222 rfl
set_option maxRecDepth 20000 in
theorem zs_5 : Cond.stringRef "ShuffleMill" 115 "neither MAP, COMBINE nor REDUCE" ∈ lw_tbl := sm_m3 238 rfl
set_option maxRecDepth 20000 in
theorem zs_6 : Cond.stringRef "ShuffleMill" 117 "the PROGRAM is empty" ∈ lw_tbl := sm_m3 239 rfl
set_option maxRecDepth 20000 in
theorem zs_7 : Cond.stringRef "ShuffleMill" 123 "the PROGRAM goes behind its end" ∈ lw_tbl := sm_m4 5 rfl
set_option maxRecDepth 20000 in
theorem zs_8 : Cond.stringRef "ShuffleMill" 143 "no such FILE" ∈ lw_tbl := sm_m3 113 rfl
set_option maxRecDepth 20000 in
theorem zs_9 : Cond.stringRef "ShuffleMill" 145 "no such number of PARTS" ∈ lw_tbl := sm_m4 32 rfl
set_option maxRecDepth 20000 in
theorem zs_10 : Cond.stringRef "ShuffleMill" 147 "a MAP or a REDUCE is missing" ∈ lw_tbl := sm_m4 33 rfl
set_option maxRecDepth 20000 in
theorem zs_11 : Cond.stringRef "ShuffleMill" 161 "THE CHAIN can not be run" ∈ lw_tbl := sm_m4 102 rfl
set_option maxRecDepth 20000 in
theorem zs_12 : Cond.stringRef "ShuffleMill" 186 "no such number of ticks" ∈ lw_tbl := sm_m4 203 rfl
set_option maxRecDepth 20000 in
theorem zs_13 : Cond.stringRef "ShuffleMill" 215 "no such RECORD" ∈ lw_tbl := sm_m6 72 rfl
set_option maxRecDepth 20000 in
theorem zs_14 : Cond.stringRef "ShuffleMill" 254 "nothing is counted so" ∈ lw_tbl := sm_m6 94 rfl
set_option maxRecDepth 20000 in
theorem zs_15 : Cond.stringRef "ShuffleMill" 274 "THE RUN goes on" ∈ lw_tbl := sm_m3 153 rfl
set_option maxRecDepth 20000 in
theorem zs_16 : Cond.stringRef "ShuffleMill" 276 "THE RUN does not go on" ∈ lw_tbl := sm_m4 208 rfl
set_option maxRecDepth 20000 in
theorem zs_17 : Cond.stringRef "ShuffleMill" 278 "no such JOB" ∈ lw_tbl := sm_m3 237 rfl
set_option maxRecDepth 20000 in
theorem zs_18 : Cond.stringRef "ShuffleMill" 280 "no such WORKER" ∈ lw_tbl := sm_m4 202 rfl
theorem sm_strw : ∀ q ∈ sm_tx, Cond.stringRef q.1 q.2.1 q.2.2 ∈ lw_tbl := by
  intro q hq
  simp only [sm_tx, List.mem_cons, List.not_mem_nil, or_false] at hq
  rcases hq with rfl | rfl | rfl | rfl | rfl | rfl | rfl | rfl | rfl | rfl | rfl | rfl | rfl | rfl | rfl | rfl | rfl | rfl | rfl
  · exact zs_0
  · exact zs_1
  · exact zs_2
  · exact zs_3
  · exact zs_4
  · exact zs_5
  · exact zs_6
  · exact zs_7
  · exact zs_8
  · exact zs_9
  · exact zs_10
  · exact zs_11
  · exact zs_12
  · exact zs_13
  · exact zs_14
  · exact zs_15
  · exact zs_16
  · exact zs_17
  · exact zs_18
set_option maxRecDepth 20000 in
theorem zt_0 : Cond.laysStatic Bundle.tN "UNASSIGNED_STACK" Bundle.steD ∈ lw_tbl := sm_m3 98 rfl
set_option maxRecDepth 20000 in
theorem zt_1 : Cond.laysStatic Bundle.tN "SUPPRESSED_SENTINEL" Bundle.listD ∈ lw_tbl := sm_m3 100 rfl
set_option maxRecDepth 20000 in
theorem zt_2 : Cond.initialized Bundle.tN ∈ lw_tbl := sm_m1 15 rfl
set_option maxRecDepth 100000 in
theorem zn_0 : ∀ q ∈ sm_nc, Cond.not (.castable q.1 q.2) ∈ flatC (Jvm.Cond.and given_1 narrow_1) := by decide +kernel
set_option maxRecDepth 100000 in
theorem zn_1 : Cond.isRef (.static Bundle.tN "UNASSIGNED_STACK" Bundle.steD) ∈ flatC (Jvm.Cond.and given_1 narrow_1) ∧ Cond.isRef (.static Bundle.tN "SUPPRESSED_SENTINEL" Bundle.listD) ∈ flatC (Jvm.Cond.and given_1 narrow_1) := by decide +kernel
theorem sm_ST_of {args : Array Value} {s : State} {n d : String} (hl : (Cond.laysStatic Bundle.tN n d).before args s = true) (hi : (Cond.initialized Bundle.tN).before args s = true) (h : (Cond.isRef (.static Bundle.tN n d)).before args s = true) : sm_ST n d s.heap.size s s.heap := by
  obtain ⟨c, k, i, f, a, cell, h1, h2, h3, h4, h5, h6, h7, h8, h9⟩ := Cond.laysStatic_spec hl
  obtain ⟨k9, hk9⟩ : ∃ k9, s.vm.classes[c]? = some k9 := by obtain ⟨k9, h9, -⟩ := Vm.findClass_spec h1; exact ⟨k9, h9⟩
  have hkk : s.vm.classes[c]? = some k := State.fieldFound?_class h2
  have hini : k.init = .initialized := Cond.initialized_spec h1 hkk hi
  obtain ⟨v, hv⟩ : ∃ v, cell.slots[f.slot]? = some v := ⟨_, Array.getElem?_eq_getElem h8⟩
  have he : (Term.static Bundle.tN n d).eval args s none [] s = some v := by
    simp [Term.eval, State.fieldNamed?, h2, h3, h4, h5, h6, hv, hini]
  refine ⟨c, k, i, f, a, cell, v, h1, h2, h3, h4, h5, h6, h7, h8, h9, hv, ?_, hini, (Array.getElem?_eq_some_iff.mp h5).1⟩
  simp only [Cond.before, Cond.holds, Cond.value, he] at h
  cases v <;> simp_all [Value.isRef]
def sm_h0 (L : Nat) (xs : Nat → Int32) : sm_H := (0, (fun a => if a = sm_S then (0, L) else (0, 0)), (fun a => if a = sm_S then xs else fun _ => 0), (fun _ _ => 0), (fun _ _ => none), 0, 0)
theorem sm_env0 {s : State} {scr L : Nat} {xs : Nat → Int32} {args : Array Value} (hts : ∀ w ∈ lw_tbl, w.before args s = true) (hX : va_X scr L xs s s.heap) (hbl : scr < s.heap.size) (hgv : (Jvm.Cond.and given_1 narrow_1).before args s = true) :
    ∃ (D : va_G) (ac : Nat → ClassId), sm_Env D sm_cls (sm_tys ac) s.heap.size scr L xs lw_tbl sm_ra sm_tx sm_nc s := by
  have htg : ∀ w ∈ lw_tbl.filter goodWord, w.before args s = true := fun w hw => hts w (List.mem_filter.mp hw).1
  have hfl := flat_of_before _ hgv
  have h0 : ∀ ci : Nat, ∃ x : ClassId × (Nat → Nat), ∀ q : vw_C, sm_cls[ci]? = some q → u_Kn s q.1 q.2.1 q.2.2 x.1 x.2 := by
    intro ci
    cases hq : sm_cls[ci]? with
    | none => exact ⟨(0, fun _ => 0), fun q h => by cases h⟩
    | some q =>
      obtain ⟨n, hn⟩ := sm_insw ci (sm_cls_lt hq)
      have hn' : (Cond.instantiable q.1 n).before args s = true := by
        have := hts _ hn
        rw [List.getD_eq_getElem?_getD, sm_cn_cls hq] at this
        exact this
      obtain ⟨C, T, N⟩ := q
      obtain ⟨cC, iS, hk⟩ := u_known (C := C) (T := T) (N := N) (n := n) htg (sm_cls_ok hq).1 hn'
      exact ⟨(cC, iS), fun q h => by cases h; exact hk⟩
  obtain ⟨F, hF⟩ := Classical.axiomOfChoice h0
  have hprim : ∀ ty : FieldType, Cond.arrayClass ty ∈ lw_tbl → ∃ cA, s.vm.findClass ("[" ++ ty.toString) = some cA ∧ ArrOfT s cA ty := by
    intro ty h
    obtain ⟨cA, kA, comp, f1, f2, f3⟩ := Cond.arrayClass_spec (hts _ h)
    exact ⟨cA, f1, fun N z => ⟨(fun k h => by cases h), kA, f2, comp, f3⟩⟩
  have hobj : ∀ C : String, Cond.arrayOver (.object C) ∈ lw_tbl → ∃ cA, ArrOfT s cA (.object C) ∧ va_RA s cA (.object C) := by
    intro C h
    obtain ⟨comp, cA, kA, f1, -, f2, f3, f4⟩ := Cond.arrayOver_spec (hts _ h)
    exact ⟨cA, fun N z => ⟨(fun k h => by cases h), kA, f2, comp, f3⟩, kA, comp, f2, f3, f1, f4⟩
  obtain ⟨c0, g0, a0⟩ := hprim _ za_0
  obtain ⟨c1, g1, a1⟩ := hprim _ za_1
  obtain ⟨c2, g2, a2⟩ := hprim _ za_2
  obtain ⟨c3, a3⟩ := hobj _ zo_0
  obtain ⟨c4, a4⟩ := hobj _ zo_1
  obtain ⟨c5, a5⟩ := hobj _ zo_2
  obtain ⟨c6, a6⟩ := hobj _ zo_3
  obtain ⟨c7, a7⟩ := hobj _ zo_4
  have hmill : ∃ c, s.vm.findClass "ShuffleMill" = some c := by
    obtain ⟨n, hn⟩ := sm_insw 11 (by decide)
    obtain ⟨c, k, hfc, -⟩ := Cond.instantiable_spec (hts _ hn)
    exact ⟨c, hfc⟩
  refine ⟨(fun k => (F k).1, fun k => (F k).2), fun k => if k = 0 then c0 else if k = 1 then c1 else if k = 2 then c2 else if k = 3 then c3 else if k = 4 then c4 else if k = 5 then c5 else if k = 6 then c6 else c7, ⟨fun c q hq => hF c q hq, ?_⟩, fun w hw hn => ?_, fun C hC => ?_, fun q hq => ?_, fun q hq => va_Nc.of (hfl _ (zn_0 q hq)), hX, hbl, Nat.le_refl _, sm_ST_of (hts _ zt_0) (hts _ zt_2) (hfl _ zn_1.1), sm_ST_of (hts _ zt_1) (hts _ zt_2) (hfl _ zn_1.2)⟩
  · intro k q hq
    match k, hq with
    | 0, hq => cases hq; exact ⟨a0, g0⟩
    | 1, hq => cases hq; exact ⟨a1, g1⟩
    | 2, hq => cases hq; exact ⟨a2, g2⟩
    | 3, hq => cases hq; exact a3
    | 4, hq => cases hq; exact a4
    | 5, hq => cases hq; exact a5
    | 6, hq => cases hq; exact a6
    | 7, hq => cases hq; exact a7
    | k + 8, hq => simp [sm_tys] at hq
  · have h9 := hts w hw
    cases w <;> first | (exact va_Nw.of rfl h9) | (simp [sm_nst, sm_nest] at hn)
  · simp only [sm_ra, List.mem_cons, List.not_mem_nil, or_false] at hC
    rcases hC with rfl | rfl | rfl | rfl | rfl
    · exact va_AO.of (hts _ zo_0)
    · exact va_AO.of (hts _ zo_1)
    · exact va_AO.of (hts _ zo_2)
    · exact va_AO.of (hts _ zo_3)
    · exact va_AO.of (hts _ zo_4)
  · have h9 := hts _ (sm_strw q hq)
    have hq1 := of_decide_eq_true (List.all_eq_true.mp sm_tx_all q hq)
    obtain ⟨c, hc⟩ := hmill
    obtain ⟨k, cf, i, a, -, -, -, -, -, hev⟩ := Cond.stringRef_spec (by rw [hq1]; exact hc) h9
    exact ⟨a, vk_R.of h9 hev⟩
