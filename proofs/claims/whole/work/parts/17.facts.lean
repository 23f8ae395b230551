/-! the tables' own facts -/
theorem ck_w_spec {i : Nat} {w : Cond} (h : ck_w i w = true) : w ∈ lw_tbl.filter goodWord := by
  simp only [ck_w, Bool.and_eq_true, decide_eq_true_eq] at h
  exact List.mem_filter.mpr ⟨List.mem_of_getElem? h.1, h.2⟩
def sm_tys (ac : Nat → ClassId) : List (ClassId × FieldType) := [(ac 0, .int), (ac 1, .long), (ac 2, .boolean), (ac 3, .object "ShuffleMill$Pairs"), (ac 4, .object "ShuffleMill$Job"), (ac 5, .object "ShuffleMill$Program"), (ac 6, .object "ShuffleMill$Message"), (ac 7, .object "ShuffleMill$Worker")]
theorem sm_tys_get (ac : Nat → ClassId) {n : Nat} (h3 : 3 ≤ n) (h8 : n < 8) : ∃ C, (sm_tys ac)[n]? = some (ac n, .object C) ∧ sm_ra[n - 3]? = some C := by
  rcases (show n = 3 ∨ n = 4 ∨ n = 5 ∨ n = 6 ∨ n = 7 by omega) with rfl | rfl | rfl | rfl | rfl <;> exact ⟨_, rfl, rfl⟩
theorem sm_tys_any (ac : Nat → ClassId) {n : Nat} (h8 : n < 8) : ∃ ty, (sm_tys ac)[n]? = some (ac n, ty) := by
  rcases (show n = 0 ∨ n = 1 ∨ n = 2 ∨ n = 3 ∨ n = 4 ∨ n = 5 ∨ n = 6 ∨ n = 7 by omega) with rfl | rfl | rfl | rfl | rfl | rfl | rfl | rfl <;> exact ⟨_, rfl⟩

theorem sm_cls_lt {ci : Nat} {C : vw_C} (h : sm_cls[ci]? = some C) : ci < 13 := (List.getElem?_eq_some_iff.mp h).1
theorem sm_cn_cls {ci : Nat} {C : vw_C} (h : sm_cls[ci]? = some C) : sm_cn[ci]? = some C.1 := by
  have hl := sm_cls_lt h
  have h1 : (sm_cls.map (fun q => q.1))[ci]? = some C.1 := by rw [List.getElem?_map, h]; rfl
  have h2 : sm_cn.take 13 = sm_cls.map (fun q => q.1) := by decide +kernel
  rw [← h2, List.getElem?_take_of_lt hl] at h1
  exact h1
set_option maxRecDepth 100000 in
theorem sm_kc_all : sm_kc.all (fun q => ck_w q.2.2.2 (.constant (sm_cn.getD q.1 "") q.2.1 (Int32.ofInt q.2.2.1))) = true := by decide +kernel
theorem sm_kc_ok (q : Nat × Nat × Int × Nat) (h : q ∈ sm_kc) : ck_w q.2.2.2 (.constant (sm_cn.getD q.1 "") q.2.1 (Int32.ofInt q.2.2.1)) = true := List.all_eq_true.mp sm_kc_all q h
set_option maxRecDepth 100000 in
theorem sm_kl_all : sm_kl.all (fun q => ck_w q.2.2.2 (.constantLong (sm_cn.getD q.1 "") q.2.1 (Int64.ofInt q.2.2.1))) = true := by decide +kernel
theorem sm_kl_ok (q : Nat × Nat × Int × Nat) (h : q ∈ sm_kl) : ck_w q.2.2.2 (.constantLong (sm_cn.getD q.1 "") q.2.1 (Int64.ofInt q.2.2.1)) = true := List.all_eq_true.mp sm_kl_all q h
theorem ck_k_spec {t : List (Nat × Nat × Int × Nat)} {oc i : Nat} {c : Int} {l : List Nat} (h : ck_k t oc i c l = true) : ∃ q, q ∈ t ∧ q.1 = oc ∧ q.2.1 = i ∧ q.2.2.1 = c := by
  unfold ck_k at h
  split at h
  · rename_i q hq
    simp only [Bool.and_eq_true, decide_eq_true_eq] at h
    exact ⟨q, List.mem_of_getElem? hq, h.1.1, h.1.2, h.2⟩
  · cases h
set_option maxRecDepth 100000 in
theorem sm_fl_all : sm_fl.all (fun q => match sm_cls[q.2.2.1]? with
  | some C => decide (q.2.2.2.1 < C.2.2) && decide ((C.2.1 q.2.2.2.1).1 = C.1) && ck_w q.2.2.2.2 (.fieldLink (sm_cn.getD q.1 "") q.2.1 C.1 (C.2.1 q.2.2.2.1).2.1 (C.2.1 q.2.2.2.1).2.2.1)
  | none => false) = true := by decide +kernel
set_option maxRecDepth 100000 in
theorem sm_ft_ok : sm_ft = sm_fty := by decide +kernel
theorem ck_ty_I {d : String} (h : ck_ty d = 0) : d = "I" := by
  unfold ck_ty at h
  split at h
  · assumption
  · split at h
    · cases h
    · split at h <;> cases h
theorem ck_ty_j {d : String} (h : ck_ty d = 1) : d = "J" := by
  unfold ck_ty at h
  split at h
  · cases h
  · split at h
    · assumption
    · split at h <;> cases h
theorem ck_ty_Z {d : String} (h : ck_ty d = 3) : d = "Z" := by
  unfold ck_ty at h
  split at h
  · cases h
  · split at h
    · cases h
    · split at h
      · assumption
      · cases h
theorem ck_ty_r {d : String} (h : ck_ty d = 2) : ¬ (d = "I" ∨ d = "Z") ∧ ¬ d = "J" := by
  unfold ck_ty at h
  split at h
  · cases h
  · rename_i h1
    split at h
    · cases h
    · rename_i h2
      split at h
      · cases h
      · rename_i h3
        exact ⟨fun q => q.elim h1 h3, h2⟩
theorem ck_ty_i {d : String} {pu : Bool} (h : ck_ty d = 0 ∨ (ck_ty d = 3 ∧ 0 = 0 ∧ pu = false)) : d = "I" ∨ d = "Z" := h.elim (fun z => Or.inl (ck_ty_I z)) (fun z => Or.inr (ck_ty_Z z.1))
/-- a field by its entry: its class, its type (0 for a boolean that is read), and where it is written: not final, or in its own constructor -/
theorem ck_f_spec {M ci k ty : Nat} {c : Int} {l : List Nat} {pu : Bool} (h : ck_f M ci k c l ty pu = true) :
    ∃ C, sm_cls[ci]? = some C ∧ k < C.2.2 ∧ (C.2.1 k).1 = C.1 ∧ Cond.fieldLink (sm_cn.getD (sm_oc.getD M 0) "") c.toNat C.1 (C.2.1 k).2.1 (C.2.1 k).2.2.1 ∈ lw_tbl.filter goodWord ∧
      (ck_ty (C.2.1 k).2.2.1 = ty ∨ (ck_ty (C.2.1 k).2.2.1 = 3 ∧ ty = 0 ∧ pu = false)) ∧ (pu = true → (C.2.1 k).2.2.2 = false ∨ ((sm_mi M).1.name = "<init>" ∧ C.1 = sm_cn.getD (sm_oc.getD M 0) "")) := by
  unfold ck_f at h
  rw [Bool.and_eq_true] at h
  obtain ⟨h1, h2⟩ := h
  split at h1
  · rename_i q hq
    simp only [Bool.and_eq_true, decide_eq_true_eq] at h1
    obtain ⟨⟨⟨e1, e2⟩, e3⟩, e4⟩ := h1
    have hf := List.all_eq_true.mp sm_fl_all q (List.mem_of_getElem? hq)
    rw [e3] at hf
    split at hf
    · rename_i C hC
      simp only [Bool.and_eq_true, decide_eq_true_eq, e4] at hf
      obtain ⟨⟨f1, f2⟩, f3⟩ := hf
      have f3 := ck_w_spec f3
      rw [e1, show q.2.1 = c.toNat by omega] at f3
      refine ⟨C, hC, f1, f2, f3, ?_⟩
      have hft : (sm_ft.getD ci [])[k]? = some (ck_ty (C.2.1 k).2.2.1, (C.2.1 k).2.2.2) := by
        rw [sm_ft_ok]
        simp [sm_fty, List.getD_eq_getElem?_getD, hC, f1]
      rw [hft] at h2
      simp only [Bool.and_eq_true, Bool.or_eq_true, decide_eq_true_eq, Bool.not_eq_true'] at h2
      obtain ⟨g1, g2⟩ := h2
      refine ⟨?_, fun hp => ?_⟩
      · rcases g1 with g1 | ⟨⟨g1, g3⟩, g4⟩
        · exact Or.inl g1
        · exact Or.inr ⟨g1, g3, g4⟩
      · rcases g2 with (g2 | g2) | ⟨g2, g3⟩
        · rw [hp] at g2; cases g2
        · exact Or.inl g2
        · refine Or.inr ⟨g2, ?_⟩
          have := sm_cn_cls hC
          rw [g3] at this
          rw [List.getD_eq_getElem?_getD, this]
          rfl
    · cases hf
  · cases h1
theorem sm_rr_n {ty : FieldType} {v : Value} (h : ck_rr (some ty) = true) : narrow ty v = v := by
  cases ty <;> first | rfl | cases h
theorem sm_rr_f {ty : FieldType} {v : Value} (h : ck_rr (some ty) = true) (hv : v.isRef = true) : fits ty v = true := by
  cases ty with
  | object n => cases v <;> first | rfl | (cases hv; done)
  | array n => cases v <;> first | rfl | (cases hv; done)
  | _ => cases h
set_option maxRecDepth 100000 in
theorem sm_cls_all : (List.range 13).all (fun ci => match sm_cls[ci]? with
  | some C => (List.range C.2.2).all (fun k => ck_w ((sm_lp.getD ci []).getD k 0) (u_lay C.1 C.2.1 k) && (parseFieldDescriptor (C.2.1 k).2.2.1).isSome && (decide (ck_ty (C.2.1 k).2.2.1 ≠ 2) || ck_rr (parseFieldDescriptor (C.2.1 k).2.2.1)) && decide (defaultValue ((parseFieldDescriptor (C.2.1 k).2.2.1).getD .int) = sm_dv (C.2.1 k).2.2.1) && (List.range C.2.2).all (fun j => decide (k = j) || decide ((C.2.1 k).2.1 ≠ (C.2.1 j).2.1)))
  | none => false) = true := by decide +kernel
theorem sm_cls_at {ci k : Nat} {C : vw_C} (h : sm_cls[ci]? = some C) (hk : k < C.2.2) : (ck_w ((sm_lp.getD ci []).getD k 0) (u_lay C.1 C.2.1 k) && (parseFieldDescriptor (C.2.1 k).2.2.1).isSome && (decide (ck_ty (C.2.1 k).2.2.1 ≠ 2) || ck_rr (parseFieldDescriptor (C.2.1 k).2.2.1)) && decide (defaultValue ((parseFieldDescriptor (C.2.1 k).2.2.1).getD .int) = sm_dv (C.2.1 k).2.2.1) && (List.range C.2.2).all (fun j => decide (k = j) || decide ((C.2.1 k).2.1 ≠ (C.2.1 j).2.1))) = true := by
  have h1 := List.all_eq_true.mp sm_cls_all ci (List.mem_range.mpr (sm_cls_lt h))
  rw [h] at h1
  exact List.all_eq_true.mp h1 k (List.mem_range.mpr hk)
theorem sm_cls_ok {ci : Nat} {C : String} {T : u_T} {N : Nat} (h : sm_cls[ci]? = some (C, T, N)) : (∀ w ∈ u_ws C T N, w ∈ lw_tbl.filter goodWord) ∧ (∀ k, k < N → parseFieldDescriptor (T k).2.2.1 = some ((parseFieldDescriptor (T k).2.2.1).getD .int)) ∧ (∀ a, a < N → ∀ b, b < N → a ≠ b → (T a).2.1 ≠ (T b).2.1) ∧ ∀ k, k < N → defaultValue ((parseFieldDescriptor (T k).2.2.1).getD .int) = sm_dv (T k).2.2.1 := by
  refine ⟨fun w hw => ?_, fun k hk => ?_, fun a ha b hb hab => ?_, fun k hk => ?_⟩
  · obtain ⟨k, hk, rfl⟩ := List.mem_map.mp hw
    have h1 := sm_cls_at h (k := k) (List.mem_range.mp hk)
    simp only [Bool.and_eq_true] at h1
    exact ck_w_spec h1.1.1.1.1
  · have h1 := sm_cls_at h (k := k) hk
    simp only [Bool.and_eq_true] at h1
    obtain ⟨t, ht⟩ := Option.isSome_iff_exists.mp h1.1.1.1.2
    try dsimp only at ht
    rw [ht]; rfl
  · have h1 := sm_cls_at h (k := a) ha
    simp only [Bool.and_eq_true] at h1
    have h2 := List.all_eq_true.mp h1.2 b (List.mem_range.mpr hb)
    rw [Bool.or_eq_true, decide_eq_true_eq, decide_eq_true_eq] at h2
    rcases h2 with h2 | h2
    · exact absurd h2 hab
    · exact h2
  · have h1 := sm_cls_at h (k := k) hk
    simp only [Bool.and_eq_true, decide_eq_true_eq] at h1
    exact h1.1.2
theorem sm_cls_ref {ci k : Nat} {C : vw_C} (h : sm_cls[ci]? = some C) (hk : k < C.2.2) (ht : ck_ty (C.2.1 k).2.2.1 = 2) : ∃ ty, parseFieldDescriptor (C.2.1 k).2.2.1 = some ty ∧ ck_rr (some ty) = true := by
  have h1 := sm_cls_at h hk
  simp only [Bool.and_eq_true, Bool.or_eq_true, decide_eq_true_eq] at h1
  obtain ⟨t, h2⟩ := Option.isSome_iff_exists.mp h1.1.1.1.2
  refine ⟨t, h2, ?_⟩
  rcases h1.1.1.2 with h3 | h3
  · exact absurd ht h3
  · rw [h2] at h3; exact h3
set_option maxRecDepth 100000 in
theorem sm_nw_all : sm_nw.all (fun q => match sm_cls[q.2.2.1]? with
  | some C => decide (q.2.2.2.1 = C.2.2) && ck_w q.2.2.2.2.1 (.classLink (sm_cn.getD q.1 "") q.2.1 C.1) && ck_w q.2.2.2.2.2.1 (.instantiable C.1 C.2.2) && ck_w q.2.2.2.2.2.2 (.initialized C.1)
  | none => false) = true := by decide +kernel
theorem ck_nw_spec {oc xa xb : Nat} {xc : Int} {i : Nat} (h : (match sm_nw[i]? with
    | some q => decide (q.1 = oc) && decide ((q.2.1 : Int) = xc) && decide (q.2.2.1 = xa) && decide (q.2.2.2.1 = xb)
    | none => false) = true) : ∃ C, sm_cls[xa]? = some C ∧ xb = C.2.2 ∧ Cond.classLink (sm_cn.getD oc "") xc.toNat C.1 ∈ lw_tbl.filter goodWord ∧ Cond.instantiable C.1 C.2.2 ∈ lw_tbl.filter goodWord ∧ Cond.initialized C.1 ∈ lw_tbl.filter goodWord := by
  split at h
  · rename_i q hq
    simp only [Bool.and_eq_true, decide_eq_true_eq] at h
    obtain ⟨⟨⟨e1, e2⟩, e3⟩, e4⟩ := h
    have hf := List.all_eq_true.mp sm_nw_all q (List.mem_of_getElem? hq)
    rw [e3] at hf
    split at hf
    · rename_i C hC
      simp only [Bool.and_eq_true, decide_eq_true_eq, e4] at hf
      obtain ⟨⟨⟨f1, f2⟩, f3⟩, f4⟩ := hf
      have f2 := ck_w_spec f2
      rw [e1, show q.2.1 = xc.toNat by omega] at f2
      exact ⟨C, hC, f1, f2, ck_w_spec f3, ck_w_spec f4⟩
    · cases hf
  · cases h
set_option maxRecDepth 100000 in
theorem sm_aw_all : sm_aw.all (fun q => decide (3 ≤ q.2.2.1) && decide (q.2.2.1 < 8) && ck_w q.2.2.2 (.classLink (sm_cn.getD q.1 "") q.2.1 (sm_ra.getD (q.2.2.1 - 3) ""))) = true := by decide +kernel
theorem ck_aw_spec {oc xa : Nat} {xc : Int} {i : Nat} (h : (match sm_aw[i]? with
    | some q => decide (q.1 = oc) && decide ((q.2.1 : Int) = xc) && decide (q.2.2.1 = xa)
    | none => false) = true) : ∃ C, 3 ≤ xa ∧ xa < 8 ∧ sm_ra[xa - 3]? = some C ∧ Cond.classLink (sm_cn.getD oc "") xc.toNat C ∈ lw_tbl.filter goodWord := by
  split at h
  · rename_i q hq
    simp only [Bool.and_eq_true, decide_eq_true_eq] at h
    obtain ⟨⟨e1, e2⟩, e3⟩ := h
    have hf := List.all_eq_true.mp sm_aw_all q (List.mem_of_getElem? hq)
    simp only [Bool.and_eq_true, decide_eq_true_eq, e3] at hf
    obtain ⟨⟨f1, f2⟩, f3⟩ := hf
    have f3 := ck_w_spec f3
    rw [e1, show q.2.1 = xc.toNat by omega] at f3
    obtain ⟨C, -, hC⟩ := sm_tys_get (fun _ => 0) f1 f2
    have hg : sm_ra.getD (xa - 3) "" = C := by rw [List.getD_eq_getElem?_getD, hC]; rfl
    rw [hg] at f3
    exact ⟨C, f1, f2, hC, f3⟩
  · cases h
set_option maxRecDepth 100000 in
theorem sm_oi_all : sm_oi.all (fun q => ck_w q.2.2.1 (.methodLink (sm_cn.getD q.1 "") q.2.1 Lib.objectInit) && ck_w q.2.2.2.1 (.instanceMethod Lib.objectInit) && ck_w q.2.2.2.2 (.code Lib.objectInit ⟨#[0xb1]⟩ 1 none)) = true := by decide +kernel
theorem ck_oi_spec {oc : Nat} {xc : Int} {i : Nat} (h : (match sm_oi[i]? with
    | some q => decide (q.1 = oc) && decide ((q.2.1 : Int) = xc)
    | none => false) = true) : Cond.methodLink (sm_cn.getD oc "") xc.toNat Lib.objectInit ∈ lw_tbl.filter goodWord ∧ Cond.instanceMethod Lib.objectInit ∈ lw_tbl.filter goodWord ∧ Cond.code Lib.objectInit ⟨#[0xb1]⟩ 1 none ∈ lw_tbl.filter goodWord := by
  split at h
  · rename_i q hq
    simp only [Bool.and_eq_true, decide_eq_true_eq] at h
    have hf := List.all_eq_true.mp sm_oi_all q (List.mem_of_getElem? hq)
    simp only [Bool.and_eq_true] at hf
    have f1 := ck_w_spec hf.1.1
    rw [h.1, show q.2.1 = xc.toNat by omega] at f1
    exact ⟨f1, ck_w_spec hf.1.2, ck_w_spec hf.2⟩
  · cases h
set_option maxRecDepth 100000 in
theorem sm_ac_all : sm_ac.all (fun q => ck_w q.2.2.1 (.methodLink (sm_cn.getD q.1 "") q.2.1 arraycopyName) && ck_w q.2.2.2.1 (.native arraycopyName) && ck_w q.2.2.2.2.1 (.static arraycopyName) && ck_w q.2.2.2.2.2 (.initialized "java/lang/System")) = true := by decide +kernel
theorem ck_ac_spec {oc : Nat} {xc : Int} {i : Nat} (h : (match sm_ac[i]? with
    | some q => decide (q.1 = oc) && decide ((q.2.1 : Int) = xc)
    | none => false) = true) : Cond.methodLink (sm_cn.getD oc "") xc.toNat arraycopyName ∈ lw_tbl.filter goodWord ∧ Cond.native arraycopyName ∈ lw_tbl.filter goodWord ∧ Cond.static arraycopyName ∈ lw_tbl.filter goodWord ∧ Cond.initialized "java/lang/System" ∈ lw_tbl.filter goodWord := by
  split at h
  · rename_i q hq
    simp only [Bool.and_eq_true, decide_eq_true_eq] at h
    have hf := List.all_eq_true.mp sm_ac_all q (List.mem_of_getElem? hq)
    simp only [Bool.and_eq_true] at hf
    have f1 := ck_w_spec hf.1.1.1
    rw [h.1, show q.2.1 = xc.toNat by omega] at f1
    exact ⟨f1, ck_w_spec hf.1.1.2, ck_w_spec hf.1.2, ck_w_spec hf.2⟩
  · cases h
set_option maxRecDepth 100000 in
theorem sm_az_all : sm_azp.all (fun q => ck_w q.1 (.arrayClass q.2)) = true := by decide +kernel
theorem sm_az0 : Cond.arrayClass .int ∈ lw_tbl.filter goodWord := ck_w_spec (List.all_eq_true.mp sm_az_all (sm_azp.getD 0 (0, .int)) (by simp [sm_azp]))
theorem sm_az1 : Cond.arrayClass .long ∈ lw_tbl.filter goodWord := ck_w_spec (List.all_eq_true.mp sm_az_all (sm_azp.getD 1 (0, .int)) (by simp [sm_azp]))
theorem sm_az2 : Cond.arrayClass .boolean ∈ lw_tbl.filter goodWord := ck_w_spec (List.all_eq_true.mp sm_az_all (sm_azp.getD 2 (0, .int)) (by simp [sm_azp]))
