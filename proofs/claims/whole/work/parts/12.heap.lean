/-! the heap's instructions -/
theorem sm_ad_of {b scr q n : Nat} (h1 : q < n) (h2 : n ≤ sm_S) : sm_ad b scr q = b + q := by
  unfold sm_ad
  rw [if_neg (by omega)]
theorem sm_at_spec {h : sm_H} {q k : Nat} (hq : sm_at h q k = true) : q < gN h ∧ (gS h q).1 = k := by
  simpa [sm_at] using hq
theorem sm_in_spec {i : Int32} {n : Nat} (hi : sm_in i n = true) : vp_in i n := by
  simp only [sm_in, Bool.and_eq_true, Bool.not_eq_true', decide_eq_false_iff_not, decide_eq_true_eq] at hi
  intro q
  rcases q with q | q
  · exact hi.1 q
  · omega
theorem sm_c_rf (b scr : Nat) (r : Option Nat) : sm_c b scr (sm_rf r) = va_rf (r.map (sm_ad b scr)) := by cases r <;> rfl
theorem sm_cell_obj {cl : List vw_C} {b scr q ci : Nat} {ac : Nat → ClassId} {h : sm_H} (hk : (gS h q).1 = 10 + ci) : sm_cell cl b scr ac h q = .inr (ci, sm_obj cl b scr h q ci) := by
  unfold sm_cell
  rw [hk, if_neg (by omega), show 10 + ci - 10 = ci by omega]
theorem sm_cell_arr {cl : List vw_C} {b scr q k : Nat} {ac : Nat → ClassId} {h : sm_H} (hk : (gS h q).1 = k) (hl : k < 10) : sm_cell cl b scr ac h q = .inl (ac k, (gS h q).2, sm_arr b scr h q k) := by
  unfold sm_cell
  rw [hk, if_pos hl]
theorem sm_obj_len {cl : List vw_C} {b scr q ci N : Nat} {C : String} {T : u_T} {h : sm_H} (hc : cl[ci]? = some (C, T, N)) : (sm_obj cl b scr h q ci).length = N := by
  simp [sm_obj, hc]
theorem sm_obj_get {cl : List vw_C} {b scr q ci N k : Nat} {C : String} {T : u_T} {h : sm_H} (hc : cl[ci]? = some (C, T, N)) (hk : k < N) : (sm_obj cl b scr h q ci)[k]? = some (sm_fv b scr h q (T k).2.2.1 k) := by
  simp [sm_obj, hc, hk]
theorem sm_obj_set {cl : List vw_C} {b scr q ci N k : Nat} {C : String} {T : u_T} {h h' : sm_H} {v : Value} (hc : cl[ci]? = some (C, T, N)) (hv : sm_fv b scr h' q (T k).2.2.1 k = v) (ho : ∀ j, j ≠ k → sm_fv b scr h' q (T j).2.2.1 j = sm_fv b scr h q (T j).2.2.1 j) : sm_obj cl b scr h' q ci = (sm_obj cl b scr h q ci).set k v := by
  apply List.ext_getElem?
  intro i
  rw [List.getElem?_set]
  by_cases hi : i < N
  · rw [sm_obj_get hc hi]
    by_cases e : k = i
    · subst e
      rw [if_pos rfl, if_pos (by rw [sm_obj_len hc]; exact hi), hv]
    · rw [if_neg e, sm_obj_get hc hi, ho i (fun z => e z.symm)]
  · rw [List.getElem?_eq_none (by rw [sm_obj_len hc]; omega)]
    by_cases e : k = i
    · subst e
      rw [if_pos rfl, if_neg (by rw [sm_obj_len hc]; exact hi)]
    · rw [if_neg e, List.getElem?_eq_none (by rw [sm_obj_len hc]; omega)]
/-- h' is h but for its row q -/
def sm_ch (cl : List vw_C) (b scr : Nat) (ac : Nat → ClassId) (h h' : sm_H) (q : Nat) : Prop :=
  gN h' = gN h ∧ gS h' = gS h ∧ gJ h' = gJ h ∧ gD h' = gD h ∧ (q < sm_S → gI h' sm_S = gI h sm_S) ∧ ∀ x, x ≠ q → sm_cell cl b scr ac h' x = sm_cell cl b scr ac h x
theorem sm_ch_I {cl : List vw_C} {b scr q i : Nat} {ac : Nat → ClassId} {h : sm_H} {v : Int32} : sm_ch cl b scr ac h (setI h q i v) q :=
  ⟨rfl, rfl, rfl, rfl, fun z => sm_up_o (by omega), fun _ hx => sm_setI_o hx⟩
theorem sm_ch_L {cl : List vw_C} {b scr q i : Nat} {ac : Nat → ClassId} {h : sm_H} {v : Int64} : sm_ch cl b scr ac h (setL h q i v) q :=
  ⟨rfl, rfl, rfl, rfl, fun _ => rfl, fun _ hx => sm_setL_o hx⟩
theorem sm_ch_R {cl : List vw_C} {b scr q i : Nat} {ac : Nat → ClassId} {h : sm_H} {v : Option Nat} : sm_ch cl b scr ac h (setR h q i v) q :=
  ⟨rfl, rfl, rfl, rfl, fun _ => rfl, fun _ hx => sm_setR_o hx⟩
theorem sm_ch_rI {cl : List vw_C} {b scr q : Nat} {ac : Nat → ClassId} {h : sm_H} {g : Nat → Int32} : sm_ch cl b scr ac h (rowI h q g) q :=
  ⟨rfl, rfl, rfl, rfl, fun z => sm_ro_o (by omega), fun _ hx => sm_rowI_o hx⟩
theorem sm_ch_rL {cl : List vw_C} {b scr q : Nat} {ac : Nat → ClassId} {h : sm_H} {g : Nat → Int64} : sm_ch cl b scr ac h (rowL h q g) q :=
  ⟨rfl, rfl, rfl, rfl, fun _ => rfl, fun _ hx => sm_rowL_o hx⟩
theorem sm_Y_ch {D : va_G} {cl : List vw_C} {ac : Nat → ClassId} {b scr L q : Nat} {xs : Nat → Int32} {h h' : sm_H} {H H1 : Heap} {E : va_E} (hY : sm_Y D cl ac b scr L xs h H) (hc : sm_ch cl b scr ac h h' q) (hq : q < gN h) (hE : sm_cell cl b scr ac h' q = E) (hP : va_P D cl ((sm_ws cl b scr ac h).set q (b + q, E)) H1) : sm_Y D cl ac b scr L xs h' H1 := by
  obtain ⟨h1, -, h3, h4⟩ := hY
  obtain ⟨c1, c2, -, -, c5, c6⟩ := hc
  refine ⟨by rw [c1]; exact h1, ?_, by rw [c2]; exact h3, by rw [c5 (by omega)]; exact h4⟩
  rw [sm_ws_set c1 hq c6, hE]
  exact hP
theorem sm_fv_I {b scr q j : Nat} {h : sm_H} {d : String} (hd : d = "I" ∨ d = "Z") : sm_fv b scr h q d j = .int (gI h q j) := by
  unfold sm_fv; rw [if_pos hd]
theorem sm_fv_L {b scr q j : Nat} {h : sm_H} {d : String} (hd : d = "J") : sm_fv b scr h q d j = .long (gL h q j) := by
  subst hd; unfold sm_fv; rw [if_neg (by decide), if_pos rfl]
theorem sm_fv_R {b scr q j : Nat} {h : sm_H} {d : String} (h1 : ¬ (d = "I" ∨ d = "Z")) (h2 : ¬ d = "J") : sm_fv b scr h q d j = va_rf ((gR h q j).map (sm_ad b scr)) := by
  unfold sm_fv; rw [if_neg h1, if_neg h2]
theorem sm_fv_oI {b scr q k j : Nat} {h : sm_H} {d : String} {v : Int32} (hj : j ≠ k) : sm_fv b scr (setI h q k v) q d j = sm_fv b scr h q d j := by
  unfold sm_fv
  have : gI (setI h q k v) q j = gI h q j := by show sm_up (gI h) q k v q j = _; simp [sm_up, hj]
  rw [this]; rfl
theorem sm_fv_oL {b scr q k j : Nat} {h : sm_H} {d : String} {v : Int64} (hj : j ≠ k) : sm_fv b scr (setL h q k v) q d j = sm_fv b scr h q d j := by
  unfold sm_fv
  have : gL (setL h q k v) q j = gL h q j := by show sm_up (gL h) q k v q j = _; simp [sm_up, hj]
  rw [this]; rfl
theorem sm_fv_oR {b scr q k j : Nat} {h : sm_H} {d : String} {v : Option Nat} (hj : j ≠ k) : sm_fv b scr (setR h q k v) q d j = sm_fv b scr h q d j := by
  unfold sm_fv
  have : gR (setR h q k v) q j = gR h q j := by show sm_up (gR h) q k v q j = _; simp [sm_up, hj]
  rw [this]; rfl
theorem sm_upII {f : Nat → Nat → Int32} {q k : Nat} {v : Int32} : sm_up f q k v q k = v := by simp [sm_up]
theorem sm_upLL {f : Nat → Nat → Int64} {q k : Nat} {v : Int64} : sm_up f q k v q k = v := by simp [sm_up]
theorem sm_upRR {f : Nat → Nat → Option Nat} {q k : Nat} {v : Option Nat} : sm_up f q k v q k = v := by simp [sm_up]
section SMH
variable {p : Program} {l : Launch} {e : Env} {R : Room} {s : State} {m : MethodId} {args : Array Value} {below : List Frame} {meth : Method} {c : Code} {Q : State → Prop} {D : va_G} {cl : List vw_C} {ac : Nat → ClassId} {b scr L nL K0 D0 : Nat} {xs : Nat → Int32} {cc : ByteArray} {pc : Nat} {ls : sm_L} {r : List Value} {h h' : sm_H} {tys : List (ClassId × FieldType)} {own C : String} {T : u_T} {N ci k idx q : Nat} {Ts : List Cond}
theorem G_get (hx : p.tables.exec = Jvm.exec) (hb : c.code = cc) {v : Value} (hts : ∀ w ∈ Ts, w.before args s = true) (hin : ∀ w ∈ u_ws C T N, w ∈ Ts) (hown : s.vm.findClass own = some m.cls) (hK : va_K D cl tys s) (hc : cl[ci]? = some (C, T, N)) (hk : k < N) (hT : (T k).1 = C) (hlk : (Cond.fieldLink own idx C (T k).2.1 (T k).2.2.1).before args s = true ∨ ∃ host, (Cond.fieldLinkNest own idx C (T k).2.1 (T k).2.2.1 host).before args s = true)
    (hd : decode cc pc = .ok (.getfield idx, 3)) (hq : sm_at h q (10 + ci) = true) (hv : sm_c b scr v = sm_fv b scr h q (T k).2.2.1 k) (kk : sm_G p l e R s m args below meth c Q D cl ac b scr L xs nL K0 D0 (pc + 3) ls (v :: r) h) : sm_G p l e R s m args below meth c Q D cl ac b scr L xs nL K0 D0 pc ls (.ref q :: r) h := by
  intro H locs lsA hP hS hl
  obtain ⟨q1, q2⟩ := sm_at_spec hq
  have he := sm_ws_get (cl := cl) (b := b) (scr := scr) (ac := ac) q1
  rw [sm_cell_obj q2] at he
  have hf := sm_obj_get (b := b) (scr := scr) (q := q) (h := h) hc hk
  rw [← hv] at hf
  have k1 := kk H locs lsA hP hS hl
  simp only [List.map_cons, sm_c] at k1 ⊢
  rw [sm_ad_of q1 hP.1]
  rcases hlk with hlk | ⟨host, hlk⟩
  · exact va_get hx hb hts hin hown hK hP.2.1 q he hc k hk hlk (fun x z => by rw [hT] at z; exact z) hf hd k1
  · exact va_getN hx hb hts hin hown hK hP.2.1 q he hc k hk hlk (fun x z => by rw [hT] at z; exact z) hf hd k1
theorem G_put (hx : p.tables.exec = Jvm.exec) (hb : c.code = cc) {v : Value} {ty0 : Nat → FieldType} {ty : FieldType} (hts : ∀ w ∈ Ts, w.before args s = true) (hin : ∀ w ∈ u_ws C T N, w ∈ Ts) (hty : ∀ k, k < N → parseFieldDescriptor (T k).2.2.1 = some (ty0 k)) (hnm : ∀ a, a < N → ∀ b, b < N → a ≠ b → (T a).2.1 ≠ (T b).2.1) (hown : s.vm.findClass own = some m.cls) (hK : va_K D cl tys s) (hc : cl[ci]? = some (C, T, N)) (hk : k < N) (hT : (T k).1 = C)
    (hlk : ((Cond.fieldLink own idx C (T k).2.1 (T k).2.2.1).before args s = true ∧ ((T k).2.2.2 = false ∨ ((T k).2.2.2 = true ∧ meth.name = "<init>" ∧ C = own))) ∨ ((T k).2.2.2 = false ∧ ∃ host, (Cond.fieldLinkNest own idx C (T k).2.1 (T k).2.2.1 host).before args s = true))
    (hdt : parseFieldDescriptor (T k).2.2.1 = some ty) (hn : narrow ty (sm_c b scr v) = sm_c b scr v) (hfit : fits ty (sm_c b scr v) = true)
    (hd : decode cc pc = .ok (.putfield idx, 3)) (hq : sm_at h q (10 + ci) = true) (hch : sm_ch cl b scr ac h h' q) (ho : sm_obj cl b scr h' q ci = (sm_obj cl b scr h q ci).set k (sm_c b scr v)) (kk : sm_G p l e R s m args below meth c Q D cl ac b scr L xs nL K0 D0 (pc + 3) ls r h') : sm_G p l e R s m args below meth c Q D cl ac b scr L xs nL K0 D0 pc ls (v :: .ref q :: r) h := by
  intro H locs lsA hP hS hl
  obtain ⟨q1, q2⟩ := sm_at_spec hq
  have he := sm_ws_get (cl := cl) (b := b) (scr := scr) (ac := ac) q1
  rw [sm_cell_obj q2] at he
  have hE : sm_cell cl b scr ac h' q = .inr (ci, (sm_obj cl b scr h q ci).set k (sm_c b scr v)) := by
    rw [sm_cell_obj (ci := ci) (by rw [hch.2.1]; exact q2), ho]
  have kq : ∀ (H1 : Heap) (locs1 : List Loc), va_P D cl ((sm_ws cl b scr ac h).set q (b + q, .inr (ci, (sm_obj cl b scr h q ci).set k (sm_c b scr v)))) H1 → va_D (sm_A b) ((sm_ws cl b scr ac h).set q (b + q, .inr (ci, (sm_obj cl b scr h q ci).set k (sm_c b scr v)))) → va_S (sm_A b) s.heap H1 locs1 → W p l e R s m args below meth c H1 locs1 (gN h + gJ h - K0) (gD h - D0) Q (F0 m (pc + 3) lsA (r.map (sm_c b scr))) := by
    intro H1 locs1 hP1 _ hS1
    have k1 := kk H1 locs1 lsA (sm_Y_ch hP hch q1 hE hP1) hS1 hl
    rw [hch.1, hch.2.2.1, hch.2.2.2.1] at k1
    exact k1
  have hlen : k < (sm_obj cl b scr h q ci).length := by rw [sm_obj_len hc]; exact hk
  have hsame : ∀ x, s.fieldFound? (T k).1 (T k).2.1 (T k).2.2.1 = some x → s.fieldFound? C (T k).2.1 (T k).2.2.1 = some x := fun x z => by rw [hT] at z; exact z
  simp only [List.map_cons]
  rw [show sm_c b scr (.ref q) = .ref (b + q) by simp only [sm_c]; rw [sm_ad_of q1 hP.1]]
  rcases hlk with ⟨hlk, hfn | ⟨hfn, hini, hCo⟩⟩ | ⟨hfn, host, hlk⟩
  · exact va_put hx hb hts hin ty0 hty hnm hown hK hP.2.1 sm_ws_D hS q he hc k hk hlk hsame hfn hdt hn hfit hlen hd kq
  · exact va_putF hx hb hts hin ty0 hty hnm hown hK hP.2.1 sm_ws_D hS q he hc k hk hlk hsame hfn hini (hT.trans hCo) hdt hn hfit hlen hd kq
  · exact va_putN hx hb hts hin ty0 hty hnm hown hK hP.2.1 sm_ws_D hS q he hc k hk hlk hsame hfn hdt hn hfit hlen hd kq
theorem G_iald (hx : p.tables.exec = Jvm.exec) (hb : c.code = cc) {i : Int32} (hK : va_K D cl tys s) (ht : tys[0]? = some (ac 0, .int)) (hd : decode cc pc = .ok (.iaload, 1)) (hq : sm_at h q 0 = true) (hi : sm_in i (gS h q).2 = true) (kk : sm_G p l e R s m args below meth c Q D cl ac b scr L xs nL K0 D0 (pc + 1) ls (.int (gI h q i.toNatClampNeg) :: r) h) : sm_G p l e R s m args below meth c Q D cl ac b scr L xs nL K0 D0 pc ls (.int i :: .ref q :: r) h := by
  intro H locs lsA hP hS hl
  obtain ⟨q1, q2⟩ := sm_at_spec hq
  have he := sm_ws_get (cl := cl) (b := b) (scr := scr) (ac := ac) q1
  rw [sm_cell_arr q2 (by decide)] at he
  have k1 := kk H locs lsA hP hS hl
  simp only [List.map_cons, sm_c] at k1 ⊢
  rw [sm_ad_of q1 hP.1]
  exact va_iald hx hb hK hP.2.1 q 0 (f := gI h q) he ht (sm_in_spec hi) hd k1
theorem G_sald (hx : p.tables.exec = Jvm.exec) (hb : c.code = cc) {i : Int32} (hbs : scr < b ∧ b ≤ s.heap.size) (hX : va_X scr L xs s s.heap) (hd : decode cc pc = .ok (.iaload, 1)) (hi : sm_in i (gS h sm_S).2 = true) (kk : sm_G p l e R s m args below meth c Q D cl ac b scr L xs nL K0 D0 (pc + 1) ls (.int (gI h sm_S i.toNatClampNeg) :: r) h) : sm_G p l e R s m args below meth c Q D cl ac b scr L xs nL K0 D0 pc ls (.int i :: .ref sm_S :: r) h := by
  intro H locs lsA hP hS hl
  have k1 := kk H locs lsA hP hS hl
  simp only [List.map_cons, sm_c] at k1 ⊢
  rw [show sm_ad b scr sm_S = scr by simp [sm_ad]]
  rw [hP.2.2.2] at k1
  rw [hP.2.2.1] at hi
  exact va_sld hx hb hX (Nat.lt_of_lt_of_le hbs.1 hbs.2) (Nat.not_le.mpr hbs.1) hS (sm_in_spec hi) hd k1
theorem G_slen (hx : p.tables.exec = Jvm.exec) (hb : c.code = cc) (hbs : scr < b ∧ b ≤ s.heap.size) (hX : va_X scr L xs s s.heap) (hd : decode cc pc = .ok (.arraylength, 1)) (kk : sm_G p l e R s m args below meth c Q D cl ac b scr L xs nL K0 D0 (pc + 1) ls (.int (Int32.ofNat (gS h sm_S).2) :: r) h) : sm_G p l e R s m args below meth c Q D cl ac b scr L xs nL K0 D0 pc ls (.ref sm_S :: r) h := by
  intro H locs lsA hP hS hl
  have k1 := kk H locs lsA hP hS hl
  simp only [List.map_cons, sm_c] at k1 ⊢
  rw [show sm_ad b scr sm_S = scr by simp [sm_ad]]
  rw [hP.2.2.1] at k1
  exact va_slen hx hb hX (Nat.lt_of_lt_of_le hbs.1 hbs.2) (Nat.not_le.mpr hbs.1) hS hd k1
theorem G_alen (hx : p.tables.exec = Jvm.exec) (hb : c.code = cc) {ty : FieldType} (hK : va_K D cl tys s) {n : Nat} (hn : (gS h q).1 = n) (hn2 : n < 10) (ht : tys[n]? = some (ac n, ty)) (hd : decode cc pc = .ok (.arraylength, 1)) (q1 : q < gN h) (kk : sm_G p l e R s m args below meth c Q D cl ac b scr L xs nL K0 D0 (pc + 1) ls (.int (Int32.ofNat (gS h q).2) :: r) h) : sm_G p l e R s m args below meth c Q D cl ac b scr L xs nL K0 D0 pc ls (.ref q :: r) h := by
  intro H locs lsA hP hS hl
  have he := sm_ws_get (cl := cl) (b := b) (scr := scr) (ac := ac) q1
  rw [sm_cell_arr hn hn2] at he
  have k1 := kk H locs lsA hP hS hl
  simp only [List.map_cons, sm_c] at k1 ⊢
  rw [sm_ad_of q1 hP.1]
  exact va_alen hx hb hK hP.2.1 q n he ht rfl hd k1
theorem G_lald (hx : p.tables.exec = Jvm.exec) (hb : c.code = cc) {i : Int32} (hK : va_K D cl tys s) (ht : tys[1]? = some (ac 1, .long)) (hd : decode cc pc = .ok (.laload, 1)) (hq : sm_at h q 1 = true) (hi : sm_in i (gS h q).2 = true) (kk : sm_G p l e R s m args below meth c Q D cl ac b scr L xs nL K0 D0 (pc + 1) ls (.long (gL h q i.toNatClampNeg) :: r) h) : sm_G p l e R s m args below meth c Q D cl ac b scr L xs nL K0 D0 pc ls (.int i :: .ref q :: r) h := by
  intro H locs lsA hP hS hl
  obtain ⟨q1, q2⟩ := sm_at_spec hq
  have he := sm_ws_get (cl := cl) (b := b) (scr := scr) (ac := ac) q1
  rw [sm_cell_arr q2 (by decide)] at he
  have k1 := kk H locs lsA hP hS hl
  simp only [List.map_cons, sm_c] at k1 ⊢
  rw [sm_ad_of q1 hP.1]
  exact va_lald hx hb hK hP.2.1 q 1 (f := gL h q) he ht (sm_in_spec hi) hd k1
theorem G_zald (hx : p.tables.exec = Jvm.exec) (hb : c.code = cc) {i : Int32} (hK : va_K D cl tys s) (ht : tys[2]? = some (ac 2, .boolean)) (hd : decode cc pc = .ok (.baload, 1)) (hq : sm_at h q 2 = true) (hi : sm_in i (gS h q).2 = true) (kk : sm_G p l e R s m args below meth c Q D cl ac b scr L xs nL K0 D0 (pc + 1) ls (.int (gI h q i.toNatClampNeg) :: r) h) : sm_G p l e R s m args below meth c Q D cl ac b scr L xs nL K0 D0 pc ls (.int i :: .ref q :: r) h := by
  intro H locs lsA hP hS hl
  obtain ⟨q1, q2⟩ := sm_at_spec hq
  have he := sm_ws_get (cl := cl) (b := b) (scr := scr) (ac := ac) q1
  rw [sm_cell_arr q2 (by decide)] at he
  have k1 := kk H locs lsA hP hS hl
  simp only [List.map_cons, sm_c] at k1 ⊢
  rw [sm_ad_of q1 hP.1]
  exact va_zald hx hb hK hP.2.1 q 2 (f := gI h q) he ht (sm_in_spec hi) hd k1
theorem sm_arr_R {a n : Nat} (h1 : 3 ≤ n) : sm_arr b scr h a n = .inr (.inr (.inr (.inr (fun j => (gR h a j).map (sm_ad b scr))))) := by
  unfold sm_arr
  rw [if_neg (by omega), if_neg (by omega)]
theorem G_aald (hx : p.tables.exec = Jvm.exec) (hb : c.code = cc) {i : Int32} {n : Nat} (hK : va_K D cl tys s) (h3 : 3 ≤ n) (h10 : n < 10) (ht : tys[n]? = some (ac n, .object C)) (hd : decode cc pc = .ok (.aaload, 1)) (hq : sm_at h q n = true) (hi : sm_in i (gS h q).2 = true) (kk : sm_G p l e R s m args below meth c Q D cl ac b scr L xs nL K0 D0 (pc + 1) ls (sm_rf (gR h q i.toNatClampNeg) :: r) h) : sm_G p l e R s m args below meth c Q D cl ac b scr L xs nL K0 D0 pc ls (.int i :: .ref q :: r) h := by
  intro H locs lsA hP hS hl
  obtain ⟨q1, q2⟩ := sm_at_spec hq
  have he := sm_ws_get (cl := cl) (b := b) (scr := scr) (ac := ac) q1
  rw [sm_cell_arr q2 h10, sm_arr_R h3] at he
  have k1 := kk H locs lsA hP hS hl
  rw [List.map_cons, sm_c_rf] at k1
  simp only [List.map_cons, sm_c]
  rw [sm_ad_of q1 hP.1]
  exact va_aldq hx hb hK hP.2.1 q n he ht (sm_in_spec hi) hd k1
theorem G_iast (hx : p.tables.exec = Jvm.exec) (hb : c.code = cc) {i x : Int32} (hK : va_K D cl tys s) (ht : tys[0]? = some (ac 0, .int)) (hd : decode cc pc = .ok (.iastore, 1)) (hq : sm_at h q 0 = true) (hi : sm_in i (gS h q).2 = true) (kk : sm_G p l e R s m args below meth c Q D cl ac b scr L xs nL K0 D0 (pc + 1) ls r (setI h q i.toNatClampNeg x)) : sm_G p l e R s m args below meth c Q D cl ac b scr L xs nL K0 D0 pc ls (.int x :: .int i :: .ref q :: r) h := by
  intro H locs lsA hP hS hl
  obtain ⟨q1, q2⟩ := sm_at_spec hq
  have he := sm_ws_get (cl := cl) (b := b) (scr := scr) (ac := ac) q1
  rw [sm_cell_arr q2 (by decide)] at he
  simp only [List.map_cons, sm_c]
  rw [sm_ad_of q1 hP.1]
  refine va_iast hx hb hK hP.2.1 sm_ws_D hS q 0 (f := gI h q) he ht (sm_in_spec hi) hd (fun H1 locs1 hP1 _ hS1 => ?_)
  refine kk H1 locs1 lsA (sm_Y_ch hP sm_ch_I q1 ?_ hP1) hS1 hl
  rw [sm_cell_arr (h := setI h q i.toNatClampNeg x) (k := 0) q2 (by decide)]
  show Sum.inl (ac 0, (gS h q).2, Sum.inl (sm_up (gI h) q i.toNatClampNeg x q)) = _
  rw [sm_up_s]; rfl
theorem G_last (hx : p.tables.exec = Jvm.exec) (hb : c.code = cc) {i : Int32} {x : Int64} (hK : va_K D cl tys s) (ht : tys[1]? = some (ac 1, .long)) (hd : decode cc pc = .ok (.lastore, 1)) (hq : sm_at h q 1 = true) (hi : sm_in i (gS h q).2 = true) (kk : sm_G p l e R s m args below meth c Q D cl ac b scr L xs nL K0 D0 (pc + 1) ls r (setL h q i.toNatClampNeg x)) : sm_G p l e R s m args below meth c Q D cl ac b scr L xs nL K0 D0 pc ls (.long x :: .int i :: .ref q :: r) h := by
  intro H locs lsA hP hS hl
  obtain ⟨q1, q2⟩ := sm_at_spec hq
  have he := sm_ws_get (cl := cl) (b := b) (scr := scr) (ac := ac) q1
  rw [sm_cell_arr q2 (by decide)] at he
  simp only [List.map_cons, sm_c]
  rw [sm_ad_of q1 hP.1]
  refine va_last hx hb hK hP.2.1 sm_ws_D hS q 1 (f := gL h q) he ht (sm_in_spec hi) hd (fun H1 locs1 hP1 _ hS1 => ?_)
  refine kk H1 locs1 lsA (sm_Y_ch hP sm_ch_L q1 ?_ hP1) hS1 hl
  rw [sm_cell_arr (h := setL h q i.toNatClampNeg x) (k := 1) q2 (by decide)]
  show Sum.inl (ac 1, (gS h q).2, Sum.inr (Sum.inl (sm_up (gL h) q i.toNatClampNeg x q))) = _
  rw [sm_up_s]; rfl
theorem G_zast (hx : p.tables.exec = Jvm.exec) (hb : c.code = cc) {i x : Int32} (hK : va_K D cl tys s) (ht : tys[2]? = some (ac 2, .boolean)) (hd : decode cc pc = .ok (.bastore, 1)) (hq : sm_at h q 2 = true) (hi : sm_in i (gS h q).2 = true) (h01 : x = 0 ∨ x = 1) (kk : sm_G p l e R s m args below meth c Q D cl ac b scr L xs nL K0 D0 (pc + 1) ls r (setI h q i.toNatClampNeg x)) : sm_G p l e R s m args below meth c Q D cl ac b scr L xs nL K0 D0 pc ls (.int x :: .int i :: .ref q :: r) h := by
  intro H locs lsA hP hS hl
  obtain ⟨q1, q2⟩ := sm_at_spec hq
  have he := sm_ws_get (cl := cl) (b := b) (scr := scr) (ac := ac) q1
  rw [sm_cell_arr q2 (by decide)] at he
  simp only [List.map_cons, sm_c]
  rw [sm_ad_of q1 hP.1]
  refine va_zast hx hb hK hP.2.1 sm_ws_D hS q 2 (f := gI h q) he ht (sm_in_spec hi) hd (fun H1 locs1 hP1 _ hS1 => ?_)
  have hnx : vp_nar .boolean x = x := by rcases h01 with rfl | rfl <;> decide +kernel
  rw [hnx] at hP1
  refine kk H1 locs1 lsA (sm_Y_ch hP sm_ch_I q1 ?_ hP1) hS1 hl
  rw [sm_cell_arr (h := setI h q i.toNatClampNeg x) (k := 2) q2 (by decide)]
  show Sum.inl (ac 2, (gS h q).2, Sum.inl (sm_up (gI h) q i.toNatClampNeg x q)) = _
  rw [sm_up_s]; rfl
theorem G_aast (hx : p.tables.exec = Jvm.exec) (hb : c.code = cc) {i : Int32} {n x ck : Nat} {rC : vw_C} (hK : va_K D cl tys s) (h3 : 3 ≤ n) (h10 : n < 10) (hc : cl[ck]? = some rC) (ht : tys[n]? = some (ac n, .object rC.1)) (hd : decode cc pc = .ok (.aastore, 1)) (hq : sm_at h q n = true) (hi : sm_in i (gS h q).2 = true) (hxo : sm_at h x (10 + ck) = true) (kk : sm_G p l e R s m args below meth c Q D cl ac b scr L xs nL K0 D0 (pc + 1) ls r (setR h q i.toNatClampNeg (some x))) : sm_G p l e R s m args below meth c Q D cl ac b scr L xs nL K0 D0 pc ls (.ref x :: .int i :: .ref q :: r) h := by
  intro H locs lsA hP hS hl
  obtain ⟨q1, q2⟩ := sm_at_spec hq
  obtain ⟨x1, x2⟩ := sm_at_spec hxo
  have he := sm_ws_get (cl := cl) (b := b) (scr := scr) (ac := ac) q1
  rw [sm_cell_arr q2 h10, sm_arr_R h3] at he
  have hv := sm_ws_get (cl := cl) (b := b) (scr := scr) (ac := ac) x1
  rw [sm_cell_obj x2] at hv
  simp only [List.map_cons, sm_c]
  rw [sm_ad_of q1 hP.1, sm_ad_of x1 hP.1]
  refine va_astq hx hb hK hP.2.1 sm_ws_D hS q n x ck he ht hv hc (sm_in_spec hi) hd (fun H1 locs1 hP1 _ hS1 => ?_)
  refine kk H1 locs1 lsA (sm_Y_ch hP sm_ch_R q1 ?_ hP1) hS1 hl
  rw [sm_cell_arr (h := setR h q i.toNatClampNeg (some x)) (k := n) q2 h10, sm_arr_R h3]
  show Sum.inl (ac n, (gS h q).2, Sum.inr (Sum.inr (Sum.inr (Sum.inr (fun j => (sm_up (gR h) q i.toNatClampNeg (some x) q j).map (sm_ad b scr)))))) = _
  refine congrArg (fun f => (Sum.inl (ac n, (gS h q).2, Sum.inr (Sum.inr (Sum.inr (Sum.inr f)))) : va_E)) ?_
  funext j
  simp only [sm_up, va_up, true_and]
  by_cases hj : j = i.toNatClampNeg
  · rw [if_pos hj, if_pos hj, Option.map_some, sm_ad_of x1 hP.1]
  · rw [if_neg hj, if_neg hj]
theorem G_cpI (hx : p.tables.exec = Jvm.exec) (hb : c.code = cc) {sp dp n : Int32} {q0 q1 : Nat} (hml : c.maxLocals = nL) (hK : va_K D cl tys s) (ht : tys[0]? = some (ac 0, .int)) (hown : s.vm.findClass own = some m.cls) (w1 : (Cond.methodLink own idx arraycopyName).before args s = true) (w2 : (Cond.native arraycopyName).before args s = true) (w3 : (Cond.static arraycopyName).before args s = true) (w4 : (Cond.initialized "java/lang/System").before args s = true)
    (hf : 1 ≤ R.frames) (hlo : 26 ≤ R.locals) (hwt : sm_wt r ≤ 8) (hd : decode cc pc = .ok (.invokestatic idx, 3)) (h0 : sm_at h q0 0 = true) (h1 : sm_at h q1 0 = true) (n1 : ¬ sp < 0) (n2 : ¬ dp < 0) (n3 : ¬ n < 0) (n4 : sp.toNatClampNeg + n.toNatClampNeg ≤ (gS h q0).2) (n5 : dp.toNatClampNeg + n.toNatClampNeg ≤ (gS h q1).2)
    (kk : sm_G p l e R s m args below meth c Q D cl ac b scr L xs nL K0 D0 (pc + 3) ls r (sm_cpI h q0 sp.toNatClampNeg q1 dp.toNatClampNeg n.toNatClampNeg)) : sm_G p l e R s m args below meth c Q D cl ac b scr L xs nL K0 D0 pc ls (.int n :: .int dp :: .ref q1 :: .int sp :: .ref q0 :: r) h := by
  intro H locs lsA hP hS hl
  obtain ⟨a1, a2⟩ := sm_at_spec h0
  obtain ⟨b1, b2⟩ := sm_at_spec h1
  have he := sm_ws_get (cl := cl) (b := b) (scr := scr) (ac := ac) a1
  rw [sm_cell_arr a2 (by decide)] at he
  have hv := sm_ws_get (cl := cl) (b := b) (scr := scr) (ac := ac) b1
  rw [sm_cell_arr b2 (by decide)] at hv
  have hwr : ((r.map (sm_c b scr)).map fun v => v.category).sum ≤ 8 := by
    rw [List.map_map]; simpa [sm_wt, Function.comp_def, sm_c_cat] using hwt
  simp only [List.map_cons, sm_c]
  rw [sm_ad_of a1 hP.1, sm_ad_of b1 hP.1]
  refine va_copyi hx hb (hml.trans hl.2.1.symm) hown w1 w2 w3 w4 hK hP.2.1 sm_ws_D hS q0 q1 0 0 (f := gI h q0) (g := gI h q1) (ty := .int) he hv ht ht (by decide) n1 n2 n3 n4 n5 (fun _ _ => rfl) hf (by have hw9 : nativeFrameWords "java/lang/System" "arraycopy" 5 = 7 := (by decide +kernel); omega) hd (fun H1 locs1 hP1 _ hS1 => ?_)
  refine kk H1 locs1 lsA (sm_Y_ch hP sm_ch_rI b1 ?_ hP1) hS1 hl
  rw [sm_cell_arr (h := sm_cpI h q0 sp.toNatClampNeg q1 dp.toNatClampNeg n.toNatClampNeg) (k := 0) b2 (by decide)]
  show Sum.inl (ac 0, (gS h q1).2, Sum.inl (sm_ro (gI h) q1 (va_cpy (gI h q0) (gI h q1) sp.toNatClampNeg dp.toNatClampNeg n.toNatClampNeg) q1)) = _
  rw [sm_ro_s]
theorem G_cpL (hx : p.tables.exec = Jvm.exec) (hb : c.code = cc) {sp dp n : Int32} {q0 q1 : Nat} (hml : c.maxLocals = nL) (hK : va_K D cl tys s) (ht : tys[1]? = some (ac 1, .long)) (hown : s.vm.findClass own = some m.cls) (w1 : (Cond.methodLink own idx arraycopyName).before args s = true) (w2 : (Cond.native arraycopyName).before args s = true) (w3 : (Cond.static arraycopyName).before args s = true) (w4 : (Cond.initialized "java/lang/System").before args s = true)
    (hf : 1 ≤ R.frames) (hlo : 26 ≤ R.locals) (hwt : sm_wt r ≤ 8) (hd : decode cc pc = .ok (.invokestatic idx, 3)) (h0 : sm_at h q0 1 = true) (h1 : sm_at h q1 1 = true) (n1 : ¬ sp < 0) (n2 : ¬ dp < 0) (n3 : ¬ n < 0) (n4 : sp.toNatClampNeg + n.toNatClampNeg ≤ (gS h q0).2) (n5 : dp.toNatClampNeg + n.toNatClampNeg ≤ (gS h q1).2)
    (kk : sm_G p l e R s m args below meth c Q D cl ac b scr L xs nL K0 D0 (pc + 3) ls r (sm_cpL h q0 sp.toNatClampNeg q1 dp.toNatClampNeg n.toNatClampNeg)) : sm_G p l e R s m args below meth c Q D cl ac b scr L xs nL K0 D0 pc ls (.int n :: .int dp :: .ref q1 :: .int sp :: .ref q0 :: r) h := by
  intro H locs lsA hP hS hl
  obtain ⟨a1, a2⟩ := sm_at_spec h0
  obtain ⟨b1, b2⟩ := sm_at_spec h1
  have he := sm_ws_get (cl := cl) (b := b) (scr := scr) (ac := ac) a1
  rw [sm_cell_arr a2 (by decide)] at he
  have hv := sm_ws_get (cl := cl) (b := b) (scr := scr) (ac := ac) b1
  rw [sm_cell_arr b2 (by decide)] at hv
  have hwr : ((r.map (sm_c b scr)).map fun v => v.category).sum ≤ 8 := by
    rw [List.map_map]; simpa [sm_wt, Function.comp_def, sm_c_cat] using hwt
  simp only [List.map_cons, sm_c]
  rw [sm_ad_of a1 hP.1, sm_ad_of b1 hP.1]
  refine va_copyl hx hb (hml.trans hl.2.1.symm) hown w1 w2 w3 w4 hK hP.2.1 sm_ws_D hS q0 q1 1 1 (f := gL h q0) (g := gL h q1) (ty := .long) he hv ht ht (by decide) n1 n2 n3 n4 n5 (fun _ _ => rfl) hf (by have hw9 : nativeFrameWords "java/lang/System" "arraycopy" 5 = 7 := (by decide +kernel); omega) hd (fun H1 locs1 hP1 _ hS1 => ?_)
  refine kk H1 locs1 lsA (sm_Y_ch hP sm_ch_rL b1 ?_ hP1) hS1 hl
  rw [sm_cell_arr (h := sm_cpL h q0 sp.toNatClampNeg q1 dp.toNatClampNeg n.toNatClampNeg) (k := 1) b2 (by decide)]
  show Sum.inl (ac 1, (gS h q1).2, Sum.inr (Sum.inl (sm_ro (gL h) q1 (va_cpy (gL h q0) (gL h q1) sp.toNatClampNeg dp.toNatClampNeg n.toNatClampNeg) q1))) = _
  rw [sm_ro_s]
theorem G_obj (hx : p.tables.exec = Jvm.exec) (hb : c.code = cc) (hml : c.maxLocals = nL) (hown : s.vm.findClass own = some m.cls) (w1 : (Cond.methodLink own idx Lib.objectInit).before args s = true) (w2 : (Cond.instanceMethod Lib.objectInit).before args s = true) (w3 : (Cond.code Lib.objectInit ⟨#[0xb1]⟩ 1 none).before args s = true) (hf : 1 ≤ R.frames) (hlo : 26 ≤ R.locals) (hwt : sm_wt r ≤ 8) (hd : decode cc pc = .ok (.invokespecial idx, 3)) (kk : sm_G p l e R s m args below meth c Q D cl ac b scr L xs nL K0 D0 (pc + 3) ls r h) : sm_G p l e R s m args below meth c Q D cl ac b scr L xs nL K0 D0 pc ls (.ref q :: r) h := by
  intro H locs lsA hP hS hl
  have hwr : ((r.map (sm_c b scr)).map fun v => v.category).sum ≤ 8 := by
    rw [List.map_map]; simpa [sm_wt, Function.comp_def, sm_c_cat] using hwt
  refine W.objInit hx hb hown w1 w2 w3 rfl (hl.2.1.trans hml.symm) rfl hd hf ?_ (kk H locs lsA hP hS hl)
  have := lv_room (m := m) (pc := pc) (ls := lsA) (rest := (Value.ref q :: r).map (sm_c b scr)) hwr
  omega
theorem G_min (hx : p.tables.exec = Jvm.exec) (hb : c.code = cc) {x y : Int32} (hml : c.maxLocals = nL) (hown : s.vm.findClass own = some m.cls) (w1 : (Cond.methodLink own idx Lib.Math.min.name).before args s = true) (w2 : (Cond.static Lib.Math.min.name).before args s = true) (w3 : (Cond.initialized "java/lang/Math").before args s = true) (w4 : (Cond.code Lib.Math.min.name Lib.Math.min.code 2 (some .int)).before args s = true) (hf : 1 ≤ R.frames) (hlo : 26 ≤ R.locals) (hwt : sm_wt r ≤ 8) (hbc : gN h + gJ h - K0 ≤ R.cells) (hbd : gD h - D0 ≤ R.slots) (hd : decode cc pc = .ok (.invokestatic idx, 3)) (kk : sm_G p l e R s m args below meth c Q D cl ac b scr L xs nL K0 D0 (pc + 3) ls (.int (if y < x then y else x) :: r) h) : sm_G p l e R s m args below meth c Q D cl ac b scr L xs nL K0 D0 pc ls (.int y :: .int x :: r) h := by
  intro H locs lsA hP hS hl
  have hwr : ((r.map (sm_c b scr)).map fun v => v.category).sum ≤ 8 := by
    rw [List.map_map]; simpa [sm_wt, Function.comp_def, sm_c_cat] using hwt
  exact va_mmin hx hb (hml.trans hl.2.1.symm) hown w1 w2 w3 w4 hf (by omega) hbc hbd hd (kk H locs lsA hP hS hl)
end SMH
