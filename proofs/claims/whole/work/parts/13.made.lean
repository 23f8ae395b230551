/-! what is made -/
theorem sm_ws_new {cl : List vw_C} {b scr k n : Nat} {ac : Nat → ClassId} {h : sm_H} : sm_ws cl b scr ac (hnew h k n) = sm_ws cl b scr ac h ++ [(b + gN h, sm_cell cl b scr ac (hnew h k n) (gN h))] := by
  show (List.range (gN h + 1)).map _ = _
  rw [List.range_succ, List.map_append]
  congr 1
  apply List.map_congr_left
  intro a ha
  have hne : a ≠ gN h := Nat.ne_of_lt (List.mem_range.mp ha)
  congr 1
  exact sm_cell_eq (by show (if a = gN h then (k, n) else gS h a) = _; rw [if_neg hne]) (sm_ro_o hne) (sm_ro_o hne) (sm_ro_o hne)
def sm_dv (d : String) : Value := if d = "I" ∨ d = "Z" then .int 0 else if d = "J" then .long 0 else .null
theorem sm_fv_new {b scr k n j : Nat} {h : sm_H} {d : String} : sm_fv b scr (hnew h k n) (gN h) d j = sm_dv d := by
  have e1 : gI (hnew h k n) (gN h) j = 0 := by show sm_ro (gI h) (gN h) (fun _ => 0) (gN h) j = 0; rw [sm_ro_s]
  have e2 : gL (hnew h k n) (gN h) j = 0 := by show sm_ro (gL h) (gN h) (fun _ => 0) (gN h) j = 0; rw [sm_ro_s]
  have e3 : gR (hnew h k n) (gN h) j = none := by show sm_ro (gR h) (gN h) (fun _ => none) (gN h) j = none; rw [sm_ro_s]
  unfold sm_fv sm_dv
  rw [e1, e2, e3]
  rfl
theorem sm_low {s : State} {D : va_G} {cl : List vw_C} {ac : Nat → ClassId} {b scr L : Nat} {xs : Nat → Int32} {h : sm_H} {H : Heap} {locs : List Loc} (hP : sm_Y D cl ac b scr L xs h H) (hbs : b ≤ s.heap.size) (hS : va_S (sm_A b) s.heap H locs) : b + gN h ≤ H.size := by
  rcases Nat.eq_zero_or_pos (gN h) with q | q
  · have := hS.1; omega
  · have := (hP.2.1 (gN h - 1) _ (sm_ws_get (a := gN h - 1) (by omega))).lt
    dsimp only at this
    omega
theorem sm_Y_new {D : va_G} {cl : List vw_C} {ac : Nat → ClassId} {b scr L k n : Nat} {xs : Nat → Int32} {h : sm_H} {H H1 : Heap} (hP : sm_Y D cl ac b scr L xs h H) (hn : gN h < sm_S) (hz : H.size = b + gN h) (o1 : ∀ q : Nat, q < b + gN h → H1[q]? = H[q]?) (hc : va_at D cl (b + gN h, sm_cell cl b scr ac (hnew h k n) (gN h)) H1) : sm_Y D cl ac b scr L xs (hnew h k n) H1 := by
  obtain ⟨-, h2, h3, h4⟩ := hP
  have hne : sm_S ≠ gN h := by omega
  have e1 : gS (hnew h k n) sm_S = gS h sm_S := by show (if sm_S = gN h then (k, n) else gS h sm_S) = _; rw [if_neg hne]
  have e2 : gI (hnew h k n) sm_S = gI h sm_S := sm_ro_o hne
  refine ⟨hn, ?_, by rw [e1]; exact h3, by rw [e2]; exact h4⟩
  rw [sm_ws_new]
  refine (h2.kept (fun j x hx => o1 x.1 (by rw [← hz]; exact (h2 j x hx).lt))).app (fun j x hx => ?_)
  have hj : j < 1 := (List.getElem?_eq_some_iff.mp hx).1
  rw [show j = 0 by omega] at hx
  cases hx
  exact hc
theorem sm_S_new {b : Nat} {s : State} {H H1 : Heap} {locs : List Loc} (hS : va_S (sm_A b) s.heap H locs) (hz : H1.size = H.size + 1) (o1 : ∀ q : Nat, q < H.size → H1[q]? = H[q]?) : va_S (sm_A b) s.heap H1 locs :=
  ⟨Nat.le_trans hS.1 (by omega), fun x h1 h2 => (o1 x (Nat.lt_of_lt_of_le h1 hS.1)).trans (hS.2.1 x h1 h2), hS.2.2⟩
section SMA
variable {p : Program} {l : Launch} {e : Env} {R : Room} {s : State} {m : MethodId} {args : Array Value} {below : List Frame} {meth : Method} {c : Code} {Q : State → Prop} {D : va_G} {cl : List vw_C} {ac : Nat → ClassId} {b scr L nL K0 D0 : Nat} {xs : Nat → Int32} {cc : ByteArray} {pc : Nat} {ls : sm_L} {r : List Value} {h : sm_H} {tys : List (ClassId × FieldType)} {own C : String} {T : u_T} {N ci idx : Nat} {Ts : List Cond}
theorem sm_sz {H : Heap} {locs : List Loc} {cells slots : Nat} {g : JFrame} (k : H.size ≤ s.heap.size + cells → W p l e R s m args below meth c H locs cells slots Q g) : W p l e R s m args below meth c H locs cells slots Q g := by
  intro T hT X
  refine k ?_ T hT X
  have h3 := X.same.2.2.1
  have : T.heap.size ≤ s.heap.size + cells := h3
  rw [hT] at this
  exact this
theorem G_new (hx : p.tables.exec = Jvm.exec) (hb : c.code = cc) {ty : Nat → FieldType} (hts : ∀ w ∈ Ts, w.before args s = true) (hin : ∀ w ∈ u_ws C T N, w ∈ Ts) (hty : ∀ k, k < N → parseFieldDescriptor (T k).2.2.1 = some (ty k)) (hdv : ∀ k, k < N → defaultValue (ty k) = sm_dv (T k).2.2.1) (hown : s.vm.findClass own = some m.cls) (hcl : (Cond.classLink own idx C).before args s = true) (hinst : (Cond.instantiable C N).before args s = true) (hini : (Cond.initialized C).before args s = true) (hK : va_K D cl tys s) (hc : cl[ci]? = some (C, T, N))
    (hJ : gJ h = 0) (hn : gN h < sm_S) (hbs : b ≤ s.heap.size) (hsz : s.heap.size = b + K0) (h0 : K0 ≤ gN h + gJ h) (h1 : D0 ≤ gD h) (hcells : gN h + 1 + gJ h - K0 ≤ R.cells) (hslots : gD h + N - D0 ≤ R.slots) (hd : decode cc pc = .ok (.new idx, 3)) (kk : sm_G p l e R s m args below meth c Q D cl ac b scr L xs nL K0 D0 (pc + 3) ls (.ref (gN h) :: r) (hnew h (10 + ci) N)) : sm_G p l e R s m args below meth c Q D cl ac b scr L xs nL K0 D0 pc ls r h := by
  intro H locs lsA hP hS hl
  refine sm_sz (fun hup => ?_)
  have hz : H.size = b + gN h := by have := sm_low hP hbs hS; omega
  have hKn := hK.1 ci _ hc
  refine W.newcK hx hb hown hcl hinst hini rfl hd (by omega) (by omega) hKn.2.1 hz fun H1 kC hkC e1 z1 o1 => ?_
  have hY : sm_Y D cl ac b scr L xs (hnew h (10 + ci) N) H1 := by
    refine sm_Y_new hP hn hz o1 ?_
    rw [sm_cell_obj (ci := ci) (by show (if gN h = gN h then (10 + ci, N) else gS h (gN h)).1 = _; rw [if_pos rfl])]
    refine ⟨_, hc, (u_born ty hts hin hKn hkC e1 hty).to (fun j hj => ?_)⟩
    have := sm_obj_get (b := b) (scr := scr) (q := gN h) (h := hnew h (10 + ci) N) hc hj
    simp only [vp_V, List.getD_eq_getElem?_getD, this, Option.getD_some]
    rw [sm_fv_new]
    exact hdv j hj
  have k1 := kk H1 locs lsA hY (sm_S_new hS (by omega) (fun q hq => o1 q (by omega))) hl
  rw [show gN (hnew h (10 + ci) N) + gJ (hnew h (10 + ci) N) - K0 = gN h + gJ h - K0 + 1 by show gN h + 1 + gJ h - K0 = _; omega, show gD (hnew h (10 + ci) N) - D0 = gD h - D0 + N by show gD h + N - D0 = _; omega] at k1
  rw [List.map_cons, show sm_c b scr (.ref (gN h)) = .ref (b + gN h) by simp only [sm_c]; rw [sm_ad_of (n := gN h + 1) (by omega) hn]] at k1
  exact k1
theorem G_newa (hx : p.tables.exec = Jvm.exec) (hb : c.code = cc) {atype : ArrayType} {ty : FieldType} {kd : Nat} {n : Int32} (harr : (Cond.arrayClass ty).before args s = true) (hty : newarray.typeOf atype = ty) (hK : va_K D cl tys s) (ht : tys[kd]? = some (ac kd, ty)) (hkd : (kd = 0 ∧ ty = .int) ∨ (kd = 1 ∧ ty = .long) ∨ (kd = 2 ∧ ty = .boolean))
    (hJ : gJ h = 0) (hn : gN h < sm_S) (hbs : b ≤ s.heap.size) (hsz : s.heap.size = b + K0) (h0 : K0 ≤ gN h + gJ h) (h1 : D0 ≤ gD h) (hn0 : ¬ n < 0) (hn1 : n.toNatClampNeg ≤ 1000000) (hcells : gN h + 1 + gJ h - K0 ≤ R.cells) (hslots : gD h + n.toNatClampNeg - D0 ≤ R.slots) (hd : decode cc pc = .ok (.newarray atype, 2)) (kk : sm_G p l e R s m args below meth c Q D cl ac b scr L xs nL K0 D0 (pc + 2) ls (.ref (gN h) :: r) (hnew h kd n.toNatClampNeg)) : sm_G p l e R s m args below meth c Q D cl ac b scr L xs nL K0 D0 pc ls (.int n :: r) h := by
  intro H locs lsA hP hS hl
  subst hty
  refine sm_sz (fun hup => ?_)
  have hz : H.size = b + gN h := by have := sm_low hP hbs hS; omega
  refine va_newaK hx hb harr rfl hd rfl hn0 rfl ?_ (by omega) (by omega) hz fun H1 cA e1 z1 o1 hAr hNm => ?_
  · rcases hkd with ⟨-, q⟩ | ⟨-, q⟩ | ⟨-, q⟩ <;> rw [q] <;> simp only [componentBytes] <;> omega
  have hcA : cA = ac kd := by
    have hra := (hK.2 kd _ ht).2
    rcases hkd with ⟨-, q⟩ | ⟨-, q⟩ | ⟨-, q⟩ <;> rw [q] at hra hNm <;> exact Option.some.inj (hNm.symm.trans hra)
  have hY : sm_Y D cl ac b scr L xs (hnew h kd n.toNatClampNeg) H1 := by
    refine sm_Y_new hP hn hz o1 ?_
    have hk10 : kd < 10 := by omega
    rw [sm_cell_arr (k := kd) (by show (if gN h = gN h then (kd, n.toNatClampNeg) else gS h (gN h)).1 = _; rw [if_pos rfl]) hk10]
    show H1[b + gN h]? = some (vp_cell _ _)
    rw [e1, hcA]
    have e2 : (gS (hnew h kd n.toNatClampNeg) (gN h)).2 = n.toNatClampNeg := by show (if gN h = gN h then (kd, n.toNatClampNeg) else gS h (gN h)).2 = _; rw [if_pos rfl]
    have f1 : gI (hnew h kd n.toNatClampNeg) (gN h) = fun _ => 0 := sm_ro_s
    have f2 : gL (hnew h kd n.toNatClampNeg) (gN h) = fun _ => 0 := sm_ro_s
    rw [e2]
    rcases hkd with ⟨q1, q⟩ | ⟨q1, q⟩ | ⟨q1, q⟩ <;> subst q1 <;> rw [q] <;> simp only [sm_arr, f1, f2] <;> rfl
  have k1 := kk H1 locs lsA hY (sm_S_new hS (by omega) (fun q hq => o1 q (by omega))) hl
  rw [show gN (hnew h kd n.toNatClampNeg) + gJ (hnew h kd n.toNatClampNeg) - K0 = gN h + gJ h - K0 + 1 by show gN h + 1 + gJ h - K0 = _; omega, show gD (hnew h kd n.toNatClampNeg) - D0 = gD h - D0 + n.toNatClampNeg by show gD h + n.toNatClampNeg - D0 = _; omega] at k1
  rw [List.map_cons, show sm_c b scr (.ref (gN h)) = .ref (b + gN h) by simp only [sm_c]; rw [sm_ad_of (n := gN h + 1) (by omega) hn]] at k1
  exact k1
theorem G_newq (hx : p.tables.exec = Jvm.exec) (hb : c.code = cc) {kd : Nat} {n : Int32} (hown : s.vm.findClass own = some m.cls) (hclink : (Cond.classLink own idx C).before args s = true) (hover : va_AO C s) (hK : va_K D cl tys s) (ht : tys[kd]? = some (ac kd, .object C)) (h3 : 3 ≤ kd) (h10 : kd < 10)
    (hJ : gJ h = 0) (hn : gN h < sm_S) (hbs : b ≤ s.heap.size) (hsz : s.heap.size = b + K0) (h0 : K0 ≤ gN h + gJ h) (h1 : D0 ≤ gD h) (hn0 : ¬ n < 0) (hn1 : n.toNatClampNeg ≤ 1000000) (hcells : gN h + 1 + gJ h - K0 ≤ R.cells) (hslots : gD h + n.toNatClampNeg - D0 ≤ R.slots) (hd : decode cc pc = .ok (.anewarray idx, 3)) (kk : sm_G p l e R s m args below meth c Q D cl ac b scr L xs nL K0 D0 (pc + 3) ls (.ref (gN h) :: r) (hnew h kd n.toNatClampNeg)) : sm_G p l e R s m args below meth c Q D cl ac b scr L xs nL K0 D0 pc ls (.int n :: r) h := by
  intro H locs lsA hP hS hl
  refine sm_sz (fun hup => ?_)
  have hz : H.size = b + gN h := by have := sm_low hP hbs hS; omega
  refine W.anew hx hb hown hclink (va_AO.use hover) rfl hd rfl hn0 (by omega) (by omega) (by omega) fun cA kA comp f1 f2 f3 f4 => ?_
  generalize hH1 : H.push ({ cls := cA, slots := Array.replicate n.toNatClampNeg .null, vm := .none } : Cell) = H1
  have z1 : H1.size = H.size + 1 := by rw [← hH1, Array.size_push]
  have e1 : H1[H.size]? = some (arrV cA n.toNatClampNeg (fun _ => .null)) := by rw [← hH1, Array.getElem?_push_size, ← arrV_new]
  have o1 : ∀ q : Nat, q < H.size → H1[q]? = H[q]? := fun q hq => by rw [← hH1, Array.getElem?_push, if_neg (Nat.ne_of_lt hq)]
  have hcA : cA = ac kd := by
    obtain ⟨_, _, -, -, -, hra⟩ := (hK.2 kd _ ht).2
    exact Option.some.inj (f1.symm.trans hra)
  have hY : sm_Y D cl ac b scr L xs (hnew h kd n.toNatClampNeg) H1 := by
    refine sm_Y_new hP hn hz (fun q hq => o1 q (by omega)) ?_
    rw [sm_cell_arr (k := kd) (by show (if gN h = gN h then (kd, n.toNatClampNeg) else gS h (gN h)).1 = _; rw [if_pos rfl]) h10, sm_arr_R h3]
    show H1[b + gN h]? = some (vp_cell _ _)
    rw [← hz, e1, hcA, vp_cell_q]
    have e2 : (gS (hnew h kd n.toNatClampNeg) (gN h)).2 = n.toNatClampNeg := by show (if gN h = gN h then (kd, n.toNatClampNeg) else gS h (gN h)).2 = _; rw [if_pos rfl]
    have f1 : gR (hnew h kd n.toNatClampNeg) (gN h) = fun _ => none := sm_ro_s
    rw [e2, f1]
    rfl
  have k1 := kk H1 locs lsA hY (sm_S_new hS z1 o1) hl
  rw [show gN (hnew h kd n.toNatClampNeg) + gJ (hnew h kd n.toNatClampNeg) - K0 = gN h + gJ h - K0 + 1 by show gN h + 1 + gJ h - K0 = _; omega, show gD (hnew h kd n.toNatClampNeg) - D0 = gD h - D0 + n.toNatClampNeg by show gD h + n.toNatClampNeg - D0 = _; omega] at k1
  rw [List.map_cons, show sm_c b scr (.ref (gN h)) = .ref H.size by simp only [sm_c]; rw [sm_ad_of (n := gN h + 1) (by omega) hn, hz]] at k1
  exact k1
end SMA
