/-! from a pure state on, the machine comes to Q: a row for each instruction -/
section SMG
variable (p : Program) (l : Launch) (e : Env) (R : Room) (s : State) (m : MethodId) (args : Array Value) (below : List Frame) (meth : Method) (c : Code) (Q : State → Prop) (D : va_G) (cl : List vw_C) (ac : Nat → ClassId) (b scr L : Nat) (xs : Nat → Int32) (nL K0 D0 : Nat)
def sm_Y (h : sm_H) (H : Heap) : Prop := gN h ≤ sm_S ∧ va_P D cl (sm_ws cl b scr ac h) H ∧ gS h sm_S = (0, L) ∧ gI h sm_S = xs
def sm_G (pc : Nat) (ls : sm_L) (st : List Value) (h : sm_H) : Prop :=
  ∀ (H : Heap) (locs : List Loc) (lsA : Array Slot), sm_Y D cl ac b scr L xs h H → va_S (sm_A b) s.heap H locs → sm_lv b scr lsA nL ls →
    W p l e R s m args below meth c H locs (gN h + gJ h - K0) (gD h - D0) Q (F0 m pc lsA (st.map (sm_c b scr)))
end SMG
section SMR
variable {p : Program} {l : Launch} {e : Env} {R : Room} {s : State} {m : MethodId} {args : Array Value} {below : List Frame} {meth : Method} {c : Code} {Q : State → Prop} {D : va_G} {cl : List vw_C} {ac : Nat → ClassId} {b scr L nL K0 D0 : Nat} {xs : Nat → Int32} {cc : ByteArray} {pc : Nat} {ls : sm_L} {r : List Value} {h : sm_H}
theorem G_iconst (hx : p.tables.exec = Jvm.exec) (hb : c.code = cc) {n : Int} {v : Int32} (hd : decode cc pc = .ok (.iconst n, 1)) (hv : Int32.ofInt n = v) (k : sm_G p l e R s m args below meth c Q D cl ac b scr L xs nL K0 D0 (pc + 1) ls (.int v :: r) h) : sm_G p l e R s m args below meth c Q D cl ac b scr L xs nL K0 D0 pc ls r h :=
  fun H locs lsA hP hS hl => lv_iconst hx hb hd hv (k H locs lsA hP hS hl)
theorem G_bipush (hx : p.tables.exec = Jvm.exec) (hb : c.code = cc) {n : Int} {v : Int32} (hd : decode cc pc = .ok (.bipush n, 2)) (hv : (Int8.ofInt n).toInt32 = v) (k : sm_G p l e R s m args below meth c Q D cl ac b scr L xs nL K0 D0 (pc + 2) ls (.int v :: r) h) : sm_G p l e R s m args below meth c Q D cl ac b scr L xs nL K0 D0 pc ls r h :=
  fun H locs lsA hP hS hl => lv_bipush hx hb hd hv (k H locs lsA hP hS hl)
theorem G_sipush (hx : p.tables.exec = Jvm.exec) (hb : c.code = cc) {n : Int} {v : Int32} (hd : decode cc pc = .ok (.sipush n, 3)) (hv : (Int16.ofInt n).toInt32 = v) (k : sm_G p l e R s m args below meth c Q D cl ac b scr L xs nL K0 D0 (pc + 3) ls (.int v :: r) h) : sm_G p l e R s m args below meth c Q D cl ac b scr L xs nL K0 D0 pc ls r h :=
  fun H locs lsA hP hS hl => lv_sipush hx hb hd hv (k H locs lsA hP hS hl)
theorem G_ldc (hx : p.tables.exec = Jvm.exec) (hb : c.code = cc) {own : String} {i : Nat} {v : Int32} (hown : s.vm.findClass own = some m.cls) (hw : (Jvm.Cond.constant own i v).before args s = true) (hd : decode cc pc = .ok (.ldc i, 2)) (k : sm_G p l e R s m args below meth c Q D cl ac b scr L xs nL K0 D0 (pc + 2) ls (.int v :: r) h) : sm_G p l e R s m args below meth c Q D cl ac b scr L xs nL K0 D0 pc ls r h :=
  fun H locs lsA hP hS hl => lv_ldc hx hb hown hw hd (k H locs lsA hP hS hl)
theorem G_ldcw (hx : p.tables.exec = Jvm.exec) (hb : c.code = cc) {own : String} {i : Nat} {v : Int32} (hown : s.vm.findClass own = some m.cls) (hw : (Jvm.Cond.constant own i v).before args s = true) (hd : decode cc pc = .ok (.ldc_w i, 3)) (k : sm_G p l e R s m args below meth c Q D cl ac b scr L xs nL K0 D0 (pc + 3) ls (.int v :: r) h) : sm_G p l e R s m args below meth c Q D cl ac b scr L xs nL K0 D0 pc ls r h :=
  fun H locs lsA hP hS hl => lv_ldcw hx hb hown hw hd (k H locs lsA hP hS hl)
theorem G_lconst (hx : p.tables.exec = Jvm.exec) (hb : c.code = cc) {n : Fin 2} {v : Int64} (hd : decode cc pc = .ok (.lconst n, 1)) (hv : Int64.ofNat (n : Nat) = v) (k : sm_G p l e R s m args below meth c Q D cl ac b scr L xs nL K0 D0 (pc + 1) ls (.long v :: r) h) : sm_G p l e R s m args below meth c Q D cl ac b scr L xs nL K0 D0 pc ls r h :=
  fun H locs lsA hP hS hl => lv_lconst hx hb hd hv (k H locs lsA hP hS hl)
theorem G_ldc2 (hx : p.tables.exec = Jvm.exec) (hb : c.code = cc) {own : String} {i : Nat} {v : Int64} (hown : s.vm.findClass own = some m.cls) (hw : (Jvm.Cond.constantLong own i v).before args s = true) (hd : decode cc pc = .ok (.ldc2_w i, 3)) (k : sm_G p l e R s m args below meth c Q D cl ac b scr L xs nL K0 D0 (pc + 3) ls (.long v :: r) h) : sm_G p l e R s m args below meth c Q D cl ac b scr L xs nL K0 D0 pc ls r h :=
  fun H locs lsA hP hS hl => lv_ldc2 hx hb hown hw hd (k H locs lsA hP hS hl)
theorem G_null (hx : p.tables.exec = Jvm.exec) (hb : c.code = cc) (hd : decode cc pc = .ok (.aconst_null, 1)) (k : sm_G p l e R s m args below meth c Q D cl ac b scr L xs nL K0 D0 (pc + 1) ls (.null :: r) h) : sm_G p l e R s m args below meth c Q D cl ac b scr L xs nL K0 D0 pc ls r h :=
  fun H locs lsA hP hS hl => lv_null hx hb hd (k H locs lsA hP hS hl)
theorem G_iload (hx : p.tables.exec = Jvm.exec) (hb : c.code = cc) {i n : Nat} {x : Int32} (hd : (∃ j : Fin 4, (j : Nat) = i ∧ n = 1 ∧ decode cc pc = .ok (.iload_n j, 1)) ∨ (n = 2 ∧ decode cc pc = .ok (.iload i, 2))) (hv : ls[i]? = some (some (.int x))) (k : sm_G p l e R s m args below meth c Q D cl ac b scr L xs nL K0 D0 (pc + n) ls (.int x :: r) h) : sm_G p l e R s m args below meth c Q D cl ac b scr L xs nL K0 D0 pc ls r h := by
  intro H locs lsA hP hS hl
  rcases hd with ⟨j, e1, rfl, hd⟩ | ⟨rfl, hd⟩
  · exact lv_iload_n hx hb hd e1 (sm_lv_get hl hv) (k H locs lsA hP hS hl)
  · exact lv_iload hx hb hd (sm_lv_get hl hv) (k H locs lsA hP hS hl)
theorem G_lload (hx : p.tables.exec = Jvm.exec) (hb : c.code = cc) {i n : Nat} {x : Int64} (hd : (∃ j : Fin 4, (j : Nat) = i ∧ n = 1 ∧ decode cc pc = .ok (.lload_n j, 1)) ∨ (n = 2 ∧ decode cc pc = .ok (.lload i, 2))) (hv : ls[i]? = some (some (.long x))) (k : sm_G p l e R s m args below meth c Q D cl ac b scr L xs nL K0 D0 (pc + n) ls (.long x :: r) h) : sm_G p l e R s m args below meth c Q D cl ac b scr L xs nL K0 D0 pc ls r h := by
  intro H locs lsA hP hS hl
  rcases hd with ⟨j, e1, rfl, hd⟩ | ⟨rfl, hd⟩
  · exact lv_lload_n hx hb hd e1 (sm_lv_get hl hv) (k H locs lsA hP hS hl)
  · exact lv_lload hx hb hd (sm_lv_get hl hv) (k H locs lsA hP hS hl)
theorem G_aload (hx : p.tables.exec = Jvm.exec) (hb : c.code = cc) {i n x : Nat} (hd : (∃ j : Fin 4, (j : Nat) = i ∧ n = 1 ∧ decode cc pc = .ok (.aload_n j, 1)) ∨ (n = 2 ∧ decode cc pc = .ok (.aload i, 2))) (hv : ls[i]? = some (some (.ref x))) (k : sm_G p l e R s m args below meth c Q D cl ac b scr L xs nL K0 D0 (pc + n) ls (.ref x :: r) h) : sm_G p l e R s m args below meth c Q D cl ac b scr L xs nL K0 D0 pc ls r h := by
  intro H locs lsA hP hS hl
  rcases hd with ⟨j, e1, rfl, hd⟩ | ⟨rfl, hd⟩
  · exact lv_aload_n hx hb hd e1 (sm_lv_get hl hv) (k H locs lsA hP hS hl)
  · exact lv_aload hx hb hd (sm_lv_get hl hv) (k H locs lsA hP hS hl)
theorem G_aloadN (hx : p.tables.exec = Jvm.exec) (hb : c.code = cc) {i n : Nat} (hd : (∃ j : Fin 4, (j : Nat) = i ∧ n = 1 ∧ decode cc pc = .ok (.aload_n j, 1)) ∨ (n = 2 ∧ decode cc pc = .ok (.aload i, 2))) (hv : ls[i]? = some (some .null)) (k : sm_G p l e R s m args below meth c Q D cl ac b scr L xs nL K0 D0 (pc + n) ls (.null :: r) h) : sm_G p l e R s m args below meth c Q D cl ac b scr L xs nL K0 D0 pc ls r h := by
  intro H locs lsA hP hS hl
  rcases hd with ⟨j, e1, rfl, hd⟩ | ⟨rfl, hd⟩
  · exact lv_aload_nN hx hb hd e1 (sm_lv_get hl hv) (k H locs lsA hP hS hl)
  · exact lv_aloadN hx hb hd (sm_lv_get hl hv) (k H locs lsA hP hS hl)
theorem G_istore (hx : p.tables.exec = Jvm.exec) (hb : c.code = cc) {i n : Nat} {x : Int32} (hd : (∃ j : Fin 4, (j : Nat) = i ∧ n = 1 ∧ decode cc pc = .ok (.istore_n j, 1)) ∨ (n = 2 ∧ decode cc pc = .ok (.istore i, 2))) (hi : i < ls.length) (k : sm_G p l e R s m args below meth c Q D cl ac b scr L xs nL K0 D0 (pc + n) (sm_st1 ls i (.int x)) r h) : sm_G p l e R s m args below meth c Q D cl ac b scr L xs nL K0 D0 pc ls (.int x :: r) h := by
  intro H locs lsA hP hS hl
  rcases hd with ⟨j, e1, rfl, hd⟩ | ⟨rfl, hd⟩
  · exact lv_istore_n hx hb hd e1 hl.2 (hl.1 ▸ hi) rfl (fun lsB hB => k H locs lsB hP hS (sm_lv_st1 hl lsB hB))
  · exact lv_istore hx hb hd hl.2 (hl.1 ▸ hi) rfl (fun lsB hB => k H locs lsB hP hS (sm_lv_st1 hl lsB hB))
theorem G_lstore (hx : p.tables.exec = Jvm.exec) (hb : c.code = cc) {i n : Nat} {x : Int64} (hd : (∃ j : Fin 4, (j : Nat) = i ∧ n = 1 ∧ decode cc pc = .ok (.lstore_n j, 1)) ∨ (n = 2 ∧ decode cc pc = .ok (.lstore i, 2))) (hi : i + 1 < ls.length) (k : sm_G p l e R s m args below meth c Q D cl ac b scr L xs nL K0 D0 (pc + n) (sm_st2 ls i (.long x)) r h) : sm_G p l e R s m args below meth c Q D cl ac b scr L xs nL K0 D0 pc ls (.long x :: r) h := by
  intro H locs lsA hP hS hl
  rcases hd with ⟨j, e1, rfl, hd⟩ | ⟨rfl, hd⟩
  · exact lv_lstore_n hx hb hd e1 hl.2 (hl.1 ▸ hi) rfl (fun lsB hB => k H locs lsB hP hS (sm_lv_st2 hl lsB hB))
  · exact lv_lstore hx hb hd hl.2 (hl.1 ▸ hi) rfl (fun lsB hB => k H locs lsB hP hS (sm_lv_st2 hl lsB hB))
theorem G_astore (hx : p.tables.exec = Jvm.exec) (hb : c.code = cc) {i n x : Nat} (hd : (∃ j : Fin 4, (j : Nat) = i ∧ n = 1 ∧ decode cc pc = .ok (.astore_n j, 1)) ∨ (n = 2 ∧ decode cc pc = .ok (.astore i, 2))) (hi : i < ls.length) (k : sm_G p l e R s m args below meth c Q D cl ac b scr L xs nL K0 D0 (pc + n) (sm_st1 ls i (.ref x)) r h) : sm_G p l e R s m args below meth c Q D cl ac b scr L xs nL K0 D0 pc ls (.ref x :: r) h := by
  intro H locs lsA hP hS hl
  rcases hd with ⟨j, e1, rfl, hd⟩ | ⟨rfl, hd⟩
  · exact lv_astore_n hx hb hd e1 hl.2 (hl.1 ▸ hi) rfl (fun lsB hB => k H locs lsB hP hS (sm_lv_st1 hl lsB hB))
  · exact lv_astore hx hb hd hl.2 (hl.1 ▸ hi) rfl (fun lsB hB => k H locs lsB hP hS (sm_lv_st1 hl lsB hB))
theorem G_astoreN (hx : p.tables.exec = Jvm.exec) (hb : c.code = cc) {i n : Nat} (hd : (∃ j : Fin 4, (j : Nat) = i ∧ n = 1 ∧ decode cc pc = .ok (.astore_n j, 1)) ∨ (n = 2 ∧ decode cc pc = .ok (.astore i, 2))) (hi : i < ls.length) (k : sm_G p l e R s m args below meth c Q D cl ac b scr L xs nL K0 D0 (pc + n) (sm_st1 ls i .null) r h) : sm_G p l e R s m args below meth c Q D cl ac b scr L xs nL K0 D0 pc ls (.null :: r) h := by
  intro H locs lsA hP hS hl
  rcases hd with ⟨j, e1, rfl, hd⟩ | ⟨rfl, hd⟩
  · exact lv_astore_nN hx hb hd e1 hl.2 (hl.1 ▸ hi) rfl (fun lsB hB => k H locs lsB hP hS (sm_lv_st1 hl lsB hB))
  · exact lv_astoreN hx hb hd hl.2 (hl.1 ▸ hi) rfl (fun lsB hB => k H locs lsB hP hS (sm_lv_st1 hl lsB hB))
theorem G_iinc (hx : p.tables.exec = Jvm.exec) (hb : c.code = cc) {i : Nat} {n : Int} {x : Int32} (hd : decode cc pc = .ok (.iinc i n, 3)) (hv : ls[i]? = some (some (.int x))) (k : sm_G p l e R s m args below meth c Q D cl ac b scr L xs nL K0 D0 (pc + 3) (sm_st1 ls i (.int (x + Int32.ofInt n))) r h) : sm_G p l e R s m args below meth c Q D cl ac b scr L xs nL K0 D0 pc ls r h := by
  intro H locs lsA hP hS hl
  have hm : (i, Value.int x) ∈ sm_as b scr ls := sm_as_mem.mpr ⟨.int x, hv, rfl⟩
  obtain ⟨j, hj⟩ := List.getElem?_of_mem hm
  exact lv_iinc hx hb hd hl.2 hj rfl (hl.1 ▸ (List.getElem?_eq_some_iff.mp hv).1) rfl (fun lsB hB => k H locs lsB hP hS (sm_lv_st1 hl lsB hB))
theorem sm_cat1_of {v : Value} (h : sm_cat1 v = true) : (sm_c b scr v).category = 1 := by
  rw [sm_c_cat]; cases v <;> first | rfl | (simp [sm_cat1] at h)
theorem G_pop (hx : p.tables.exec = Jvm.exec) (hb : c.code = cc) {v : Value} (hd : decode cc pc = .ok (.pop, 1)) (hv : sm_cat1 v = true) (k : sm_G p l e R s m args below meth c Q D cl ac b scr L xs nL K0 D0 (pc + 1) ls r h) : sm_G p l e R s m args below meth c Q D cl ac b scr L xs nL K0 D0 pc ls (v :: r) h :=
  fun H locs lsA hP hS hl => lv_pop hx hb hd (sm_cat1_of hv) (k H locs lsA hP hS hl)
theorem G_dup (hx : p.tables.exec = Jvm.exec) (hb : c.code = cc) {v : Value} (hd : decode cc pc = .ok (.dup, 1)) (hv : sm_cat1 v = true) (k : sm_G p l e R s m args below meth c Q D cl ac b scr L xs nL K0 D0 (pc + 1) ls (v :: v :: r) h) : sm_G p l e R s m args below meth c Q D cl ac b scr L xs nL K0 D0 pc ls (v :: r) h :=
  fun H locs lsA hP hS hl => lv_dup hx hb hd (sm_cat1_of hv) (k H locs lsA hP hS hl)
theorem G_dup2 (hx : p.tables.exec = Jvm.exec) (hb : c.code = cc) {v w : Value} (hd : decode cc pc = .ok (.dup2, 1)) (hv : sm_cat1 v = true) (hw : sm_cat1 w = true) (k : sm_G p l e R s m args below meth c Q D cl ac b scr L xs nL K0 D0 (pc + 1) ls (v :: w :: v :: w :: r) h) : sm_G p l e R s m args below meth c Q D cl ac b scr L xs nL K0 D0 pc ls (v :: w :: r) h :=
  fun H locs lsA hP hS hl => lv_dup2_11 hx hb hd (sm_cat1_of hv) (sm_cat1_of hw) (k H locs lsA hP hS hl)
theorem G_iadd (hx : p.tables.exec = Jvm.exec) (hb : c.code = cc) {x y : Int32} (hd : decode cc pc = .ok (.iadd, 1)) (k : sm_G p l e R s m args below meth c Q D cl ac b scr L xs nL K0 D0 (pc + 1) ls (.int (x + y) :: r) h) : sm_G p l e R s m args below meth c Q D cl ac b scr L xs nL K0 D0 pc ls (.int y :: .int x :: r) h :=
  fun H locs lsA hP hS hl => lv_iadd hx hb hd (k H locs lsA hP hS hl)
theorem G_isub (hx : p.tables.exec = Jvm.exec) (hb : c.code = cc) {x y : Int32} (hd : decode cc pc = .ok (.isub, 1)) (k : sm_G p l e R s m args below meth c Q D cl ac b scr L xs nL K0 D0 (pc + 1) ls (.int (x - y) :: r) h) : sm_G p l e R s m args below meth c Q D cl ac b scr L xs nL K0 D0 pc ls (.int y :: .int x :: r) h :=
  fun H locs lsA hP hS hl => lv_isub hx hb hd (k H locs lsA hP hS hl)
theorem G_imul (hx : p.tables.exec = Jvm.exec) (hb : c.code = cc) {x y : Int32} (hd : decode cc pc = .ok (.imul, 1)) (k : sm_G p l e R s m args below meth c Q D cl ac b scr L xs nL K0 D0 (pc + 1) ls (.int (x * y) :: r) h) : sm_G p l e R s m args below meth c Q D cl ac b scr L xs nL K0 D0 pc ls (.int y :: .int x :: r) h :=
  fun H locs lsA hP hS hl => lv_imul hx hb hd (k H locs lsA hP hS hl)
theorem G_iand (hx : p.tables.exec = Jvm.exec) (hb : c.code = cc) {x y : Int32} (hd : decode cc pc = .ok (.iand, 1)) (k : sm_G p l e R s m args below meth c Q D cl ac b scr L xs nL K0 D0 (pc + 1) ls (.int (x &&& y) :: r) h) : sm_G p l e R s m args below meth c Q D cl ac b scr L xs nL K0 D0 pc ls (.int y :: .int x :: r) h :=
  fun H locs lsA hP hS hl => lv_iand hx hb hd (k H locs lsA hP hS hl)
theorem G_ladd (hx : p.tables.exec = Jvm.exec) (hb : c.code = cc) {x y : Int64} (hd : decode cc pc = .ok (.ladd, 1)) (k : sm_G p l e R s m args below meth c Q D cl ac b scr L xs nL K0 D0 (pc + 1) ls (.long (x + y) :: r) h) : sm_G p l e R s m args below meth c Q D cl ac b scr L xs nL K0 D0 pc ls (.long y :: .long x :: r) h :=
  fun H locs lsA hP hS hl => lv_ladd hx hb hd (k H locs lsA hP hS hl)
theorem G_lsub (hx : p.tables.exec = Jvm.exec) (hb : c.code = cc) {x y : Int64} (hd : decode cc pc = .ok (.lsub, 1)) (k : sm_G p l e R s m args below meth c Q D cl ac b scr L xs nL K0 D0 (pc + 1) ls (.long (x - y) :: r) h) : sm_G p l e R s m args below meth c Q D cl ac b scr L xs nL K0 D0 pc ls (.long y :: .long x :: r) h :=
  fun H locs lsA hP hS hl => lv_lsub hx hb hd (k H locs lsA hP hS hl)
theorem G_lmul (hx : p.tables.exec = Jvm.exec) (hb : c.code = cc) {x y : Int64} (hd : decode cc pc = .ok (.lmul, 1)) (k : sm_G p l e R s m args below meth c Q D cl ac b scr L xs nL K0 D0 (pc + 1) ls (.long (x * y) :: r) h) : sm_G p l e R s m args below meth c Q D cl ac b scr L xs nL K0 D0 pc ls (.long y :: .long x :: r) h :=
  fun H locs lsA hP hS hl => lv_lmul hx hb hd (k H locs lsA hP hS hl)
theorem G_land (hx : p.tables.exec = Jvm.exec) (hb : c.code = cc) {x y : Int64} (hd : decode cc pc = .ok (.land, 1)) (k : sm_G p l e R s m args below meth c Q D cl ac b scr L xs nL K0 D0 (pc + 1) ls (.long (x &&& y) :: r) h) : sm_G p l e R s m args below meth c Q D cl ac b scr L xs nL K0 D0 pc ls (.long y :: .long x :: r) h :=
  fun H locs lsA hP hS hl => lv_land hx hb hd (k H locs lsA hP hS hl)
theorem G_lor (hx : p.tables.exec = Jvm.exec) (hb : c.code = cc) {x y : Int64} (hd : decode cc pc = .ok (.lor, 1)) (k : sm_G p l e R s m args below meth c Q D cl ac b scr L xs nL K0 D0 (pc + 1) ls (.long (x ||| y) :: r) h) : sm_G p l e R s m args below meth c Q D cl ac b scr L xs nL K0 D0 pc ls (.long y :: .long x :: r) h :=
  fun H locs lsA hP hS hl => lv_lor hx hb hd (k H locs lsA hP hS hl)
theorem G_lxor (hx : p.tables.exec = Jvm.exec) (hb : c.code = cc) {x y : Int64} (hd : decode cc pc = .ok (.lxor, 1)) (k : sm_G p l e R s m args below meth c Q D cl ac b scr L xs nL K0 D0 (pc + 1) ls (.long (x ^^^ y) :: r) h) : sm_G p l e R s m args below meth c Q D cl ac b scr L xs nL K0 D0 pc ls (.long y :: .long x :: r) h :=
  fun H locs lsA hP hS hl => lv_lxor hx hb hd (k H locs lsA hP hS hl)
theorem G_iushr (hx : p.tables.exec = Jvm.exec) (hb : c.code = cc) {x y : Int32} (hd : decode cc pc = .ok (.iushr, 1)) (k : sm_G p l e R s m args below meth c Q D cl ac b scr L xs nL K0 D0 (pc + 1) ls (.int ((x.toUInt32 >>> (y.toUInt32 &&& Int32.toUInt32 31)).toInt32) :: r) h) : sm_G p l e R s m args below meth c Q D cl ac b scr L xs nL K0 D0 pc ls (.int y :: .int x :: r) h :=
  fun H locs lsA hP hS hl => lv_iushr hx hb hd rfl (k H locs lsA hP hS hl)
theorem G_idiv (hx : p.tables.exec = Jvm.exec) (hb : c.code = cc) {x y : Int32} (hd : decode cc pc = .ok (.idiv, 1)) (hn : ¬ y = 0) (k : sm_G p l e R s m args below meth c Q D cl ac b scr L xs nL K0 D0 (pc + 1) ls (.int (x / y) :: r) h) : sm_G p l e R s m args below meth c Q D cl ac b scr L xs nL K0 D0 pc ls (.int y :: .int x :: r) h :=
  fun H locs lsA hP hS hl => lv_idiv hx hb hd hn (k H locs lsA hP hS hl)
theorem G_irem (hx : p.tables.exec = Jvm.exec) (hb : c.code = cc) {x y : Int32} (hd : decode cc pc = .ok (.irem, 1)) (hn : ¬ y = 0) (k : sm_G p l e R s m args below meth c Q D cl ac b scr L xs nL K0 D0 (pc + 1) ls (.int (x - x / y * y) :: r) h) : sm_G p l e R s m args below meth c Q D cl ac b scr L xs nL K0 D0 pc ls (.int y :: .int x :: r) h :=
  fun H locs lsA hP hS hl => lv_irem hx hb hd hn (k H locs lsA hP hS hl)
theorem G_ldiv (hx : p.tables.exec = Jvm.exec) (hb : c.code = cc) {x y : Int64} (hd : decode cc pc = .ok (.ldiv, 1)) (hn : ¬ y = 0) (k : sm_G p l e R s m args below meth c Q D cl ac b scr L xs nL K0 D0 (pc + 1) ls (.long (x / y) :: r) h) : sm_G p l e R s m args below meth c Q D cl ac b scr L xs nL K0 D0 pc ls (.long y :: .long x :: r) h :=
  fun H locs lsA hP hS hl => lv_ldiv hx hb hd hn (k H locs lsA hP hS hl)
theorem G_lrem (hx : p.tables.exec = Jvm.exec) (hb : c.code = cc) {x y : Int64} (hd : decode cc pc = .ok (.lrem, 1)) (hn : ¬ y = 0) (k : sm_G p l e R s m args below meth c Q D cl ac b scr L xs nL K0 D0 (pc + 1) ls (.long (x - x / y * y) :: r) h) : sm_G p l e R s m args below meth c Q D cl ac b scr L xs nL K0 D0 pc ls (.long y :: .long x :: r) h :=
  fun H locs lsA hP hS hl => lv_lrem hx hb hd hn (k H locs lsA hP hS hl)
theorem G_lshl (hx : p.tables.exec = Jvm.exec) (hb : c.code = cc) {x : Int64} {y : Int32} (hd : decode cc pc = .ok (.lshl, 1)) (k : sm_G p l e R s m args below meth c Q D cl ac b scr L xs nL K0 D0 (pc + 1) ls (.long (x <<< (y.toInt64 &&& 63)) :: r) h) : sm_G p l e R s m args below meth c Q D cl ac b scr L xs nL K0 D0 pc ls (.int y :: .long x :: r) h :=
  fun H locs lsA hP hS hl => lv_lshl hx hb hd rfl (k H locs lsA hP hS hl)
theorem G_lcmp (hx : p.tables.exec = Jvm.exec) (hb : c.code = cc) {x y : Int64} (hd : decode cc pc = .ok (.lcmp, 1)) (k : sm_G p l e R s m args below meth c Q D cl ac b scr L xs nL K0 D0 (pc + 1) ls (.int (lg_cmp x y) :: r) h) : sm_G p l e R s m args below meth c Q D cl ac b scr L xs nL K0 D0 pc ls (.long y :: .long x :: r) h :=
  fun H locs lsA hP hS hl => W.lcmp hx hb hd (k H locs lsA hP hS hl)
theorem G_i2l (hx : p.tables.exec = Jvm.exec) (hb : c.code = cc) {x : Int32} (hd : decode cc pc = .ok (.i2l, 1)) (k : sm_G p l e R s m args below meth c Q D cl ac b scr L xs nL K0 D0 (pc + 1) ls (.long x.toInt64 :: r) h) : sm_G p l e R s m args below meth c Q D cl ac b scr L xs nL K0 D0 pc ls (.int x :: r) h :=
  fun H locs lsA hP hS hl => lv_i2l hx hb hd rfl (k H locs lsA hP hS hl)
theorem G_l2i (hx : p.tables.exec = Jvm.exec) (hb : c.code = cc) {x : Int64} (hd : decode cc pc = .ok (.l2i, 1)) (k : sm_G p l e R s m args below meth c Q D cl ac b scr L xs nL K0 D0 (pc + 1) ls (.int x.toInt32 :: r) h) : sm_G p l e R s m args below meth c Q D cl ac b scr L xs nL K0 D0 pc ls (.long x :: r) h :=
  fun H locs lsA hP hS hl => lv_l2i hx hb hd rfl (k H locs lsA hP hS hl)
theorem G_if_eq (hx : p.tables.exec = Jvm.exec) (hb : c.code = cc) {off : Int} {t : Nat} {x : Int32} (hd : decode cc pc = .ok (.ifCond .eq off, 3)) (ht : (pc : Int) + off = (t : Int)) (k : sm_G p l e R s m args below meth c Q D cl ac b scr L xs nL K0 D0 (bif decide (x = 0) then t else pc + 3) ls r h) : sm_G p l e R s m args below meth c Q D cl ac b scr L xs nL K0 D0 pc ls (.int x :: r) h :=
  fun H locs lsA hP hS hl => lv_if_eq hx hb hd ht (fun q => by have k1 := k H locs lsA hP hS hl; rw [decide_eq_true q] at k1; exact k1) (fun q => by have k1 := k H locs lsA hP hS hl; rw [decide_eq_false q] at k1; exact k1)
theorem G_if_ne (hx : p.tables.exec = Jvm.exec) (hb : c.code = cc) {off : Int} {t : Nat} {x : Int32} (hd : decode cc pc = .ok (.ifCond .ne off, 3)) (ht : (pc : Int) + off = (t : Int)) (k : sm_G p l e R s m args below meth c Q D cl ac b scr L xs nL K0 D0 (bif !decide (x = 0) then t else pc + 3) ls r h) : sm_G p l e R s m args below meth c Q D cl ac b scr L xs nL K0 D0 pc ls (.int x :: r) h :=
  fun H locs lsA hP hS hl => lv_if_ne hx hb hd ht (fun q => by have k1 := k H locs lsA hP hS hl; rw [decide_eq_false q] at k1; exact k1) (fun q => by have k1 := k H locs lsA hP hS hl; rw [decide_eq_true q] at k1; exact k1)
theorem G_if_lt (hx : p.tables.exec = Jvm.exec) (hb : c.code = cc) {off : Int} {t : Nat} {x : Int32} (hd : decode cc pc = .ok (.ifCond .lt off, 3)) (ht : (pc : Int) + off = (t : Int)) (k : sm_G p l e R s m args below meth c Q D cl ac b scr L xs nL K0 D0 (bif decide (x < 0) then t else pc + 3) ls r h) : sm_G p l e R s m args below meth c Q D cl ac b scr L xs nL K0 D0 pc ls (.int x :: r) h :=
  fun H locs lsA hP hS hl => lv_if_lt hx hb hd ht (fun q => by have k1 := k H locs lsA hP hS hl; rw [decide_eq_true q] at k1; exact k1) (fun q => by have k1 := k H locs lsA hP hS hl; rw [decide_eq_false q] at k1; exact k1)
theorem G_if_ge (hx : p.tables.exec = Jvm.exec) (hb : c.code = cc) {off : Int} {t : Nat} {x : Int32} (hd : decode cc pc = .ok (.ifCond .ge off, 3)) (ht : (pc : Int) + off = (t : Int)) (k : sm_G p l e R s m args below meth c Q D cl ac b scr L xs nL K0 D0 (bif decide (0 ≤ x) then t else pc + 3) ls r h) : sm_G p l e R s m args below meth c Q D cl ac b scr L xs nL K0 D0 pc ls (.int x :: r) h :=
  fun H locs lsA hP hS hl => lv_if_ge hx hb hd ht (fun q => by have k1 := k H locs lsA hP hS hl; rw [decide_eq_true q] at k1; exact k1) (fun q => by have k1 := k H locs lsA hP hS hl; rw [decide_eq_false q] at k1; exact k1)
theorem G_if_gt (hx : p.tables.exec = Jvm.exec) (hb : c.code = cc) {off : Int} {t : Nat} {x : Int32} (hd : decode cc pc = .ok (.ifCond .gt off, 3)) (ht : (pc : Int) + off = (t : Int)) (k : sm_G p l e R s m args below meth c Q D cl ac b scr L xs nL K0 D0 (bif decide (0 < x) then t else pc + 3) ls r h) : sm_G p l e R s m args below meth c Q D cl ac b scr L xs nL K0 D0 pc ls (.int x :: r) h :=
  fun H locs lsA hP hS hl => lv_if_gt hx hb hd ht (fun q => by have k1 := k H locs lsA hP hS hl; rw [decide_eq_true q] at k1; exact k1) (fun q => by have k1 := k H locs lsA hP hS hl; rw [decide_eq_false q] at k1; exact k1)
theorem G_if_le (hx : p.tables.exec = Jvm.exec) (hb : c.code = cc) {off : Int} {t : Nat} {x : Int32} (hd : decode cc pc = .ok (.ifCond .le off, 3)) (ht : (pc : Int) + off = (t : Int)) (k : sm_G p l e R s m args below meth c Q D cl ac b scr L xs nL K0 D0 (bif decide (x ≤ 0) then t else pc + 3) ls r h) : sm_G p l e R s m args below meth c Q D cl ac b scr L xs nL K0 D0 pc ls (.int x :: r) h :=
  fun H locs lsA hP hS hl => lv_if_le hx hb hd ht (fun q => by have k1 := k H locs lsA hP hS hl; rw [decide_eq_true q] at k1; exact k1) (fun q => by have k1 := k H locs lsA hP hS hl; rw [decide_eq_false q] at k1; exact k1)
theorem G_ic_eq (hx : p.tables.exec = Jvm.exec) (hb : c.code = cc) {off : Int} {t : Nat} {x y : Int32} (hd : decode cc pc = .ok (.if_icmp .eq off, 3)) (ht : (pc : Int) + off = (t : Int)) (k : sm_G p l e R s m args below meth c Q D cl ac b scr L xs nL K0 D0 (bif decide (x = y) then t else pc + 3) ls r h) : sm_G p l e R s m args below meth c Q D cl ac b scr L xs nL K0 D0 pc ls (.int y :: .int x :: r) h :=
  fun H locs lsA hP hS hl => lv_icmp_eq hx hb hd ht (fun q => by have k1 := k H locs lsA hP hS hl; rw [decide_eq_true q] at k1; exact k1) (fun q => by have k1 := k H locs lsA hP hS hl; rw [decide_eq_false q] at k1; exact k1)
theorem G_ic_ne (hx : p.tables.exec = Jvm.exec) (hb : c.code = cc) {off : Int} {t : Nat} {x y : Int32} (hd : decode cc pc = .ok (.if_icmp .ne off, 3)) (ht : (pc : Int) + off = (t : Int)) (k : sm_G p l e R s m args below meth c Q D cl ac b scr L xs nL K0 D0 (bif !decide (x = y) then t else pc + 3) ls r h) : sm_G p l e R s m args below meth c Q D cl ac b scr L xs nL K0 D0 pc ls (.int y :: .int x :: r) h :=
  fun H locs lsA hP hS hl => lv_icmp_ne hx hb hd ht (fun q => by have k1 := k H locs lsA hP hS hl; rw [decide_eq_false q] at k1; exact k1) (fun q => by have k1 := k H locs lsA hP hS hl; rw [decide_eq_true q] at k1; exact k1)
theorem G_ic_lt (hx : p.tables.exec = Jvm.exec) (hb : c.code = cc) {off : Int} {t : Nat} {x y : Int32} (hd : decode cc pc = .ok (.if_icmp .lt off, 3)) (ht : (pc : Int) + off = (t : Int)) (k : sm_G p l e R s m args below meth c Q D cl ac b scr L xs nL K0 D0 (bif decide (x < y) then t else pc + 3) ls r h) : sm_G p l e R s m args below meth c Q D cl ac b scr L xs nL K0 D0 pc ls (.int y :: .int x :: r) h :=
  fun H locs lsA hP hS hl => lv_icmp_lt hx hb hd ht (fun q => by have k1 := k H locs lsA hP hS hl; rw [decide_eq_true q] at k1; exact k1) (fun q => by have k1 := k H locs lsA hP hS hl; rw [decide_eq_false q] at k1; exact k1)
theorem G_ic_ge (hx : p.tables.exec = Jvm.exec) (hb : c.code = cc) {off : Int} {t : Nat} {x y : Int32} (hd : decode cc pc = .ok (.if_icmp .ge off, 3)) (ht : (pc : Int) + off = (t : Int)) (k : sm_G p l e R s m args below meth c Q D cl ac b scr L xs nL K0 D0 (bif decide (y ≤ x) then t else pc + 3) ls r h) : sm_G p l e R s m args below meth c Q D cl ac b scr L xs nL K0 D0 pc ls (.int y :: .int x :: r) h :=
  fun H locs lsA hP hS hl => lv_icmp_ge hx hb hd ht (fun q => by have k1 := k H locs lsA hP hS hl; rw [decide_eq_true q] at k1; exact k1) (fun q => by have k1 := k H locs lsA hP hS hl; rw [decide_eq_false q] at k1; exact k1)
theorem G_ic_gt (hx : p.tables.exec = Jvm.exec) (hb : c.code = cc) {off : Int} {t : Nat} {x y : Int32} (hd : decode cc pc = .ok (.if_icmp .gt off, 3)) (ht : (pc : Int) + off = (t : Int)) (k : sm_G p l e R s m args below meth c Q D cl ac b scr L xs nL K0 D0 (bif decide (y < x) then t else pc + 3) ls r h) : sm_G p l e R s m args below meth c Q D cl ac b scr L xs nL K0 D0 pc ls (.int y :: .int x :: r) h :=
  fun H locs lsA hP hS hl => lv_icmp_gt hx hb hd ht (fun q => by have k1 := k H locs lsA hP hS hl; rw [decide_eq_true q] at k1; exact k1) (fun q => by have k1 := k H locs lsA hP hS hl; rw [decide_eq_false q] at k1; exact k1)
theorem G_ic_le (hx : p.tables.exec = Jvm.exec) (hb : c.code = cc) {off : Int} {t : Nat} {x y : Int32} (hd : decode cc pc = .ok (.if_icmp .le off, 3)) (ht : (pc : Int) + off = (t : Int)) (k : sm_G p l e R s m args below meth c Q D cl ac b scr L xs nL K0 D0 (bif decide (x ≤ y) then t else pc + 3) ls r h) : sm_G p l e R s m args below meth c Q D cl ac b scr L xs nL K0 D0 pc ls (.int y :: .int x :: r) h :=
  fun H locs lsA hP hS hl => lv_icmp_le hx hb hd ht (fun q => by have k1 := k H locs lsA hP hS hl; rw [decide_eq_true q] at k1; exact k1) (fun q => by have k1 := k H locs lsA hP hS hl; rw [decide_eq_false q] at k1; exact k1)
theorem G_goto (hx : p.tables.exec = Jvm.exec) (hb : c.code = cc) {off : Int} {t : Nat} (hd : decode cc pc = .ok (.goto off, 3)) (ht : (pc : Int) + off = (t : Int)) (k : sm_G p l e R s m args below meth c Q D cl ac b scr L xs nL K0 D0 t ls r h) : sm_G p l e R s m args below meth c Q D cl ac b scr L xs nL K0 D0 pc ls r h :=
  fun H locs lsA hP hS hl => lv_goto hx hb hd ht (k H locs lsA hP hS hl)
theorem G_ifnull (hx : p.tables.exec = Jvm.exec) (hb : c.code = cc) {off : Int} {x : Nat} (hd : decode cc pc = .ok (.ifnull off, 3)) (k : sm_G p l e R s m args below meth c Q D cl ac b scr L xs nL K0 D0 (pc + 3) ls r h) : sm_G p l e R s m args below meth c Q D cl ac b scr L xs nL K0 D0 pc ls (.ref x :: r) h :=
  fun H locs lsA hP hS hl => lv_ifnull hx hb hd (k H locs lsA hP hS hl)
theorem G_ifnullN (hx : p.tables.exec = Jvm.exec) (hb : c.code = cc) {off : Int} {t : Nat} (hd : decode cc pc = .ok (.ifnull off, 3)) (ht : (pc : Int) + off = (t : Int)) (k : sm_G p l e R s m args below meth c Q D cl ac b scr L xs nL K0 D0 t ls r h) : sm_G p l e R s m args below meth c Q D cl ac b scr L xs nL K0 D0 pc ls (.null :: r) h :=
  fun H locs lsA hP hS hl => lv_ifnullN hx hb hd ht (k H locs lsA hP hS hl)
theorem G_ifnonnull (hx : p.tables.exec = Jvm.exec) (hb : c.code = cc) {off : Int} {t x : Nat} (hd : decode cc pc = .ok (.ifnonnull off, 3)) (ht : (pc : Int) + off = (t : Int)) (k : sm_G p l e R s m args below meth c Q D cl ac b scr L xs nL K0 D0 t ls r h) : sm_G p l e R s m args below meth c Q D cl ac b scr L xs nL K0 D0 pc ls (.ref x :: r) h :=
  fun H locs lsA hP hS hl => lv_ifnonnull hx hb hd ht (k H locs lsA hP hS hl)
theorem G_ifnonnullN (hx : p.tables.exec = Jvm.exec) (hb : c.code = cc) {off : Int} (hd : decode cc pc = .ok (.ifnonnull off, 3)) (k : sm_G p l e R s m args below meth c Q D cl ac b scr L xs nL K0 D0 (pc + 3) ls r h) : sm_G p l e R s m args below meth c Q D cl ac b scr L xs nL K0 D0 pc ls (.null :: r) h :=
  fun H locs lsA hP hS hl => lv_ifnonnullN hx hb hd (k H locs lsA hP hS hl)
theorem G_switch (hx : p.tables.exec = Jvm.exec) (hb : c.code = cc) {dflt lo hi : Int} {offs : Array Int} {len t : Nat} {LT : List Nat} {x : Int32} (hd : decode cc pc = .ok (.tableswitch dflt lo hi offs, len)) (h1 : hi = lo + (LT.length : Int) - 1) (h2 : (pc : Int) + dflt = (t : Int)) (h3 : offs.toList.map (fun o => (pc : Int) + o) = LT.map (fun (n : Nat) => (n : Int))) (k : sm_G p l e R s m args below meth c Q D cl ac b scr L xs nL K0 D0 (sm_sw lo LT t x) ls r h) : sm_G p l e R s m args below meth c Q D cl ac b scr L xs nL K0 D0 pc ls (.int x :: r) h := by
  intro H locs lsA hP hS hl
  have k1 := k H locs lsA hP hS hl
  unfold sm_sw at k1
  by_cases q : x.toInt < lo ∨ lo + (LT.length : Int) ≤ x.toInt
  · rw [if_pos q] at k1
    exact lv_tableOut hx hb hd (by omega) h2 k1
  · rw [if_neg q] at k1
    have hlt : (x.toInt - lo).toNat < LT.length := by omega
    have hlen : offs.toList.length = LT.length := by
      have := congrArg List.length h3
      simpa using this
    have hlt2 : (x.toInt - lo).toNat < offs.toList.length := by omega
    have ho : offs[(x.toInt - lo).toNat]? = some (offs.toList[(x.toInt - lo).toNat]) := by
      rw [← Array.getElem?_toList, List.getElem?_eq_getElem hlt2]
    refine lv_tableIn hx hb hd (by omega) (by omega) ho ?_ k1
    have h4 := congrArg (fun z => z[(x.toInt - lo).toNat]?) h3
    simp only [List.getElem?_map, List.getElem?_eq_getElem hlt2, List.getElem?_eq_getElem hlt, Option.map_some, Option.some.injEq] at h4
    rw [h4, List.getD_eq_getElem?_getD, List.getElem?_eq_getElem hlt]
    rfl
end SMR
