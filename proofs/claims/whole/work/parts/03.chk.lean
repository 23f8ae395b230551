/-! each instruction of the tables is the one of the class file, and the words that it needs stand in lw_tbl -/
def ck_c : ClassFile.Cond → Nat
  | .eq => 0 | .ne => 1 | .lt => 2 | .ge => 3 | .gt => 4 | .le => 5
def ck_e (n : Nat) : ClassFile.Cond := match n with
  | 0 => .eq | 1 => .ne | 2 => .lt | 3 => .ge | 4 => .gt | _ => .le
def ck_t : ArrayType → Nat
  | .boolean => 0 | .char => 1 | .float => 2 | .double => 3 | .byte => 4 | .short => 5 | .int => 6 | .long => 7
def ck_s (n : Nat) : ArrayType := match n with
  | 0 => .boolean | 1 => .char | 2 => .float | 3 => .double | 4 => .byte | 5 => .short | 6 => .int | _ => .long
def ck_i : Instr → Nat × Nat × Int
  | .aaload => (1, 0, 0)
  | .aastore => (2, 0, 0)
  | .aconst_null => (3, 0, 0)
  | .aload i => (4, i, 0)
  | .aload_n i => (5, i.val, 0)
  | .anewarray i => (6, i, 0)
  | .areturn => (7, 0, 0)
  | .arraylength => (8, 0, 0)
  | .astore i => (9, i, 0)
  | .astore_n i => (10, i.val, 0)
  | .athrow => (11, 0, 0)
  | .baload => (12, 0, 0)
  | .bastore => (13, 0, 0)
  | .bipush k => (14, 0, k)
  | .dup => (15, 0, 0)
  | .dup2 => (16, 0, 0)
  | .getfield i => (17, i, 0)
  | .goto k => (18, 0, k)
  | .i2l => (19, 0, 0)
  | .iadd => (20, 0, 0)
  | .iaload => (21, 0, 0)
  | .iand => (22, 0, 0)
  | .iastore => (23, 0, 0)
  | .iconst k => (24, 0, k)
  | .idiv => (25, 0, 0)
  | .if_icmp c k => (26, ck_c c, k)
  | .ifCond c k => (27, ck_c c, k)
  | .ifnonnull k => (28, 0, k)
  | .ifnull k => (29, 0, k)
  | .iinc i k => (30, i, k)
  | .iload i => (31, i, 0)
  | .iload_n i => (32, i.val, 0)
  | .imul => (33, 0, 0)
  | .invokespecial i => (34, i, 0)
  | .invokestatic i => (35, i, 0)
  | .invokevirtual i => (36, i, 0)
  | .irem => (37, 0, 0)
  | .ireturn => (38, 0, 0)
  | .istore i => (39, i, 0)
  | .istore_n i => (40, i.val, 0)
  | .isub => (41, 0, 0)
  | .iushr => (42, 0, 0)
  | .l2i => (43, 0, 0)
  | .ladd => (44, 0, 0)
  | .laload => (45, 0, 0)
  | .land => (46, 0, 0)
  | .lastore => (47, 0, 0)
  | .lcmp => (48, 0, 0)
  | .lconst i => (49, i.val, 0)
  | .ldc i => (50, i, 0)
  | .ldc_w i => (51, i, 0)
  | .ldc2_w i => (52, i, 0)
  | .ldiv => (53, 0, 0)
  | .lload i => (54, i, 0)
  | .lload_n i => (55, i.val, 0)
  | .lmul => (56, 0, 0)
  | .lor => (57, 0, 0)
  | .lrem => (58, 0, 0)
  | .lreturn => (59, 0, 0)
  | .lshl => (60, 0, 0)
  | .lstore i => (61, i, 0)
  | .lstore_n i => (62, i.val, 0)
  | .lsub => (63, 0, 0)
  | .lxor => (64, 0, 0)
  | .new i => (65, i, 0)
  | .newarray t => (66, ck_t t, 0)
  | .pop => (67, 0, 0)
  | .putfield i => (68, i, 0)
  | .return_ => (69, 0, 0)
  | .sipush k => (70, 0, k)
  | _ => (0, 0, 0)
def ck_o (q : Nat × Nat × Int) : Instr := match q with
  | (1, _, _) => .aaload
  | (2, _, _) => .aastore
  | (3, _, _) => .aconst_null
  | (4, i, _) => .aload i
  | (5, i, _) => .aload_n (Fin.ofNat 4 i)
  | (6, i, _) => .anewarray i
  | (7, _, _) => .areturn
  | (8, _, _) => .arraylength
  | (9, i, _) => .astore i
  | (10, i, _) => .astore_n (Fin.ofNat 4 i)
  | (11, _, _) => .athrow
  | (12, _, _) => .baload
  | (13, _, _) => .bastore
  | (14, _, k) => .bipush k
  | (15, _, _) => .dup
  | (16, _, _) => .dup2
  | (17, i, _) => .getfield i
  | (18, _, k) => .goto k
  | (19, _, _) => .i2l
  | (20, _, _) => .iadd
  | (21, _, _) => .iaload
  | (22, _, _) => .iand
  | (23, _, _) => .iastore
  | (24, _, k) => .iconst k
  | (25, _, _) => .idiv
  | (26, i, k) => .if_icmp (ck_e i) k
  | (27, i, k) => .ifCond (ck_e i) k
  | (28, _, k) => .ifnonnull k
  | (29, _, k) => .ifnull k
  | (30, i, k) => .iinc i k
  | (31, i, _) => .iload i
  | (32, i, _) => .iload_n (Fin.ofNat 4 i)
  | (33, _, _) => .imul
  | (34, i, _) => .invokespecial i
  | (35, i, _) => .invokestatic i
  | (36, i, _) => .invokevirtual i
  | (37, _, _) => .irem
  | (38, _, _) => .ireturn
  | (39, i, _) => .istore i
  | (40, i, _) => .istore_n (Fin.ofNat 4 i)
  | (41, _, _) => .isub
  | (42, _, _) => .iushr
  | (43, _, _) => .l2i
  | (44, _, _) => .ladd
  | (45, _, _) => .laload
  | (46, _, _) => .land
  | (47, _, _) => .lastore
  | (48, _, _) => .lcmp
  | (49, i, _) => .lconst (Fin.ofNat 2 i)
  | (50, i, _) => .ldc i
  | (51, i, _) => .ldc_w i
  | (52, i, _) => .ldc2_w i
  | (53, _, _) => .ldiv
  | (54, i, _) => .lload i
  | (55, i, _) => .lload_n (Fin.ofNat 4 i)
  | (56, _, _) => .lmul
  | (57, _, _) => .lor
  | (58, _, _) => .lrem
  | (59, _, _) => .lreturn
  | (60, _, _) => .lshl
  | (61, i, _) => .lstore i
  | (62, i, _) => .lstore_n (Fin.ofNat 4 i)
  | (63, _, _) => .lsub
  | (64, _, _) => .lxor
  | (65, i, _) => .new i
  | (66, i, _) => .newarray (ck_s i)
  | (67, _, _) => .pop
  | (68, i, _) => .putfield i
  | (69, _, _) => .return_
  | (70, _, k) => .sipush k
  | _ => .nop
theorem ck_io (i : Instr) (h : (ck_i i).1 ≠ 0) : ck_o (ck_i i) = i := by
  cases i <;> first | rfl | exact absurd rfl h | (rename_i a b; cases a <;> rfl) | (rename_i a; cases a <;> rfl) | (rename_i a; simp [ck_i, ck_o])
def ck_w (i : Nat) (w : Cond) : Bool := decide (lw_tbl[i]? = some w) && goodWord w
def ck_n (i : Nat) (w : Cond) : Bool := decide (lw_tbl[i]? = some w) && sm_nest w
def ck_d (M pc : Nat) (i : Instr) (n : Nat) : Bool := match decode (sm_mi M).2.1 pc with
  | .ok (k, len) => decide (len = n) && decide ((ck_i k).1 = (ck_i i).1) && decide ((ck_i k).2.1 = (ck_i i).2.1) && decide ((ck_i k).2.2 = (ck_i i).2.2) && !decide ((ck_i i).1 = 0)
  | .error _ => false
theorem ck_d_spec {M pc n : Nat} {i : Instr} (h : ck_d M pc i n = true) : decode (sm_mi M).2.1 pc = .ok (i, n) := by
  unfold ck_d at h
  cases hd : decode (sm_mi M).2.1 pc with
  | error x => rw [hd] at h; cases h
  | ok x =>
    obtain ⟨k, len⟩ := x
    rw [hd] at h
    simp only [Bool.and_eq_true, decide_eq_true_eq, Bool.not_eq_true', decide_eq_false_iff_not] at h
    obtain ⟨⟨⟨⟨rfl, h1⟩, h2⟩, h3⟩, h4⟩ := h
    have e : ck_i k = ck_i i := Prod.ext h1 (Prod.ext h2 h3)
    rw [← ck_io k (by rw [h1]; exact h4), ← ck_io i h4, e]
def ck_rr (t : Option FieldType) : Bool := match t with
  | some (.object _) => true
  | some (.array _) => true
  | _ => false
def ck_room (M : Nat) : Bool := decide (1 ≤ (sm_mi M).2.2.2.2.2.1) && decide (26 ≤ (sm_mi M).2.2.2.2.2.2)
def ck_k (t : List (Nat × Nat × Int × Nat)) (oc i : Nat) (c : Int) (l : List Nat) : Bool := match t[l.getD 0 0]? with
  | some q => decide (q.1 = oc) && decide (q.2.1 = i) && decide (q.2.2.1 = c)
  | none => false
/-- type of a field: 0 int, 1 long, 2 reference, 3 boolean -/
def ck_ty (d : String) : Nat := if d = "I" then 0 else if d = "J" then 1 else if d = "Z" then 3 else 2
def sm_fty : List (List (Nat × Bool)) := sm_cls.map (fun q => (List.range q.2.2).map (fun k => (ck_ty (q.2.1 k).2.2.1, (q.2.1 k).2.2.2)))
def ck_f (M ci k : Nat) (c : Int) (l : List Nat) (ty : Nat) (pu : Bool) : Bool := (match sm_fl[l.getD 0 0]? with
  | some q => decide (q.1 = sm_oc.getD M 0) && decide ((q.2.1 : Int) = c) && decide (q.2.2.1 = ci) && decide (q.2.2.2.1 = k)
  | none => false) && (match (sm_ft.getD ci [])[k]? with
  | some q => (decide (q.1 = ty) || (decide (q.1 = 3) && decide (ty = 0) && !pu)) && (!pu || !q.2 || (decide ((sm_mi M).1.name = "<init>") && decide (ci = sm_oc.getD M 0)))
  | none => false)
/-- a call's entry: class, entry, callee, parameters with the receiver, kind, receiver's class + 1; places: link, method, initialized, code, selects -/
def ck_cc (q : Nat × Nat × Nat × Nat × Nat × Nat × Nat × Nat × Nat × Nat × Nat) : Bool := match q with
  | (oc, idx, N, n, kd, ci, p2, p3, p4, _, p6) => ck_w p4 (.initialized (sm_mi N).1.cls) && decide ((sm_mi N).1.cls ≠ "java/lang/invoke/MethodHandle") && decide ((sm_mi N).1.cls ≠ "java/lang/invoke/VarHandle") && decide ((parseMethodDescriptor (sm_mi N).1.desc).map (fun d => d.parameters.length) = some (bif kd == 1 || kd == 6 then n else n - 1)) && (bif kd == 1 || kd == 6 then ck_w p2 (.methodLink (sm_cn.getD oc "") idx (sm_mi N).1) && ck_w p3 (.static (sm_mi N).1) && decide (ci = 0) else decide (1 ≤ n) && decide (1 ≤ ci) && ck_w p3 (.instanceMethod (sm_mi N).1) && (bif kd == 0 then ck_w p2 (.methodLink (sm_cn.getD oc "") idx (sm_mi N).1) && ck_w p6 (.selects (sm_mi N).1.cls (sm_mi N).1 (sm_mi N).1) && decide ((sm_cls[ci - 1]?).map (fun q => q.1) = some (sm_mi N).1.cls) else decide ((sm_mi N).1.name = "<init>") && decide ((sm_mi N).2.2.2.1 = none) && decide ((sm_mi N).2.2.2.2.1 = []) && (bif kd == 2 then ck_w p2 (.methodLink (sm_cn.getD oc "") idx (sm_mi N).1) else decide (kd = 5) && ck_n p2 (.methodLinkNest (sm_cn.getD oc "") idx (sm_mi N).1 "ShuffleMill"))))
def ck_call (M pc N n : Nat) (c : Int) (l : List Nat) : Bool := (match sm_cc[l.getD 2 0]? with
  | some q => decide (q.1 = sm_oc.getD M 0) && decide ((q.2.1 : Int) = c) && decide (q.2.2.1 = N) && decide (q.2.2.2.1 = n) && decide (q.2.2.2.2.1 = l.getD 0 0) && decide (q.2.2.2.2.2.1 = l.getD 1 0)
  | none => false) && decide ((sm_mi N).2.2.2.2.2.1 + 1 ≤ (sm_mi M).2.2.2.2.2.1) && decide (8 + ((sm_mi N).2.2.1 + 11) + (sm_mi N).2.2.2.2.2.2 ≤ (sm_mi M).2.2.2.2.2.2) && decide (N < 202) && decide (N ≠ n_Law_law) &&
  (bif l.getD 0 0 == 0 then ck_d M pc (.invokevirtual c.toNat) 3 else bif l.getD 0 0 == 1 || l.getD 0 0 == 6 then ck_d M pc (.invokestatic c.toNat) 3 else ck_d M pc (.invokespecial c.toNat) 3)
def sm_xn : List String := ["java/lang/RuntimeException", "java/lang/Exception"]
def ck_thr (M pc k i : Nat) (c : Int) (l : List Nat) (wd : Nat) : Bool := decide (sm_oc.getD M 0 = 11) && decide ((k, c.toNat, l.getD 0 0) ∈ sm_xt) && decide (k < 4) && ck_d M pc (.new c.toNat) 3 && ck_d M (pc + 3) .dup 1 && (bif wd == 2 then ck_d M (pc + 4) (.ldc i) 2 else ck_d M (pc + 4) (.ldc_w i) 3) && ck_d M (pc + 4 + wd) (.invokespecial (l.getD 0 0)) 3 && ck_d M (pc + 4 + wd + 3) .athrow 1 && decide ((sm_mi M).2.2.2.2.1 = []) && (sm_tx.any (fun q => decide (q.2.1 = i))) && decide (6 ≤ (sm_mi M).2.2.2.2.2.1) && decide (90 ≤ (sm_mi M).2.2.2.2.2.2)
def sm_chk (M pc : Nat) (o : sm_O) : Bool := match o with
  | (0, xa, xb, xc, xl) => (bif xl.isEmpty then (bif xa == 1 then ck_d M pc (.iconst xc) 1 else bif xa == 2 then ck_d M pc (.bipush xc) 2 && decide ((Int8.ofInt xc).toInt32 = Int32.ofInt xc) else decide (xa = 3) && ck_d M pc (.sipush xc) 3 && decide ((Int16.ofInt xc).toInt32 = Int32.ofInt xc)) else ck_k sm_kc (sm_oc.getD M 0) xb xc xl && (bif xa == 2 then ck_d M pc (.ldc xb) 2 else decide (xa = 3) && ck_d M pc (.ldc_w xb) 3))
  | (1, xa, xb, xc, xl) => (bif xl.isEmpty then decide (xa = 1) && (bif xc == 0 then ck_d M pc (.lconst 0) 1 else decide (xc = 1) && ck_d M pc (.lconst 1) 1) else ck_k sm_kl (sm_oc.getD M 0) xb xc xl && decide (xa = 3) && ck_d M pc (.ldc2_w xb) 3)
  | (2, _, _, _, _) => ck_d M pc (.aconst_null) 1
  | (3, xa, xb, _, _) => (bif xb == 1 then (if hh : xa < 4 then ck_d M pc (.iload_n ⟨xa, hh⟩) 1 else false) else decide (xb = 2) && ck_d M pc (.iload xa) 2)
  | (4, xa, xb, _, _) => (bif xb == 1 then (if hh : xa < 4 then ck_d M pc (.lload_n ⟨xa, hh⟩) 1 else false) else decide (xb = 2) && ck_d M pc (.lload xa) 2)
  | (5, xa, xb, _, _) => (bif xb == 1 then (if hh : xa < 4 then ck_d M pc (.aload_n ⟨xa, hh⟩) 1 else false) else decide (xb = 2) && ck_d M pc (.aload xa) 2)
  | (6, xa, xb, _, _) => (bif xb == 1 then (if hh : xa < 4 then ck_d M pc (.istore_n ⟨xa, hh⟩) 1 else false) else decide (xb = 2) && ck_d M pc (.istore xa) 2)
  | (7, xa, xb, _, _) => (bif xb == 1 then (if hh : xa < 4 then ck_d M pc (.lstore_n ⟨xa, hh⟩) 1 else false) else decide (xb = 2) && ck_d M pc (.lstore xa) 2)
  | (8, xa, xb, _, _) => (bif xb == 1 then (if hh : xa < 4 then ck_d M pc (.astore_n ⟨xa, hh⟩) 1 else false) else decide (xb = 2) && ck_d M pc (.astore xa) 2)
  | (9, xa, _, xc, _) => ck_d M pc (.iinc xa xc) 3
  | (10, _, _, _, _) => ck_d M pc (.pop) 1
  | (11, _, _, _, _) => ck_d M pc (.dup) 1
  | (12, _, _, _, _) => ck_d M pc (.dup2) 1
  | (13, _, _, _, _) => ck_d M pc (.iadd) 1
  | (14, _, _, _, _) => ck_d M pc (.isub) 1
  | (15, _, _, _, _) => ck_d M pc (.imul) 1
  | (16, _, _, _, _) => ck_d M pc (.idiv) 1
  | (17, _, _, _, _) => ck_d M pc (.irem) 1
  | (18, _, _, _, _) => ck_d M pc (.iand) 1
  | (19, _, _, _, _) => ck_d M pc (.iushr) 1
  | (20, _, _, _, _) => ck_d M pc (.ladd) 1
  | (21, _, _, _, _) => ck_d M pc (.lsub) 1
  | (22, _, _, _, _) => ck_d M pc (.lmul) 1
  | (23, _, _, _, _) => ck_d M pc (.ldiv) 1
  | (24, _, _, _, _) => ck_d M pc (.land) 1
  | (25, _, _, _, _) => ck_d M pc (.lor) 1
  | (26, _, _, _, _) => ck_d M pc (.lshl) 1
  | (27, _, _, _, _) => ck_d M pc (.lcmp) 1
  | (28, _, _, _, _) => ck_d M pc (.i2l) 1
  | (29, _, _, _, _) => ck_d M pc (.l2i) 1
  | (30, xa, _, _, _) => ck_d M pc (.ifCond .eq ((xa : Int) - (pc : Int))) 3
  | (31, xa, _, _, _) => ck_d M pc (.ifCond .ne ((xa : Int) - (pc : Int))) 3
  | (32, xa, _, _, _) => ck_d M pc (.ifCond .lt ((xa : Int) - (pc : Int))) 3
  | (33, xa, _, _, _) => ck_d M pc (.ifCond .ge ((xa : Int) - (pc : Int))) 3
  | (34, xa, _, _, _) => ck_d M pc (.ifCond .gt ((xa : Int) - (pc : Int))) 3
  | (35, xa, _, _, _) => ck_d M pc (.ifCond .le ((xa : Int) - (pc : Int))) 3
  | (36, xa, _, _, _) => ck_d M pc (.if_icmp .eq ((xa : Int) - (pc : Int))) 3
  | (37, xa, _, _, _) => ck_d M pc (.if_icmp .ne ((xa : Int) - (pc : Int))) 3
  | (38, xa, _, _, _) => ck_d M pc (.if_icmp .lt ((xa : Int) - (pc : Int))) 3
  | (39, xa, _, _, _) => ck_d M pc (.if_icmp .ge ((xa : Int) - (pc : Int))) 3
  | (40, xa, _, _, _) => ck_d M pc (.if_icmp .gt ((xa : Int) - (pc : Int))) 3
  | (41, xa, _, _, _) => ck_d M pc (.if_icmp .le ((xa : Int) - (pc : Int))) 3
  | (42, xa, _, _, _) => ck_d M pc (.ifnull ((xa : Int) - (pc : Int))) 3
  | (43, xa, _, _, _) => ck_d M pc (.ifnonnull ((xa : Int) - (pc : Int))) 3
  | (44, xa, _, _, _) => ck_d M pc (.goto ((xa : Int) - (pc : Int))) 3
  | (45, xa, xb, xc, xl) => decide (decode (sm_mi M).2.1 pc = .ok (.tableswitch ((xa : Int) - (pc : Int)) xc (xc + (xl.length : Int) - 1) (xl.map (fun (n : Nat) => (n : Int) - (pc : Int))).toArray, xb))
  | (46, xa, _, _, _) => ck_d M pc (.ireturn) 1 && (bif xa == 0 then decide ((sm_mi M).2.2.2.1 = some .int) else decide (xa = 1) && decide ((sm_mi M).2.2.2.1 = some .boolean))
  | (47, _, _, _, _) => ck_d M pc (.lreturn) 1 && decide ((sm_mi M).2.2.2.1 = some .long)
  | (48, _, _, _, _) => ck_d M pc (.areturn) 1 && ck_rr (sm_mi M).2.2.2.1
  | (49, _, _, _, _) => ck_d M pc (.return_) 1 && decide ((sm_mi M).2.2.2.1 = none)
  | (50, xa, xb, xc, xl) => ck_d M pc (.getfield xc.toNat) 3 && ck_f M xa xb xc xl 0 false
  | (51, xa, xb, xc, xl) => ck_d M pc (.getfield xc.toNat) 3 && ck_f M xa xb xc xl 1 false
  | (52, xa, xb, xc, xl) => ck_d M pc (.getfield xc.toNat) 3 && ck_f M xa xb xc xl 2 false
  | (53, xa, xb, xc, xl) => ck_d M pc (.putfield xc.toNat) 3 && ck_f M xa xb xc xl 0 true
  | (54, xa, xb, xc, xl) => ck_d M pc (.putfield xc.toNat) 3 && ck_f M xa xb xc xl 1 true
  | (55, xa, xb, xc, xl) => ck_d M pc (.putfield xc.toNat) 3 && ck_f M xa xb xc xl 2 true
  | (56, xa, xb, xc, xl) => ck_d M pc (.putfield xc.toNat) 3 && ck_f M xa xb xc xl 3 true
  | (57, _, _, _, _) => ck_d M pc (.iaload) 1
  | (58, _, _, _, _) => ck_d M pc (.laload) 1
  | (59, xa, _, _, _) => ck_d M pc (.aaload) 1 && decide (3 ≤ xa) && decide (xa < 8)
  | (60, _, _, _, _) => ck_d M pc (.baload) 1
  | (61, _, _, _, _) => ck_d M pc (.iastore) 1
  | (62, _, _, _, _) => ck_d M pc (.lastore) 1
  | (63, xa, xb, _, _) => ck_d M pc (.aastore) 1 && decide (3 ≤ xa) && decide (xa < 8) && decide ((sm_cls[xb]?).map (fun q => q.1) = sm_ra[xa - 3]?)
  | (64, _, _, _, _) => ck_d M pc (.bastore) 1
  | (65, _, _, _, _) => ck_d M pc (.arraylength) 1
  | (66, xa, xb, xc, xl) => ck_d M pc (.new xc.toNat) 3 && (match sm_nw[xl.getD 0 0]? with
    | some q => decide (q.1 = sm_oc.getD M 0) && decide ((q.2.1 : Int) = xc) && decide (q.2.2.1 = xa) && decide (q.2.2.2.1 = xb)
    | none => false)
  | (67, xa, _, _, _) => (bif xa == 0 then ck_d M pc (.newarray .int) 2 else bif xa == 1 then ck_d M pc (.newarray .long) 2 else decide (xa = 2) && ck_d M pc (.newarray .boolean) 2)
  | (68, xa, _, xc, xl) => ck_d M pc (.anewarray xc.toNat) 3 && (match sm_aw[xl.getD 0 0]? with
    | some q => decide (q.1 = sm_oc.getD M 0) && decide ((q.2.1 : Int) = xc) && decide (q.2.2.1 = xa)
    | none => false)
  | (69, xa, xb, xc, xl) => ck_call M pc xa xb xc xl
  | (70, _, _, xc, xl) => ck_d M pc (.invokespecial xc.toNat) 3 && (match sm_oi[xl.getD 0 0]? with
    | some q => decide (q.1 = sm_oc.getD M 0) && decide ((q.2.1 : Int) = xc)
    | none => false) && ck_room M
  | (71, _, _, xc, xl) => ck_d M pc (.invokestatic xc.toNat) 3 && (match sm_ac[xl.getD 0 0]? with
    | some q => decide (q.1 = sm_oc.getD M 0) && decide ((q.2.1 : Int) = xc)
    | none => false) && ck_room M
  | (72, _, _, xc, xl) => ck_d M pc (.invokestatic xc.toNat) 3 && (match sm_ac[xl.getD 0 0]? with
    | some q => decide (q.1 = sm_oc.getD M 0) && decide ((q.2.1 : Int) = xc)
    | none => false) && ck_room M
  | (73, xa, xb, xc, xl) => ck_thr M pc xa xb xc xl 2
  | (75, _, _, _, _) => ck_d M pc (.lrem) 1
  | (76, _, _, _, _) => ck_d M pc (.lxor) 1
  | (77, xa, xb, xc, xl) => ck_thr M pc xa xb xc xl 3
  | _ => false
def ck_l (M : Nat) : Nat → List (Option sm_O) → Bool
  | _, [] => true
  | pc, none :: r => ck_l M (pc + 1) r
  | pc, some o :: r => sm_chk M pc o && ck_l M (pc + 1) r
def sm_ckm (M : Nat) : Bool := ck_l M 0 (sm_tb.getD M [])
theorem ck_l_spec {M : Nat} : ∀ (l : List (Option sm_O)) (k i : Nat) (o : sm_O), ck_l M k l = true → l.getD i none = some o → sm_chk M (k + i) o = true
  | [], _, _, _, _, h => by simp at h
  | none :: r, k, i, o, hc, h => by
    match i, h with
    | 0, h => simp at h
    | j + 1, h =>
      have := ck_l_spec r (k + 1) j o hc (by simpa using h)
      rw [show k + 1 + j = k + (j + 1) by omega] at this
      exact this
  | some x :: r, k, i, o, hc, h => by
    simp only [ck_l, Bool.and_eq_true] at hc
    match i, h with
    | 0, h =>
      simp at h
      subst h
      exact hc.1
    | j + 1, h =>
      have := ck_l_spec r (k + 1) j o hc.2 (by simpa using h)
      rw [show k + 1 + j = k + (j + 1) by omega] at this
      exact this
