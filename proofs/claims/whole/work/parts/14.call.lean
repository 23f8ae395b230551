/-! contracts: what a method of the pure machine does, said of the machine -/
def sm_nst (w : Cond) : Bool := sm_nest w || (match w with
  | .declares _ => true
  | .castable _ _ => true
  | _ => false)
/-- a static of Throwable's that holds null or a reference; its cell lies below b -/
def sm_ST (n d : String) (b : Nat) (U : State) (H : Heap) : Prop := ∃ (c : ClassId) (k : Class) (i : Nat) (f : Field) (a : Nat) (cell : Cell) (v : Value), U.vm.findClass Bundle.tN = some c ∧ U.fieldFound? Bundle.tN n d = some (c, k, i, f) ∧ f.isStatic = true ∧ k.statics = some a ∧ H[a]? = some cell ∧ cell.vm.isStatics = true ∧ cell.cls = c ∧ f.slot < cell.slots.size ∧ k.staticTypes[f.slot]? = some f.type ∧ cell.slots[f.slot]? = some v ∧ v.isRef = true ∧ k.init = .initialized ∧ a < b
theorem sm_ST.go {n d : String} {b : Nat} {u U : State} {H H1 : Heap} (h : sm_ST n d b u H) (hvm : u.vm.Alike U.vm) (hq : ∀ a : Nat, a < H.size → a < b → H1[a]? = H[a]?) : sm_ST n d b U H1 := by
  obtain ⟨c, k, i, f, a, cell, v, h1, h2, h3, h4, h5, h6, h7, h8, h9, h10, h11, h12, h13⟩ := h
  obtain ⟨k', hi', he⟩ := State.fieldFound?_setVm hvm h2
  exact ⟨c, k', i, f, a, cell, v, by rw [hvm.findClass]; exact h1, hi', h3, by rw [he]; exact h4, by rw [hq a (Array.getElem?_eq_some_iff.mp h5).1 h13]; exact h5, h6, h7, h8, by rw [he]; exact h9, h10, h11, by rw [he]; exact h12, h13⟩
theorem sm_ST.lays {n d : String} {b : Nat} {s : State} {args : Array Value} (h : sm_ST n d b s s.heap) : (Cond.laysStatic Bundle.tN n d).before args s = true := by
  obtain ⟨c, k, i, f, a, cell, v, h1, h2, h3, h4, h5, h6, h7, h8, h9, -⟩ := h
  show (Cond.laysStatic Bundle.tN n d).holds args s none s [] = true
  exact Cond.laysStatic_of h1 h2 h3 h4 h5 h6 h7 h8 h9
theorem sm_ST.isRef {n d : String} {b : Nat} {s : State} {args : Array Value} (h : sm_ST n d b s s.heap) : (Cond.isRef (.static Bundle.tN n d)).before args s = true := by
  obtain ⟨c, k, i, f, a, cell, v, h1, h2, h3, h4, h5, h6, h7, h8, h9, h10, h11, h12, -⟩ := h
  have he : (Term.static Bundle.tN n d).eval args s none [] s = some v := by
    simp [Term.eval, State.fieldNamed?, h2, h3, h4, h5, h6, h10, h12]
  simp only [Cond.before, Cond.holds, Cond.value, he]
  cases v <;> simp_all [Value.isRef]
def sm_Env (D : va_G) (cl : List vw_C) (tys : List (ClassId × FieldType)) (b scr L : Nat) (xs : Nat → Int32) (WN : List Cond) (RA : List String) (SW : List (String × Nat × String)) (NC : List (String × String)) (U : State) : Prop :=
  va_K D cl tys U ∧ (∀ w ∈ WN, sm_nst w = true → va_Nw w U) ∧ (∀ C ∈ RA, va_AO C U) ∧ (∀ q ∈ SW, ∃ sa, vk_R q.1 q.2.1 q.2.2 sa U) ∧ (∀ q ∈ NC, va_Nc q.1 q.2 U) ∧ va_X scr L xs U U.heap ∧ scr < b ∧ b ≤ U.heap.size ∧ sm_ST "UNASSIGNED_STACK" Bundle.steD b U U.heap ∧ sm_ST "SUPPRESSED_SENTINEL" Bundle.listD b U U.heap
theorem sm_Env_warm {D : va_G} {cl : List vw_C} {tys : List (ClassId × FieldType)} {b scr L : Nat} {xs : Nat → Int32} {WN : List Cond} {RA : List String} {SW : List (String × Nat × String)} {NC : List (String × String)} {s U : State} {locs : List Loc} (hE : sm_Env D cl tys b scr L xs WN RA SW NC s) (hW : s.WarmedH U.vm) (hS : va_S (sm_A b) s.heap U.heap locs) : sm_Env D cl tys b scr L xs WN RA SW NC U := by
  obtain ⟨h1, h2, h3, h4, h5, h6, h7, h8, h9, h10⟩ := hE
  refine ⟨va_K.moved hW.alike h1, fun w hw hn => ?_, fun C hC => (h3 C hC).moved hW.alike, fun q hq => ?_, fun q hq => (h5 q hq).moved hW.alike, ?_, h7, Nat.le_trans h8 hS.1, h9.go hW.alike (fun q q1 q2 => hS.2.1 q q1 (Nat.not_le.mpr q2)), h10.go hW.alike (fun q q1 q2 => hS.2.1 q q1 (Nat.not_le.mpr q2))⟩
  · have hz := h2 w hw hn
    cases w <;> first | (exact va_Nw.warmF hW hz) | (exact va_Nw.warmM hW hz) | (exact va_Nw.warmD hW hz) | (exact va_Nw.warmC hW hz) | (simp [sm_nst, sm_nest] at hn)
  · obtain ⟨sa, h⟩ := h4 q hq
    exact ⟨sa, vk_R.warm hW h⟩
  · exact va_X.moved hW.alike (va_X.kept h6 (hS.2.1 scr (by omega) (Nat.not_le.mpr h7)))
theorem sm_Env_calling {D : va_G} {cl : List vw_C} {tys : List (ClassId × FieldType)} {b scr L : Nat} {xs : Nat → Int32} {WN : List Cond} {RA : List String} {SW : List (String × Nat × String)} {NC : List (String × String)} {U : State} {g : JFrame} {mk : MethodId} {a : Array Value} (hE : sm_Env D cl tys b scr L xs WN RA SW NC U) : sm_Env D cl tys b scr L xs WN RA SW NC (U.calling g mk a) :=
  sm_Env_warm (s := U) (U := U.calling g mk a) (locs := []) hE (State.WarmedH.refl U) va_S.rf
section SMC
variable (D : va_G) (cl : List vw_C) (ac : Nat → ClassId) (tys : List (ClassId × FieldType)) (b scr L : Nat) (xs : Nat → Int32) (WN : List Cond) (RA : List String) (SW : List (String × Nat × String)) (NC : List (String × String))
def sm_Pc (av : List Value) (h : sm_H) : Array Value → State → Prop := fun v U => v = (av.map (sm_c b scr)).toArray ∧ sm_Env D cl tys b scr L xs WN RA SW NC U ∧ sm_Y D cl ac b scr L xs h U.heap ∧ (gJ h = 0 → U.heap.size = b + gN h)
/-- how it ends: with its answer, or with an exception of its kind -/
def sm_Qa (EX : Nat → String) (res : sm_R) (h' : sm_H) : State → Outcome → State → Prop := fun st o t => sm_Y D cl ac b scr L xs h' t.heap ∧ va_F (sm_A b) st t ∧
  ((∃ v, res = .inl v ∧ o = .returned (v.map (sm_c b scr))) ∨ ∃ k q ce, res = .inr k ∧ o = .threw q ∧ t.heap[q]? = some ce ∧ ce.vm = .none ∧ st.vm.findClass (EX k) = some ce.cls)
end SMC
/-- a contract: at most mc cells of ms slots are new, nothing old is written but what 'free' names -/
def sm_Met (l : Launch) (y : MethodName) (ws : List Cond) (rm : Room) (Pc : Array Value → State → Prop) (Qa : State → Outcome → State → Prop) (mc ms : Nat) (free : Addr → Prop) : Prop :=
  MetFree l y (headSpec ws rm) Pc (fun _ _ _ _ _ => True) (fun _ st o t => Qa st o t ∧ ∃ Lc, st.WarmedH t.vm ∧ st.sameButNew ({ t with vm := st.vm } : State) Lc mc ms ∧ ∀ q ∈ Lc, free q.base)
def sm_MQ (below : List Frame) (Qa : State → Outcome → State → Prop) (s : State) (mc ms : Nat) (free : Addr → Prop) : State → Prop := fun t =>
  ∃ o, t.status = .running ∧ Ended t below o ∧ Qa s o t ∧ ∃ Lc, s.WarmedH t.vm ∧ s.sameButNew ({ t with vm := s.vm } : State) Lc mc ms ∧ ∀ q ∈ Lc, free q.base
theorem sm_cw_spec {y : MethodName} {bs : ByteArray} {n : Nat} {ret : Option FieldType} {hh : List (Nat × Nat × Nat × Nat)} {args : Array Value} {s : State} (h : (sm_cw y bs n ret hh).before args s = true) :
    ∃ m meth c, s.methodNamed? y = some m ∧ s.vm.method? m = some meth ∧ meth.code = some c ∧ c.code = bs ∧ c.maxLocals = n ∧ meth.sig.returnType = ret ∧ meth.locks = false ∧ c.exceptionTable.toList = tableOf hh ∧ parseMethodDescriptor y.desc = some meth.sig := by
  cases hh with
  | nil =>
    have h' : (Cond.code y bs n ret).before args s = true := h
    obtain ⟨m, hn⟩ := Cond.code_named h'
    obtain ⟨meth, c, h1, h2, h3, h4, h5, h6, h7, h8⟩ := Cond.code_spec hn h'
    refine ⟨m, meth, c, hn, h1, h2, h3, h4, h5, h6, ?_, h8⟩
    rw [Array.isEmpty_iff.mp h7]; rfl
  | cons q r =>
    have h' : (Cond.codeWith y bs n ret (q :: r)).before args s = true := h
    obtain ⟨m, meth, c, hn, h1, h2, h3, h4, h5, h6, h7, h8⟩ := Cond.codeWith_spec h'
    exact ⟨m, meth, c, hn, h1, h2, h3, h4, h6, h7, by rw [← h5, table_eq], h8⟩
theorem sm_ofW {l : Launch} {y : MethodName} {ws : List Cond} {rm : Room} {Pc : Array Value → State → Prop} {Qa : State → Outcome → State → Prop} {mc ms : Nat} {free : Addr → Prop} {bs : ByteArray} {n : Nat} {ret : Option FieldType} {hh : List (Nat × Nat × Nat × Nat)}
    (hy : plainFor y = true) (hw : sm_cw y bs n ret hh ∈ ws)
    (body : ∀ p e s m args below meth c s₁, BodyLoose p l y (headSpec ws rm) bs n ret e s m args below meth c s₁ → c.maxLocals = n → c.exceptionTable.toList = tableOf hh → Pc args s →
      W p l e (headSpec ws rm).room s m args below meth c s.heap [] 0 0 (sm_MQ below Qa s mc ms free) (entryFrame m args n)) : sm_Met l y ws rm Pc Qa mc ms free := by
  refine MetFree.of_bodySF (code := bs) (maxLocals := n) (ret := ret) hy ?_ ?_
  · intro args s m h hn
    obtain ⟨m9, meth, c, hn9, h1, h2, h3, h4, h5, h6, -, -⟩ := sm_cw_spec (atoms_spec (ws := ws) h _ hw)
    cases hn.symm.trans hn9
    exact ⟨meth, c, h1, h2, h3, h4, h5, h6⟩
  · intro p e s m args below meth c s₁ B hml hP _
    have hh0 : s₁.heap = s.heap := by rw [B.state]; rfl
    obtain ⟨m9, meth9, c9, hn9, h1, h2, -, -, -, -, h7, -⟩ := sm_cw_spec (atoms_spec (ws := ws) B.pre _ hw)
    cases Option.some.inj (hn9.symm.trans B.named)
    cases Option.some.inj (h1.symm.trans B.method)
    cases Option.some.inj (h2.symm.trans (Stand.of_body B).code)
    obtain ⟨t, a1, o, b1, b2, b3⟩ := body p e s m args below meth c s₁ B hml h7 hP s₁ hh0 (Stand.of_body B)
    exact ⟨t, o, a1, b1, b2, b3⟩
section SMI
variable {p : Program} {l : Launch} {e : Env} {R : Room} {s : State} {m : MethodId} {args : Array Value} {below : List Frame} {meth : Method} {c : Code} {T : State} {locs : List Loc} {cells slots : Nat}
/-- the place of a call has been linked -/
def sm_Site (p : Program) (l : Launch) (e : Env) (R : Room) (s : State) (m : MethodId) (args : Array Value) (below : List Frame) (meth : Method) (c : Code) (T : State) (locs : List Loc) (cells slots : Nat) (g : JFrame) (rest : List Value) (y : MethodName) (a : Array Value) : Prop :=
  ∃ (mk : MethodId) (vm₁ : Vm), s.WarmedH vm₁ ∧ Stand p l e R s m args below meth c (T.setVm vm₁) locs cells slots ∧ (T.setVm vm₁).methodNamed? y = some mk ∧
    ∀ target, Steps p.tables e below (doInvoke e ((T.setVm vm₁).setTop { g with stack := rest }) [] mk a).1 target → Steps p.tables e below (T.setTop g) target
theorem sm_siteV (X : Stand p l e R s m args below meth c T locs cells slots) (hexec : p.tables.exec = Jvm.exec) {own C : String} {index : Nat} {y : MethodName}
    (hown : s.vm.findClass own = some m.cls) (hlink : (Cond.methodLink own index y).before args s = true) (hinst : (Cond.instanceMethod y).before args s = true) (hsel : (Cond.selects C y y).before args s = true)
    (hy : y.cls ≠ "java/lang/invoke/MethodHandle" ∧ y.cls ≠ "java/lang/invoke/VarHandle") {bs : ByteArray} {n : Nat} {ret : Option FieldType} {hh : List (Nat × Nat × Nat × Nat)} (hcode : (sm_cw y bs n ret hh).before args s = true)
    {q : Addr} {cellB : Cell} (hcell : T.heap[q]? = some cellB) (hobj : cellB.vm.isStatics = false) (hcls : s.vm.findClass C = some cellB.cls)
    {g : JFrame} (hg : g.method = m) {argsL rest : List Value} (hlen : ∀ sig, parseMethodDescriptor y.desc = some sig → argsL.length = sig.parameters.length)
    (hstack : g.stack = argsL.reverse ++ .ref q :: rest) (hdg : decode c.code g.pc = .ok (.invokevirtual index, 3)) :
    sm_Site p l e R s m args below meth c T locs cells slots g rest y (Value.ref q :: argsL).toArray := by
  obtain ⟨mk, methM, hnamed, hmethM, hstM, habM⟩ := Cond.instanceMethod_spec hinst
  obtain ⟨m9, meth9, c9, hn9, hm9, -, -, -, -, -, -, hsig⟩ := sm_cw_spec hcode
  cases hnamed.symm.trans hn9
  cases hmethM.symm.trans hm9
  obtain ⟨c2, r2, m2, q1, q2, q3, q4, kP, hkP, hkPi⟩ := Cond.selects_spec hsel
  cases hcls.symm.trans q1
  cases (State.methodFound?_of_named hnamed hy).symm.trans q2
  cases hnamed.symm.trans q3
  have hselP : selectMethod e.platform s.vm cellB.cls mk = .method mk := by rw [Launch.admits_selectMethod X.admits]; exact q4
  obtain ⟨vm₁, X₁, hstep₁⟩ := X.invokevirtual hexec hown hlink hnamed hmethM hstM hkP hkPi hy (a := q) (cell := cellB) hcell
    (fun z h => by rw [h] at hobj; cases hobj) hselP hmethM habM hkP hkPi (g := g) hg (argsL := argsL) (rest := rest) (hlen _ hsig) hstack hdg
  exact ⟨mk, vm₁, X₁.warmed, X₁, X₁.named hnamed, fun target h => hstep₁ _ fun acts => by rw [doInvoke_state]; exact h⟩
theorem sm_siteS (X : Stand p l e R s m args below meth c T locs cells slots) (hexec : p.tables.exec = Jvm.exec) {own : String} {index : Nat} {y : MethodName}
    (hown : s.vm.findClass own = some m.cls) (hlink : (Cond.methodLink own index y).before args s = true) (hstat : (Cond.static y).before args s = true) (hinit : (Cond.initialized y.cls).before args s = true)
    (hy : y.cls ≠ "java/lang/invoke/MethodHandle" ∧ y.cls ≠ "java/lang/invoke/VarHandle") {bs : ByteArray} {n : Nat} {ret : Option FieldType} {hh : List (Nat × Nat × Nat × Nat)} (hcode : (sm_cw y bs n ret hh).before args s = true)
    {g : JFrame} (hg : g.method = m) {argsL rest : List Value} (hlen : ∀ sig, parseMethodDescriptor y.desc = some sig → argsL.length = sig.parameters.length)
    (hstack : g.stack = argsL.reverse ++ rest) (hdg : decode c.code g.pc = .ok (.invokestatic index, 3)) :
    sm_Site p l e R s m args below meth c T locs cells slots g rest y argsL.toArray := by
  obtain ⟨mk, methM, c9, hnamed, hmethM, -, -, -, -, -, -, hsig⟩ := sm_cw_spec hcode
  have hstatic : methM.isStatic = true := Cond.static_spec hnamed hmethM hstat
  obtain ⟨kP, hkP, -⟩ := className_of_methodNamed hnamed
  have hinitP : kP.init = .initialized := Cond.initialized_spec (findClass_of_methodNamed hnamed) hkP hinit
  obtain ⟨vm₁, X₁, hstep₁⟩ := X.invokestatic hexec hown hlink hnamed hmethM hstatic hkP hinitP hy (g := g) hg (argsL := argsL) (rest := rest) (hlen _ hsig) hstack hdg
  exact ⟨mk, vm₁, X₁.warmed, X₁, X₁.named hnamed, fun target h => hstep₁ _ fun acts => by rw [doInvoke_state]; exact h⟩
theorem sm_siteI (X : Stand p l e R s m args below meth c T locs cells slots) (hexec : p.tables.exec = Jvm.exec) {own host : String} {index : Nat} {y : MethodName}
    (hown : s.vm.findClass own = some m.cls) (hy1 : y.name = "<init>") (hlink : (Cond.methodLink own index y).before args s = true ∨ (Cond.methodLinkNest own index y host).before args s = true) (hinst : (Cond.instanceMethod y).before args s = true)
    (hy : y.cls ≠ "java/lang/invoke/MethodHandle" ∧ y.cls ≠ "java/lang/invoke/VarHandle") {bs : ByteArray} {n : Nat} (hcode : (Cond.code y bs n none).before args s = true)
    {g : JFrame} (hg : g.method = m) {q : Addr} {argsL rest : List Value} (hlen : ∀ sig, parseMethodDescriptor y.desc = some sig → argsL.length = sig.parameters.length)
    (hstack : g.stack = argsL.reverse ++ .ref q :: rest) (hdg : decode c.code g.pc = .ok (.invokespecial index, 3)) :
    sm_Site p l e R s m args below meth c T locs cells slots g rest y (Value.ref q :: argsL).toArray := by
  subst hg
  have hpl : e.platform.magicAccessors = ({} : Platform).magicAccessors := by rw [X.admits.platform]
  rcases hlink with hlink | hlink
  · obtain ⟨mk, methM, cM, kP, vm₁, hnamed, hmethM, hcodeM, -, hlocalsM, -, hkP, -, hW₁, hstep₁⟩ := Steps.initColdArgs (e := e) X.here hexec X.warmed hpl hown hy1 hy hlink hinst hcode (f := g) rfl hlen hstack hdg
    have X₁ := X.noted hW₁
    exact ⟨mk, vm₁, X₁.warmed, X₁, X₁.named hnamed, fun target h => hstep₁ _ fun acts => by rw [doInvoke_state]; exact h⟩
  · obtain ⟨mk, methM, cM, kP, vm₁, hnamed, hmethM, hcodeM, -, hlocalsM, -, hkP, -, hW₁, hstep₁⟩ := Steps.initColdArgsNest (e := e) X.here hexec X.warmed hpl hown hy1 hy hlink hinst hcode (f := g) rfl hlen hstack hdg
    have X₁ := X.noted hW₁
    exact ⟨mk, vm₁, X₁.warmed, X₁, X₁.named hnamed, fun target h => hstep₁ _ fun acts => by rw [doInvoke_state]; exact h⟩
end SMI
