/-! a call: it returns, or throws over the caller's frame -/
section SMV
variable {p : Program} {l : Launch} {e : Env} {R : Room} {s : State} {m : MethodId} {args : Array Value} {below : List Frame} {meth : Method} {c : Code} {T : State} {locs : List Loc} {cells slots : Nat}
theorem sm_invoke {y : MethodName} {ws : List Cond} {rm : Room} {Pc : Array Value → State → Prop} {Qa : State → Outcome → State → Prop} {mc ms : Nat} {free : Addr → Prop} {n : Nat} {a : Array Value} {g : JFrame} {mk : MethodId} {ig : Instr}
    (X : Stand p l e R s m args below meth c T locs cells slots) (hM : sm_Met l y ws rm Pc Qa mc ms free) (hrc : rm.cells = mc) (hrs : rm.slots = ms) (hframes : rm.frames + 1 ≤ R.frames) (hlocals : 8 + (n + 11) + rm.locals ≤ R.locals)
    (hws : ∀ w ∈ ws, w.before a T = true) (hcd : ∃ methY cY, T.vm.method? mk = some methY ∧ methY.code = some cY ∧ cY.maxLocals = n) (hinit : (Cond.initialized y.cls).before a T = true)
    (hc : cells + mc ≤ R.cells) (hs : slots + ms ≤ R.slots) (hPc : Pc a (T.calling g mk a)) (hg : g.method = m) (hsize : g.locals.size = c.maxLocals) (hdg : decode c.code g.pc = .ok (ig, 3)) (hW : 2 * g.monitorRoom + (g.stack.map fun v => v.category).sum ≤ 8) (hn : T.methodNamed? y = some mk) :
    ∃ (o : Outcome) (t : State) (Lc : List Loc), Stand p l e R s m args below meth c (({ T with heap := t.heap, slotsUsed := t.slotsUsed } : State).setVm t.vm) (locs ++ Lc) (cells + mc) (slots + ms) ∧ (∀ q ∈ Lc, free q.base) ∧ Qa (T.calling g mk a) o t ∧
      ((∃ v, o = .returned v ∧ Steps p.tables e below (doInvoke e (T.setTop g) [] mk a).1 ((({ T with heap := t.heap, slotsUsed := t.slotsUsed } : State).setVm t.vm).setTop { g with pc := g.pc + 3, stack := v.toList ++ g.stack })) ∨
       (∃ q, o = .threw q ∧ Steps p.tables e below (doInvoke e (T.setTop g) [] mk a).1 (((({ T with heap := t.heap, slotsUsed := t.slotsUsed } : State).setVm t.vm).setTop g).pushFrame (.throwing q)))) := by
  obtain ⟨methY, cY, hmY, hcY, hlY⟩ := hcd
  obtain ⟨kY, hkY, -⟩ := className_of_methodNamed hn
  have hinitY : kY.init = .initialized := Cond.initialized_spec (findClass_of_methodNamed hn) hkY hinit
  have h : At T g.method c below := by rw [hg]; exact X.here
  have happ : (headSpec ws rm).appliesLoose y e.platform (T.calling g mk a) = true :=
    Spec.appliesLoose_calling (g := g) h hdg hn hkY hinitY
      (X.room_calling (g := g) (R' := (headSpec ws rm).room) hsize hmY hcY hframes (by rw [hlY]; show _ + _ + rm.locals ≤ _; omega) (by show cells + rm.cells ≤ _; omega) (by show slots + rm.slots ≤ _; omega)) (atoms_intro hws)
  obtain ⟨mid, hmid⟩ := h.above
  have hfr : (T.setTop g).frames = (.java g :: mid) ++ below := by rw [State.frames_setTop' g h.top, hmid]; rfl
  obtain ⟨o, t, hsteps, -, hend, hq, Lc, hW₂, hsm, hL⟩ := Steps.callFree hM p X.admits X.cas X.clock (acts := []) hfr happ hPc trivial
  rw [State.frames_setTop' g h.top] at hend
  obtain ⟨g₀, hg0⟩ := Option.isSome_iff_exists.mp h.top
  obtain ⟨r, hr⟩ := State.topJava?_eq_some.mp hg0
  have hr' : (({ T with heap := t.heap, slotsUsed := t.slotsUsed } : State).setVm t.vm).frames = .java g₀ :: r := hr
  have hW' : T.WarmedH t.vm := hW₂
  obtain ⟨e2, q2, q3, q4, q5, q6⟩ := id hsm
  have e3 : t = ({ (T.calling g mk a).setFrames t.frames with heap := t.heap, slotsUsed := t.slotsUsed } : State).setVm t.vm := by
    have : t = ({ t with vm := (T.calling g mk a).vm } : State).setVm t.vm := rfl
    rw [show ({ t with vm := (T.calling g mk a).vm } : State) = _ from e2] at this
    exact this
  have hsame : T.sameButNew ({ T with heap := t.heap, slotsUsed := t.slotsUsed } : State) Lc mc ms := by
    refine ⟨?_, q2, q3, q4, q5, q6⟩
    obtain ⟨th, hth, -⟩ := State.frames_cons hr
    show ({ T with heap := t.heap, slotsUsed := t.slotsUsed } : State) = { T.setFrames T.frames with heap := t.heap, slotsUsed := t.slotsUsed }
    rw [State.setFrames_self hth]
  subst hg
  refine ⟨o, t, Lc, ⟨X.admits, X.cas, X.clock, X.frames, X.room, X.hears, X.method, X.code, (X.here.setHeapUsed t.heap t.slotsUsed).setVm hW'.alike, X.tail, State.WarmedH.trans X.warmed hW', X.limits, X.bytes, X.same.trans (hsame.setVm s.vm)⟩, hL, hq, ?_⟩
  cases o with
  | returned v =>
    left
    refine ⟨v, rfl, ?_⟩
    obtain ⟨c₂, i₂, len₂, hc₂, hd₂, hf₂⟩ := hend
    have hcc : c₂ = c := by
      have h1 : t.code? g.method = T.code? g.method := by
        rw [State.code?_eq, State.code?_eq, hW'.alike.method?]
      exact Option.some.inj (hc₂.symm.trans (h1.trans h.code))
    subst hcc
    have hlen : len₂ = 3 := by rw [hdg] at hd₂; cases hd₂; rfl
    subst hlen
    have ht : t = (({ T with heap := t.heap, slotsUsed := t.slotsUsed } : State).setVm t.vm).setTop { g with pc := g.pc + 3, stack := v.toList ++ g.stack } := by
      refine e3.trans ?_
      rw [hf₂, State.calling_eq h.top, State.setFrames_setFrames, State.setTop_of_frames _ hr', hr]
      rfl
    rw [← ht]
    exact hsteps
  | threw q =>
    right
    refine ⟨q, rfl, ?_⟩
    have hf₂ : t.frames = .throwing q :: .java g :: T.frames.tail := hend
    have ht : t = ((({ T with heap := t.heap, slotsUsed := t.slotsUsed } : State).setVm t.vm).setTop g).pushFrame (.throwing q) := by
      refine e3.trans ?_
      rw [hf₂, State.calling_eq h.top, State.setFrames_setFrames, State.pushFrame, State.frames_setTop _ hr', State.setTop_of_frames _ hr', State.setFrames_setFrames, hr]
      rfl
    rw [← ht]
    exact hsteps
/-- the frame g, with q thrown over it -/
def sm_WX (p : Program) (l : Launch) (e : Env) (R : Room) (s : State) (m : MethodId) (args : Array Value) (below : List Frame) (meth : Method) (c : Code) (H : Heap) (locs : List Loc) (cells slots : Nat) (Q : State → Prop) (g : JFrame) (q : Addr) : Prop :=
  ∀ T : State, T.heap = H → Stand p l e R s m args below meth c T locs cells slots → ∃ t, Steps p.tables e below ((T.setTop g).pushFrame (.throwing q)) t ∧ Q t
end SMV
section SMK
variable {p : Program} {l : Launch} {e : Env} {R : Room} {s : State} {m : MethodId} {args : Array Value} {below : List Frame} {meth : Method} {c : Code} {Q : State → Prop} {D : va_G} {cl : List vw_C} {ac : Nat → ClassId} {b scr L nL K0 D0 : Nat} {xs : Nat → Int32} {cc : ByteArray} {pc : Nat} {ls : sm_L} {r : List Value} {h h' : sm_H} {tys : List (ClassId × FieldType)} {WN : List Cond} {RA : List String} {SW : List (String × Nat × String)} {NC : List (String × String)} {EX : Nat → String}
/-- behind a call that threw -/
def sm_GX (p : Program) (l : Launch) (e : Env) (R : Room) (s : State) (m : MethodId) (args : Array Value) (below : List Frame) (meth : Method) (c : Code) (Q : State → Prop) (D : va_G) (cl : List vw_C) (ac : Nat → ClassId) (b scr L : Nat) (xs : Nat → Int32) (nL K0 D0 : Nat) (pc : Nat) (ls : sm_L) (rest : List Value) (h : sm_H) (E : String) : Prop :=
  ∀ (H : Heap) (locs : List Loc) (lsA : Array Slot) (q : Addr) (ce : Cell), sm_Y D cl ac b scr L xs h H → va_S (sm_A b) s.heap H locs → sm_lv b scr lsA nL ls → H[q]? = some ce → ce.vm = .none → s.vm.findClass E = some ce.cls →
    sm_WX p l e R s m args below meth c H locs (gN h + gJ h - K0) (gD h - D0) Q (F0 m pc lsA (rest.map (sm_c b scr))) q
theorem sm_hz {H : Heap} {locs : List Loc} (hE : sm_Env D cl tys b scr L xs WN RA SW NC s) (hP : sm_Y D cl ac b scr L xs h H) (hS : va_S (sm_A b) s.heap H locs) (hsz : gJ h = 0 → s.heap.size = b + K0) (m1 : K0 ≤ gN h + gJ h) (hup : H.size ≤ s.heap.size + (gN h + gJ h - K0)) : gJ h = 0 → H.size = b + gN h := by
  intro hJ
  have h1 := sm_low hP hE.2.2.2.2.2.2.2.1 hS
  have h2 := hsz hJ
  omega
theorem sm_wt_c {st : List Value} : ((st.map (sm_c b scr)).map fun v => v.category).sum = sm_wt st := by
  rw [List.map_map]
  unfold sm_wt
  congr 1
  apply List.map_congr_left
  intro v _
  exact sm_c_cat b scr v
/-- a call of a method whose run is known -/
theorem G_call {y : MethodName} {ws : List Cond} {rm : Room} {av st rest : List Value} {res : sm_R} {n : Nat} {bs : ByteArray} {ret : Option FieldType} {hh : List (Nat × Nat × Nat × Nat)} {ig : Instr} {Ts : List Cond} (hml : c.maxLocals = nL) (hE : sm_Env D cl tys b scr L xs WN RA SW NC s)
    (hM : sm_Met l y ws rm (sm_Pc D cl ac tys b scr L xs WN RA SW NC av h) (sm_Qa D cl ac b scr L xs EX res h') (gN h' + gJ h' - (gN h + gJ h)) (gD h' - gD h) (sm_A b))
    (hrc : rm.cells = gN h' + gJ h' - (gN h + gJ h)) (hrs : rm.slots = gD h' - gD h) (hfr : rm.frames + 1 ≤ R.frames) (hlo : 8 + (n + 11) + rm.locals ≤ R.locals)
    (hts : ∀ w ∈ Ts, w.before args s = true) (hG : GoodIn Ts ws) (hcw : sm_cw y bs n ret hh ∈ ws) (hini : Cond.initialized y.cls ∈ ws) (hd : decode c.code pc = .ok (ig, 3)) (hwt : sm_wt rest ≤ 8)
    (hsz : gJ h = 0 → s.heap.size = b + K0) (m1 : K0 ≤ gN h + gJ h) (m2 : gN h + gJ h ≤ gN h' + gJ h') (m3 : D0 ≤ gD h) (m4 : gD h ≤ gD h') (hc1 : gN h' + gJ h' - K0 ≤ R.cells) (hc2 : gD h' - D0 ≤ R.slots)
    (hsite : ∀ (H : Heap) (locs : List Loc) (lsA : Array Slot) (T : State), sm_Y D cl ac b scr L xs h H → T.heap = H → Stand p l e R s m args below meth c T locs (gN h + gJ h - K0) (gD h - D0) → sm_Site p l e R s m args below meth c T locs (gN h + gJ h - K0) (gD h - D0) (F0 m pc lsA (st.map (sm_c b scr))) (rest.map (sm_c b scr)) y (av.map (sm_c b scr)).toArray)
    (kr : ∀ v, res = .inl v → sm_G p l e R s m args below meth c Q D cl ac b scr L xs nL K0 D0 (pc + 3) ls (v.toList ++ rest) h')
    (kx : ∀ k, res = .inr k → sm_GX p l e R s m args below meth c Q D cl ac b scr L xs nL K0 D0 pc ls rest h' (EX k)) : sm_G p l e R s m args below meth c Q D cl ac b scr L xs nL K0 D0 pc ls st h := by
  intro H locs lsA hP hS hl
  refine sm_sz (fun hup => ?_)
  intro T hT X
  obtain ⟨mk, vm₁, hW₁, X₁, hn, hgo⟩ := hsite H locs lsA T hP hT X
  have hws : ∀ w ∈ ws, w.before (av.map (sm_c b scr)).toArray (T.setVm vm₁) = true := fun w hw => pay_in hts hG w hw _ _ hW₁
  obtain ⟨m9, meth9, c9, hn9, hm9, hc9, -, hml9, -, -, -, -⟩ := sm_cw_spec (hws _ hcw)
  cases hn.symm.trans hn9
  have hPc : sm_Pc D cl ac tys b scr L xs WN RA SW NC av h (av.map (sm_c b scr)).toArray ((T.setVm vm₁).calling { F0 m pc lsA (st.map (sm_c b scr)) with stack := rest.map (sm_c b scr) } mk (av.map (sm_c b scr)).toArray) := by
    refine ⟨rfl, sm_Env_calling (sm_Env_warm hE (U := T.setVm vm₁) hW₁ (by show va_S (sm_A b) s.heap T.heap locs; rw [hT]; exact hS)), by show sm_Y D cl ac b scr L xs h T.heap; rw [hT]; exact hP, ?_⟩
    show gJ h = 0 → T.heap.size = b + gN h
    rw [hT]
    exact sm_hz hE hP hS hsz m1 hup
  obtain ⟨o, t, Lc, X', hL, ⟨hY, hF, hres⟩, hst⟩ := sm_invoke (n := n) (g := { F0 m pc lsA (st.map (sm_c b scr)) with stack := rest.map (sm_c b scr) }) (ig := ig) X₁ hM hrc hrs hfr hlo hws ⟨meth9, c9, hm9, hc9, hml9⟩ (hws _ hini) (by omega) (by omega) hPc rfl (hl.2.1.trans hml.symm) hd (lv_room (m := m) (pc := pc) (ls := lsA) (rest := rest.map (sm_c b scr)) (by rw [sm_wt_c]; exact hwt)) hn
  have hF1 : H.size ≤ t.heap.size ∧ ∀ q : Nat, q < H.size → ¬ sm_A b q → t.heap[q]? = H[q]? := by
    have hF' : T.heap.size ≤ t.heap.size ∧ ∀ q : Nat, q < T.heap.size → ¬ sm_A b q → t.heap[q]? = T.heap[q]? := hF
    rw [hT] at hF'
    exact hF'
  have hS1 : va_S (sm_A b) s.heap t.heap (locs ++ Lc) := by
    refine ⟨Nat.le_trans hS.1 hF1.1, fun q q1 q2 => (hF1.2 q (Nat.lt_of_lt_of_le q1 hS.1) q2).trans (hS.2.1 q q1 q2), fun q hq => ?_⟩
    rcases List.mem_append.mp hq with hq | hq
    · exact hS.2.2 q hq
    · exact hL q hq
  have ec : gN h' + gJ h' - K0 = gN h + gJ h - K0 + (gN h' + gJ h' - (gN h + gJ h)) := by omega
  have ed : gD h' - D0 = gD h - D0 + (gD h' - gD h) := by omega
  rcases hres with ⟨v9, hr9, ho⟩ | ⟨k9, q9, ce, hr9, ho, hce, hcv, hcl⟩
  · subst ho
    rcases hst with ⟨v, hv, hst⟩ | ⟨q, hq, -⟩
    · cases hv
      have k1 := kr v9 hr9 t.heap (locs ++ Lc) lsA hY hS1 hl
      rw [ec, ed] at k1
      obtain ⟨t2, a1, b1⟩ := k1 (({ T.setVm vm₁ with heap := t.heap, slotsUsed := t.slotsUsed } : State).setVm t.vm) rfl X'
      refine ⟨t2, hgo t2 (hst.trans ?_), b1⟩
      rw [show ((v9.toList ++ rest).map (sm_c b scr)) = (v9.map (sm_c b scr)).toList ++ rest.map (sm_c b scr) by cases v9 <;> simp] at a1
      exact a1
    · cases hq
  · subst ho
    rcases hst with ⟨v, hv, -⟩ | ⟨q, hq, hst⟩
    · cases hv
    · cases hq
      have hcl' : s.vm.findClass (EX k9) = some ce.cls := by
        have h1 : vm₁.findClass (EX k9) = some ce.cls := hcl
        rw [hW₁.alike.findClass] at h1
        exact h1
      have k1 := kx k9 hr9 t.heap (locs ++ Lc) lsA q9 ce hY hS1 hl hce hcv hcl'
      rw [ec, ed] at k1
      obtain ⟨t2, a1, b1⟩ := k1 (({ T.setVm vm₁ with heap := t.heap, slotsUsed := t.slotsUsed } : State).setVm t.vm) rfl X'
      exact ⟨t2, hgo t2 (hst.trans a1), b1⟩
end SMK
