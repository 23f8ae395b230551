/-! how a method ends: it returns, throws, or lets a callee's exception through -/
section SMT
variable {p : Program} {l : Launch} {e : Env} {R : Room} {s : State} {m : MethodId} {args : Array Value} {below : List Frame} {meth : Method} {c : Code} {H : Heap} {locs : List Loc} {cells slots : Nat} {Qa : State → Outcome → State → Prop} {free : Addr → Prop} {cc : ByteArray} {pc : Nat} {lsA : Array Slot}
theorem sm_ret {g : JFrame} (k : W p l e R s m args below meth c H locs cells slots (MQ below (fun _ => Qa) args s cells slots free) g) : W p l e R s m args below meth c H locs cells slots (sm_MQ below Qa s cells slots free) g := by
  intro T hT X
  obtain ⟨t, a1, o, b1, b2, b3, Lc, ⟨-, b4, b5⟩, b6⟩ := k T hT X
  exact ⟨t, a1, o, b1, b2, b3, Lc, b4, b5, b6⟩
/-- the state as it is now, taken as the start of a call of the same method: nothing is written yet -/
theorem sm_now {T : State} (X : Stand p l e R s m args below meth c T locs cells slots) (hc : cells + 1 ≤ R.cells) (hs : slots + 6 ≤ R.slots) :
    Stand p l e { frames := R.frames, locals := R.locals, cells := 1, slots := 6 } ((T.setVm s.vm).setFrames (.invoking m args :: below)) m args below meth c T [] 0 0 := by
  have htop : (T.setVm s.vm).topJava?.isSome := X.here.top
  have hF : ((T.setVm s.vm).setFrames (.invoking m args :: below)).frames = .invoking m args :: below := State.frames_setFrames _ (State.cur_lt_of_top htop)
  obtain ⟨g₀, hg0⟩ := Option.isSome_iff_exists.mp htop
  obtain ⟨r, hr⟩ := State.topJava?_eq_some.mp hg0
  obtain ⟨th, hth, -⟩ := State.frames_cons hr
  have hnil : T.heap.toList.drop T.heap.size = [] := List.drop_eq_nil_of_le (Nat.le_of_eq Array.length_toList)
  have hroom : ((T.setVm s.vm).setFrames (.invoking m args :: below)).hasRoom e.platform { frames := R.frames, locals := R.locals, cells := 1, slots := 6 } = true := by
    have h := X.room
    have hU : ((T.setVm s.vm).setFrames (.invoking m args :: below)).localsInUse = s.localsInUse := by
      rw [State.localsInUse_invoking hF (meth := meth) (c := c) X.method X.code, State.localsInUse_invoking X.frames X.method X.code]
    have hl9 : e.platform.stackLimits (T.setVm s.vm).me = e.platform.stackLimits s.me := X.limits
    have hb9 : (T.setVm s.vm).me.stackBytes = s.me.stackBytes := X.bytes
    have q1 := X.heapSize
    have q2 := X.used
    simp only [State.hasRoom, Bool.and_eq_true, decide_eq_true_eq] at h ⊢
    obtain ⟨⟨⟨⟨h1, h2, h3, h4, h5, h6⟩, h7⟩, h8⟩, h9⟩ := h
    rw [X.frames, List.length_cons] at h2 h3
    simp only [hF, hU, List.length_cons, State.stackLimits_setFrames, State.stackBytes_setFrames, hl9, hb9]
    refine ⟨⟨⟨⟨by omega, by omega, by omega, by omega, by omega, h6⟩, ?_⟩, ?_⟩, X.book⟩
    · show T.heap.size + 1 ≤ e.platform.maxCells
      omega
    · show T.slotsUsed + 6 ≤ e.platform.maxSlots
      omega
  exact ⟨X.admits, X.cas, X.clock, hF, hroom, X.hears, X.method, X.code, X.here, X.tail, X.warmed, by rw [State.stackLimits_setFrames]; rfl, by rw [State.stackBytes_setFrames]; rfl,
    ⟨by
      show T.setVm s.vm = { ((T.setVm s.vm).setFrames (.invoking m args :: below)).setFrames (T.setVm s.vm).frames with heap := T.heap, slotsUsed := T.slotsUsed }
      rw [State.setFrames_setFrames, State.setFrames_self hth]; rfl, Nat.le_refl _, Nat.le_refl _,
      by show T.slotsUsed = T.slotsUsed + ((T.heap.toList.drop T.heap.size).map (·.slots.size)).sum; rw [hnil]; rfl,
      by show ((T.heap.toList.drop T.heap.size).map (·.slots.size)).sum ≤ 0; rw [hnil]; exact Nat.le_refl _,
      fun a c9 h9 => ⟨c9, h9, rfl, rfl, fun _ _ => rfl⟩⟩⟩
theorem sm_new_frame {U V : State} {k n : Nat} (h : U.sameButNew V [] k n) : U.heap.size ≤ V.heap.size ∧ ∀ q : Nat, q < U.heap.size → V.heap[q]? = U.heap[q]? := by
  refine ⟨h.2.1, fun q hq => ?_⟩
  have hc : U.heap[q]? = some U.heap[q] := Array.getElem?_eq_getElem hq
  obtain ⟨c', hc', he', -, hsl⟩ := h.2.2.2.2.2 q _ hc
  have hsl' : c'.slots = U.heap[q].slots := Array.ext_getElem? fun i => hsl i (by simp)
  rw [hsl'] at he'
  rw [hc', hc, he']
def sm_no (w : Cond) : Bool := !(decide (w = .isRef (.static Bundle.tN "UNASSIGNED_STACK" Bundle.steD)) || decide (w = .isRef (.static Bundle.tN "SUPPRESSED_SENTINEL" Bundle.listD)) || decide (w = .laysStatic Bundle.tN "UNASSIGNED_STACK" Bundle.steD) || decide (w = .laysStatic Bundle.tN "SUPPRESSED_SENTINEL" Bundle.listD))
/-- 'throw new E("text")' -/
theorem sm_throw {own cls text : String} {names : List String} {ik is ic sa b wd : Nat} {rest : List Value} (hexec : p.tables.exec = Jvm.exec) (hb : c.code = cc) (hl : l.stackTraces = false) (hlocks : meth.locks = false)
    (hown : s.vm.findClass own = some m.cls) (hcls : Bundle.fit cls = true) (hnames : ∀ n ∈ names, Bundle.fit n = true)
    (hwd : (wd = 2 ∧ decode cc (pc + 4) = .ok (.ldc is, 2)) ∨ (wd = 3 ∧ decode cc (pc + 4) = .ok (.ldc_w is, 3)))
    (d0 : decode cc pc = .ok (.new ik, 3)) (d3 : decode cc (pc + 3) = .ok (.dup, 1)) (d6 : decode cc (pc + 4 + wd) = .ok (.invokespecial ic, 3)) (d9 : decode cc (pc + 4 + wd + 3) = .ok (.athrow, 1))
    (hk : ∀ U : State, U.vm = s.vm → (Cond.classLink own ik cls).before args U = true ∧ (Cond.initialized cls).before args U = true ∧ ∀ w ∈ (Bundle.ownAtoms own ic cls names).filter sm_no, w.before args U = true)
    (hst : vk_R own is text sa s) (hU : sm_ST "UNASSIGNED_STACK" Bundle.steD b s H) (hN : sm_ST "SUPPRESSED_SENTINEL" Bundle.listD b s H)
    (hout : ∀ x ∈ c.exceptionTable.toList, covers x (pc + 4 + wd + 3) = false) (hsize : lsA.size = c.maxLocals)
    (hRf : names.length + 3 < R.frames) (hRl : (rest.map fun v => v.category).sum + (13 * (names.length + 1) + 43) ≤ R.locals) (hRc : cells + 1 ≤ R.cells) (hRs : slots + 6 ≤ R.slots) (hfree : ∀ z ∈ locs, free z.base)
    (hq : ∀ (t : State) (q : Addr) (ce : Cell), s.vm.Alike t.vm → H.size ≤ t.heap.size → (∀ z : Nat, z < H.size → t.heap[z]? = H[z]?) → t.heap[q]? = some ce → ce.vm = .none → s.vm.findClass cls = some ce.cls → Qa s (.threw q) t) :
    W p l e R s m args below meth c H locs cells slots (sm_MQ below Qa s (cells + 1) (slots + 6) free) (F0 m pc lsA rest) := by
  intro T hT X
  have htr : e.platform.stackTraces = false := (show e.platform.stackTraces = l.stackTraces by rw [X.admits.platform]).trans hl
  have Y := sm_now X hRc hRs
  generalize hA : (T.setVm s.vm).setFrames (.invoking m args :: below) = s' at Y
  have hvm : s'.vm = s.vm := by rw [← hA]; rfl
  have hhp : s'.heap = H := by rw [← hA]; exact hT
  have hW0 : s.WarmedH s'.vm := by rw [hvm]; exact State.WarmedH.refl s
  have hU' : sm_ST "UNASSIGNED_STACK" Bundle.steD b s' s'.heap := by rw [hhp]; exact hU.go hW0.alike (fun _ _ _ => rfl)
  have hN' : sm_ST "SUPPRESSED_SENTINEL" Bundle.listD b s' s'.heap := by rw [hhp]; exact hN.go hW0.alike (fun _ _ _ => rfl)
  obtain ⟨hk1, hk2, hk3⟩ := hk s' hvm
  have hall : ∀ w ∈ Bundle.ownAtoms own ic cls names, w.before args s' = true := by
    intro w hw
    by_cases e1 : w = .isRef (.static Bundle.tN "UNASSIGNED_STACK" Bundle.steD)
    · rw [e1]; exact hU'.isRef
    · by_cases e2 : w = .isRef (.static Bundle.tN "SUPPRESSED_SENTINEL" Bundle.listD)
      · rw [e2]; exact hN'.isRef
      · by_cases e3 : w = .laysStatic Bundle.tN "UNASSIGNED_STACK" Bundle.steD
        · rw [e3]; exact hU'.lays
        · by_cases e4 : w = .laysStatic Bundle.tN "SUPPRESSED_SENTINEL" Bundle.listD
          · rw [e4]; exact hN'.lays
          · exact hk3 w (List.mem_filter.mpr ⟨hw, by simp [sm_no, e1, e2, e3, e4]⟩)
  have hown' : s'.vm.findClass own = some m.cls := by rw [hvm]; exact hown
  have hins : (Cond.instantiable cls 6).before args s' = true := hall _ (by simp [Bundle.ownAtoms])
  obtain ⟨vm₁, cX, kX, hfX, hkX, -, -, X₁, st1⟩ := Y.newCold hexec (own := own) (C := cls) (index := ik) (n := 6) hown' hk1 hins hk2
    (g := F0 m pc lsA rest) rfl (by rw [hb]; exact d0) (Nat.le_refl _) (Nat.le_refl _)
  generalize hT1 : (T.setVm vm₁).pushCell { cls := cX, slots := kX.instanceTypes.map defaultValue, vm := .none } = T1 at X₁ st1
  have hcat : (Value.ref T.heap.size).category = 1 := rfl
  have hcellA : T1.heap[T.heap.size]? = some (freshCell cX kX) := by rw [← hT1]; exact State.heap_pushCell_size _ _
  have d3' : decode c.code (pc + 3) = .ok (.dup, 1) := by rw [hb]; exact d3
  have hst' : vk_R own is text sa s' := vk_R.warm hW0 hst
  obtain ⟨U, hsteps, hrun, hend, hW, hsame, ce, hce, hO⟩ := X₁.ctorThrowS hexec htr (own := own) (cls := cls) (names := names) (ic := ic) hown' hcls hnames hall (fun x hx => nomatch hx) hfX hkX hcellA (by rw [hhp, hT]; exact Nat.le_refl _) (msg := .ref sa) rfl
    (g := { method := m, pc := pc + 4 + wd, locals := lsA, stack := .ref sa :: .ref T.heap.size :: .ref T.heap.size :: rest, locked := none }) rfl hsize rfl rfl (rest := rest) rfl
    (by rw [hb]; exact d6) (by rw [hb]; exact d9) hout hRf (by simp only [List.map_cons, List.sum_cons, hcat]; omega) hlocks
  obtain ⟨f1, f2⟩ := sm_new_frame hsame
  have f1' : H.size ≤ U.heap.size := by rw [← hhp]; exact f1
  have f2' : ∀ z : Nat, z < H.size → U.heap[z]? = H[z]? := fun z hz => by rw [← hhp]; exact f2 z (by rw [hhp]; exact hz)
  have hWs : s.WarmedH U.vm := State.WarmedH.trans hW0 hW
  have hcl : s.vm.findClass cls = some ce.cls := by
    have h9 := hO.cls
    rw [hvm] at h9
    exact h9
  have hnew : s.sameButNew ({ U with vm := s.vm } : State) locs (cells + 1) (slots + 6) := by
    subst hA
    obtain ⟨e1, e2⟩ := hsame
    rw [State.setFrames_setFrames] at e1
    have h2 : (T.setVm s.vm).sameButNew ({ U with vm := s.vm } : State) [] (0 + 1) (0 + 6) := ⟨e1, e2⟩
    have h3 := X.same.trans h2
    rw [List.append_nil] at h3
    exact h3
  refine ⟨U, ?_, .threw T.heap.size, hrun, hend, hq U T.heap.size ce hWs.alike f1' f2' hce hO.vm hcl, locs, hWs, hnew, hfree⟩
  refine st1 _ ?_
  show Steps p.tables e below (T1.setTop { method := m, pc := pc + 3, locals := lsA, stack := .ref T.heap.size :: rest, locked := none }) _
  jvm_step X₁.here [X₁.here.top, hexec, d3', Value.category]
  rcases hwd with ⟨rfl, d4⟩ | ⟨rfl, d4⟩
  · exact X₁.ldcString hexec (own := own) (text := text) (index := is) (a := sa) hown' hst'.1 hst'.2
      (g := { method := m, pc := pc + 4, locals := lsA, stack := .ref T.heap.size :: .ref T.heap.size :: rest, locked := none }) rfl (by rw [hb]; exact d4) _ hsteps
  · exact X₁.ldcStringW hexec (own := own) (text := text) (index := is) (a := sa) hown' hst'.1 hst'.2
      (g := { method := m, pc := pc + 4, locals := lsA, stack := .ref T.heap.size :: .ref T.heap.size :: rest, locked := none }) rfl (by rw [hb]; exact d4) _ hsteps
/-- a callee's exception goes through -/
theorem sm_out {q : Addr} {ce : Cell} {rest : List Value} (hout : ∀ x ∈ c.exceptionTable.toList, covers x pc = false) (hlocks : meth.locks = false) (hfree : ∀ z ∈ locs, free z.base) (hq : ∀ t : State, t.heap = H → s.vm.Alike t.vm → Qa s (.threw q) t) :
    sm_WX p l e R s m args below meth c H locs cells slots (sm_MQ below Qa s cells slots free) (F0 m pc lsA rest) q := by
  intro T hT X
  obtain ⟨st1, hrun, hend, hW, hsm⟩ := X.leaveThrown q (g := F0 m pc lsA rest) rfl rfl rfl hout hlocks
  exact ⟨_, st1, .threw q, hrun, hend, hq _ hT hW.alike, locs, hW, hsm, hfree⟩
/-- it is caught by a row of the method's own, behind rows that are passed -/
theorem sm_catch {Q : State → Prop} {own name E : String} {ce : Cell} {q : Addr} {rest : List Value} (hown : s.vm.findClass own = some m.cls) (pre : List ExceptionTableEntry) (x : ExceptionTableEntry) (suf : List ExceptionTableEntry) (hsplit : c.exceptionTable.toList = pre ++ x :: suf)
    (hpass : ∀ z ∈ pre, z.catchType ≠ 0 ∧ ∃ nm : String, (Cond.classLink own z.catchType nm).before args s = true ∧ va_Nc E nm s) (hx : covers x pc = true) (h0 : x.catchType ≠ 0)
    (hlink : (Cond.classLink own x.catchType name).before args s = true) (hcast : (Cond.castable E name).before args s = true) (hcell : H[q]? = some ce) (hv : ce.vm = .none) (hcl : s.vm.findClass E = some ce.cls)
    (kk : W p l e R s m args below meth c H locs cells slots Q (F0 m x.handlerPc lsA [.ref q])) : sm_WX p l e R s m args below meth c H locs cells slots Q (F0 m pc lsA rest) q := by
  intro T hT X
  have hpl : e.platform.magicAccessors = ({} : Platform).magicAccessors := by rw [X.admits.platform]
  obtain ⟨c3, c4, hc3, hc4, hasg⟩ := Cond.castable_spec hcast
  cases Option.some.inj (hc3.symm.trans hcl)
  obtain ⟨hend, hk0⟩ := X.catches_of_link hown h0 hlink hc4 hasg
  obtain ⟨vm', X', st⟩ := X.thenCaughtThrough q (g := F0 m pc lsA rest) rfl (Steps.refl _) (by rw [hT]; exact hcell) (by rw [hv]; rfl) hk0 pre x suf hsplit
    (fun z hz => by
      obtain ⟨hz0, nm, hl1, c6, t6, h1, h2, h3⟩ := hpass z hz
      cases Option.some.inj (h1.symm.trans hcl)
      obtain ⟨c7, hc7, hcl7⟩ := Cond.classLink_spec hown hl1 e.platform hpl
      cases Option.some.inj (h2.symm.trans hc7)
      exact Or.inr ⟨hz0, _, hcl7, h3⟩) hx hend
  obtain ⟨t, a1, b1⟩ := kk (T.setVm vm') hT X'
  exact ⟨t, st.trans a1, b1⟩
end SMT
