/-! A PURE MACHINE: what the bytecode does, over a heap whose cells are numbered in the order of their making. -/
/-- size, kind and length of each cell, ints, longs, references, cells of exceptions, slots made -/
abbrev sm_H : Type := Nat × (Nat → Nat × Nat) × (Nat → Nat → Int32) × (Nat → Nat → Int64) × (Nat → Nat → Option Nat) × Nat × Nat
abbrev sm_O : Type := Nat × Nat × Nat × Int × List Nat
abbrev sm_L : Type := List (Option Value)
abbrev sm_R : Type := (Option Value) ⊕ Nat
abbrev sm_N : Type := (Nat × sm_L × List Value × sm_H) ⊕ ((Nat × List Value × List Value) ⊕ (sm_R × sm_H))
def gN (h : sm_H) : Nat := h.1
def gS (h : sm_H) : Nat → Nat × Nat := h.2.1
def gI (h : sm_H) : Nat → Nat → Int32 := h.2.2.1
def gL (h : sm_H) : Nat → Nat → Int64 := h.2.2.2.1
def gR (h : sm_H) : Nat → Nat → Option Nat := h.2.2.2.2.1
def gJ (h : sm_H) : Nat := h.2.2.2.2.2.1
def gD (h : sm_H) : Nat := h.2.2.2.2.2.2
def sm_up {α : Type} (f : Nat → Nat → α) (a i : Nat) (x : α) : Nat → Nat → α := fun b j => if b = a ∧ j = i then x else f b j
def sm_ro {α : Type} (f : Nat → Nat → α) (a : Nat) (g : Nat → α) : Nat → Nat → α := fun b => if b = a then g else f b
def setI (h : sm_H) (a i : Nat) (x : Int32) : sm_H := (gN h, gS h, sm_up (gI h) a i x, gL h, gR h, gJ h, gD h)
def setL (h : sm_H) (a i : Nat) (x : Int64) : sm_H := (gN h, gS h, gI h, sm_up (gL h) a i x, gR h, gJ h, gD h)
def setR (h : sm_H) (a i : Nat) (x : Option Nat) : sm_H := (gN h, gS h, gI h, gL h, sm_up (gR h) a i x, gJ h, gD h)
def rowI (h : sm_H) (a : Nat) (g : Nat → Int32) : sm_H := (gN h, gS h, sm_ro (gI h) a g, gL h, gR h, gJ h, gD h)
def rowL (h : sm_H) (a : Nat) (g : Nat → Int64) : sm_H := (gN h, gS h, gI h, sm_ro (gL h) a g, gR h, gJ h, gD h)
/-- a new cell of kind k and length n, all zero -/
def hnew (h : sm_H) (k n : Nat) : sm_H := (gN h + 1, (fun b => if b = gN h then (k, n) else gS h b), sm_ro (gI h) (gN h) (fun _ => 0), sm_ro (gL h) (gN h) (fun _ => 0), sm_ro (gR h) (gN h) (fun _ => none), gJ h, gD h + n)
/-- an exception's cell: counted, not kept -/
def hjunk (h : sm_H) : sm_H := (gN h, gS h, gI h, gL h, gR h, gJ h + 1, gD h + 6)
/-- the number of the script's own cell, which isn't among those that are made -/
def sm_S : Nat := 1000000000
def sm_cl (ls : sm_L) (i : Nat) : sm_L := match i with
  | 0 => ls
  | j + 1 => match ls[j]? with
    | some (some (.long _)) => ls.set j none
    | some (some (.double _)) => ls.set j none
    | _ => ls
def sm_st1 (ls : sm_L) (i : Nat) (v : Value) : sm_L := (sm_cl ls i).set i (some v)
def sm_st2 (ls : sm_L) (i : Nat) (v : Value) : sm_L := ((sm_cl ls i).set i (some v)).set (i + 1) none
def sm_ent : List Value → sm_L
  | [] => []
  | .long x :: r => some (.long x) :: none :: sm_ent r
  | .double x :: r => some (.double x) :: none :: sm_ent r
  | .int x :: r => some (.int x) :: sm_ent r
  | .ref x :: r => some (.ref x) :: sm_ent r
  | .null :: r => some .null :: sm_ent r
  | v :: r => some v :: sm_ent r
def sm_pad (ls : sm_L) (n : Nat) : sm_L := ls ++ List.replicate (n - ls.length) none
def nx (pc : Nat) (ls : sm_L) (st : List Value) (h : sm_H) : Option sm_N := some (.inl (pc, ls, st, h))
def sm_fin (r : sm_R) (h : sm_H) : Option sm_N := some (.inr (.inr (r, h)))
def sm_wt (st : List Value) : Nat := (st.map fun v => v.category).sum
def sm_in (i : Int32) (n : Nat) : Bool := !(decide (i < 0)) && decide (i.toNatClampNeg < n)
def sm_at (h : sm_H) (a k : Nat) : Bool := decide (a < gN h) && decide ((gS h a).1 = k)
def sm_br (c : Prop) [Decidable c] (t pc : Nat) (ls : sm_L) (st : List Value) (h : sm_H) : Option sm_N := nx (if c then t else pc + 3) ls st h
def sm_cpI (h : sm_H) (a0 sp a1 dp n : Nat) : sm_H := rowI h a1 (va_cpy (gI h a0) (gI h a1) sp dp n)
def sm_cpL (h : sm_H) (a0 sp a1 dp n : Nat) : sm_H := rowL h a1 (va_cpy (gL h a0) (gL h a1) sp dp n)
def sm_bin (f : Int32 → Int32 → Int32) (pc : Nat) (ls : sm_L) (st : List Value) (h : sm_H) : Option sm_N := match st with
  | .int y :: .int x :: r => nx (pc + 1) ls (.int (f x y) :: r) h
  | _ => none
def sm_bil (f : Int64 → Int64 → Int64) (pc : Nat) (ls : sm_L) (st : List Value) (h : sm_H) : Option sm_N := match st with
  | .long y :: .long x :: r => nx (pc + 1) ls (.long (f x y) :: r) h
  | _ => none
def sm_if (f : Int32 → Bool) (t pc : Nat) (ls : sm_L) (st : List Value) (h : sm_H) : Option sm_N := match st with
  | .int x :: r => nx (bif f x then t else pc + 3) ls r h
  | _ => none
def sm_ic (f : Int32 → Int32 → Bool) (t pc : Nat) (ls : sm_L) (st : List Value) (h : sm_H) : Option sm_N := match st with
  | .int y :: .int x :: r => nx (bif f x y then t else pc + 3) ls r h
  | _ => none
def sm_sw (lo : Int) (l : List Nat) (d : Nat) (x : Int32) : Nat := if x.toInt < lo ∨ lo + (l.length : Int) ≤ x.toInt then d else l.getD (x.toInt - lo).toNat 0
def sm_rf (r : Option Nat) : Value := match r with
  | none => .null
  | some a => .ref a
def sm_cat1 : Value → Bool
  | .long _ => false
  | .double _ => false
  | _ => true
/-- the receiver of a call is an object of its kind (0: no receiver) -/
def sm_rcv (h : sm_H) (k : Nat) (av : List Value) : Bool := match k with
  | 0 => true
  | ci + 1 => match av with
    | .ref q :: _ => sm_at h q (10 + ci)
    | _ => false
/-- one instruction -/
def sm_step (h : sm_H) (pc : Nat) (o : sm_O) (ls : sm_L) (st : List Value) : Option sm_N := match o with
  | (0, a, _, c, _) => nx (pc + a) ls (.int (Int32.ofInt c) :: st) h
  | (1, a, _, c, _) => nx (pc + a) ls (.long (Int64.ofInt c) :: st) h
  | (2, _, _, _, _) => nx (pc + 1) ls (.null :: st) h
  | (3, a, b, _, _) => match ls[a]? with
    | some (some (.int x)) => nx (pc + b) ls (.int x :: st) h
    | _ => none
  | (4, a, b, _, _) => match ls[a]? with
    | some (some (.long x)) => nx (pc + b) ls (.long x :: st) h
    | _ => none
  | (5, a, b, _, _) => match ls[a]? with
    | some (some (.ref x)) => nx (pc + b) ls (.ref x :: st) h
    | some (some .null) => nx (pc + b) ls (.null :: st) h
    | _ => none
  | (6, a, b, _, _) => match st with
    | .int x :: r => if a < ls.length then nx (pc + b) (sm_st1 ls a (.int x)) r h else none
    | _ => none
  | (7, a, b, _, _) => match st with
    | .long x :: r => if a + 1 < ls.length then nx (pc + b) (sm_st2 ls a (.long x)) r h else none
    | _ => none
  | (8, a, b, _, _) => match st with
    | .ref x :: r => if a < ls.length then nx (pc + b) (sm_st1 ls a (.ref x)) r h else none
    | .null :: r => if a < ls.length then nx (pc + b) (sm_st1 ls a .null) r h else none
    | _ => none
  | (9, a, _, c, _) => match ls[a]? with
    | some (some (.int x)) => nx (pc + 3) (sm_st1 ls a (.int (x + Int32.ofInt c))) st h
    | _ => none
  | (10, _, _, _, _) => match st with
    | v :: r => if sm_cat1 v then nx (pc + 1) ls r h else none
    | _ => none
  | (11, _, _, _, _) => match st with
    | v :: r => if sm_cat1 v then nx (pc + 1) ls (v :: v :: r) h else none
    | _ => none
  | (12, _, _, _, _) => match st with
    | v :: w :: r => if sm_cat1 v && sm_cat1 w then nx (pc + 1) ls (v :: w :: v :: w :: r) h else none
    | _ => none
  | (13, _, _, _, _) => sm_bin (fun x y => x + y) pc ls st h
  | (14, _, _, _, _) => sm_bin (fun x y => x - y) pc ls st h
  | (15, _, _, _, _) => sm_bin (fun x y => x * y) pc ls st h
  | (16, _, _, _, _) => match st with
    | .int y :: .int x :: r => if y = 0 then none else nx (pc + 1) ls (.int (x / y) :: r) h
    | _ => none
  | (17, _, _, _, _) => match st with
    | .int y :: .int x :: r => if y = 0 then none else nx (pc + 1) ls (.int (x - x / y * y) :: r) h
    | _ => none
  | (18, _, _, _, _) => sm_bin (fun x y => x &&& y) pc ls st h
  | (19, _, _, _, _) => sm_bin (fun x y => (x.toUInt32 >>> (y.toUInt32 &&& Int32.toUInt32 31)).toInt32) pc ls st h
  | (20, _, _, _, _) => sm_bil (fun x y => x + y) pc ls st h
  | (21, _, _, _, _) => sm_bil (fun x y => x - y) pc ls st h
  | (22, _, _, _, _) => sm_bil (fun x y => x * y) pc ls st h
  | (23, _, _, _, _) => match st with
    | .long y :: .long x :: r => if y = 0 then none else nx (pc + 1) ls (.long (x / y) :: r) h
    | _ => none
  | (24, _, _, _, _) => sm_bil (fun x y => x &&& y) pc ls st h
  | (25, _, _, _, _) => sm_bil (fun x y => x ||| y) pc ls st h
  | (26, _, _, _, _) => match st with
    | .int y :: .long x :: r => nx (pc + 1) ls (.long (x <<< (y.toInt64 &&& 63)) :: r) h
    | _ => none
  | (27, _, _, _, _) => match st with
    | .long y :: .long x :: r => nx (pc + 1) ls (.int (lg_cmp x y) :: r) h
    | _ => none
  | (28, _, _, _, _) => match st with
    | .int x :: r => nx (pc + 1) ls (.long x.toInt64 :: r) h
    | _ => none
  | (29, _, _, _, _) => match st with
    | .long x :: r => nx (pc + 1) ls (.int x.toInt32 :: r) h
    | _ => none
  | (30, a, _, _, _) => sm_if (fun x => decide (x = 0)) a pc ls st h
  | (31, a, _, _, _) => sm_if (fun x => !decide (x = 0)) a pc ls st h
  | (32, a, _, _, _) => sm_if (fun x => decide (x < 0)) a pc ls st h
  | (33, a, _, _, _) => sm_if (fun x => decide (0 ≤ x)) a pc ls st h
  | (34, a, _, _, _) => sm_if (fun x => decide (0 < x)) a pc ls st h
  | (35, a, _, _, _) => sm_if (fun x => decide (x ≤ 0)) a pc ls st h
  | (36, a, _, _, _) => sm_ic (fun x y => decide (x = y)) a pc ls st h
  | (37, a, _, _, _) => sm_ic (fun x y => !decide (x = y)) a pc ls st h
  | (38, a, _, _, _) => sm_ic (fun x y => decide (x < y)) a pc ls st h
  | (39, a, _, _, _) => sm_ic (fun x y => decide (y ≤ x)) a pc ls st h
  | (40, a, _, _, _) => sm_ic (fun x y => decide (y < x)) a pc ls st h
  | (41, a, _, _, _) => sm_ic (fun x y => decide (x ≤ y)) a pc ls st h
  | (42, a, _, _, _) => match st with
    | .null :: r => nx a ls r h
    | .ref _ :: r => nx (pc + 3) ls r h
    | _ => none
  | (43, a, _, _, _) => match st with
    | .null :: r => nx (pc + 3) ls r h
    | .ref _ :: r => nx a ls r h
    | _ => none
  | (44, a, _, _, _) => nx a ls st h
  | (45, a, _, c, l) => match st with
    | .int x :: r => nx (sm_sw c l a x) ls r h
    | _ => none
  | (46, a, _, _, _) => match st with
    | [.int x] => if a = 0 ∨ x = 0 ∨ x = 1 then sm_fin (.inl (some (.int x))) h else none
    | _ => none
  | (47, _, _, _, _) => match st with
    | [.long x] => sm_fin (.inl (some (.long x))) h
    | _ => none
  | (48, _, _, _, _) => match st with
    | [.ref x] => sm_fin (.inl (some (.ref x))) h
    | [.null] => sm_fin (.inl (some .null)) h
    | _ => none
  | (49, _, _, _, _) => match st with
    | [] => sm_fin (.inl none) h
    | _ => none
  | (50, a, b, _, _) => match st with
    | .ref q :: r => if sm_at h q (10 + a) then nx (pc + 3) ls (.int (gI h q b) :: r) h else none
    | _ => none
  | (51, a, b, _, _) => match st with
    | .ref q :: r => if sm_at h q (10 + a) then nx (pc + 3) ls (.long (gL h q b) :: r) h else none
    | _ => none
  | (52, a, b, _, _) => match st with
    | .ref q :: r => if sm_at h q (10 + a) then nx (pc + 3) ls (sm_rf (gR h q b) :: r) h else none
    | _ => none
  | (53, a, b, _, _) => match st with
    | .int x :: .ref q :: r => if sm_at h q (10 + a) then nx (pc + 3) ls r (setI h q b x) else none
    | _ => none
  | (54, a, b, _, _) => match st with
    | .long x :: .ref q :: r => if sm_at h q (10 + a) then nx (pc + 3) ls r (setL h q b x) else none
    | _ => none
  | (55, a, b, _, _) => match st with
    | .ref x :: .ref q :: r => if sm_at h q (10 + a) then nx (pc + 3) ls r (setR h q b (some x)) else none
    | .null :: .ref q :: r => if sm_at h q (10 + a) then nx (pc + 3) ls r (setR h q b none) else none
    | _ => none
  | (56, a, b, _, _) => match st with
    | .int x :: .ref q :: r => if sm_at h q (10 + a) ∧ (x = 0 ∨ x = 1) then nx (pc + 3) ls r (setI h q b x) else none
    | _ => none
  | (57, _, _, _, _) => match st with
    | .int i :: .ref q :: r => if (sm_at h q 0 || decide (q = sm_S)) && sm_in i (gS h q).2 then nx (pc + 1) ls (.int (gI h q i.toNatClampNeg) :: r) h else none
    | _ => none
  | (58, _, _, _, _) => match st with
    | .int i :: .ref q :: r => if sm_at h q 1 && sm_in i (gS h q).2 then nx (pc + 1) ls (.long (gL h q i.toNatClampNeg) :: r) h else none
    | _ => none
  | (59, a, _, _, _) => match st with
    | .int i :: .ref q :: r => if sm_at h q a && sm_in i (gS h q).2 then nx (pc + 1) ls (sm_rf (gR h q i.toNatClampNeg) :: r) h else none
    | _ => none
  | (60, _, _, _, _) => match st with
    | .int i :: .ref q :: r => if sm_at h q 2 && sm_in i (gS h q).2 then nx (pc + 1) ls (.int (gI h q i.toNatClampNeg) :: r) h else none
    | _ => none
  | (61, _, _, _, _) => match st with
    | .int x :: .int i :: .ref q :: r => if sm_at h q 0 && sm_in i (gS h q).2 then nx (pc + 1) ls r (setI h q i.toNatClampNeg x) else none
    | _ => none
  | (62, _, _, _, _) => match st with
    | .long x :: .int i :: .ref q :: r => if sm_at h q 1 && sm_in i (gS h q).2 then nx (pc + 1) ls r (setL h q i.toNatClampNeg x) else none
    | _ => none
  | (63, a, b, _, _) => match st with
    | .ref x :: .int i :: .ref q :: r => if sm_at h q a && sm_in i (gS h q).2 && sm_at h x (10 + b) then nx (pc + 1) ls r (setR h q i.toNatClampNeg (some x)) else none
    | _ => none
  | (64, _, _, _, _) => match st with
    | .int x :: .int i :: .ref q :: r => if (sm_at h q 2 && sm_in i (gS h q).2) ∧ (x = 0 ∨ x = 1) then nx (pc + 1) ls r (setI h q i.toNatClampNeg x) else none
    | _ => none
  | (65, _, _, _, _) => match st with
    | .ref q :: r => if (decide (q < gN h) && decide ((gS h q).1 < 8)) || decide (q = sm_S) then nx (pc + 1) ls (.int (Int32.ofNat (gS h q).2) :: r) h else none
    | _ => none
  | (66, a, b, _, _) => if gJ h = 0 ∧ gN h < sm_S then nx (pc + 3) ls (.ref (gN h) :: st) (hnew h (10 + a) b) else none
  | (67, a, _, _, _) => match st with
    | .int n :: r => if gJ h = 0 ∧ gN h < sm_S ∧ ¬ n < 0 ∧ n.toNatClampNeg ≤ 1000000 then nx (pc + 2) ls (.ref (gN h) :: r) (hnew h a n.toNatClampNeg) else none
    | _ => none
  | (68, a, _, _, _) => match st with
    | .int n :: r => if gJ h = 0 ∧ gN h < sm_S ∧ ¬ n < 0 ∧ n.toNatClampNeg ≤ 1000000 then nx (pc + 3) ls (.ref (gN h) :: r) (hnew h a n.toNatClampNeg) else none
    | _ => none
  | (69, a, b, _, l) => if b ≤ st.length ∧ sm_wt (st.drop b) ≤ 8 ∧ sm_rcv h (l.getD 1 0) (st.take b).reverse = true then some (.inr (.inl (a, (st.take b).reverse, st.drop b))) else none
  | (70, _, _, _, _) => match st with
    | .ref _ :: r => if sm_wt r ≤ 8 then nx (pc + 3) ls r h else none
    | _ => none
  | (71, _, _, _, _) => match st with
    | .int n :: .int dp :: .ref q1 :: .int sp :: .ref q0 :: r => if sm_at h q0 0 && sm_at h q1 0 && decide (sm_wt r ≤ 8) && !decide (sp < 0) && !decide (dp < 0) && !decide (n < 0) && decide (sp.toNatClampNeg + n.toNatClampNeg ≤ (gS h q0).2) && decide (dp.toNatClampNeg + n.toNatClampNeg ≤ (gS h q1).2) then nx (pc + 3) ls r (sm_cpI h q0 sp.toNatClampNeg q1 dp.toNatClampNeg n.toNatClampNeg) else none
    | _ => none
  | (72, _, _, _, _) => match st with
    | .int n :: .int dp :: .ref q1 :: .int sp :: .ref q0 :: r => if sm_at h q0 1 && sm_at h q1 1 && decide (sm_wt r ≤ 8) && !decide (sp < 0) && !decide (dp < 0) && !decide (n < 0) && decide (sp.toNatClampNeg + n.toNatClampNeg ≤ (gS h q0).2) && decide (dp.toNatClampNeg + n.toNatClampNeg ≤ (gS h q1).2) then nx (pc + 3) ls r (sm_cpL h q0 sp.toNatClampNeg q1 dp.toNatClampNeg n.toNatClampNeg) else none
    | _ => none
  | (73, a, _, _, _) => if sm_wt st ≤ 8 then sm_fin (.inr a) (hjunk h) else none
  | (74, _, _, _, _) => match st with
    | .int y :: .int x :: r => if sm_wt r ≤ 8 then nx (pc + 3) ls (.int (if y < x then y else x) :: r) h else none
    | _ => none
  | (75, _, _, _, _) => match st with
    | .long y :: .long x :: r => if y = 0 then none else nx (pc + 1) ls (.long (x - x / y * y) :: r) h
    | _ => none
  | (76, _, _, _, _) => sm_bil (fun x y => x ^^^ y) pc ls st h
  | (77, a, _, _, _) => if sm_wt st ≤ 8 then sm_fin (.inr a) (hjunk h) else none
  | _ => none
/-- a method's code by its number and the program counter; its locals; what a handler answers -/
abbrev sm_P : Type := (Nat → Nat → Option sm_O) × (Nat → Nat) × (Nat → Nat → Nat → Option (Option Int))
def sm_exec (P : sm_P) : Nat → Nat → Nat → sm_L → List Value → sm_H → Option (sm_R × sm_H)
  | 0, _, _, _, _, _ => none
  | f + 1, M, pc, ls, st, h => match P.1 M pc with
    | none => none
    | some o => match sm_step h pc o ls st with
      | none => none
      | some (.inl (pc', ls', st', h')) => sm_exec P f M pc' ls' st' h'
      | some (.inr (.inr (r, h'))) => some (r, h')
      | some (.inr (.inl (N, av, rest))) => if (sm_ent av).length ≤ P.2.1 N then (match sm_exec P f N 0 (sm_pad (sm_ent av) (P.2.1 N)) [] h with
        | none => none
        | some (.inl v, h') => sm_exec P f M (pc + 3) ls (v.toList ++ rest) h'
        | some (.inr k, h') => match P.2.2 M pc k with
          | some (some n) => some (.inl (some (.int (Int32.ofInt n))), h')
          | some none => some (.inr k, h')
          | none => none)
        else none
def sm_nest : Cond → Bool
  | .fieldLinkNest _ _ _ _ _ _ => true
  | .methodLinkNest _ _ _ _ => true
  | _ => false
/-- a method's code, with its handlers or without -/
def sm_cw (y : MethodName) (bs : ByteArray) (n : Nat) (ret : Option FieldType) (hh : List (Nat × Nat × Nat × Nat)) : Cond := match hh with
  | [] => .code y bs n ret
  | q :: r => .codeWith y bs n ret (q :: r)
