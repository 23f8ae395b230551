/-! all other instructions go on in the method -/
theorem nxt_0 {pc xa xb : Nat} {xc : Int} {xl : List Nat} {ls : sm_L} {st : List Value} {h : sm_H} {xx : sm_N} (hs : sm_step h pc (0, xa, xb, xc, xl) ls st = some xx) : ∃ y, xx = .inl y := by
  have hs : (nx (pc + xa) ls (.int (Int32.ofInt xc) :: st) h) = some xx := hs
  first | (unfold nx at hs; cases hs; exact ⟨_, rfl⟩) | (repeat' split at hs) <;> first | (unfold nx at hs; cases hs; exact ⟨_, rfl⟩) | cases hs
theorem nxt_1 {pc xa xb : Nat} {xc : Int} {xl : List Nat} {ls : sm_L} {st : List Value} {h : sm_H} {xx : sm_N} (hs : sm_step h pc (1, xa, xb, xc, xl) ls st = some xx) : ∃ y, xx = .inl y := by
  have hs : (nx (pc + xa) ls (.long (Int64.ofInt xc) :: st) h) = some xx := hs
  first | (unfold nx at hs; cases hs; exact ⟨_, rfl⟩) | (repeat' split at hs) <;> first | (unfold nx at hs; cases hs; exact ⟨_, rfl⟩) | cases hs
theorem nxt_2 {pc xa xb : Nat} {xc : Int} {xl : List Nat} {ls : sm_L} {st : List Value} {h : sm_H} {xx : sm_N} (hs : sm_step h pc (2, xa, xb, xc, xl) ls st = some xx) : ∃ y, xx = .inl y := by
  have hs : (nx (pc + 1) ls (.null :: st) h) = some xx := hs
  first | (unfold nx at hs; cases hs; exact ⟨_, rfl⟩) | (repeat' split at hs) <;> first | (unfold nx at hs; cases hs; exact ⟨_, rfl⟩) | cases hs
theorem nxt_3 {pc xa xb : Nat} {xc : Int} {xl : List Nat} {ls : sm_L} {st : List Value} {h : sm_H} {xx : sm_N} (hs : sm_step h pc (3, xa, xb, xc, xl) ls st = some xx) : ∃ y, xx = .inl y := by
  have hs : (match (generalizing := false) ls[xa]? with
    | some (some (.int x)) => nx (pc + xb) ls (.int x :: st) h
    | _ => none) = some xx := hs
  first | (unfold nx at hs; cases hs; exact ⟨_, rfl⟩) | (repeat' split at hs) <;> first | (unfold nx at hs; cases hs; exact ⟨_, rfl⟩) | cases hs
theorem nxt_4 {pc xa xb : Nat} {xc : Int} {xl : List Nat} {ls : sm_L} {st : List Value} {h : sm_H} {xx : sm_N} (hs : sm_step h pc (4, xa, xb, xc, xl) ls st = some xx) : ∃ y, xx = .inl y := by
  have hs : (match (generalizing := false) ls[xa]? with
    | some (some (.long x)) => nx (pc + xb) ls (.long x :: st) h
    | _ => none) = some xx := hs
  first | (unfold nx at hs; cases hs; exact ⟨_, rfl⟩) | (repeat' split at hs) <;> first | (unfold nx at hs; cases hs; exact ⟨_, rfl⟩) | cases hs
theorem nxt_5 {pc xa xb : Nat} {xc : Int} {xl : List Nat} {ls : sm_L} {st : List Value} {h : sm_H} {xx : sm_N} (hs : sm_step h pc (5, xa, xb, xc, xl) ls st = some xx) : ∃ y, xx = .inl y := by
  have hs : (match (generalizing := false) ls[xa]? with
    | some (some (.ref x)) => nx (pc + xb) ls (.ref x :: st) h
    | some (some .null) => nx (pc + xb) ls (.null :: st) h
    | _ => none) = some xx := hs
  first | (unfold nx at hs; cases hs; exact ⟨_, rfl⟩) | (repeat' split at hs) <;> first | (unfold nx at hs; cases hs; exact ⟨_, rfl⟩) | cases hs
theorem nxt_6 {pc xa xb : Nat} {xc : Int} {xl : List Nat} {ls : sm_L} {st : List Value} {h : sm_H} {xx : sm_N} (hs : sm_step h pc (6, xa, xb, xc, xl) ls st = some xx) : ∃ y, xx = .inl y := by
  have hs : (match (generalizing := false) st with
    | .int x :: r => if xa < ls.length then nx (pc + xb) (sm_st1 ls xa (.int x)) r h else none
    | _ => none) = some xx := hs
  first | (unfold nx at hs; cases hs; exact ⟨_, rfl⟩) | (repeat' split at hs) <;> first | (unfold nx at hs; cases hs; exact ⟨_, rfl⟩) | cases hs
theorem nxt_7 {pc xa xb : Nat} {xc : Int} {xl : List Nat} {ls : sm_L} {st : List Value} {h : sm_H} {xx : sm_N} (hs : sm_step h pc (7, xa, xb, xc, xl) ls st = some xx) : ∃ y, xx = .inl y := by
  have hs : (match (generalizing := false) st with
    | .long x :: r => if xa + 1 < ls.length then nx (pc + xb) (sm_st2 ls xa (.long x)) r h else none
    | _ => none) = some xx := hs
  first | (unfold nx at hs; cases hs; exact ⟨_, rfl⟩) | (repeat' split at hs) <;> first | (unfold nx at hs; cases hs; exact ⟨_, rfl⟩) | cases hs
theorem nxt_8 {pc xa xb : Nat} {xc : Int} {xl : List Nat} {ls : sm_L} {st : List Value} {h : sm_H} {xx : sm_N} (hs : sm_step h pc (8, xa, xb, xc, xl) ls st = some xx) : ∃ y, xx = .inl y := by
  have hs : (match (generalizing := false) st with
    | .ref x :: r => if xa < ls.length then nx (pc + xb) (sm_st1 ls xa (.ref x)) r h else none
    | .null :: r => if xa < ls.length then nx (pc + xb) (sm_st1 ls xa .null) r h else none
    | _ => none) = some xx := hs
  first | (unfold nx at hs; cases hs; exact ⟨_, rfl⟩) | (repeat' split at hs) <;> first | (unfold nx at hs; cases hs; exact ⟨_, rfl⟩) | cases hs
theorem nxt_9 {pc xa xb : Nat} {xc : Int} {xl : List Nat} {ls : sm_L} {st : List Value} {h : sm_H} {xx : sm_N} (hs : sm_step h pc (9, xa, xb, xc, xl) ls st = some xx) : ∃ y, xx = .inl y := by
  have hs : (match (generalizing := false) ls[xa]? with
    | some (some (.int x)) => nx (pc + 3) (sm_st1 ls xa (.int (x + Int32.ofInt xc))) st h
    | _ => none) = some xx := hs
  first | (unfold nx at hs; cases hs; exact ⟨_, rfl⟩) | (repeat' split at hs) <;> first | (unfold nx at hs; cases hs; exact ⟨_, rfl⟩) | cases hs
theorem nxt_10 {pc xa xb : Nat} {xc : Int} {xl : List Nat} {ls : sm_L} {st : List Value} {h : sm_H} {xx : sm_N} (hs : sm_step h pc (10, xa, xb, xc, xl) ls st = some xx) : ∃ y, xx = .inl y := by
  have hs : (match (generalizing := false) st with
    | v :: r => if sm_cat1 v then nx (pc + 1) ls r h else none
    | _ => none) = some xx := hs
  first | (unfold nx at hs; cases hs; exact ⟨_, rfl⟩) | (repeat' split at hs) <;> first | (unfold nx at hs; cases hs; exact ⟨_, rfl⟩) | cases hs
theorem nxt_11 {pc xa xb : Nat} {xc : Int} {xl : List Nat} {ls : sm_L} {st : List Value} {h : sm_H} {xx : sm_N} (hs : sm_step h pc (11, xa, xb, xc, xl) ls st = some xx) : ∃ y, xx = .inl y := by
  have hs : (match (generalizing := false) st with
    | v :: r => if sm_cat1 v then nx (pc + 1) ls (v :: v :: r) h else none
    | _ => none) = some xx := hs
  first | (unfold nx at hs; cases hs; exact ⟨_, rfl⟩) | (repeat' split at hs) <;> first | (unfold nx at hs; cases hs; exact ⟨_, rfl⟩) | cases hs
theorem nxt_12 {pc xa xb : Nat} {xc : Int} {xl : List Nat} {ls : sm_L} {st : List Value} {h : sm_H} {xx : sm_N} (hs : sm_step h pc (12, xa, xb, xc, xl) ls st = some xx) : ∃ y, xx = .inl y := by
  have hs : (match (generalizing := false) st with
    | v :: w :: r => if sm_cat1 v && sm_cat1 w then nx (pc + 1) ls (v :: w :: v :: w :: r) h else none
    | _ => none) = some xx := hs
  first | (unfold nx at hs; cases hs; exact ⟨_, rfl⟩) | (repeat' split at hs) <;> first | (unfold nx at hs; cases hs; exact ⟨_, rfl⟩) | cases hs
theorem nxt_13 {pc xa xb : Nat} {xc : Int} {xl : List Nat} {ls : sm_L} {st : List Value} {h : sm_H} {xx : sm_N} (hs : sm_step h pc (13, xa, xb, xc, xl) ls st = some xx) : ∃ y, xx = .inl y := by
  have hs : (sm_bin (fun x y => x + y) pc ls st h) = some xx := hs
  unfold sm_bin at hs
  first | (unfold nx at hs; cases hs; exact ⟨_, rfl⟩) | (repeat' split at hs) <;> first | (unfold nx at hs; cases hs; exact ⟨_, rfl⟩) | cases hs
theorem nxt_14 {pc xa xb : Nat} {xc : Int} {xl : List Nat} {ls : sm_L} {st : List Value} {h : sm_H} {xx : sm_N} (hs : sm_step h pc (14, xa, xb, xc, xl) ls st = some xx) : ∃ y, xx = .inl y := by
  have hs : (sm_bin (fun x y => x - y) pc ls st h) = some xx := hs
  unfold sm_bin at hs
  first | (unfold nx at hs; cases hs; exact ⟨_, rfl⟩) | (repeat' split at hs) <;> first | (unfold nx at hs; cases hs; exact ⟨_, rfl⟩) | cases hs
theorem nxt_15 {pc xa xb : Nat} {xc : Int} {xl : List Nat} {ls : sm_L} {st : List Value} {h : sm_H} {xx : sm_N} (hs : sm_step h pc (15, xa, xb, xc, xl) ls st = some xx) : ∃ y, xx = .inl y := by
  have hs : (sm_bin (fun x y => x * y) pc ls st h) = some xx := hs
  unfold sm_bin at hs
  first | (unfold nx at hs; cases hs; exact ⟨_, rfl⟩) | (repeat' split at hs) <;> first | (unfold nx at hs; cases hs; exact ⟨_, rfl⟩) | cases hs
theorem nxt_16 {pc xa xb : Nat} {xc : Int} {xl : List Nat} {ls : sm_L} {st : List Value} {h : sm_H} {xx : sm_N} (hs : sm_step h pc (16, xa, xb, xc, xl) ls st = some xx) : ∃ y, xx = .inl y := by
  have hs : (match (generalizing := false) st with
    | .int y :: .int x :: r => if y = 0 then none else nx (pc + 1) ls (.int (x / y) :: r) h
    | _ => none) = some xx := hs
  first | (unfold nx at hs; cases hs; exact ⟨_, rfl⟩) | (repeat' split at hs) <;> first | (unfold nx at hs; cases hs; exact ⟨_, rfl⟩) | cases hs
theorem nxt_17 {pc xa xb : Nat} {xc : Int} {xl : List Nat} {ls : sm_L} {st : List Value} {h : sm_H} {xx : sm_N} (hs : sm_step h pc (17, xa, xb, xc, xl) ls st = some xx) : ∃ y, xx = .inl y := by
  have hs : (match (generalizing := false) st with
    | .int y :: .int x :: r => if y = 0 then none else nx (pc + 1) ls (.int (x - x / y * y) :: r) h
    | _ => none) = some xx := hs
  first | (unfold nx at hs; cases hs; exact ⟨_, rfl⟩) | (repeat' split at hs) <;> first | (unfold nx at hs; cases hs; exact ⟨_, rfl⟩) | cases hs
theorem nxt_18 {pc xa xb : Nat} {xc : Int} {xl : List Nat} {ls : sm_L} {st : List Value} {h : sm_H} {xx : sm_N} (hs : sm_step h pc (18, xa, xb, xc, xl) ls st = some xx) : ∃ y, xx = .inl y := by
  have hs : (sm_bin (fun x y => x &&& y) pc ls st h) = some xx := hs
  unfold sm_bin at hs
  first | (unfold nx at hs; cases hs; exact ⟨_, rfl⟩) | (repeat' split at hs) <;> first | (unfold nx at hs; cases hs; exact ⟨_, rfl⟩) | cases hs
theorem nxt_19 {pc xa xb : Nat} {xc : Int} {xl : List Nat} {ls : sm_L} {st : List Value} {h : sm_H} {xx : sm_N} (hs : sm_step h pc (19, xa, xb, xc, xl) ls st = some xx) : ∃ y, xx = .inl y := by
  have hs : (sm_bin (fun x y => (x.toUInt32 >>> (y.toUInt32 &&& Int32.toUInt32 31)).toInt32) pc ls st h) = some xx := hs
  unfold sm_bin at hs
  first | (unfold nx at hs; cases hs; exact ⟨_, rfl⟩) | (repeat' split at hs) <;> first | (unfold nx at hs; cases hs; exact ⟨_, rfl⟩) | cases hs
theorem nxt_20 {pc xa xb : Nat} {xc : Int} {xl : List Nat} {ls : sm_L} {st : List Value} {h : sm_H} {xx : sm_N} (hs : sm_step h pc (20, xa, xb, xc, xl) ls st = some xx) : ∃ y, xx = .inl y := by
  have hs : (sm_bil (fun x y => x + y) pc ls st h) = some xx := hs
  unfold sm_bil at hs
  first | (unfold nx at hs; cases hs; exact ⟨_, rfl⟩) | (repeat' split at hs) <;> first | (unfold nx at hs; cases hs; exact ⟨_, rfl⟩) | cases hs
theorem nxt_21 {pc xa xb : Nat} {xc : Int} {xl : List Nat} {ls : sm_L} {st : List Value} {h : sm_H} {xx : sm_N} (hs : sm_step h pc (21, xa, xb, xc, xl) ls st = some xx) : ∃ y, xx = .inl y := by
  have hs : (sm_bil (fun x y => x - y) pc ls st h) = some xx := hs
  unfold sm_bil at hs
  first | (unfold nx at hs; cases hs; exact ⟨_, rfl⟩) | (repeat' split at hs) <;> first | (unfold nx at hs; cases hs; exact ⟨_, rfl⟩) | cases hs
theorem nxt_22 {pc xa xb : Nat} {xc : Int} {xl : List Nat} {ls : sm_L} {st : List Value} {h : sm_H} {xx : sm_N} (hs : sm_step h pc (22, xa, xb, xc, xl) ls st = some xx) : ∃ y, xx = .inl y := by
  have hs : (sm_bil (fun x y => x * y) pc ls st h) = some xx := hs
  unfold sm_bil at hs
  first | (unfold nx at hs; cases hs; exact ⟨_, rfl⟩) | (repeat' split at hs) <;> first | (unfold nx at hs; cases hs; exact ⟨_, rfl⟩) | cases hs
theorem nxt_23 {pc xa xb : Nat} {xc : Int} {xl : List Nat} {ls : sm_L} {st : List Value} {h : sm_H} {xx : sm_N} (hs : sm_step h pc (23, xa, xb, xc, xl) ls st = some xx) : ∃ y, xx = .inl y := by
  have hs : (match (generalizing := false) st with
    | .long y :: .long x :: r => if y = 0 then none else nx (pc + 1) ls (.long (x / y) :: r) h
    | _ => none) = some xx := hs
  first | (unfold nx at hs; cases hs; exact ⟨_, rfl⟩) | (repeat' split at hs) <;> first | (unfold nx at hs; cases hs; exact ⟨_, rfl⟩) | cases hs
theorem nxt_24 {pc xa xb : Nat} {xc : Int} {xl : List Nat} {ls : sm_L} {st : List Value} {h : sm_H} {xx : sm_N} (hs : sm_step h pc (24, xa, xb, xc, xl) ls st = some xx) : ∃ y, xx = .inl y := by
  have hs : (sm_bil (fun x y => x &&& y) pc ls st h) = some xx := hs
  unfold sm_bil at hs
  first | (unfold nx at hs; cases hs; exact ⟨_, rfl⟩) | (repeat' split at hs) <;> first | (unfold nx at hs; cases hs; exact ⟨_, rfl⟩) | cases hs
theorem nxt_25 {pc xa xb : Nat} {xc : Int} {xl : List Nat} {ls : sm_L} {st : List Value} {h : sm_H} {xx : sm_N} (hs : sm_step h pc (25, xa, xb, xc, xl) ls st = some xx) : ∃ y, xx = .inl y := by
  have hs : (sm_bil (fun x y => x ||| y) pc ls st h) = some xx := hs
  unfold sm_bil at hs
  first | (unfold nx at hs; cases hs; exact ⟨_, rfl⟩) | (repeat' split at hs) <;> first | (unfold nx at hs; cases hs; exact ⟨_, rfl⟩) | cases hs
theorem nxt_26 {pc xa xb : Nat} {xc : Int} {xl : List Nat} {ls : sm_L} {st : List Value} {h : sm_H} {xx : sm_N} (hs : sm_step h pc (26, xa, xb, xc, xl) ls st = some xx) : ∃ y, xx = .inl y := by
  have hs : (match (generalizing := false) st with
    | .int y :: .long x :: r => nx (pc + 1) ls (.long (x <<< (y.toInt64 &&& 63)) :: r) h
    | _ => none) = some xx := hs
  first | (unfold nx at hs; cases hs; exact ⟨_, rfl⟩) | (repeat' split at hs) <;> first | (unfold nx at hs; cases hs; exact ⟨_, rfl⟩) | cases hs
theorem nxt_27 {pc xa xb : Nat} {xc : Int} {xl : List Nat} {ls : sm_L} {st : List Value} {h : sm_H} {xx : sm_N} (hs : sm_step h pc (27, xa, xb, xc, xl) ls st = some xx) : ∃ y, xx = .inl y := by
  have hs : (match (generalizing := false) st with
    | .long y :: .long x :: r => nx (pc + 1) ls (.int (lg_cmp x y) :: r) h
    | _ => none) = some xx := hs
  first | (unfold nx at hs; cases hs; exact ⟨_, rfl⟩) | (repeat' split at hs) <;> first | (unfold nx at hs; cases hs; exact ⟨_, rfl⟩) | cases hs
theorem nxt_28 {pc xa xb : Nat} {xc : Int} {xl : List Nat} {ls : sm_L} {st : List Value} {h : sm_H} {xx : sm_N} (hs : sm_step h pc (28, xa, xb, xc, xl) ls st = some xx) : ∃ y, xx = .inl y := by
  have hs : (match (generalizing := false) st with
    | .int x :: r => nx (pc + 1) ls (.long x.toInt64 :: r) h
    | _ => none) = some xx := hs
  first | (unfold nx at hs; cases hs; exact ⟨_, rfl⟩) | (repeat' split at hs) <;> first | (unfold nx at hs; cases hs; exact ⟨_, rfl⟩) | cases hs
theorem nxt_29 {pc xa xb : Nat} {xc : Int} {xl : List Nat} {ls : sm_L} {st : List Value} {h : sm_H} {xx : sm_N} (hs : sm_step h pc (29, xa, xb, xc, xl) ls st = some xx) : ∃ y, xx = .inl y := by
  have hs : (match (generalizing := false) st with
    | .long x :: r => nx (pc + 1) ls (.int x.toInt32 :: r) h
    | _ => none) = some xx := hs
  first | (unfold nx at hs; cases hs; exact ⟨_, rfl⟩) | (repeat' split at hs) <;> first | (unfold nx at hs; cases hs; exact ⟨_, rfl⟩) | cases hs
theorem nxt_30 {pc xa xb : Nat} {xc : Int} {xl : List Nat} {ls : sm_L} {st : List Value} {h : sm_H} {xx : sm_N} (hs : sm_step h pc (30, xa, xb, xc, xl) ls st = some xx) : ∃ y, xx = .inl y := by
  have hs : (sm_if (fun x => decide (x = 0)) xa pc ls st h) = some xx := hs
  unfold sm_if at hs
  first | (unfold nx at hs; cases hs; exact ⟨_, rfl⟩) | (repeat' split at hs) <;> first | (unfold nx at hs; cases hs; exact ⟨_, rfl⟩) | cases hs
theorem nxt_31 {pc xa xb : Nat} {xc : Int} {xl : List Nat} {ls : sm_L} {st : List Value} {h : sm_H} {xx : sm_N} (hs : sm_step h pc (31, xa, xb, xc, xl) ls st = some xx) : ∃ y, xx = .inl y := by
  have hs : (sm_if (fun x => !decide (x = 0)) xa pc ls st h) = some xx := hs
  unfold sm_if at hs
  first | (unfold nx at hs; cases hs; exact ⟨_, rfl⟩) | (repeat' split at hs) <;> first | (unfold nx at hs; cases hs; exact ⟨_, rfl⟩) | cases hs
theorem nxt_32 {pc xa xb : Nat} {xc : Int} {xl : List Nat} {ls : sm_L} {st : List Value} {h : sm_H} {xx : sm_N} (hs : sm_step h pc (32, xa, xb, xc, xl) ls st = some xx) : ∃ y, xx = .inl y := by
  have hs : (sm_if (fun x => decide (x < 0)) xa pc ls st h) = some xx := hs
  unfold sm_if at hs
  first | (unfold nx at hs; cases hs; exact ⟨_, rfl⟩) | (repeat' split at hs) <;> first | (unfold nx at hs; cases hs; exact ⟨_, rfl⟩) | cases hs
theorem nxt_33 {pc xa xb : Nat} {xc : Int} {xl : List Nat} {ls : sm_L} {st : List Value} {h : sm_H} {xx : sm_N} (hs : sm_step h pc (33, xa, xb, xc, xl) ls st = some xx) : ∃ y, xx = .inl y := by
  have hs : (sm_if (fun x => decide (0 ≤ x)) xa pc ls st h) = some xx := hs
  unfold sm_if at hs
  first | (unfold nx at hs; cases hs; exact ⟨_, rfl⟩) | (repeat' split at hs) <;> first | (unfold nx at hs; cases hs; exact ⟨_, rfl⟩) | cases hs
theorem nxt_34 {pc xa xb : Nat} {xc : Int} {xl : List Nat} {ls : sm_L} {st : List Value} {h : sm_H} {xx : sm_N} (hs : sm_step h pc (34, xa, xb, xc, xl) ls st = some xx) : ∃ y, xx = .inl y := by
  have hs : (sm_if (fun x => decide (0 < x)) xa pc ls st h) = some xx := hs
  unfold sm_if at hs
  first | (unfold nx at hs; cases hs; exact ⟨_, rfl⟩) | (repeat' split at hs) <;> first | (unfold nx at hs; cases hs; exact ⟨_, rfl⟩) | cases hs
theorem nxt_35 {pc xa xb : Nat} {xc : Int} {xl : List Nat} {ls : sm_L} {st : List Value} {h : sm_H} {xx : sm_N} (hs : sm_step h pc (35, xa, xb, xc, xl) ls st = some xx) : ∃ y, xx = .inl y := by
  have hs : (sm_if (fun x => decide (x ≤ 0)) xa pc ls st h) = some xx := hs
  unfold sm_if at hs
  first | (unfold nx at hs; cases hs; exact ⟨_, rfl⟩) | (repeat' split at hs) <;> first | (unfold nx at hs; cases hs; exact ⟨_, rfl⟩) | cases hs
theorem nxt_36 {pc xa xb : Nat} {xc : Int} {xl : List Nat} {ls : sm_L} {st : List Value} {h : sm_H} {xx : sm_N} (hs : sm_step h pc (36, xa, xb, xc, xl) ls st = some xx) : ∃ y, xx = .inl y := by
  have hs : (sm_ic (fun x y => decide (x = y)) xa pc ls st h) = some xx := hs
  unfold sm_ic at hs
  first | (unfold nx at hs; cases hs; exact ⟨_, rfl⟩) | (repeat' split at hs) <;> first | (unfold nx at hs; cases hs; exact ⟨_, rfl⟩) | cases hs
theorem nxt_37 {pc xa xb : Nat} {xc : Int} {xl : List Nat} {ls : sm_L} {st : List Value} {h : sm_H} {xx : sm_N} (hs : sm_step h pc (37, xa, xb, xc, xl) ls st = some xx) : ∃ y, xx = .inl y := by
  have hs : (sm_ic (fun x y => !decide (x = y)) xa pc ls st h) = some xx := hs
  unfold sm_ic at hs
  first | (unfold nx at hs; cases hs; exact ⟨_, rfl⟩) | (repeat' split at hs) <;> first | (unfold nx at hs; cases hs; exact ⟨_, rfl⟩) | cases hs
theorem nxt_38 {pc xa xb : Nat} {xc : Int} {xl : List Nat} {ls : sm_L} {st : List Value} {h : sm_H} {xx : sm_N} (hs : sm_step h pc (38, xa, xb, xc, xl) ls st = some xx) : ∃ y, xx = .inl y := by
  have hs : (sm_ic (fun x y => decide (x < y)) xa pc ls st h) = some xx := hs
  unfold sm_ic at hs
  first | (unfold nx at hs; cases hs; exact ⟨_, rfl⟩) | (repeat' split at hs) <;> first | (unfold nx at hs; cases hs; exact ⟨_, rfl⟩) | cases hs
theorem nxt_39 {pc xa xb : Nat} {xc : Int} {xl : List Nat} {ls : sm_L} {st : List Value} {h : sm_H} {xx : sm_N} (hs : sm_step h pc (39, xa, xb, xc, xl) ls st = some xx) : ∃ y, xx = .inl y := by
  have hs : (sm_ic (fun x y => decide (y ≤ x)) xa pc ls st h) = some xx := hs
  unfold sm_ic at hs
  first | (unfold nx at hs; cases hs; exact ⟨_, rfl⟩) | (repeat' split at hs) <;> first | (unfold nx at hs; cases hs; exact ⟨_, rfl⟩) | cases hs
theorem nxt_40 {pc xa xb : Nat} {xc : Int} {xl : List Nat} {ls : sm_L} {st : List Value} {h : sm_H} {xx : sm_N} (hs : sm_step h pc (40, xa, xb, xc, xl) ls st = some xx) : ∃ y, xx = .inl y := by
  have hs : (sm_ic (fun x y => decide (y < x)) xa pc ls st h) = some xx := hs
  unfold sm_ic at hs
  first | (unfold nx at hs; cases hs; exact ⟨_, rfl⟩) | (repeat' split at hs) <;> first | (unfold nx at hs; cases hs; exact ⟨_, rfl⟩) | cases hs
theorem nxt_41 {pc xa xb : Nat} {xc : Int} {xl : List Nat} {ls : sm_L} {st : List Value} {h : sm_H} {xx : sm_N} (hs : sm_step h pc (41, xa, xb, xc, xl) ls st = some xx) : ∃ y, xx = .inl y := by
  have hs : (sm_ic (fun x y => decide (x ≤ y)) xa pc ls st h) = some xx := hs
  unfold sm_ic at hs
  first | (unfold nx at hs; cases hs; exact ⟨_, rfl⟩) | (repeat' split at hs) <;> first | (unfold nx at hs; cases hs; exact ⟨_, rfl⟩) | cases hs
theorem nxt_42 {pc xa xb : Nat} {xc : Int} {xl : List Nat} {ls : sm_L} {st : List Value} {h : sm_H} {xx : sm_N} (hs : sm_step h pc (42, xa, xb, xc, xl) ls st = some xx) : ∃ y, xx = .inl y := by
  have hs : (match (generalizing := false) st with
    | .null :: r => nx xa ls r h
    | .ref _ :: r => nx (pc + 3) ls r h
    | _ => none) = some xx := hs
  first | (unfold nx at hs; cases hs; exact ⟨_, rfl⟩) | (repeat' split at hs) <;> first | (unfold nx at hs; cases hs; exact ⟨_, rfl⟩) | cases hs
theorem nxt_43 {pc xa xb : Nat} {xc : Int} {xl : List Nat} {ls : sm_L} {st : List Value} {h : sm_H} {xx : sm_N} (hs : sm_step h pc (43, xa, xb, xc, xl) ls st = some xx) : ∃ y, xx = .inl y := by
  have hs : (match (generalizing := false) st with
    | .null :: r => nx (pc + 3) ls r h
    | .ref _ :: r => nx xa ls r h
    | _ => none) = some xx := hs
  first | (unfold nx at hs; cases hs; exact ⟨_, rfl⟩) | (repeat' split at hs) <;> first | (unfold nx at hs; cases hs; exact ⟨_, rfl⟩) | cases hs
theorem nxt_44 {pc xa xb : Nat} {xc : Int} {xl : List Nat} {ls : sm_L} {st : List Value} {h : sm_H} {xx : sm_N} (hs : sm_step h pc (44, xa, xb, xc, xl) ls st = some xx) : ∃ y, xx = .inl y := by
  have hs : (nx xa ls st h) = some xx := hs
  first | (unfold nx at hs; cases hs; exact ⟨_, rfl⟩) | (repeat' split at hs) <;> first | (unfold nx at hs; cases hs; exact ⟨_, rfl⟩) | cases hs
theorem nxt_45 {pc xa xb : Nat} {xc : Int} {xl : List Nat} {ls : sm_L} {st : List Value} {h : sm_H} {xx : sm_N} (hs : sm_step h pc (45, xa, xb, xc, xl) ls st = some xx) : ∃ y, xx = .inl y := by
  have hs : (match (generalizing := false) st with
    | .int x :: r => nx (sm_sw xc xl xa x) ls r h
    | _ => none) = some xx := hs
  first | (unfold nx at hs; cases hs; exact ⟨_, rfl⟩) | (repeat' split at hs) <;> first | (unfold nx at hs; cases hs; exact ⟨_, rfl⟩) | cases hs
theorem nxt_50 {pc xa xb : Nat} {xc : Int} {xl : List Nat} {ls : sm_L} {st : List Value} {h : sm_H} {xx : sm_N} (hs : sm_step h pc (50, xa, xb, xc, xl) ls st = some xx) : ∃ y, xx = .inl y := by
  have hs : (match (generalizing := false) st with
    | .ref q :: r => if sm_at h q (10 + xa) then nx (pc + 3) ls (.int (gI h q xb) :: r) h else none
    | _ => none) = some xx := hs
  first | (unfold nx at hs; cases hs; exact ⟨_, rfl⟩) | (repeat' split at hs) <;> first | (unfold nx at hs; cases hs; exact ⟨_, rfl⟩) | cases hs
theorem nxt_51 {pc xa xb : Nat} {xc : Int} {xl : List Nat} {ls : sm_L} {st : List Value} {h : sm_H} {xx : sm_N} (hs : sm_step h pc (51, xa, xb, xc, xl) ls st = some xx) : ∃ y, xx = .inl y := by
  have hs : (match (generalizing := false) st with
    | .ref q :: r => if sm_at h q (10 + xa) then nx (pc + 3) ls (.long (gL h q xb) :: r) h else none
    | _ => none) = some xx := hs
  first | (unfold nx at hs; cases hs; exact ⟨_, rfl⟩) | (repeat' split at hs) <;> first | (unfold nx at hs; cases hs; exact ⟨_, rfl⟩) | cases hs
theorem nxt_52 {pc xa xb : Nat} {xc : Int} {xl : List Nat} {ls : sm_L} {st : List Value} {h : sm_H} {xx : sm_N} (hs : sm_step h pc (52, xa, xb, xc, xl) ls st = some xx) : ∃ y, xx = .inl y := by
  have hs : (match (generalizing := false) st with
    | .ref q :: r => if sm_at h q (10 + xa) then nx (pc + 3) ls (sm_rf (gR h q xb) :: r) h else none
    | _ => none) = some xx := hs
  first | (unfold nx at hs; cases hs; exact ⟨_, rfl⟩) | (repeat' split at hs) <;> first | (unfold nx at hs; cases hs; exact ⟨_, rfl⟩) | cases hs
theorem nxt_53 {pc xa xb : Nat} {xc : Int} {xl : List Nat} {ls : sm_L} {st : List Value} {h : sm_H} {xx : sm_N} (hs : sm_step h pc (53, xa, xb, xc, xl) ls st = some xx) : ∃ y, xx = .inl y := by
  have hs : (match (generalizing := false) st with
    | .int x :: .ref q :: r => if sm_at h q (10 + xa) then nx (pc + 3) ls r (setI h q xb x) else none
    | _ => none) = some xx := hs
  first | (unfold nx at hs; cases hs; exact ⟨_, rfl⟩) | (repeat' split at hs) <;> first | (unfold nx at hs; cases hs; exact ⟨_, rfl⟩) | cases hs
theorem nxt_54 {pc xa xb : Nat} {xc : Int} {xl : List Nat} {ls : sm_L} {st : List Value} {h : sm_H} {xx : sm_N} (hs : sm_step h pc (54, xa, xb, xc, xl) ls st = some xx) : ∃ y, xx = .inl y := by
  have hs : (match (generalizing := false) st with
    | .long x :: .ref q :: r => if sm_at h q (10 + xa) then nx (pc + 3) ls r (setL h q xb x) else none
    | _ => none) = some xx := hs
  first | (unfold nx at hs; cases hs; exact ⟨_, rfl⟩) | (repeat' split at hs) <;> first | (unfold nx at hs; cases hs; exact ⟨_, rfl⟩) | cases hs
theorem nxt_55 {pc xa xb : Nat} {xc : Int} {xl : List Nat} {ls : sm_L} {st : List Value} {h : sm_H} {xx : sm_N} (hs : sm_step h pc (55, xa, xb, xc, xl) ls st = some xx) : ∃ y, xx = .inl y := by
  have hs : (match (generalizing := false) st with
    | .ref x :: .ref q :: r => if sm_at h q (10 + xa) then nx (pc + 3) ls r (setR h q xb (some x)) else none
    | .null :: .ref q :: r => if sm_at h q (10 + xa) then nx (pc + 3) ls r (setR h q xb none) else none
    | _ => none) = some xx := hs
  first | (unfold nx at hs; cases hs; exact ⟨_, rfl⟩) | (repeat' split at hs) <;> first | (unfold nx at hs; cases hs; exact ⟨_, rfl⟩) | cases hs
theorem nxt_56 {pc xa xb : Nat} {xc : Int} {xl : List Nat} {ls : sm_L} {st : List Value} {h : sm_H} {xx : sm_N} (hs : sm_step h pc (56, xa, xb, xc, xl) ls st = some xx) : ∃ y, xx = .inl y := by
  have hs : (match (generalizing := false) st with
    | .int x :: .ref q :: r => if sm_at h q (10 + xa) ∧ (x = 0 ∨ x = 1) then nx (pc + 3) ls r (setI h q xb x) else none
    | _ => none) = some xx := hs
  first | (unfold nx at hs; cases hs; exact ⟨_, rfl⟩) | (repeat' split at hs) <;> first | (unfold nx at hs; cases hs; exact ⟨_, rfl⟩) | cases hs
theorem nxt_57 {pc xa xb : Nat} {xc : Int} {xl : List Nat} {ls : sm_L} {st : List Value} {h : sm_H} {xx : sm_N} (hs : sm_step h pc (57, xa, xb, xc, xl) ls st = some xx) : ∃ y, xx = .inl y := by
  have hs : (match (generalizing := false) st with
    | .int i :: .ref q :: r => if (sm_at h q 0 || decide (q = sm_S)) && sm_in i (gS h q).2 then nx (pc + 1) ls (.int (gI h q i.toNatClampNeg) :: r) h else none
    | _ => none) = some xx := hs
  first | (unfold nx at hs; cases hs; exact ⟨_, rfl⟩) | (repeat' split at hs) <;> first | (unfold nx at hs; cases hs; exact ⟨_, rfl⟩) | cases hs
theorem nxt_58 {pc xa xb : Nat} {xc : Int} {xl : List Nat} {ls : sm_L} {st : List Value} {h : sm_H} {xx : sm_N} (hs : sm_step h pc (58, xa, xb, xc, xl) ls st = some xx) : ∃ y, xx = .inl y := by
  have hs : (match (generalizing := false) st with
    | .int i :: .ref q :: r => if sm_at h q 1 && sm_in i (gS h q).2 then nx (pc + 1) ls (.long (gL h q i.toNatClampNeg) :: r) h else none
    | _ => none) = some xx := hs
  first | (unfold nx at hs; cases hs; exact ⟨_, rfl⟩) | (repeat' split at hs) <;> first | (unfold nx at hs; cases hs; exact ⟨_, rfl⟩) | cases hs
theorem nxt_59 {pc xa xb : Nat} {xc : Int} {xl : List Nat} {ls : sm_L} {st : List Value} {h : sm_H} {xx : sm_N} (hs : sm_step h pc (59, xa, xb, xc, xl) ls st = some xx) : ∃ y, xx = .inl y := by
  have hs : (match (generalizing := false) st with
    | .int i :: .ref q :: r => if sm_at h q xa && sm_in i (gS h q).2 then nx (pc + 1) ls (sm_rf (gR h q i.toNatClampNeg) :: r) h else none
    | _ => none) = some xx := hs
  first | (unfold nx at hs; cases hs; exact ⟨_, rfl⟩) | (repeat' split at hs) <;> first | (unfold nx at hs; cases hs; exact ⟨_, rfl⟩) | cases hs
theorem nxt_60 {pc xa xb : Nat} {xc : Int} {xl : List Nat} {ls : sm_L} {st : List Value} {h : sm_H} {xx : sm_N} (hs : sm_step h pc (60, xa, xb, xc, xl) ls st = some xx) : ∃ y, xx = .inl y := by
  have hs : (match (generalizing := false) st with
    | .int i :: .ref q :: r => if sm_at h q 2 && sm_in i (gS h q).2 then nx (pc + 1) ls (.int (gI h q i.toNatClampNeg) :: r) h else none
    | _ => none) = some xx := hs
  first | (unfold nx at hs; cases hs; exact ⟨_, rfl⟩) | (repeat' split at hs) <;> first | (unfold nx at hs; cases hs; exact ⟨_, rfl⟩) | cases hs
theorem nxt_61 {pc xa xb : Nat} {xc : Int} {xl : List Nat} {ls : sm_L} {st : List Value} {h : sm_H} {xx : sm_N} (hs : sm_step h pc (61, xa, xb, xc, xl) ls st = some xx) : ∃ y, xx = .inl y := by
  have hs : (match (generalizing := false) st with
    | .int x :: .int i :: .ref q :: r => if sm_at h q 0 && sm_in i (gS h q).2 then nx (pc + 1) ls r (setI h q i.toNatClampNeg x) else none
    | _ => none) = some xx := hs
  first | (unfold nx at hs; cases hs; exact ⟨_, rfl⟩) | (repeat' split at hs) <;> first | (unfold nx at hs; cases hs; exact ⟨_, rfl⟩) | cases hs
theorem nxt_62 {pc xa xb : Nat} {xc : Int} {xl : List Nat} {ls : sm_L} {st : List Value} {h : sm_H} {xx : sm_N} (hs : sm_step h pc (62, xa, xb, xc, xl) ls st = some xx) : ∃ y, xx = .inl y := by
  have hs : (match (generalizing := false) st with
    | .long x :: .int i :: .ref q :: r => if sm_at h q 1 && sm_in i (gS h q).2 then nx (pc + 1) ls r (setL h q i.toNatClampNeg x) else none
    | _ => none) = some xx := hs
  first | (unfold nx at hs; cases hs; exact ⟨_, rfl⟩) | (repeat' split at hs) <;> first | (unfold nx at hs; cases hs; exact ⟨_, rfl⟩) | cases hs
theorem nxt_63 {pc xa xb : Nat} {xc : Int} {xl : List Nat} {ls : sm_L} {st : List Value} {h : sm_H} {xx : sm_N} (hs : sm_step h pc (63, xa, xb, xc, xl) ls st = some xx) : ∃ y, xx = .inl y := by
  have hs : (match (generalizing := false) st with
    | .ref x :: .int i :: .ref q :: r => if sm_at h q xa && sm_in i (gS h q).2 && sm_at h x (10 + xb) then nx (pc + 1) ls r (setR h q i.toNatClampNeg (some x)) else none
    | _ => none) = some xx := hs
  first | (unfold nx at hs; cases hs; exact ⟨_, rfl⟩) | (repeat' split at hs) <;> first | (unfold nx at hs; cases hs; exact ⟨_, rfl⟩) | cases hs
theorem nxt_64 {pc xa xb : Nat} {xc : Int} {xl : List Nat} {ls : sm_L} {st : List Value} {h : sm_H} {xx : sm_N} (hs : sm_step h pc (64, xa, xb, xc, xl) ls st = some xx) : ∃ y, xx = .inl y := by
  have hs : (match (generalizing := false) st with
    | .int x :: .int i :: .ref q :: r => if (sm_at h q 2 && sm_in i (gS h q).2) ∧ (x = 0 ∨ x = 1) then nx (pc + 1) ls r (setI h q i.toNatClampNeg x) else none
    | _ => none) = some xx := hs
  first | (unfold nx at hs; cases hs; exact ⟨_, rfl⟩) | (repeat' split at hs) <;> first | (unfold nx at hs; cases hs; exact ⟨_, rfl⟩) | cases hs
theorem nxt_65 {pc xa xb : Nat} {xc : Int} {xl : List Nat} {ls : sm_L} {st : List Value} {h : sm_H} {xx : sm_N} (hs : sm_step h pc (65, xa, xb, xc, xl) ls st = some xx) : ∃ y, xx = .inl y := by
  have hs : (match (generalizing := false) st with
    | .ref q :: r => if (decide (q < gN h) && decide ((gS h q).1 < 8)) || decide (q = sm_S) then nx (pc + 1) ls (.int (Int32.ofNat (gS h q).2) :: r) h else none
    | _ => none) = some xx := hs
  first | (unfold nx at hs; cases hs; exact ⟨_, rfl⟩) | (repeat' split at hs) <;> first | (unfold nx at hs; cases hs; exact ⟨_, rfl⟩) | cases hs
theorem nxt_66 {pc xa xb : Nat} {xc : Int} {xl : List Nat} {ls : sm_L} {st : List Value} {h : sm_H} {xx : sm_N} (hs : sm_step h pc (66, xa, xb, xc, xl) ls st = some xx) : ∃ y, xx = .inl y := by
  have hs : (if gJ h = 0 ∧ gN h < sm_S then nx (pc + 3) ls (.ref (gN h) :: st) (hnew h (10 + xa) xb) else none) = some xx := hs
  first | (unfold nx at hs; cases hs; exact ⟨_, rfl⟩) | (repeat' split at hs) <;> first | (unfold nx at hs; cases hs; exact ⟨_, rfl⟩) | cases hs
theorem nxt_67 {pc xa xb : Nat} {xc : Int} {xl : List Nat} {ls : sm_L} {st : List Value} {h : sm_H} {xx : sm_N} (hs : sm_step h pc (67, xa, xb, xc, xl) ls st = some xx) : ∃ y, xx = .inl y := by
  have hs : (match (generalizing := false) st with
    | .int n :: r => if gJ h = 0 ∧ gN h < sm_S ∧ ¬ n < 0 ∧ n.toNatClampNeg ≤ 1000000 then nx (pc + 2) ls (.ref (gN h) :: r) (hnew h xa n.toNatClampNeg) else none
    | _ => none) = some xx := hs
  first | (unfold nx at hs; cases hs; exact ⟨_, rfl⟩) | (repeat' split at hs) <;> first | (unfold nx at hs; cases hs; exact ⟨_, rfl⟩) | cases hs
theorem nxt_68 {pc xa xb : Nat} {xc : Int} {xl : List Nat} {ls : sm_L} {st : List Value} {h : sm_H} {xx : sm_N} (hs : sm_step h pc (68, xa, xb, xc, xl) ls st = some xx) : ∃ y, xx = .inl y := by
  have hs : (match (generalizing := false) st with
    | .int n :: r => if gJ h = 0 ∧ gN h < sm_S ∧ ¬ n < 0 ∧ n.toNatClampNeg ≤ 1000000 then nx (pc + 3) ls (.ref (gN h) :: r) (hnew h xa n.toNatClampNeg) else none
    | _ => none) = some xx := hs
  first | (unfold nx at hs; cases hs; exact ⟨_, rfl⟩) | (repeat' split at hs) <;> first | (unfold nx at hs; cases hs; exact ⟨_, rfl⟩) | cases hs
theorem nxt_70 {pc xa xb : Nat} {xc : Int} {xl : List Nat} {ls : sm_L} {st : List Value} {h : sm_H} {xx : sm_N} (hs : sm_step h pc (70, xa, xb, xc, xl) ls st = some xx) : ∃ y, xx = .inl y := by
  have hs : (match (generalizing := false) st with
    | .ref _ :: r => if sm_wt r ≤ 8 then nx (pc + 3) ls r h else none
    | _ => none) = some xx := hs
  first | (unfold nx at hs; cases hs; exact ⟨_, rfl⟩) | (repeat' split at hs) <;> first | (unfold nx at hs; cases hs; exact ⟨_, rfl⟩) | cases hs
theorem nxt_71 {pc xa xb : Nat} {xc : Int} {xl : List Nat} {ls : sm_L} {st : List Value} {h : sm_H} {xx : sm_N} (hs : sm_step h pc (71, xa, xb, xc, xl) ls st = some xx) : ∃ y, xx = .inl y := by
  have hs : (match (generalizing := false) st with
    | .int n :: .int dp :: .ref q1 :: .int sp :: .ref q0 :: r => if sm_at h q0 0 && sm_at h q1 0 && decide (sm_wt r ≤ 8) && !decide (sp < 0) && !decide (dp < 0) && !decide (n < 0) && decide (sp.toNatClampNeg + n.toNatClampNeg ≤ (gS h q0).2) && decide (dp.toNatClampNeg + n.toNatClampNeg ≤ (gS h q1).2) then nx (pc + 3) ls r (sm_cpI h q0 sp.toNatClampNeg q1 dp.toNatClampNeg n.toNatClampNeg) else none
    | _ => none) = some xx := hs
  first | (unfold nx at hs; cases hs; exact ⟨_, rfl⟩) | (repeat' split at hs) <;> first | (unfold nx at hs; cases hs; exact ⟨_, rfl⟩) | cases hs
theorem nxt_72 {pc xa xb : Nat} {xc : Int} {xl : List Nat} {ls : sm_L} {st : List Value} {h : sm_H} {xx : sm_N} (hs : sm_step h pc (72, xa, xb, xc, xl) ls st = some xx) : ∃ y, xx = .inl y := by
  have hs : (match (generalizing := false) st with
    | .int n :: .int dp :: .ref q1 :: .int sp :: .ref q0 :: r => if sm_at h q0 1 && sm_at h q1 1 && decide (sm_wt r ≤ 8) && !decide (sp < 0) && !decide (dp < 0) && !decide (n < 0) && decide (sp.toNatClampNeg + n.toNatClampNeg ≤ (gS h q0).2) && decide (dp.toNatClampNeg + n.toNatClampNeg ≤ (gS h q1).2) then nx (pc + 3) ls r (sm_cpL h q0 sp.toNatClampNeg q1 dp.toNatClampNeg n.toNatClampNeg) else none
    | _ => none) = some xx := hs
  first | (unfold nx at hs; cases hs; exact ⟨_, rfl⟩) | (repeat' split at hs) <;> first | (unfold nx at hs; cases hs; exact ⟨_, rfl⟩) | cases hs
theorem nxt_75 {pc xa xb : Nat} {xc : Int} {xl : List Nat} {ls : sm_L} {st : List Value} {h : sm_H} {xx : sm_N} (hs : sm_step h pc (75, xa, xb, xc, xl) ls st = some xx) : ∃ y, xx = .inl y := by
  have hs : (match (generalizing := false) st with
    | .long y :: .long x :: r => if y = 0 then none else nx (pc + 1) ls (.long (x - x / y * y) :: r) h
    | _ => none) = some xx := hs
  first | (unfold nx at hs; cases hs; exact ⟨_, rfl⟩) | (repeat' split at hs) <;> first | (unfold nx at hs; cases hs; exact ⟨_, rfl⟩) | cases hs
theorem nxt_76 {pc xa xb : Nat} {xc : Int} {xl : List Nat} {ls : sm_L} {st : List Value} {h : sm_H} {xx : sm_N} (hs : sm_step h pc (76, xa, xb, xc, xl) ls st = some xx) : ∃ y, xx = .inl y := by
  have hs : (sm_bil (fun x y => x ^^^ y) pc ls st h) = some xx := hs
  unfold sm_bil at hs
  first | (unfold nx at hs; cases hs; exact ⟨_, rfl⟩) | (repeat' split at hs) <;> first | (unfold nx at hs; cases hs; exact ⟨_, rfl⟩) | cases hs
theorem sm_nxt {M pc : Nat} {ls : sm_L} {st : List Value} {h : sm_H} {x : sm_N} : ∀ (o : Nat) (xa xb : Nat) (xc : Int) (xl : List Nat), sm_chk M pc (o, xa, xb, xc, xl) = true → sm_step h pc (o, xa, xb, xc, xl) ls st = some x → (∃ y, x = .inl y) ∨ o = 46 ∨ o = 47 ∨ o = 48 ∨ o = 49 ∨ o = 69 ∨ o = 73 ∨ o = 77
  | 0, _, _, _, _, _, hs => Or.inl (nxt_0 hs)
  | 1, _, _, _, _, _, hs => Or.inl (nxt_1 hs)
  | 2, _, _, _, _, _, hs => Or.inl (nxt_2 hs)
  | 3, _, _, _, _, _, hs => Or.inl (nxt_3 hs)
  | 4, _, _, _, _, _, hs => Or.inl (nxt_4 hs)
  | 5, _, _, _, _, _, hs => Or.inl (nxt_5 hs)
  | 6, _, _, _, _, _, hs => Or.inl (nxt_6 hs)
  | 7, _, _, _, _, _, hs => Or.inl (nxt_7 hs)
  | 8, _, _, _, _, _, hs => Or.inl (nxt_8 hs)
  | 9, _, _, _, _, _, hs => Or.inl (nxt_9 hs)
  | 10, _, _, _, _, _, hs => Or.inl (nxt_10 hs)
  | 11, _, _, _, _, _, hs => Or.inl (nxt_11 hs)
  | 12, _, _, _, _, _, hs => Or.inl (nxt_12 hs)
  | 13, _, _, _, _, _, hs => Or.inl (nxt_13 hs)
  | 14, _, _, _, _, _, hs => Or.inl (nxt_14 hs)
  | 15, _, _, _, _, _, hs => Or.inl (nxt_15 hs)
  | 16, _, _, _, _, _, hs => Or.inl (nxt_16 hs)
  | 17, _, _, _, _, _, hs => Or.inl (nxt_17 hs)
  | 18, _, _, _, _, _, hs => Or.inl (nxt_18 hs)
  | 19, _, _, _, _, _, hs => Or.inl (nxt_19 hs)
  | 20, _, _, _, _, _, hs => Or.inl (nxt_20 hs)
  | 21, _, _, _, _, _, hs => Or.inl (nxt_21 hs)
  | 22, _, _, _, _, _, hs => Or.inl (nxt_22 hs)
  | 23, _, _, _, _, _, hs => Or.inl (nxt_23 hs)
  | 24, _, _, _, _, _, hs => Or.inl (nxt_24 hs)
  | 25, _, _, _, _, _, hs => Or.inl (nxt_25 hs)
  | 26, _, _, _, _, _, hs => Or.inl (nxt_26 hs)
  | 27, _, _, _, _, _, hs => Or.inl (nxt_27 hs)
  | 28, _, _, _, _, _, hs => Or.inl (nxt_28 hs)
  | 29, _, _, _, _, _, hs => Or.inl (nxt_29 hs)
  | 30, _, _, _, _, _, hs => Or.inl (nxt_30 hs)
  | 31, _, _, _, _, _, hs => Or.inl (nxt_31 hs)
  | 32, _, _, _, _, _, hs => Or.inl (nxt_32 hs)
  | 33, _, _, _, _, _, hs => Or.inl (nxt_33 hs)
  | 34, _, _, _, _, _, hs => Or.inl (nxt_34 hs)
  | 35, _, _, _, _, _, hs => Or.inl (nxt_35 hs)
  | 36, _, _, _, _, _, hs => Or.inl (nxt_36 hs)
  | 37, _, _, _, _, _, hs => Or.inl (nxt_37 hs)
  | 38, _, _, _, _, _, hs => Or.inl (nxt_38 hs)
  | 39, _, _, _, _, _, hs => Or.inl (nxt_39 hs)
  | 40, _, _, _, _, _, hs => Or.inl (nxt_40 hs)
  | 41, _, _, _, _, _, hs => Or.inl (nxt_41 hs)
  | 42, _, _, _, _, _, hs => Or.inl (nxt_42 hs)
  | 43, _, _, _, _, _, hs => Or.inl (nxt_43 hs)
  | 44, _, _, _, _, _, hs => Or.inl (nxt_44 hs)
  | 45, _, _, _, _, _, hs => Or.inl (nxt_45 hs)
  | 46, _, _, _, _, _, _ => Or.inr (Or.inl rfl)
  | 47, _, _, _, _, _, _ => Or.inr (Or.inr (Or.inl rfl))
  | 48, _, _, _, _, _, _ => Or.inr (Or.inr (Or.inr (Or.inl rfl)))
  | 49, _, _, _, _, _, _ => Or.inr (Or.inr (Or.inr (Or.inr (Or.inl rfl))))
  | 50, _, _, _, _, _, hs => Or.inl (nxt_50 hs)
  | 51, _, _, _, _, _, hs => Or.inl (nxt_51 hs)
  | 52, _, _, _, _, _, hs => Or.inl (nxt_52 hs)
  | 53, _, _, _, _, _, hs => Or.inl (nxt_53 hs)
  | 54, _, _, _, _, _, hs => Or.inl (nxt_54 hs)
  | 55, _, _, _, _, _, hs => Or.inl (nxt_55 hs)
  | 56, _, _, _, _, _, hs => Or.inl (nxt_56 hs)
  | 57, _, _, _, _, _, hs => Or.inl (nxt_57 hs)
  | 58, _, _, _, _, _, hs => Or.inl (nxt_58 hs)
  | 59, _, _, _, _, _, hs => Or.inl (nxt_59 hs)
  | 60, _, _, _, _, _, hs => Or.inl (nxt_60 hs)
  | 61, _, _, _, _, _, hs => Or.inl (nxt_61 hs)
  | 62, _, _, _, _, _, hs => Or.inl (nxt_62 hs)
  | 63, _, _, _, _, _, hs => Or.inl (nxt_63 hs)
  | 64, _, _, _, _, _, hs => Or.inl (nxt_64 hs)
  | 65, _, _, _, _, _, hs => Or.inl (nxt_65 hs)
  | 66, _, _, _, _, _, hs => Or.inl (nxt_66 hs)
  | 67, _, _, _, _, _, hs => Or.inl (nxt_67 hs)
  | 68, _, _, _, _, _, hs => Or.inl (nxt_68 hs)
  | 69, _, _, _, _, _, _ => Or.inr (Or.inr (Or.inr (Or.inr (Or.inr (Or.inl rfl)))))
  | 70, _, _, _, _, _, hs => Or.inl (nxt_70 hs)
  | 71, _, _, _, _, _, hs => Or.inl (nxt_71 hs)
  | 72, _, _, _, _, _, hs => Or.inl (nxt_72 hs)
  | 73, _, _, _, _, _, _ => Or.inr (Or.inr (Or.inr (Or.inr (Or.inr (Or.inr (Or.inl rfl))))))
  | 74, _, _, _, _, hc, _ => Bool.noConfusion (show false = true from hc)
  | 75, _, _, _, _, _, hs => Or.inl (nxt_75 hs)
  | 76, _, _, _, _, _, hs => Or.inl (nxt_76 hs)
  | 77, _, _, _, _, _, _ => Or.inr (Or.inr (Or.inr (Or.inr (Or.inr (Or.inr (Or.inr rfl))))))
  | n + 78, _, _, _, _, hc, _ => Bool.noConfusion (show false = true from hc)
theorem no_46 {pc xa xb : Nat} {xc : Int} {xl : List Nat} {ls : sm_L} {st : List Value} {h : sm_H} (y : Nat × sm_L × List Value × sm_H) : ¬ sm_step h pc (46, xa, xb, xc, xl) ls st = some (.inl y) := by
  intro hs
  have hs : (match (generalizing := false) st with
    | [.int x] => if xa = 0 ∨ x = 0 ∨ x = 1 then sm_fin (.inl (some (.int x))) h else none
    | _ => none : Option sm_N) = some (.inl y) := hs
  (repeat' split at hs) <;> first | (unfold sm_fin at hs; cases hs) | cases hs
theorem no_47 {pc xa xb : Nat} {xc : Int} {xl : List Nat} {ls : sm_L} {st : List Value} {h : sm_H} (y : Nat × sm_L × List Value × sm_H) : ¬ sm_step h pc (47, xa, xb, xc, xl) ls st = some (.inl y) := by
  intro hs
  have hs : (match (generalizing := false) st with
    | [.long x] => sm_fin (.inl (some (.long x))) h
    | _ => none : Option sm_N) = some (.inl y) := hs
  (repeat' split at hs) <;> first | (unfold sm_fin at hs; cases hs) | cases hs
theorem no_48 {pc xa xb : Nat} {xc : Int} {xl : List Nat} {ls : sm_L} {st : List Value} {h : sm_H} (y : Nat × sm_L × List Value × sm_H) : ¬ sm_step h pc (48, xa, xb, xc, xl) ls st = some (.inl y) := by
  intro hs
  have hs : (match (generalizing := false) st with
    | [.ref x] => sm_fin (.inl (some (.ref x))) h
    | [.null] => sm_fin (.inl (some .null)) h
    | _ => none : Option sm_N) = some (.inl y) := hs
  (repeat' split at hs) <;> first | (unfold sm_fin at hs; cases hs) | cases hs
theorem no_49 {pc xa xb : Nat} {xc : Int} {xl : List Nat} {ls : sm_L} {st : List Value} {h : sm_H} (y : Nat × sm_L × List Value × sm_H) : ¬ sm_step h pc (49, xa, xb, xc, xl) ls st = some (.inl y) := by
  intro hs
  have hs : (match (generalizing := false) st with
    | [] => sm_fin (.inl none) h
    | _ => none : Option sm_N) = some (.inl y) := hs
  (repeat' split at hs) <;> first | (unfold sm_fin at hs; cases hs) | cases hs
theorem no_69 {pc xa xb : Nat} {xc : Int} {xl : List Nat} {ls : sm_L} {st : List Value} {h : sm_H} (y : Nat × sm_L × List Value × sm_H) : ¬ sm_step h pc (69, xa, xb, xc, xl) ls st = some (.inl y) := by
  intro hs
  have hs : (if xb ≤ st.length ∧ sm_wt (st.drop xb) ≤ 8 ∧ sm_rcv h (xl.getD 1 0) (st.take xb).reverse = true then some (.inr (.inl (xa, (st.take xb).reverse, st.drop xb))) else none : Option sm_N) = some (.inl y) := hs
  (repeat' split at hs) <;> first | (unfold sm_fin at hs; cases hs) | cases hs
theorem no_73 {pc xa xb : Nat} {xc : Int} {xl : List Nat} {ls : sm_L} {st : List Value} {h : sm_H} (y : Nat × sm_L × List Value × sm_H) : ¬ sm_step h pc (73, xa, xb, xc, xl) ls st = some (.inl y) := by
  intro hs
  have hs : (if sm_wt st ≤ 8 then sm_fin (.inr xa) (hjunk h) else none : Option sm_N) = some (.inl y) := hs
  (repeat' split at hs) <;> first | (unfold sm_fin at hs; cases hs) | cases hs
theorem no_77 {pc xa xb : Nat} {xc : Int} {xl : List Nat} {ls : sm_L} {st : List Value} {h : sm_H} (y : Nat × sm_L × List Value × sm_H) : ¬ sm_step h pc (77, xa, xb, xc, xl) ls st = some (.inl y) := by
  intro hs
  have hs : (if sm_wt st ≤ 8 then sm_fin (.inr xa) (hjunk h) else none : Option sm_N) = some (.inl y) := hs
  (repeat' split at hs) <;> first | (unfold sm_fin at hs; cases hs) | cases hs
theorem sm_one {M pc : Nat} {ls ls' : sm_L} {st st' : List Value} {h h' : sm_H} {pc' : Nat} : ∀ (o : Nat) (xa xb : Nat) (xc : Int) (xl : List Nat), sm_chk M pc (o, xa, xb, xc, xl) = true → sm_step h pc (o, xa, xb, xc, xl) ls st = some (.inl (pc', ls', st', h')) → sm_St M pc ls st h pc' ls' st' h'
  | 0, _, _, _, _, hc, hs => one_0 hc hs
  | 1, _, _, _, _, hc, hs => one_1 hc hs
  | 2, _, _, _, _, hc, hs => one_2 hc hs
  | 3, _, _, _, _, hc, hs => one_3 hc hs
  | 4, _, _, _, _, hc, hs => one_4 hc hs
  | 5, _, _, _, _, hc, hs => one_5 hc hs
  | 6, _, _, _, _, hc, hs => one_6 hc hs
  | 7, _, _, _, _, hc, hs => one_7 hc hs
  | 8, _, _, _, _, hc, hs => one_8 hc hs
  | 9, _, _, _, _, hc, hs => one_9 hc hs
  | 10, _, _, _, _, hc, hs => one_10 hc hs
  | 11, _, _, _, _, hc, hs => one_11 hc hs
  | 12, _, _, _, _, hc, hs => one_12 hc hs
  | 13, _, _, _, _, hc, hs => one_13 hc hs
  | 14, _, _, _, _, hc, hs => one_14 hc hs
  | 15, _, _, _, _, hc, hs => one_15 hc hs
  | 16, _, _, _, _, hc, hs => one_16 hc hs
  | 17, _, _, _, _, hc, hs => one_17 hc hs
  | 18, _, _, _, _, hc, hs => one_18 hc hs
  | 19, _, _, _, _, hc, hs => one_19 hc hs
  | 20, _, _, _, _, hc, hs => one_20 hc hs
  | 21, _, _, _, _, hc, hs => one_21 hc hs
  | 22, _, _, _, _, hc, hs => one_22 hc hs
  | 23, _, _, _, _, hc, hs => one_23 hc hs
  | 24, _, _, _, _, hc, hs => one_24 hc hs
  | 25, _, _, _, _, hc, hs => one_25 hc hs
  | 26, _, _, _, _, hc, hs => one_26 hc hs
  | 27, _, _, _, _, hc, hs => one_27 hc hs
  | 28, _, _, _, _, hc, hs => one_28 hc hs
  | 29, _, _, _, _, hc, hs => one_29 hc hs
  | 30, _, _, _, _, hc, hs => one_30 hc hs
  | 31, _, _, _, _, hc, hs => one_31 hc hs
  | 32, _, _, _, _, hc, hs => one_32 hc hs
  | 33, _, _, _, _, hc, hs => one_33 hc hs
  | 34, _, _, _, _, hc, hs => one_34 hc hs
  | 35, _, _, _, _, hc, hs => one_35 hc hs
  | 36, _, _, _, _, hc, hs => one_36 hc hs
  | 37, _, _, _, _, hc, hs => one_37 hc hs
  | 38, _, _, _, _, hc, hs => one_38 hc hs
  | 39, _, _, _, _, hc, hs => one_39 hc hs
  | 40, _, _, _, _, hc, hs => one_40 hc hs
  | 41, _, _, _, _, hc, hs => one_41 hc hs
  | 42, _, _, _, _, hc, hs => one_42 hc hs
  | 43, _, _, _, _, hc, hs => one_43 hc hs
  | 44, _, _, _, _, hc, hs => one_44 hc hs
  | 45, _, _, _, _, hc, hs => one_45 hc hs
  | 46, _, _, _, _, _, hs => absurd hs (no_46 _)
  | 47, _, _, _, _, _, hs => absurd hs (no_47 _)
  | 48, _, _, _, _, _, hs => absurd hs (no_48 _)
  | 49, _, _, _, _, _, hs => absurd hs (no_49 _)
  | 50, _, _, _, _, hc, hs => one_50 hc hs
  | 51, _, _, _, _, hc, hs => one_51 hc hs
  | 52, _, _, _, _, hc, hs => one_52 hc hs
  | 53, _, _, _, _, hc, hs => one_53 hc hs
  | 54, _, _, _, _, hc, hs => one_54 hc hs
  | 55, _, _, _, _, hc, hs => one_55 hc hs
  | 56, _, _, _, _, hc, hs => one_56 hc hs
  | 57, _, _, _, _, hc, hs => one_57 hc hs
  | 58, _, _, _, _, hc, hs => one_58 hc hs
  | 59, _, _, _, _, hc, hs => one_59 hc hs
  | 60, _, _, _, _, hc, hs => one_60 hc hs
  | 61, _, _, _, _, hc, hs => one_61 hc hs
  | 62, _, _, _, _, hc, hs => one_62 hc hs
  | 63, _, _, _, _, hc, hs => one_63 hc hs
  | 64, _, _, _, _, hc, hs => one_64 hc hs
  | 65, _, _, _, _, hc, hs => one_65 hc hs
  | 66, _, _, _, _, hc, hs => one_66 hc hs
  | 67, _, _, _, _, hc, hs => one_67 hc hs
  | 68, _, _, _, _, hc, hs => one_68 hc hs
  | 69, _, _, _, _, _, hs => absurd hs (no_69 _)
  | 70, _, _, _, _, hc, hs => one_70 hc hs
  | 71, _, _, _, _, hc, hs => one_71 hc hs
  | 72, _, _, _, _, hc, hs => one_72 hc hs
  | 73, _, _, _, _, _, hs => absurd hs (no_73 _)
  | 74, _, _, _, _, hc, _ => Bool.noConfusion (show false = true from hc)
  | 75, _, _, _, _, hc, hs => one_75 hc hs
  | 76, _, _, _, _, hc, hs => one_76 hc hs
  | 77, _, _, _, _, _, hs => absurd hs (no_77 _)
  | n + 78, _, _, _, _, hc, _ => Bool.noConfusion (show false = true from hc)
