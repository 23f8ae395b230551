/-! floorMod by 1 to 6 -/
section FMOD
variable {x y : Int64} {np r : Nat}
theorem bm64 {z : Int} (h1 : -9223372036854775808 ≤ z) (h2 : z < 9223372036854775808) : z.bmod (2 ^ 64) = z := by
  have e : ((2 ^ 64 : Nat) : Int) = 18446744073709551616 := by decide
  exact Int.bmod_eq_of_le (by rw [e]; omega) (by rw [e]; omega)
theorem rem_int (hy : 0 < y.toInt) (hy6 : y.toInt ≤ 6) : (x - x / y * y).toInt = x.toInt.tmod y.toInt := by
  have hx1 := x.le_toInt
  have hx2 := x.toInt_lt
  have hne : y ≠ -1 := fun e => by rw [e] at hy; exact absurd hy (by decide)
  have hq : (x / y).toInt = x.toInt.tdiv y.toInt := Int64.toInt_div_of_ne_right x y hne
  have hm := Int.mul_tdiv_add_tmod x.toInt y.toInt
  have hr1 : x.toInt.tmod y.toInt < y.toInt := Int.tmod_lt_of_pos _ hy
  have hr2 : -y.toInt < x.toInt.tmod y.toInt := Int.lt_tmod_of_pos _ hy
  have hs : (0 ≤ x.toInt → 0 ≤ x.toInt.tmod y.toInt) ∧ (x.toInt ≤ 0 → x.toInt.tmod y.toInt ≤ 0) := ⟨fun h => Int.tmod_nonneg _ h, fun h => by
    have := Int.tmod_nonneg y.toInt (show 0 ≤ -x.toInt by omega)
    rw [Int.neg_tmod] at this
    omega⟩
  have hc : x.toInt.tdiv y.toInt * y.toInt = x.toInt - x.toInt.tmod y.toInt := by rw [Int.mul_comm]; omega
  rw [Int64.toInt_sub, Int64.toInt_mul, hq, hc]
  rw [bm64 (z := x.toInt - x.toInt.tmod y.toInt) (by omega) (by omega)]
  rw [show x.toInt - (x.toInt - x.toInt.tmod y.toInt) = x.toInt.tmod y.toInt by omega]
  exact bm64 (by omega) (by omega)
theorem xor_sign (hy : 0 < y.toInt) : (0 ≤ x ^^^ y) ↔ 0 ≤ x.toInt := by
  have h1 : (x ^^^ y).toBitVec.msb = (x.toBitVec.msb ^^ y.toBitVec.msb) := by rw [Int64.toBitVec_xor, BitVec.msb_xor]
  rw [BitVec.msb_eq_toInt, BitVec.msb_eq_toInt, BitVec.msb_eq_toInt] at h1
  have h1' : decide ((x ^^^ y).toInt < 0) = (decide (x.toInt < 0) ^^ decide (y.toInt < 0)) := h1
  rw [decide_eq_false (show ¬ y.toInt < 0 by omega), Bool.xor_false] at h1'
  rw [Int64.le_iff_toInt_le]
  have h0 : (0 : Int64).toInt = 0 := by decide
  rw [h0]
  by_cases hx : x.toInt < 0
  · rw [decide_eq_true hx] at h1'
    have := of_decide_eq_true h1'
    constructor
    · intro z; omega
    · intro z; omega
  · rw [decide_eq_false hx] at h1'
    have := of_decide_eq_false h1'
    constructor
    · intro z; omega
    · intro z; omega
theorem fm_int (hy : 0 < y.toInt) (hy6 : y.toInt ≤ 6) : 0 ≤ (jx_fm x y).toInt ∧ (jx_fm x y).toInt < y.toInt := by
  have hr := rem_int (x := x) hy hy6
  have hr1 : x.toInt.tmod y.toInt < y.toInt := Int.tmod_lt_of_pos _ hy
  have hr2 : -y.toInt < x.toInt.tmod y.toInt := Int.lt_tmod_of_pos _ hy
  have h0 : (0 : Int64).toInt = 0 := by decide
  rw [jx_fm, jx_cmpge, jx_cmp0]
  by_cases hx : 0 ≤ x.toInt
  · rw [decide_eq_true ((xor_sign hy).2 hx), if_pos rfl, hr]
    exact ⟨Int.tmod_nonneg _ hx, hr1⟩
  · rw [decide_eq_false (fun z => hx ((xor_sign hy).1 z)), if_neg (by decide)]
    have hn : x.toInt.tmod y.toInt ≤ 0 := by
      have := Int.tmod_nonneg y.toInt (show 0 ≤ -x.toInt by omega)
      rw [Int.neg_tmod] at this
      omega
    by_cases hz : x - x / y * y = 0
    · rw [decide_eq_true hz, if_pos rfl, hz, h0]
      exact ⟨Int.le_refl _, hy⟩
    · rw [decide_eq_false hz, if_neg (by decide), Int64.toInt_add, hr]
      have hne : x.toInt.tmod y.toInt ≠ 0 := fun e => hz (Int64.toInt_inj.1 (by rw [hr, e, h0]))
      rw [bm64 (by omega) (by omega)]
      exact ⟨by omega, by omega⟩
/-- the PART of a KEY, as the reference finds it -/
theorem pq_fm {k v : Int64} (h1 : 1 ≤ np) (h6 : np ≤ 6) (hr : r < 100) : decide (lg_cmp (jx_fm k (Int32.toInt64 (Int32.ofNat np))) (Int32.toInt64 (Int32.ofNat r)) = 0) = pq np r (k, v) := by
  have hnp : (Int32.toInt64 (Int32.ofNat np)).toInt = np := by rw [Int32.toInt_toInt64]; exact sm_ofNat_toInt (by omega)
  obtain ⟨a1, a2⟩ := fm_int (x := k) (y := Int32.toInt64 (Int32.ofNat np)) (by rw [hnp]; omega) (by rw [hnp]; omega)
  rw [hnp] at a2
  rw [jx_cmp0]
  show decide (jx_fm k (Int32.toInt64 (Int32.ofNat np)) = Int32.toInt64 (Int32.ofNat r)) = decide ((jx_fm k (Int32.ofNat np).toInt64).toInt32 = Int32.ofNat r)
  by_cases e : jx_fm k (Int32.toInt64 (Int32.ofNat np)) = Int32.toInt64 (Int32.ofNat r)
  · rw [decide_eq_true e, e, jx_64, decide_eq_true rfl]
  · rw [decide_eq_false e]
    symm
    refine decide_eq_false (fun z => e ?_)
    rw [← z]
    refine Int64.toInt_inj.1 ?_
    rw [Int32.toInt_toInt64, Int64.toInt_toInt32]
    have e32 : ((2 ^ 32 : Nat) : Int) = 4294967296 := by decide
    exact (Int.bmod_eq_of_le (by rw [e32]; omega) (by rw [e32]; omega)).symm
end FMOD
