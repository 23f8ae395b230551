section LAW
variable {h : sm_H} {Q : sm_R → sm_H → Prop} {L c i : Nat} {xs : Nat → Int32} {u5 u6 u7 : Option Value}
theorem jx_a1 : Int32.ofNat i + (1 : Int32) = Int32.ofNat (i + 1) := (Int32.ofNat_add i 1).symm
theorem jx_a2 : Int32.ofNat i + (2 : Int32) = Int32.ofNat (i + 2) := (Int32.ofNat_add i 2).symm
theorem jx_a3 : Int32.ofNat i + (3 : Int32) = Int32.ofNat (i + 3) := (Int32.ofNat_add i 3).symm
theorem jx_a4 : Int32.ofNat i + (4 : Int32) = Int32.ofNat (i + 4) := (Int32.ofNat_add i 4).symm
theorem jx_a5 : Int32.ofNat i + (5 : Int32) = Int32.ofNat (i + 5) := (Int32.ofNat_add i 5).symm
theorem jx_a6 : Int32.ofNat i + (6 : Int32) = Int32.ofNat (i + 6) := (Int32.ofNat_add i 6).symm
theorem kz {k : Int32} (e : (!decide (k = 0)) = false) : k = 0 := by
  rw [Bool.not_eq_false'] at e
  exact of_decide_eq_true e
set_option maxRecDepth 10000 in
theorem lw_record (hs0 : HS L xs c h) (hL : L ≤ 3072) (hi : i + 6 ≤ L) (hok : OKI L xs c h 183 [.ref 0, .int (xs (i + 1)), .long (((Int32.toInt64 (xs (i + 2))) <<< (Int32.toInt64 ((32 : Int32)) &&& 63)) ||| ((Int32.toInt64 (xs (i + 3))) &&& (Int64.ofInt 4294967295))), .long (((Int32.toInt64 (xs (i + 4))) <<< (Int32.toInt64 ((32 : Int32)) &&& 63)) ||| ((Int32.toInt64 (xs (i + 5))) &&& (Int64.ofInt 4294967295))), .ref 624] 168 [.ref 598, .int (xs (i + 1)), .long (((Int32.toInt64 (xs (i + 2))) <<< (Int32.toInt64 ((32 : Int32)) &&& 63)) ||| ((Int32.toInt64 (xs (i + 3))) &&& (Int64.ofInt 4294967295))), .long (((Int32.toInt64 (xs (i + 4))) <<< (Int32.toInt64 ((32 : Int32)) &&& 63)) ||| ((Int32.toInt64 (xs (i + 5))) &&& (Int64.ofInt 4294967295)))]) (kk : ∀ (h2 : sm_H) (u5 u6 u7 : Option Value), INV L xs (c + 1) h2 → Ev 197 1071 [some (.ref sm_S), some (.ref 0), some (.ref 598), some (.ref 624), some (.int (Int32.ofNat i)), u5, u6, u7] [] h2 Q) : Ev 197 116 [some (.ref sm_S), some (.ref 0), some (.ref 598), some (.ref 624), some (.int (Int32.ofNat i)), u5, u6, u7] [] h Q := by
  obtain ⟨k, b, h1, h2, hr, hm, hs1, m1, m2, ht, hb, hv⟩ := hok
  have hs2 := hv.1
  refine Er_run 5 (pc' := 122) (ls' := [some (.ref sm_S), some (.ref 0), some (.ref 598), some (.ref 624), some (.int (Int32.ofNat i)), u5, u6, u7]) (st' := [.int ((Int32.ofNat i) + ((1 : Int32))), .ref sm_S, .ref 0]) rfl ?_
  refine Er_sal (v := xs (i + 1)) rfl (mr_in (i := i + 1) (k := L) jx_a1 (by omega) (by omega) hs0.2.2.2.2.2.1) (mr_atI jx_a1 (by omega) (congrFun hs0.2.2.2.2.2.2 (i + 1))) ?_
  refine Er_run 4 (pc' := 128) (ls' := [some (.ref sm_S), some (.ref 0), some (.ref 598), some (.ref 624), some (.int (Int32.ofNat i)), u5, u6, u7]) (st' := [.int ((Int32.ofNat i) + ((2 : Int32))), .ref sm_S, .int (xs (i + 1)), .ref 0]) rfl ?_
  refine Er_sal (v := xs (i + 2)) rfl (mr_in (i := i + 2) (k := L) jx_a2 (by omega) (by omega) hs0.2.2.2.2.2.1) (mr_atI jx_a2 (by omega) (congrFun hs0.2.2.2.2.2.2 (i + 2))) ?_
  refine Er_run 7 (pc' := 138) (ls' := [some (.ref sm_S), some (.ref 0), some (.ref 598), some (.ref 624), some (.int (Int32.ofNat i)), u5, u6, u7]) (st' := [.int ((Int32.ofNat i) + ((3 : Int32))), .ref sm_S, .long ((Int32.toInt64 (xs (i + 2))) <<< (Int32.toInt64 ((32 : Int32)) &&& 63)), .int (xs (i + 1)), .ref 0]) rfl ?_
  refine Er_sal (v := xs (i + 3)) rfl (mr_in (i := i + 3) (k := L) jx_a3 (by omega) (by omega) hs0.2.2.2.2.2.1) (mr_atI jx_a3 (by omega) (congrFun hs0.2.2.2.2.2.2 (i + 3))) ?_
  refine Er_run 8 (pc' := 150) (ls' := [some (.ref sm_S), some (.ref 0), some (.ref 598), some (.ref 624), some (.int (Int32.ofNat i)), u5, u6, u7]) (st' := [.int ((Int32.ofNat i) + ((4 : Int32))), .ref sm_S, .long (((Int32.toInt64 (xs (i + 2))) <<< (Int32.toInt64 ((32 : Int32)) &&& 63)) ||| ((Int32.toInt64 (xs (i + 3))) &&& (Int64.ofInt 4294967295))), .int (xs (i + 1)), .ref 0]) rfl ?_
  refine Er_sal (v := xs (i + 4)) rfl (mr_in (i := i + 4) (k := L) jx_a4 (by omega) (by omega) hs0.2.2.2.2.2.1) (mr_atI jx_a4 (by omega) (congrFun hs0.2.2.2.2.2.2 (i + 4))) ?_
  refine Er_run 7 (pc' := 160) (ls' := [some (.ref sm_S), some (.ref 0), some (.ref 598), some (.ref 624), some (.int (Int32.ofNat i)), u5, u6, u7]) (st' := [.int ((Int32.ofNat i) + ((5 : Int32))), .ref sm_S, .long ((Int32.toInt64 (xs (i + 4))) <<< (Int32.toInt64 ((32 : Int32)) &&& 63)), .long (((Int32.toInt64 (xs (i + 2))) <<< (Int32.toInt64 ((32 : Int32)) &&& 63)) ||| ((Int32.toInt64 (xs (i + 3))) &&& (Int64.ofInt 4294967295))), .int (xs (i + 1)), .ref 0]) rfl ?_
  refine Er_sal (v := xs (i + 5)) rfl (mr_in (i := i + 5) (k := L) jx_a5 (by omega) (by omega) hs0.2.2.2.2.2.1) (mr_atI jx_a5 (by omega) (congrFun hs0.2.2.2.2.2.2 (i + 5))) ?_
  refine Er_run 5 (pc' := 168) (ls' := [some (.ref sm_S), some (.ref 0), some (.ref 598), some (.ref 624), some (.int (Int32.ofNat i)), u5, u6, u7]) (st' := [.ref 624, .long (((Int32.toInt64 (xs (i + 4))) <<< (Int32.toInt64 ((32 : Int32)) &&& 63)) ||| ((Int32.toInt64 (xs (i + 5))) &&& (Int64.ofInt 4294967295))), .long (((Int32.toInt64 (xs (i + 2))) <<< (Int32.toInt64 ((32 : Int32)) &&& 63)) ||| ((Int32.toInt64 (xs (i + 3))) &&& (Int64.ofInt 4294967295))), .int (xs (i + 1)), .ref 0]) rfl ?_
  refine Er_sta1 (av := [.ref 0, .int (xs (i + 1)), .long (((Int32.toInt64 (xs (i + 2))) <<< (Int32.toInt64 ((32 : Int32)) &&& 63)) ||| ((Int32.toInt64 (xs (i + 3))) &&& (Int64.ofInt 4294967295))), .long (((Int32.toInt64 (xs (i + 4))) <<< (Int32.toInt64 ((32 : Int32)) &&& 63)) ||| ((Int32.toInt64 (xs (i + 5))) &&& (Int64.ofInt 4294967295))), .ref 624]) (rest := []) rfl rfl ⟨Nat.le_of_ble_eq_true rfl, Nat.le_of_ble_eq_true rfl⟩ rfl rfl hr ?_
  refine Er_run 6 (pc' := 179) (ls' := [some (.ref sm_S), some (.ref 0), some (.ref 598), some (.ref 624), some (.int (Int32.ofNat i)), some (.int k), u6, u7]) (st' := [.int ((Int32.ofNat i) + ((1 : Int32))), .ref sm_S, .ref 598]) rfl ?_
  refine Er_sal (v := xs (i + 1)) rfl (mr_in (i := i + 1) (k := L) jx_a1 (by omega) (by omega) hs1.2.2.2.2.2.1) (mr_atI jx_a1 (by omega) (congrFun hs1.2.2.2.2.2.2 (i + 1))) ?_
  refine Er_run 4 (pc' := 185) (ls' := [some (.ref sm_S), some (.ref 0), some (.ref 598), some (.ref 624), some (.int (Int32.ofNat i)), some (.int k), u6, u7]) (st' := [.int ((Int32.ofNat i) + ((2 : Int32))), .ref sm_S, .int (xs (i + 1)), .ref 598]) rfl ?_
  refine Er_sal (v := xs (i + 2)) rfl (mr_in (i := i + 2) (k := L) jx_a2 (by omega) (by omega) hs1.2.2.2.2.2.1) (mr_atI jx_a2 (by omega) (congrFun hs1.2.2.2.2.2.2 (i + 2))) ?_
  refine Er_run 7 (pc' := 195) (ls' := [some (.ref sm_S), some (.ref 0), some (.ref 598), some (.ref 624), some (.int (Int32.ofNat i)), some (.int k), u6, u7]) (st' := [.int ((Int32.ofNat i) + ((3 : Int32))), .ref sm_S, .long ((Int32.toInt64 (xs (i + 2))) <<< (Int32.toInt64 ((32 : Int32)) &&& 63)), .int (xs (i + 1)), .ref 598]) rfl ?_
  refine Er_sal (v := xs (i + 3)) rfl (mr_in (i := i + 3) (k := L) jx_a3 (by omega) (by omega) hs1.2.2.2.2.2.1) (mr_atI jx_a3 (by omega) (congrFun hs1.2.2.2.2.2.2 (i + 3))) ?_
  refine Er_run 8 (pc' := 207) (ls' := [some (.ref sm_S), some (.ref 0), some (.ref 598), some (.ref 624), some (.int (Int32.ofNat i)), some (.int k), u6, u7]) (st' := [.int ((Int32.ofNat i) + ((4 : Int32))), .ref sm_S, .long (((Int32.toInt64 (xs (i + 2))) <<< (Int32.toInt64 ((32 : Int32)) &&& 63)) ||| ((Int32.toInt64 (xs (i + 3))) &&& (Int64.ofInt 4294967295))), .int (xs (i + 1)), .ref 598]) rfl ?_
  refine Er_sal (v := xs (i + 4)) rfl (mr_in (i := i + 4) (k := L) jx_a4 (by omega) (by omega) hs1.2.2.2.2.2.1) (mr_atI jx_a4 (by omega) (congrFun hs1.2.2.2.2.2.2 (i + 4))) ?_
  refine Er_run 7 (pc' := 217) (ls' := [some (.ref sm_S), some (.ref 0), some (.ref 598), some (.ref 624), some (.int (Int32.ofNat i)), some (.int k), u6, u7]) (st' := [.int ((Int32.ofNat i) + ((5 : Int32))), .ref sm_S, .long ((Int32.toInt64 (xs (i + 4))) <<< (Int32.toInt64 ((32 : Int32)) &&& 63)), .long (((Int32.toInt64 (xs (i + 2))) <<< (Int32.toInt64 ((32 : Int32)) &&& 63)) ||| ((Int32.toInt64 (xs (i + 3))) &&& (Int64.ofInt 4294967295))), .int (xs (i + 1)), .ref 598]) rfl ?_
  refine Er_sal (v := xs (i + 5)) rfl (mr_in (i := i + 5) (k := L) jx_a5 (by omega) (by omega) hs1.2.2.2.2.2.1) (mr_atI jx_a5 (by omega) (congrFun hs1.2.2.2.2.2.2 (i + 5))) ?_
  refine Er_run 4 (pc' := 224) (ls' := [some (.ref sm_S), some (.ref 0), some (.ref 598), some (.ref 624), some (.int (Int32.ofNat i)), some (.int k), u6, u7]) (st' := [.long (((Int32.toInt64 (xs (i + 4))) <<< (Int32.toInt64 ((32 : Int32)) &&& 63)) ||| ((Int32.toInt64 (xs (i + 5))) &&& (Int64.ofInt 4294967295))), .long (((Int32.toInt64 (xs (i + 2))) <<< (Int32.toInt64 ((32 : Int32)) &&& 63)) ||| ((Int32.toInt64 (xs (i + 3))) &&& (Int64.ofInt 4294967295))), .int (xs (i + 1)), .ref 598]) rfl ?_
  refine Er_inv1 (q' := 598) (ci := 12) (av := [.int (xs (i + 1)), .long (((Int32.toInt64 (xs (i + 2))) <<< (Int32.toInt64 ((32 : Int32)) &&& 63)) ||| ((Int32.toInt64 (xs (i + 3))) &&& (Int64.ofInt 4294967295))), .long (((Int32.toInt64 (xs (i + 4))) <<< (Int32.toInt64 ((32 : Int32)) &&& 63)) ||| ((Int32.toInt64 (xs (i + 5))) &&& (Int64.ofInt 4294967295)))]) (rest := []) rfl rfl ⟨Nat.le_of_ble_eq_true rfl, Nat.le_of_ble_eq_true rfl⟩ rfl rfl m1.1 hm ?_
  refine Er_run 2 (pc' := 230) (ls' := [some (.ref sm_S), some (.ref 0), some (.ref 598), some (.ref 624), some (.int (Int32.ofNat i)), some (.int k), some (.int b), u7]) (st' := [.ref 598]) rfl ?_
  refine Er_inv1 (q' := 598) (ci := 12) (av := []) (rest := []) rfl rfl ⟨Nat.le_of_ble_eq_true rfl, Nat.le_of_ble_eq_true rfl⟩ rfl rfl m2.1 (s_Ref_thrown m2 ht) ?_
  refine Er_run 2 (pc' := bif decide (k = k) then 240 else 238) (ls' := [some (.ref sm_S), some (.ref 0), some (.ref 598), some (.ref 624), some (.int (Int32.ofNat i)), some (.int k), some (.int b), u7]) (st' := []) rfl ?_
  refine Er_pc (t := 240) (show (bif decide (k = k) then 240 else 238) = 240 from by rw [show (decide (k = k)) = true from decide_eq_true rfl]; rfl) ?_
  refine Er_run 2 (pc' := bif !decide (k = 0) then 257 else 245) (ls' := [some (.ref sm_S), some (.ref 0), some (.ref 598), some (.ref 624), some (.int (Int32.ofNat i)), some (.int k), some (.int b), u7]) (st' := []) rfl ?_
  refine Er_if (fun hc1 => ?_) (fun hc1 => ?_)
  · skip
    refine Er_run 1 (pc' := 1071) (ls' := [some (.ref sm_S), some (.ref 0), some (.ref 598), some (.ref 624), some (.int (Int32.ofNat i)), some (.int k), some (.int b), u7]) (st' := []) rfl ?_
    exact kk h2 _ _ _ hv
  · skip
    refine Er_run 2 (pc' := 247) (ls' := [some (.ref sm_S), some (.ref 0), some (.ref 598), some (.ref 624), some (.int (Int32.ofNat i)), some (.int k), some (.int b), u7]) (st' := [.int ((0 : Int32)), .ref 624]) rfl ?_
    refine Er_lald (v := Int32.toInt64 b) rfl hs2.2.2.2.1 (mr_in (i := 0) (k := 1) rfl (by omega) (by omega) hs2.2.2.2.2.1) (mr_atL (i := 0) rfl (by decide) (hb (kz hc1)).1) ?_
    refine Er_run 4 (pc' := bif decide ((lg_cmp (Int32.toInt64 b) (Int32.toInt64 b)) = 0) then 257 else 255) (ls' := [some (.ref sm_S), some (.ref 0), some (.ref 598), some (.ref 624), some (.int (Int32.ofNat i)), some (.int k), some (.int b), u7]) (st' := []) rfl ?_
    refine Er_pc (t := 257) (show (bif decide ((lg_cmp (Int32.toInt64 b) (Int32.toInt64 b)) = 0) then 257 else 255) = 257 from by rw [show (decide ((lg_cmp (Int32.toInt64 b) (Int32.toInt64 b)) = 0)) = true from by rw [jx_cmp0]; exact decide_eq_true rfl]; rfl) ?_
    refine Er_run 1 (pc' := 1071) (ls' := [some (.ref sm_S), some (.ref 0), some (.ref 598), some (.ref 624), some (.int (Int32.ofNat i)), some (.int k), some (.int b), u7]) (st' := []) rfl ?_
    exact kk h2 _ _ _ hv
set_option maxRecDepth 10000 in
theorem lw_clear (hs0 : HS L xs c h) (hL : L ≤ 3072) (hi : i + 6 ≤ L) (hok : OKI L xs c h 184 [.ref 0, .int (xs (i + 1)), .ref 624] 169 [.ref 598, .int (xs (i + 1))]) (kk : ∀ (h2 : sm_H) (u5 u6 u7 : Option Value), INV L xs (c + 1) h2 → Ev 197 1071 [some (.ref sm_S), some (.ref 0), some (.ref 598), some (.ref 624), some (.int (Int32.ofNat i)), u5, u6, u7] [] h2 Q) : Ev 197 260 [some (.ref sm_S), some (.ref 0), some (.ref 598), some (.ref 624), some (.int (Int32.ofNat i)), u5, u6, u7] [] h Q := by
  obtain ⟨k, b, h1, h2, hr, hm, hs1, m1, m2, ht, hb, hv⟩ := hok
  have hs2 := hv.1
  refine Er_run 5 (pc' := 266) (ls' := [some (.ref sm_S), some (.ref 0), some (.ref 598), some (.ref 624), some (.int (Int32.ofNat i)), u5, u6, u7]) (st' := [.int ((Int32.ofNat i) + ((1 : Int32))), .ref sm_S, .ref 0]) rfl ?_
  refine Er_sal (v := xs (i + 1)) rfl (mr_in (i := i + 1) (k := L) jx_a1 (by omega) (by omega) hs0.2.2.2.2.2.1) (mr_atI jx_a1 (by omega) (congrFun hs0.2.2.2.2.2.2 (i + 1))) ?_
  refine Er_run 1 (pc' := 268) (ls' := [some (.ref sm_S), some (.ref 0), some (.ref 598), some (.ref 624), some (.int (Int32.ofNat i)), u5, u6, u7]) (st' := [.ref 624, .int (xs (i + 1)), .ref 0]) rfl ?_
  refine Er_sta1 (av := [.ref 0, .int (xs (i + 1)), .ref 624]) (rest := []) rfl rfl ⟨Nat.le_of_ble_eq_true rfl, Nat.le_of_ble_eq_true rfl⟩ rfl rfl hr ?_
  refine Er_run 6 (pc' := 279) (ls' := [some (.ref sm_S), some (.ref 0), some (.ref 598), some (.ref 624), some (.int (Int32.ofNat i)), some (.int k), u6, u7]) (st' := [.int ((Int32.ofNat i) + ((1 : Int32))), .ref sm_S, .ref 598]) rfl ?_
  refine Er_sal (v := xs (i + 1)) rfl (mr_in (i := i + 1) (k := L) jx_a1 (by omega) (by omega) hs1.2.2.2.2.2.1) (mr_atI jx_a1 (by omega) (congrFun hs1.2.2.2.2.2.2 (i + 1))) ?_
  refine Er_inv1 (q' := 598) (ci := 12) (av := [.int (xs (i + 1))]) (rest := []) rfl rfl ⟨Nat.le_of_ble_eq_true rfl, Nat.le_of_ble_eq_true rfl⟩ rfl rfl m1.1 hm ?_
  refine Er_run 2 (pc' := 286) (ls' := [some (.ref sm_S), some (.ref 0), some (.ref 598), some (.ref 624), some (.int (Int32.ofNat i)), some (.int k), some (.int b), u7]) (st' := [.ref 598]) rfl ?_
  refine Er_inv1 (q' := 598) (ci := 12) (av := []) (rest := []) rfl rfl ⟨Nat.le_of_ble_eq_true rfl, Nat.le_of_ble_eq_true rfl⟩ rfl rfl m2.1 (s_Ref_thrown m2 ht) ?_
  refine Er_run 2 (pc' := bif decide (k = k) then 296 else 294) (ls' := [some (.ref sm_S), some (.ref 0), some (.ref 598), some (.ref 624), some (.int (Int32.ofNat i)), some (.int k), some (.int b), u7]) (st' := []) rfl ?_
  refine Er_pc (t := 296) (show (bif decide (k = k) then 296 else 294) = 296 from by rw [show (decide (k = k)) = true from decide_eq_true rfl]; rfl) ?_
  refine Er_run 2 (pc' := bif !decide (k = 0) then 313 else 301) (ls' := [some (.ref sm_S), some (.ref 0), some (.ref 598), some (.ref 624), some (.int (Int32.ofNat i)), some (.int k), some (.int b), u7]) (st' := []) rfl ?_
  refine Er_if (fun hc1 => ?_) (fun hc1 => ?_)
  · skip
    refine Er_run 1 (pc' := 1071) (ls' := [some (.ref sm_S), some (.ref 0), some (.ref 598), some (.ref 624), some (.int (Int32.ofNat i)), some (.int k), some (.int b), u7]) (st' := []) rfl ?_
    exact kk h2 _ _ _ hv
  · skip
    refine Er_run 2 (pc' := 303) (ls' := [some (.ref sm_S), some (.ref 0), some (.ref 598), some (.ref 624), some (.int (Int32.ofNat i)), some (.int k), some (.int b), u7]) (st' := [.int ((0 : Int32)), .ref 624]) rfl ?_
    refine Er_lald (v := Int32.toInt64 b) rfl hs2.2.2.2.1 (mr_in (i := 0) (k := 1) rfl (by omega) (by omega) hs2.2.2.2.2.1) (mr_atL (i := 0) rfl (by decide) (hb (kz hc1)).1) ?_
    refine Er_run 4 (pc' := bif decide ((lg_cmp (Int32.toInt64 b) (Int32.toInt64 b)) = 0) then 313 else 311) (ls' := [some (.ref sm_S), some (.ref 0), some (.ref 598), some (.ref 624), some (.int (Int32.ofNat i)), some (.int k), some (.int b), u7]) (st' := []) rfl ?_
    refine Er_pc (t := 313) (show (bif decide ((lg_cmp (Int32.toInt64 b) (Int32.toInt64 b)) = 0) then 313 else 311) = 313 from by rw [show (decide ((lg_cmp (Int32.toInt64 b) (Int32.toInt64 b)) = 0)) = true from by rw [jx_cmp0]; exact decide_eq_true rfl]; rfl) ?_
    refine Er_run 1 (pc' := 1071) (ls' := [some (.ref sm_S), some (.ref 0), some (.ref 598), some (.ref 624), some (.int (Int32.ofNat i)), some (.int k), some (.int b), u7]) (st' := []) rfl ?_
    exact kk h2 _ _ _ hv
set_option maxRecDepth 10000 in
theorem lw_code (hs0 : HS L xs c h) (hL : L ≤ 3072) (hi : i + 6 ≤ L) (hok : OKI L xs c h 185 [.ref 0, .int (xs (i + 1)), .long (((Int32.toInt64 (xs (i + 2))) <<< (Int32.toInt64 ((32 : Int32)) &&& 63)) ||| ((Int32.toInt64 (xs (i + 3))) &&& (Int64.ofInt 4294967295))), .ref 624] 170 [.ref 598, .int (xs (i + 1)), .long (((Int32.toInt64 (xs (i + 2))) <<< (Int32.toInt64 ((32 : Int32)) &&& 63)) ||| ((Int32.toInt64 (xs (i + 3))) &&& (Int64.ofInt 4294967295)))]) (kk : ∀ (h2 : sm_H) (u5 u6 u7 : Option Value), INV L xs (c + 1) h2 → Ev 197 1071 [some (.ref sm_S), some (.ref 0), some (.ref 598), some (.ref 624), some (.int (Int32.ofNat i)), u5, u6, u7] [] h2 Q) : Ev 197 316 [some (.ref sm_S), some (.ref 0), some (.ref 598), some (.ref 624), some (.int (Int32.ofNat i)), u5, u6, u7] [] h Q := by
  obtain ⟨k, b, h1, h2, hr, hm, hs1, m1, m2, ht, hb, hv⟩ := hok
  have hs2 := hv.1
  refine Er_run 5 (pc' := 322) (ls' := [some (.ref sm_S), some (.ref 0), some (.ref 598), some (.ref 624), some (.int (Int32.ofNat i)), u5, u6, u7]) (st' := [.int ((Int32.ofNat i) + ((1 : Int32))), .ref sm_S, .ref 0]) rfl ?_
  refine Er_sal (v := xs (i + 1)) rfl (mr_in (i := i + 1) (k := L) jx_a1 (by omega) (by omega) hs0.2.2.2.2.2.1) (mr_atI jx_a1 (by omega) (congrFun hs0.2.2.2.2.2.2 (i + 1))) ?_
  refine Er_run 4 (pc' := 328) (ls' := [some (.ref sm_S), some (.ref 0), some (.ref 598), some (.ref 624), some (.int (Int32.ofNat i)), u5, u6, u7]) (st' := [.int ((Int32.ofNat i) + ((2 : Int32))), .ref sm_S, .int (xs (i + 1)), .ref 0]) rfl ?_
  refine Er_sal (v := xs (i + 2)) rfl (mr_in (i := i + 2) (k := L) jx_a2 (by omega) (by omega) hs0.2.2.2.2.2.1) (mr_atI jx_a2 (by omega) (congrFun hs0.2.2.2.2.2.2 (i + 2))) ?_
  refine Er_run 7 (pc' := 338) (ls' := [some (.ref sm_S), some (.ref 0), some (.ref 598), some (.ref 624), some (.int (Int32.ofNat i)), u5, u6, u7]) (st' := [.int ((Int32.ofNat i) + ((3 : Int32))), .ref sm_S, .long ((Int32.toInt64 (xs (i + 2))) <<< (Int32.toInt64 ((32 : Int32)) &&& 63)), .int (xs (i + 1)), .ref 0]) rfl ?_
  refine Er_sal (v := xs (i + 3)) rfl (mr_in (i := i + 3) (k := L) jx_a3 (by omega) (by omega) hs0.2.2.2.2.2.1) (mr_atI jx_a3 (by omega) (congrFun hs0.2.2.2.2.2.2 (i + 3))) ?_
  refine Er_run 5 (pc' := 346) (ls' := [some (.ref sm_S), some (.ref 0), some (.ref 598), some (.ref 624), some (.int (Int32.ofNat i)), u5, u6, u7]) (st' := [.ref 624, .long (((Int32.toInt64 (xs (i + 2))) <<< (Int32.toInt64 ((32 : Int32)) &&& 63)) ||| ((Int32.toInt64 (xs (i + 3))) &&& (Int64.ofInt 4294967295))), .int (xs (i + 1)), .ref 0]) rfl ?_
  refine Er_sta1 (av := [.ref 0, .int (xs (i + 1)), .long (((Int32.toInt64 (xs (i + 2))) <<< (Int32.toInt64 ((32 : Int32)) &&& 63)) ||| ((Int32.toInt64 (xs (i + 3))) &&& (Int64.ofInt 4294967295))), .ref 624]) (rest := []) rfl rfl ⟨Nat.le_of_ble_eq_true rfl, Nat.le_of_ble_eq_true rfl⟩ rfl rfl hr ?_
  refine Er_run 6 (pc' := 357) (ls' := [some (.ref sm_S), some (.ref 0), some (.ref 598), some (.ref 624), some (.int (Int32.ofNat i)), some (.int k), u6, u7]) (st' := [.int ((Int32.ofNat i) + ((1 : Int32))), .ref sm_S, .ref 598]) rfl ?_
  refine Er_sal (v := xs (i + 1)) rfl (mr_in (i := i + 1) (k := L) jx_a1 (by omega) (by omega) hs1.2.2.2.2.2.1) (mr_atI jx_a1 (by omega) (congrFun hs1.2.2.2.2.2.2 (i + 1))) ?_
  refine Er_run 4 (pc' := 363) (ls' := [some (.ref sm_S), some (.ref 0), some (.ref 598), some (.ref 624), some (.int (Int32.ofNat i)), some (.int k), u6, u7]) (st' := [.int ((Int32.ofNat i) + ((2 : Int32))), .ref sm_S, .int (xs (i + 1)), .ref 598]) rfl ?_
  refine Er_sal (v := xs (i + 2)) rfl (mr_in (i := i + 2) (k := L) jx_a2 (by omega) (by omega) hs1.2.2.2.2.2.1) (mr_atI jx_a2 (by omega) (congrFun hs1.2.2.2.2.2.2 (i + 2))) ?_
  refine Er_run 7 (pc' := 373) (ls' := [some (.ref sm_S), some (.ref 0), some (.ref 598), some (.ref 624), some (.int (Int32.ofNat i)), some (.int k), u6, u7]) (st' := [.int ((Int32.ofNat i) + ((3 : Int32))), .ref sm_S, .long ((Int32.toInt64 (xs (i + 2))) <<< (Int32.toInt64 ((32 : Int32)) &&& 63)), .int (xs (i + 1)), .ref 598]) rfl ?_
  refine Er_sal (v := xs (i + 3)) rfl (mr_in (i := i + 3) (k := L) jx_a3 (by omega) (by omega) hs1.2.2.2.2.2.1) (mr_atI jx_a3 (by omega) (congrFun hs1.2.2.2.2.2.2 (i + 3))) ?_
  refine Er_run 4 (pc' := 380) (ls' := [some (.ref sm_S), some (.ref 0), some (.ref 598), some (.ref 624), some (.int (Int32.ofNat i)), some (.int k), u6, u7]) (st' := [.long (((Int32.toInt64 (xs (i + 2))) <<< (Int32.toInt64 ((32 : Int32)) &&& 63)) ||| ((Int32.toInt64 (xs (i + 3))) &&& (Int64.ofInt 4294967295))), .int (xs (i + 1)), .ref 598]) rfl ?_
  refine Er_inv1 (q' := 598) (ci := 12) (av := [.int (xs (i + 1)), .long (((Int32.toInt64 (xs (i + 2))) <<< (Int32.toInt64 ((32 : Int32)) &&& 63)) ||| ((Int32.toInt64 (xs (i + 3))) &&& (Int64.ofInt 4294967295)))]) (rest := []) rfl rfl ⟨Nat.le_of_ble_eq_true rfl, Nat.le_of_ble_eq_true rfl⟩ rfl rfl m1.1 hm ?_
  refine Er_run 2 (pc' := 386) (ls' := [some (.ref sm_S), some (.ref 0), some (.ref 598), some (.ref 624), some (.int (Int32.ofNat i)), some (.int k), some (.int b), u7]) (st' := [.ref 598]) rfl ?_
  refine Er_inv1 (q' := 598) (ci := 12) (av := []) (rest := []) rfl rfl ⟨Nat.le_of_ble_eq_true rfl, Nat.le_of_ble_eq_true rfl⟩ rfl rfl m2.1 (s_Ref_thrown m2 ht) ?_
  refine Er_run 2 (pc' := bif decide (k = k) then 396 else 394) (ls' := [some (.ref sm_S), some (.ref 0), some (.ref 598), some (.ref 624), some (.int (Int32.ofNat i)), some (.int k), some (.int b), u7]) (st' := []) rfl ?_
  refine Er_pc (t := 396) (show (bif decide (k = k) then 396 else 394) = 396 from by rw [show (decide (k = k)) = true from decide_eq_true rfl]; rfl) ?_
  refine Er_run 2 (pc' := bif !decide (k = 0) then 413 else 401) (ls' := [some (.ref sm_S), some (.ref 0), some (.ref 598), some (.ref 624), some (.int (Int32.ofNat i)), some (.int k), some (.int b), u7]) (st' := []) rfl ?_
  refine Er_if (fun hc1 => ?_) (fun hc1 => ?_)
  · skip
    refine Er_run 1 (pc' := 1071) (ls' := [some (.ref sm_S), some (.ref 0), some (.ref 598), some (.ref 624), some (.int (Int32.ofNat i)), some (.int k), some (.int b), u7]) (st' := []) rfl ?_
    exact kk h2 _ _ _ hv
  · skip
    refine Er_run 2 (pc' := 403) (ls' := [some (.ref sm_S), some (.ref 0), some (.ref 598), some (.ref 624), some (.int (Int32.ofNat i)), some (.int k), some (.int b), u7]) (st' := [.int ((0 : Int32)), .ref 624]) rfl ?_
    refine Er_lald (v := Int32.toInt64 b) rfl hs2.2.2.2.1 (mr_in (i := 0) (k := 1) rfl (by omega) (by omega) hs2.2.2.2.2.1) (mr_atL (i := 0) rfl (by decide) (hb (kz hc1)).1) ?_
    refine Er_run 4 (pc' := bif decide ((lg_cmp (Int32.toInt64 b) (Int32.toInt64 b)) = 0) then 413 else 411) (ls' := [some (.ref sm_S), some (.ref 0), some (.ref 598), some (.ref 624), some (.int (Int32.ofNat i)), some (.int k), some (.int b), u7]) (st' := []) rfl ?_
    refine Er_pc (t := 413) (show (bif decide ((lg_cmp (Int32.toInt64 b) (Int32.toInt64 b)) = 0) then 413 else 411) = 413 from by rw [show (decide ((lg_cmp (Int32.toInt64 b) (Int32.toInt64 b)) = 0)) = true from by rw [jx_cmp0]; exact decide_eq_true rfl]; rfl) ?_
    refine Er_run 1 (pc' := 1071) (ls' := [some (.ref sm_S), some (.ref 0), some (.ref 598), some (.ref 624), some (.int (Int32.ofNat i)), some (.int k), some (.int b), u7]) (st' := []) rfl ?_
    exact kk h2 _ _ _ hv
set_option maxRecDepth 10000 in
theorem lw_program (hs0 : HS L xs c h) (hL : L ≤ 3072) (hi : i + 6 ≤ L) (hok : OKI L xs c h 186 [.ref 0, .int (xs (i + 1)), .int (xs (i + 2)), .ref 624] 171 [.ref 598, .int (xs (i + 1)), .int (xs (i + 2))]) (kk : ∀ (h2 : sm_H) (u5 u6 u7 : Option Value), INV L xs (c + 1) h2 → Ev 197 1071 [some (.ref sm_S), some (.ref 0), some (.ref 598), some (.ref 624), some (.int (Int32.ofNat i)), u5, u6, u7] [] h2 Q) : Ev 197 416 [some (.ref sm_S), some (.ref 0), some (.ref 598), some (.ref 624), some (.int (Int32.ofNat i)), u5, u6, u7] [] h Q := by
  obtain ⟨k, b, h1, h2, hr, hm, hs1, m1, m2, ht, hb, hv⟩ := hok
  have hs2 := hv.1
  refine Er_run 5 (pc' := 422) (ls' := [some (.ref sm_S), some (.ref 0), some (.ref 598), some (.ref 624), some (.int (Int32.ofNat i)), u5, u6, u7]) (st' := [.int ((Int32.ofNat i) + ((1 : Int32))), .ref sm_S, .ref 0]) rfl ?_
  refine Er_sal (v := xs (i + 1)) rfl (mr_in (i := i + 1) (k := L) jx_a1 (by omega) (by omega) hs0.2.2.2.2.2.1) (mr_atI jx_a1 (by omega) (congrFun hs0.2.2.2.2.2.2 (i + 1))) ?_
  refine Er_run 4 (pc' := 428) (ls' := [some (.ref sm_S), some (.ref 0), some (.ref 598), some (.ref 624), some (.int (Int32.ofNat i)), u5, u6, u7]) (st' := [.int ((Int32.ofNat i) + ((2 : Int32))), .ref sm_S, .int (xs (i + 1)), .ref 0]) rfl ?_
  refine Er_sal (v := xs (i + 2)) rfl (mr_in (i := i + 2) (k := L) jx_a2 (by omega) (by omega) hs0.2.2.2.2.2.1) (mr_atI jx_a2 (by omega) (congrFun hs0.2.2.2.2.2.2 (i + 2))) ?_
  refine Er_run 1 (pc' := 430) (ls' := [some (.ref sm_S), some (.ref 0), some (.ref 598), some (.ref 624), some (.int (Int32.ofNat i)), u5, u6, u7]) (st' := [.ref 624, .int (xs (i + 2)), .int (xs (i + 1)), .ref 0]) rfl ?_
  refine Er_sta1 (av := [.ref 0, .int (xs (i + 1)), .int (xs (i + 2)), .ref 624]) (rest := []) rfl rfl ⟨Nat.le_of_ble_eq_true rfl, Nat.le_of_ble_eq_true rfl⟩ rfl rfl hr ?_
  refine Er_run 6 (pc' := 441) (ls' := [some (.ref sm_S), some (.ref 0), some (.ref 598), some (.ref 624), some (.int (Int32.ofNat i)), some (.int k), u6, u7]) (st' := [.int ((Int32.ofNat i) + ((1 : Int32))), .ref sm_S, .ref 598]) rfl ?_
  refine Er_sal (v := xs (i + 1)) rfl (mr_in (i := i + 1) (k := L) jx_a1 (by omega) (by omega) hs1.2.2.2.2.2.1) (mr_atI jx_a1 (by omega) (congrFun hs1.2.2.2.2.2.2 (i + 1))) ?_
  refine Er_run 4 (pc' := 447) (ls' := [some (.ref sm_S), some (.ref 0), some (.ref 598), some (.ref 624), some (.int (Int32.ofNat i)), some (.int k), u6, u7]) (st' := [.int ((Int32.ofNat i) + ((2 : Int32))), .ref sm_S, .int (xs (i + 1)), .ref 598]) rfl ?_
  refine Er_sal (v := xs (i + 2)) rfl (mr_in (i := i + 2) (k := L) jx_a2 (by omega) (by omega) hs1.2.2.2.2.2.1) (mr_atI jx_a2 (by omega) (congrFun hs1.2.2.2.2.2.2 (i + 2))) ?_
  refine Er_inv1 (q' := 598) (ci := 12) (av := [.int (xs (i + 1)), .int (xs (i + 2))]) (rest := []) rfl rfl ⟨Nat.le_of_ble_eq_true rfl, Nat.le_of_ble_eq_true rfl⟩ rfl rfl m1.1 hm ?_
  refine Er_run 2 (pc' := 454) (ls' := [some (.ref sm_S), some (.ref 0), some (.ref 598), some (.ref 624), some (.int (Int32.ofNat i)), some (.int k), some (.int b), u7]) (st' := [.ref 598]) rfl ?_
  refine Er_inv1 (q' := 598) (ci := 12) (av := []) (rest := []) rfl rfl ⟨Nat.le_of_ble_eq_true rfl, Nat.le_of_ble_eq_true rfl⟩ rfl rfl m2.1 (s_Ref_thrown m2 ht) ?_
  refine Er_run 2 (pc' := bif decide (k = k) then 464 else 462) (ls' := [some (.ref sm_S), some (.ref 0), some (.ref 598), some (.ref 624), some (.int (Int32.ofNat i)), some (.int k), some (.int b), u7]) (st' := []) rfl ?_
  refine Er_pc (t := 464) (show (bif decide (k = k) then 464 else 462) = 464 from by rw [show (decide (k = k)) = true from decide_eq_true rfl]; rfl) ?_
  refine Er_run 2 (pc' := bif !decide (k = 0) then 481 else 469) (ls' := [some (.ref sm_S), some (.ref 0), some (.ref 598), some (.ref 624), some (.int (Int32.ofNat i)), some (.int k), some (.int b), u7]) (st' := []) rfl ?_
  refine Er_if (fun hc1 => ?_) (fun hc1 => ?_)
  · skip
    refine Er_run 1 (pc' := 1071) (ls' := [some (.ref sm_S), some (.ref 0), some (.ref 598), some (.ref 624), some (.int (Int32.ofNat i)), some (.int k), some (.int b), u7]) (st' := []) rfl ?_
    exact kk h2 _ _ _ hv
  · skip
    refine Er_run 2 (pc' := 471) (ls' := [some (.ref sm_S), some (.ref 0), some (.ref 598), some (.ref 624), some (.int (Int32.ofNat i)), some (.int k), some (.int b), u7]) (st' := [.int ((0 : Int32)), .ref 624]) rfl ?_
    refine Er_lald (v := Int32.toInt64 b) rfl hs2.2.2.2.1 (mr_in (i := 0) (k := 1) rfl (by omega) (by omega) hs2.2.2.2.2.1) (mr_atL (i := 0) rfl (by decide) (hb (kz hc1)).1) ?_
    refine Er_run 4 (pc' := bif decide ((lg_cmp (Int32.toInt64 b) (Int32.toInt64 b)) = 0) then 481 else 479) (ls' := [some (.ref sm_S), some (.ref 0), some (.ref 598), some (.ref 624), some (.int (Int32.ofNat i)), some (.int k), some (.int b), u7]) (st' := []) rfl ?_
    refine Er_pc (t := 481) (show (bif decide ((lg_cmp (Int32.toInt64 b) (Int32.toInt64 b)) = 0) then 481 else 479) = 481 from by rw [show (decide ((lg_cmp (Int32.toInt64 b) (Int32.toInt64 b)) = 0)) = true from by rw [jx_cmp0]; exact decide_eq_true rfl]; rfl) ?_
    refine Er_run 1 (pc' := 1071) (ls' := [some (.ref sm_S), some (.ref 0), some (.ref 598), some (.ref 624), some (.int (Int32.ofNat i)), some (.int k), some (.int b), u7]) (st' := []) rfl ?_
    exact kk h2 _ _ _ hv
set_option maxRecDepth 10000 in
theorem lw_job (hs0 : HS L xs c h) (hL : L ≤ 3072) (hi : i + 6 ≤ L) (hok : OKV L xs c h 187 [.ref 0, .int (xs (i + 1)), .int (xs (i + 2)), .int (xs (i + 3)), .int (xs (i + 4)), .int (xs (i + 5))] 172 [.ref 598, .int (xs (i + 1)), .int (xs (i + 2)), .int (xs (i + 3)), .int (xs (i + 4)), .int (xs (i + 5))]) (kk : ∀ (h2 : sm_H) (u5 u6 u7 : Option Value), INV L xs (c + 1) h2 → Ev 197 1071 [some (.ref sm_S), some (.ref 0), some (.ref 598), some (.ref 624), some (.int (Int32.ofNat i)), u5, u6, u7] [] h2 Q) : Ev 197 484 [some (.ref sm_S), some (.ref 0), some (.ref 598), some (.ref 624), some (.int (Int32.ofNat i)), u5, u6, u7] [] h Q := by
  obtain ⟨k, h1, h2, hr, hm, hs1, m1, m2, ht, hv⟩ := hok
  have hs2 := hv.1
  refine Er_run 5 (pc' := 490) (ls' := [some (.ref sm_S), some (.ref 0), some (.ref 598), some (.ref 624), some (.int (Int32.ofNat i)), u5, u6, u7]) (st' := [.int ((Int32.ofNat i) + ((1 : Int32))), .ref sm_S, .ref 0]) rfl ?_
  refine Er_sal (v := xs (i + 1)) rfl (mr_in (i := i + 1) (k := L) jx_a1 (by omega) (by omega) hs0.2.2.2.2.2.1) (mr_atI jx_a1 (by omega) (congrFun hs0.2.2.2.2.2.2 (i + 1))) ?_
  refine Er_run 4 (pc' := 496) (ls' := [some (.ref sm_S), some (.ref 0), some (.ref 598), some (.ref 624), some (.int (Int32.ofNat i)), u5, u6, u7]) (st' := [.int ((Int32.ofNat i) + ((2 : Int32))), .ref sm_S, .int (xs (i + 1)), .ref 0]) rfl ?_
  refine Er_sal (v := xs (i + 2)) rfl (mr_in (i := i + 2) (k := L) jx_a2 (by omega) (by omega) hs0.2.2.2.2.2.1) (mr_atI jx_a2 (by omega) (congrFun hs0.2.2.2.2.2.2 (i + 2))) ?_
  refine Er_run 4 (pc' := 502) (ls' := [some (.ref sm_S), some (.ref 0), some (.ref 598), some (.ref 624), some (.int (Int32.ofNat i)), u5, u6, u7]) (st' := [.int ((Int32.ofNat i) + ((3 : Int32))), .ref sm_S, .int (xs (i + 2)), .int (xs (i + 1)), .ref 0]) rfl ?_
  refine Er_sal (v := xs (i + 3)) rfl (mr_in (i := i + 3) (k := L) jx_a3 (by omega) (by omega) hs0.2.2.2.2.2.1) (mr_atI jx_a3 (by omega) (congrFun hs0.2.2.2.2.2.2 (i + 3))) ?_
  refine Er_run 4 (pc' := 508) (ls' := [some (.ref sm_S), some (.ref 0), some (.ref 598), some (.ref 624), some (.int (Int32.ofNat i)), u5, u6, u7]) (st' := [.int ((Int32.ofNat i) + ((4 : Int32))), .ref sm_S, .int (xs (i + 3)), .int (xs (i + 2)), .int (xs (i + 1)), .ref 0]) rfl ?_
  refine Er_sal (v := xs (i + 4)) rfl (mr_in (i := i + 4) (k := L) jx_a4 (by omega) (by omega) hs0.2.2.2.2.2.1) (mr_atI jx_a4 (by omega) (congrFun hs0.2.2.2.2.2.2 (i + 4))) ?_
  refine Er_run 4 (pc' := 514) (ls' := [some (.ref sm_S), some (.ref 0), some (.ref 598), some (.ref 624), some (.int (Int32.ofNat i)), u5, u6, u7]) (st' := [.int ((Int32.ofNat i) + ((5 : Int32))), .ref sm_S, .int (xs (i + 4)), .int (xs (i + 3)), .int (xs (i + 2)), .int (xs (i + 1)), .ref 0]) rfl ?_
  refine Er_sal (v := xs (i + 5)) rfl (mr_in (i := i + 5) (k := L) jx_a5 (by omega) (by omega) hs0.2.2.2.2.2.1) (mr_atI jx_a5 (by omega) (congrFun hs0.2.2.2.2.2.2 (i + 5))) ?_
  refine Er_sta1 (av := [.ref 0, .int (xs (i + 1)), .int (xs (i + 2)), .int (xs (i + 3)), .int (xs (i + 4)), .int (xs (i + 5))]) (rest := []) rfl rfl ⟨Nat.le_of_ble_eq_true rfl, Nat.le_of_ble_eq_true rfl⟩ rfl rfl hr ?_
  refine Er_run 6 (pc' := 526) (ls' := [some (.ref sm_S), some (.ref 0), some (.ref 598), some (.ref 624), some (.int (Int32.ofNat i)), some (.int k), u6, u7]) (st' := [.int ((Int32.ofNat i) + ((1 : Int32))), .ref sm_S, .ref 598]) rfl ?_
  refine Er_sal (v := xs (i + 1)) rfl (mr_in (i := i + 1) (k := L) jx_a1 (by omega) (by omega) hs1.2.2.2.2.2.1) (mr_atI jx_a1 (by omega) (congrFun hs1.2.2.2.2.2.2 (i + 1))) ?_
  refine Er_run 4 (pc' := 532) (ls' := [some (.ref sm_S), some (.ref 0), some (.ref 598), some (.ref 624), some (.int (Int32.ofNat i)), some (.int k), u6, u7]) (st' := [.int ((Int32.ofNat i) + ((2 : Int32))), .ref sm_S, .int (xs (i + 1)), .ref 598]) rfl ?_
  refine Er_sal (v := xs (i + 2)) rfl (mr_in (i := i + 2) (k := L) jx_a2 (by omega) (by omega) hs1.2.2.2.2.2.1) (mr_atI jx_a2 (by omega) (congrFun hs1.2.2.2.2.2.2 (i + 2))) ?_
  refine Er_run 4 (pc' := 538) (ls' := [some (.ref sm_S), some (.ref 0), some (.ref 598), some (.ref 624), some (.int (Int32.ofNat i)), some (.int k), u6, u7]) (st' := [.int ((Int32.ofNat i) + ((3 : Int32))), .ref sm_S, .int (xs (i + 2)), .int (xs (i + 1)), .ref 598]) rfl ?_
  refine Er_sal (v := xs (i + 3)) rfl (mr_in (i := i + 3) (k := L) jx_a3 (by omega) (by omega) hs1.2.2.2.2.2.1) (mr_atI jx_a3 (by omega) (congrFun hs1.2.2.2.2.2.2 (i + 3))) ?_
  refine Er_run 4 (pc' := 544) (ls' := [some (.ref sm_S), some (.ref 0), some (.ref 598), some (.ref 624), some (.int (Int32.ofNat i)), some (.int k), u6, u7]) (st' := [.int ((Int32.ofNat i) + ((4 : Int32))), .ref sm_S, .int (xs (i + 3)), .int (xs (i + 2)), .int (xs (i + 1)), .ref 598]) rfl ?_
  refine Er_sal (v := xs (i + 4)) rfl (mr_in (i := i + 4) (k := L) jx_a4 (by omega) (by omega) hs1.2.2.2.2.2.1) (mr_atI jx_a4 (by omega) (congrFun hs1.2.2.2.2.2.2 (i + 4))) ?_
  refine Er_run 4 (pc' := 550) (ls' := [some (.ref sm_S), some (.ref 0), some (.ref 598), some (.ref 624), some (.int (Int32.ofNat i)), some (.int k), u6, u7]) (st' := [.int ((Int32.ofNat i) + ((5 : Int32))), .ref sm_S, .int (xs (i + 4)), .int (xs (i + 3)), .int (xs (i + 2)), .int (xs (i + 1)), .ref 598]) rfl ?_
  refine Er_sal (v := xs (i + 5)) rfl (mr_in (i := i + 5) (k := L) jx_a5 (by omega) (by omega) hs1.2.2.2.2.2.1) (mr_atI jx_a5 (by omega) (congrFun hs1.2.2.2.2.2.2 (i + 5))) ?_
  refine Er_inv0 (q' := 598) (ci := 12) (av := [.int (xs (i + 1)), .int (xs (i + 2)), .int (xs (i + 3)), .int (xs (i + 4)), .int (xs (i + 5))]) (rest := []) rfl rfl ⟨Nat.le_of_ble_eq_true rfl, Nat.le_of_ble_eq_true rfl⟩ rfl rfl m1.1 hm ?_
  refine Er_run 1 (pc' := 555) (ls' := [some (.ref sm_S), some (.ref 0), some (.ref 598), some (.ref 624), some (.int (Int32.ofNat i)), some (.int k), u6, u7]) (st' := [.ref 598]) rfl ?_
  refine Er_inv1 (q' := 598) (ci := 12) (av := []) (rest := []) rfl rfl ⟨Nat.le_of_ble_eq_true rfl, Nat.le_of_ble_eq_true rfl⟩ rfl rfl m2.1 (s_Ref_thrown m2 ht) ?_
  refine Er_run 2 (pc' := bif decide (k = k) then 565 else 563) (ls' := [some (.ref sm_S), some (.ref 0), some (.ref 598), some (.ref 624), some (.int (Int32.ofNat i)), some (.int k), u6, u7]) (st' := []) rfl ?_
  refine Er_pc (t := 565) (show (bif decide (k = k) then 565 else 563) = 565 from by rw [show (decide (k = k)) = true from decide_eq_true rfl]; rfl) ?_
  refine Er_run 1 (pc' := 1071) (ls' := [some (.ref sm_S), some (.ref 0), some (.ref 598), some (.ref 624), some (.int (Int32.ofNat i)), some (.int k), u6, u7]) (st' := []) rfl ?_
  exact kk h2 _ _ _ hv
set_option maxRecDepth 10000 in
theorem lw_begin (hs0 : HS L xs c h) (hL : L ≤ 3072) (hi : i + 6 ≤ L) (hok : OKI L xs c h 189 [.ref 0, .ref 624] 174 [.ref 598]) (kk : ∀ (h2 : sm_H) (u5 u6 u7 : Option Value), INV L xs (c + 1) h2 → Ev 197 1071 [some (.ref sm_S), some (.ref 0), some (.ref 598), some (.ref 624), some (.int (Int32.ofNat i)), u5, u6, u7] [] h2 Q) : Ev 197 631 [some (.ref sm_S), some (.ref 0), some (.ref 598), some (.ref 624), some (.int (Int32.ofNat i)), u5, u6, u7] [] h Q := by
  obtain ⟨k, b, h1, h2, hr, hm, hs1, m1, m2, ht, hb, hv⟩ := hok
  have hs2 := hv.1
  refine Er_run 2 (pc' := 633) (ls' := [some (.ref sm_S), some (.ref 0), some (.ref 598), some (.ref 624), some (.int (Int32.ofNat i)), u5, u6, u7]) (st' := [.ref 624, .ref 0]) rfl ?_
  refine Er_sta1 (av := [.ref 0, .ref 624]) (rest := []) rfl rfl ⟨Nat.le_of_ble_eq_true rfl, Nat.le_of_ble_eq_true rfl⟩ rfl rfl hr ?_
  refine Er_run 2 (pc' := 639) (ls' := [some (.ref sm_S), some (.ref 0), some (.ref 598), some (.ref 624), some (.int (Int32.ofNat i)), some (.int k), u6, u7]) (st' := [.ref 598]) rfl ?_
  refine Er_inv1 (q' := 598) (ci := 12) (av := []) (rest := []) rfl rfl ⟨Nat.le_of_ble_eq_true rfl, Nat.le_of_ble_eq_true rfl⟩ rfl rfl m1.1 hm ?_
  refine Er_run 2 (pc' := 645) (ls' := [some (.ref sm_S), some (.ref 0), some (.ref 598), some (.ref 624), some (.int (Int32.ofNat i)), some (.int k), some (.int b), u7]) (st' := [.ref 598]) rfl ?_
  refine Er_inv1 (q' := 598) (ci := 12) (av := []) (rest := []) rfl rfl ⟨Nat.le_of_ble_eq_true rfl, Nat.le_of_ble_eq_true rfl⟩ rfl rfl m2.1 (s_Ref_thrown m2 ht) ?_
  refine Er_run 2 (pc' := bif decide (k = k) then 655 else 653) (ls' := [some (.ref sm_S), some (.ref 0), some (.ref 598), some (.ref 624), some (.int (Int32.ofNat i)), some (.int k), some (.int b), u7]) (st' := []) rfl ?_
  refine Er_pc (t := 655) (show (bif decide (k = k) then 655 else 653) = 655 from by rw [show (decide (k = k)) = true from decide_eq_true rfl]; rfl) ?_
  refine Er_run 2 (pc' := bif !decide (k = 0) then 672 else 660) (ls' := [some (.ref sm_S), some (.ref 0), some (.ref 598), some (.ref 624), some (.int (Int32.ofNat i)), some (.int k), some (.int b), u7]) (st' := []) rfl ?_
  refine Er_if (fun hc1 => ?_) (fun hc1 => ?_)
  · skip
    refine Er_run 1 (pc' := 1071) (ls' := [some (.ref sm_S), some (.ref 0), some (.ref 598), some (.ref 624), some (.int (Int32.ofNat i)), some (.int k), some (.int b), u7]) (st' := []) rfl ?_
    exact kk h2 _ _ _ hv
  · skip
    refine Er_run 2 (pc' := 662) (ls' := [some (.ref sm_S), some (.ref 0), some (.ref 598), some (.ref 624), some (.int (Int32.ofNat i)), some (.int k), some (.int b), u7]) (st' := [.int ((0 : Int32)), .ref 624]) rfl ?_
    refine Er_lald (v := Int32.toInt64 b) rfl hs2.2.2.2.1 (mr_in (i := 0) (k := 1) rfl (by omega) (by omega) hs2.2.2.2.2.1) (mr_atL (i := 0) rfl (by decide) (hb (kz hc1)).1) ?_
    refine Er_run 4 (pc' := bif decide ((lg_cmp (Int32.toInt64 b) (Int32.toInt64 b)) = 0) then 672 else 670) (ls' := [some (.ref sm_S), some (.ref 0), some (.ref 598), some (.ref 624), some (.int (Int32.ofNat i)), some (.int k), some (.int b), u7]) (st' := []) rfl ?_
    refine Er_pc (t := 672) (show (bif decide ((lg_cmp (Int32.toInt64 b) (Int32.toInt64 b)) = 0) then 672 else 670) = 672 from by rw [show (decide ((lg_cmp (Int32.toInt64 b) (Int32.toInt64 b)) = 0)) = true from by rw [jx_cmp0]; exact decide_eq_true rfl]; rfl) ?_
    refine Er_run 1 (pc' := 1071) (ls' := [some (.ref sm_S), some (.ref 0), some (.ref 598), some (.ref 624), some (.int (Int32.ofNat i)), some (.int k), some (.int b), u7]) (st' := []) rfl ?_
    exact kk h2 _ _ _ hv
set_option maxRecDepth 10000 in
theorem lw_tick (hs0 : HS L xs c h) (hL : L ≤ 3072) (hi : i + 6 ≤ L) (hok : OKV L xs c h 190 [.ref 0, .int (xs (i + 1)), .int (xs (i + 2))] 175 [.ref 598, .int (xs (i + 1)), .int (xs (i + 2))]) (kk : ∀ (h2 : sm_H) (u5 u6 u7 : Option Value), INV L xs (c + 1) h2 → Ev 197 1071 [some (.ref sm_S), some (.ref 0), some (.ref 598), some (.ref 624), some (.int (Int32.ofNat i)), u5, u6, u7] [] h2 Q) : Ev 197 675 [some (.ref sm_S), some (.ref 0), some (.ref 598), some (.ref 624), some (.int (Int32.ofNat i)), u5, u6, u7] [] h Q := by
  obtain ⟨k, h1, h2, hr, hm, hs1, m1, m2, ht, hv⟩ := hok
  have hs2 := hv.1
  refine Er_run 5 (pc' := 681) (ls' := [some (.ref sm_S), some (.ref 0), some (.ref 598), some (.ref 624), some (.int (Int32.ofNat i)), u5, u6, u7]) (st' := [.int ((Int32.ofNat i) + ((1 : Int32))), .ref sm_S, .ref 0]) rfl ?_
  refine Er_sal (v := xs (i + 1)) rfl (mr_in (i := i + 1) (k := L) jx_a1 (by omega) (by omega) hs0.2.2.2.2.2.1) (mr_atI jx_a1 (by omega) (congrFun hs0.2.2.2.2.2.2 (i + 1))) ?_
  refine Er_run 4 (pc' := 687) (ls' := [some (.ref sm_S), some (.ref 0), some (.ref 598), some (.ref 624), some (.int (Int32.ofNat i)), u5, u6, u7]) (st' := [.int ((Int32.ofNat i) + ((2 : Int32))), .ref sm_S, .int (xs (i + 1)), .ref 0]) rfl ?_
  refine Er_sal (v := xs (i + 2)) rfl (mr_in (i := i + 2) (k := L) jx_a2 (by omega) (by omega) hs0.2.2.2.2.2.1) (mr_atI jx_a2 (by omega) (congrFun hs0.2.2.2.2.2.2 (i + 2))) ?_
  refine Er_sta1 (av := [.ref 0, .int (xs (i + 1)), .int (xs (i + 2))]) (rest := []) rfl rfl ⟨Nat.le_of_ble_eq_true rfl, Nat.le_of_ble_eq_true rfl⟩ rfl rfl hr ?_
  refine Er_run 6 (pc' := 699) (ls' := [some (.ref sm_S), some (.ref 0), some (.ref 598), some (.ref 624), some (.int (Int32.ofNat i)), some (.int k), u6, u7]) (st' := [.int ((Int32.ofNat i) + ((1 : Int32))), .ref sm_S, .ref 598]) rfl ?_
  refine Er_sal (v := xs (i + 1)) rfl (mr_in (i := i + 1) (k := L) jx_a1 (by omega) (by omega) hs1.2.2.2.2.2.1) (mr_atI jx_a1 (by omega) (congrFun hs1.2.2.2.2.2.2 (i + 1))) ?_
  refine Er_run 4 (pc' := 705) (ls' := [some (.ref sm_S), some (.ref 0), some (.ref 598), some (.ref 624), some (.int (Int32.ofNat i)), some (.int k), u6, u7]) (st' := [.int ((Int32.ofNat i) + ((2 : Int32))), .ref sm_S, .int (xs (i + 1)), .ref 598]) rfl ?_
  refine Er_sal (v := xs (i + 2)) rfl (mr_in (i := i + 2) (k := L) jx_a2 (by omega) (by omega) hs1.2.2.2.2.2.1) (mr_atI jx_a2 (by omega) (congrFun hs1.2.2.2.2.2.2 (i + 2))) ?_
  refine Er_inv0 (q' := 598) (ci := 12) (av := [.int (xs (i + 1)), .int (xs (i + 2))]) (rest := []) rfl rfl ⟨Nat.le_of_ble_eq_true rfl, Nat.le_of_ble_eq_true rfl⟩ rfl rfl m1.1 hm ?_
  refine Er_run 1 (pc' := 710) (ls' := [some (.ref sm_S), some (.ref 0), some (.ref 598), some (.ref 624), some (.int (Int32.ofNat i)), some (.int k), u6, u7]) (st' := [.ref 598]) rfl ?_
  refine Er_inv1 (q' := 598) (ci := 12) (av := []) (rest := []) rfl rfl ⟨Nat.le_of_ble_eq_true rfl, Nat.le_of_ble_eq_true rfl⟩ rfl rfl m2.1 (s_Ref_thrown m2 ht) ?_
  refine Er_run 2 (pc' := bif decide (k = k) then 720 else 718) (ls' := [some (.ref sm_S), some (.ref 0), some (.ref 598), some (.ref 624), some (.int (Int32.ofNat i)), some (.int k), u6, u7]) (st' := []) rfl ?_
  refine Er_pc (t := 720) (show (bif decide (k = k) then 720 else 718) = 720 from by rw [show (decide (k = k)) = true from decide_eq_true rfl]; rfl) ?_
  refine Er_run 1 (pc' := 1071) (ls' := [some (.ref sm_S), some (.ref 0), some (.ref 598), some (.ref 624), some (.int (Int32.ofNat i)), some (.int k), u6, u7]) (st' := []) rfl ?_
  exact kk h2 _ _ _ hv
set_option maxRecDepth 10000 in
theorem lw_crash (hs0 : HS L xs c h) (hL : L ≤ 3072) (hi : i + 6 ≤ L) (hok : OKV L xs c h 191 [.ref 0, .int (xs (i + 1))] 176 [.ref 598, .int (xs (i + 1))]) (kk : ∀ (h2 : sm_H) (u5 u6 u7 : Option Value), INV L xs (c + 1) h2 → Ev 197 1071 [some (.ref sm_S), some (.ref 0), some (.ref 598), some (.ref 624), some (.int (Int32.ofNat i)), u5, u6, u7] [] h2 Q) : Ev 197 723 [some (.ref sm_S), some (.ref 0), some (.ref 598), some (.ref 624), some (.int (Int32.ofNat i)), u5, u6, u7] [] h Q := by
  obtain ⟨k, h1, h2, hr, hm, hs1, m1, m2, ht, hv⟩ := hok
  have hs2 := hv.1
  refine Er_run 5 (pc' := 729) (ls' := [some (.ref sm_S), some (.ref 0), some (.ref 598), some (.ref 624), some (.int (Int32.ofNat i)), u5, u6, u7]) (st' := [.int ((Int32.ofNat i) + ((1 : Int32))), .ref sm_S, .ref 0]) rfl ?_
  refine Er_sal (v := xs (i + 1)) rfl (mr_in (i := i + 1) (k := L) jx_a1 (by omega) (by omega) hs0.2.2.2.2.2.1) (mr_atI jx_a1 (by omega) (congrFun hs0.2.2.2.2.2.2 (i + 1))) ?_
  refine Er_sta1 (av := [.ref 0, .int (xs (i + 1))]) (rest := []) rfl rfl ⟨Nat.le_of_ble_eq_true rfl, Nat.le_of_ble_eq_true rfl⟩ rfl rfl hr ?_
  refine Er_run 6 (pc' := 741) (ls' := [some (.ref sm_S), some (.ref 0), some (.ref 598), some (.ref 624), some (.int (Int32.ofNat i)), some (.int k), u6, u7]) (st' := [.int ((Int32.ofNat i) + ((1 : Int32))), .ref sm_S, .ref 598]) rfl ?_
  refine Er_sal (v := xs (i + 1)) rfl (mr_in (i := i + 1) (k := L) jx_a1 (by omega) (by omega) hs1.2.2.2.2.2.1) (mr_atI jx_a1 (by omega) (congrFun hs1.2.2.2.2.2.2 (i + 1))) ?_
  refine Er_inv0 (q' := 598) (ci := 12) (av := [.int (xs (i + 1))]) (rest := []) rfl rfl ⟨Nat.le_of_ble_eq_true rfl, Nat.le_of_ble_eq_true rfl⟩ rfl rfl m1.1 hm ?_
  refine Er_run 1 (pc' := 746) (ls' := [some (.ref sm_S), some (.ref 0), some (.ref 598), some (.ref 624), some (.int (Int32.ofNat i)), some (.int k), u6, u7]) (st' := [.ref 598]) rfl ?_
  refine Er_inv1 (q' := 598) (ci := 12) (av := []) (rest := []) rfl rfl ⟨Nat.le_of_ble_eq_true rfl, Nat.le_of_ble_eq_true rfl⟩ rfl rfl m2.1 (s_Ref_thrown m2 ht) ?_
  refine Er_run 2 (pc' := bif decide (k = k) then 756 else 754) (ls' := [some (.ref sm_S), some (.ref 0), some (.ref 598), some (.ref 624), some (.int (Int32.ofNat i)), some (.int k), u6, u7]) (st' := []) rfl ?_
  refine Er_pc (t := 756) (show (bif decide (k = k) then 756 else 754) = 756 from by rw [show (decide (k = k)) = true from decide_eq_true rfl]; rfl) ?_
  refine Er_run 1 (pc' := 1071) (ls' := [some (.ref sm_S), some (.ref 0), some (.ref 598), some (.ref 624), some (.int (Int32.ofNat i)), some (.int k), u6, u7]) (st' := []) rfl ?_
  exact kk h2 _ _ _ hv
set_option maxRecDepth 10000 in
theorem lw_line (hs0 : HS L xs c h) (hL : L ≤ 3072) (hi : i + 6 ≤ L) (hok : OKV L xs c h 192 [.ref 0, .int (xs (i + 1)), .int (xs (i + 2))] 177 [.ref 598, .int (xs (i + 1)), .int (xs (i + 2))]) (kk : ∀ (h2 : sm_H) (u5 u6 u7 : Option Value), INV L xs (c + 1) h2 → Ev 197 1071 [some (.ref sm_S), some (.ref 0), some (.ref 598), some (.ref 624), some (.int (Int32.ofNat i)), u5, u6, u7] [] h2 Q) : Ev 197 759 [some (.ref sm_S), some (.ref 0), some (.ref 598), some (.ref 624), some (.int (Int32.ofNat i)), u5, u6, u7] [] h Q := by
  obtain ⟨k, h1, h2, hr, hm, hs1, m1, m2, ht, hv⟩ := hok
  have hs2 := hv.1
  refine Er_run 5 (pc' := 765) (ls' := [some (.ref sm_S), some (.ref 0), some (.ref 598), some (.ref 624), some (.int (Int32.ofNat i)), u5, u6, u7]) (st' := [.int ((Int32.ofNat i) + ((1 : Int32))), .ref sm_S, .ref 0]) rfl ?_
  refine Er_sal (v := xs (i + 1)) rfl (mr_in (i := i + 1) (k := L) jx_a1 (by omega) (by omega) hs0.2.2.2.2.2.1) (mr_atI jx_a1 (by omega) (congrFun hs0.2.2.2.2.2.2 (i + 1))) ?_
  refine Er_run 4 (pc' := 771) (ls' := [some (.ref sm_S), some (.ref 0), some (.ref 598), some (.ref 624), some (.int (Int32.ofNat i)), u5, u6, u7]) (st' := [.int ((Int32.ofNat i) + ((2 : Int32))), .ref sm_S, .int (xs (i + 1)), .ref 0]) rfl ?_
  refine Er_sal (v := xs (i + 2)) rfl (mr_in (i := i + 2) (k := L) jx_a2 (by omega) (by omega) hs0.2.2.2.2.2.1) (mr_atI jx_a2 (by omega) (congrFun hs0.2.2.2.2.2.2 (i + 2))) ?_
  refine Er_sta1 (av := [.ref 0, .int (xs (i + 1)), .int (xs (i + 2))]) (rest := []) rfl rfl ⟨Nat.le_of_ble_eq_true rfl, Nat.le_of_ble_eq_true rfl⟩ rfl rfl hr ?_
  refine Er_run 6 (pc' := 783) (ls' := [some (.ref sm_S), some (.ref 0), some (.ref 598), some (.ref 624), some (.int (Int32.ofNat i)), some (.int k), u6, u7]) (st' := [.int ((Int32.ofNat i) + ((1 : Int32))), .ref sm_S, .ref 598]) rfl ?_
  refine Er_sal (v := xs (i + 1)) rfl (mr_in (i := i + 1) (k := L) jx_a1 (by omega) (by omega) hs1.2.2.2.2.2.1) (mr_atI jx_a1 (by omega) (congrFun hs1.2.2.2.2.2.2 (i + 1))) ?_
  refine Er_run 4 (pc' := 789) (ls' := [some (.ref sm_S), some (.ref 0), some (.ref 598), some (.ref 624), some (.int (Int32.ofNat i)), some (.int k), u6, u7]) (st' := [.int ((Int32.ofNat i) + ((2 : Int32))), .ref sm_S, .int (xs (i + 1)), .ref 598]) rfl ?_
  refine Er_sal (v := xs (i + 2)) rfl (mr_in (i := i + 2) (k := L) jx_a2 (by omega) (by omega) hs1.2.2.2.2.2.1) (mr_atI jx_a2 (by omega) (congrFun hs1.2.2.2.2.2.2 (i + 2))) ?_
  refine Er_inv0 (q' := 598) (ci := 12) (av := [.int (xs (i + 1)), .int (xs (i + 2))]) (rest := []) rfl rfl ⟨Nat.le_of_ble_eq_true rfl, Nat.le_of_ble_eq_true rfl⟩ rfl rfl m1.1 hm ?_
  refine Er_run 1 (pc' := 794) (ls' := [some (.ref sm_S), some (.ref 0), some (.ref 598), some (.ref 624), some (.int (Int32.ofNat i)), some (.int k), u6, u7]) (st' := [.ref 598]) rfl ?_
  refine Er_inv1 (q' := 598) (ci := 12) (av := []) (rest := []) rfl rfl ⟨Nat.le_of_ble_eq_true rfl, Nat.le_of_ble_eq_true rfl⟩ rfl rfl m2.1 (s_Ref_thrown m2 ht) ?_
  refine Er_run 2 (pc' := bif decide (k = k) then 804 else 802) (ls' := [some (.ref sm_S), some (.ref 0), some (.ref 598), some (.ref 624), some (.int (Int32.ofNat i)), some (.int k), u6, u7]) (st' := []) rfl ?_
  refine Er_pc (t := 804) (show (bif decide (k = k) then 804 else 802) = 804 from by rw [show (decide (k = k)) = true from decide_eq_true rfl]; rfl) ?_
  refine Er_run 1 (pc' := 1071) (ls' := [some (.ref sm_S), some (.ref 0), some (.ref 598), some (.ref 624), some (.int (Int32.ofNat i)), some (.int k), u6, u7]) (st' := []) rfl ?_
  exact kk h2 _ _ _ hv
set_option maxRecDepth 10000 in
theorem lw_finish (hs0 : HS L xs c h) (hL : L ≤ 3072) (hi : i + 6 ≤ L) (hok : OKI L xs c h 193 [.ref 0, .ref 624] 178 [.ref 598]) (kk : ∀ (h2 : sm_H) (u5 u6 u7 : Option Value), INV L xs (c + 1) h2 → Ev 197 1071 [some (.ref sm_S), some (.ref 0), some (.ref 598), some (.ref 624), some (.int (Int32.ofNat i)), u5, u6, u7] [] h2 Q) : Ev 197 807 [some (.ref sm_S), some (.ref 0), some (.ref 598), some (.ref 624), some (.int (Int32.ofNat i)), u5, u6, u7] [] h Q := by
  obtain ⟨k, b, h1, h2, hr, hm, hs1, m1, m2, ht, hb, hv⟩ := hok
  have hs2 := hv.1
  refine Er_run 2 (pc' := 809) (ls' := [some (.ref sm_S), some (.ref 0), some (.ref 598), some (.ref 624), some (.int (Int32.ofNat i)), u5, u6, u7]) (st' := [.ref 624, .ref 0]) rfl ?_
  refine Er_sta1 (av := [.ref 0, .ref 624]) (rest := []) rfl rfl ⟨Nat.le_of_ble_eq_true rfl, Nat.le_of_ble_eq_true rfl⟩ rfl rfl hr ?_
  refine Er_run 2 (pc' := 815) (ls' := [some (.ref sm_S), some (.ref 0), some (.ref 598), some (.ref 624), some (.int (Int32.ofNat i)), some (.int k), u6, u7]) (st' := [.ref 598]) rfl ?_
  refine Er_inv1 (q' := 598) (ci := 12) (av := []) (rest := []) rfl rfl ⟨Nat.le_of_ble_eq_true rfl, Nat.le_of_ble_eq_true rfl⟩ rfl rfl m1.1 hm ?_
  refine Er_run 2 (pc' := 821) (ls' := [some (.ref sm_S), some (.ref 0), some (.ref 598), some (.ref 624), some (.int (Int32.ofNat i)), some (.int k), some (.int b), u7]) (st' := [.ref 598]) rfl ?_
  refine Er_inv1 (q' := 598) (ci := 12) (av := []) (rest := []) rfl rfl ⟨Nat.le_of_ble_eq_true rfl, Nat.le_of_ble_eq_true rfl⟩ rfl rfl m2.1 (s_Ref_thrown m2 ht) ?_
  refine Er_run 2 (pc' := bif decide (k = k) then 831 else 829) (ls' := [some (.ref sm_S), some (.ref 0), some (.ref 598), some (.ref 624), some (.int (Int32.ofNat i)), some (.int k), some (.int b), u7]) (st' := []) rfl ?_
  refine Er_pc (t := 831) (show (bif decide (k = k) then 831 else 829) = 831 from by rw [show (decide (k = k)) = true from decide_eq_true rfl]; rfl) ?_
  refine Er_run 2 (pc' := bif !decide (k = 0) then 848 else 836) (ls' := [some (.ref sm_S), some (.ref 0), some (.ref 598), some (.ref 624), some (.int (Int32.ofNat i)), some (.int k), some (.int b), u7]) (st' := []) rfl ?_
  refine Er_if (fun hc1 => ?_) (fun hc1 => ?_)
  · skip
    refine Er_run 1 (pc' := 1071) (ls' := [some (.ref sm_S), some (.ref 0), some (.ref 598), some (.ref 624), some (.int (Int32.ofNat i)), some (.int k), some (.int b), u7]) (st' := []) rfl ?_
    exact kk h2 _ _ _ hv
  · skip
    refine Er_run 2 (pc' := 838) (ls' := [some (.ref sm_S), some (.ref 0), some (.ref 598), some (.ref 624), some (.int (Int32.ofNat i)), some (.int k), some (.int b), u7]) (st' := [.int ((0 : Int32)), .ref 624]) rfl ?_
    refine Er_lald (v := Int32.toInt64 b) rfl hs2.2.2.2.1 (mr_in (i := 0) (k := 1) rfl (by omega) (by omega) hs2.2.2.2.2.1) (mr_atL (i := 0) rfl (by decide) (hb (kz hc1)).1) ?_
    refine Er_run 4 (pc' := bif decide ((lg_cmp (Int32.toInt64 b) (Int32.toInt64 b)) = 0) then 848 else 846) (ls' := [some (.ref sm_S), some (.ref 0), some (.ref 598), some (.ref 624), some (.int (Int32.ofNat i)), some (.int k), some (.int b), u7]) (st' := []) rfl ?_
    refine Er_pc (t := 848) (show (bif decide ((lg_cmp (Int32.toInt64 b) (Int32.toInt64 b)) = 0) then 848 else 846) = 848 from by rw [show (decide ((lg_cmp (Int32.toInt64 b) (Int32.toInt64 b)) = 0)) = true from by rw [jx_cmp0]; exact decide_eq_true rfl]; rfl) ?_
    refine Er_run 1 (pc' := 1071) (ls' := [some (.ref sm_S), some (.ref 0), some (.ref 598), some (.ref 624), some (.int (Int32.ofNat i)), some (.int k), some (.int b), u7]) (st' := []) rfl ?_
    exact kk h2 _ _ _ hv
set_option maxRecDepth 10000 in
theorem lw_told0 (hs0 : HS L xs c h) (hL : L ≤ 3072) (hi : i + 6 ≤ L) (hz : xs (i + 3) = 0) (hok : OKL L xs c h 194 [.ref 0, .int (xs (i + 1)), .int (xs (i + 2)), .int ((0 : Int32)), .ref 624] 179 [.ref 598, .int (xs (i + 1)), .int (xs (i + 2)), .int ((0 : Int32))]) (kk : ∀ (h2 : sm_H) (u5 u6 u7 : Option Value), INV L xs (c + 1) h2 → Ev 197 1071 [some (.ref sm_S), some (.ref 0), some (.ref 598), some (.ref 624), some (.int (Int32.ofNat i)), u5, u6, u7] [] h2 Q) : Ev 197 851 [some (.ref sm_S), some (.ref 0), some (.ref 598), some (.ref 624), some (.int (Int32.ofNat i)), u5, u6, u7] [] h Q := by
  obtain ⟨k, b, h1, h2, hr, hm, hs1, m1, m2, ht, hb, hv⟩ := hok
  have hs2 := hv.1
  refine Er_run 5 (pc' := 857) (ls' := [some (.ref sm_S), some (.ref 0), some (.ref 598), some (.ref 624), some (.int (Int32.ofNat i)), u5, u6, u7]) (st' := [.int ((Int32.ofNat i) + ((1 : Int32))), .ref sm_S, .ref 0]) rfl ?_
  refine Er_sal (v := xs (i + 1)) rfl (mr_in (i := i + 1) (k := L) jx_a1 (by omega) (by omega) hs0.2.2.2.2.2.1) (mr_atI jx_a1 (by omega) (congrFun hs0.2.2.2.2.2.2 (i + 1))) ?_
  refine Er_run 4 (pc' := 863) (ls' := [some (.ref sm_S), some (.ref 0), some (.ref 598), some (.ref 624), some (.int (Int32.ofNat i)), u5, u6, u7]) (st' := [.int ((Int32.ofNat i) + ((2 : Int32))), .ref sm_S, .int (xs (i + 1)), .ref 0]) rfl ?_
  refine Er_sal (v := xs (i + 2)) rfl (mr_in (i := i + 2) (k := L) jx_a2 (by omega) (by omega) hs0.2.2.2.2.2.1) (mr_atI jx_a2 (by omega) (congrFun hs0.2.2.2.2.2.2 (i + 2))) ?_
  refine Er_run 4 (pc' := 869) (ls' := [some (.ref sm_S), some (.ref 0), some (.ref 598), some (.ref 624), some (.int (Int32.ofNat i)), u5, u6, u7]) (st' := [.int ((Int32.ofNat i) + ((3 : Int32))), .ref sm_S, .int (xs (i + 2)), .int (xs (i + 1)), .ref 0]) rfl ?_
  refine Er_sal (v := xs (i + 3)) rfl (mr_in (i := i + 3) (k := L) jx_a3 (by omega) (by omega) hs0.2.2.2.2.2.1) (mr_atI jx_a3 (by omega) (congrFun hs0.2.2.2.2.2.2 (i + 3))) ?_
  refine Er_run 1 (pc' := bif decide ((xs (i + 3)) = 0) then 877 else 873) (ls' := [some (.ref sm_S), some (.ref 0), some (.ref 598), some (.ref 624), some (.int (Int32.ofNat i)), u5, u6, u7]) (st' := [.int (xs (i + 2)), .int (xs (i + 1)), .ref 0]) rfl ?_
  refine Er_pc (t := 877) (show (bif decide ((xs (i + 3)) = 0) then 877 else 873) = 877 from by rw [show (decide ((xs (i + 3)) = 0)) = true from decide_eq_true hz]; rfl) ?_
  refine Er_run 2 (pc' := 879) (ls' := [some (.ref sm_S), some (.ref 0), some (.ref 598), some (.ref 624), some (.int (Int32.ofNat i)), u5, u6, u7]) (st' := [.ref 624, .int ((0 : Int32)), .int (xs (i + 2)), .int (xs (i + 1)), .ref 0]) rfl ?_
  refine Er_sta1 (av := [.ref 0, .int (xs (i + 1)), .int (xs (i + 2)), .int ((0 : Int32)), .ref 624]) (rest := []) rfl rfl ⟨Nat.le_of_ble_eq_true rfl, Nat.le_of_ble_eq_true rfl⟩ rfl rfl hr ?_
  refine Er_run 6 (pc' := 890) (ls' := [some (.ref sm_S), some (.ref 0), some (.ref 598), some (.ref 624), some (.int (Int32.ofNat i)), some (.int k), u6, u7]) (st' := [.int ((Int32.ofNat i) + ((1 : Int32))), .ref sm_S, .ref 598]) rfl ?_
  refine Er_sal (v := xs (i + 1)) rfl (mr_in (i := i + 1) (k := L) jx_a1 (by omega) (by omega) hs1.2.2.2.2.2.1) (mr_atI jx_a1 (by omega) (congrFun hs1.2.2.2.2.2.2 (i + 1))) ?_
  refine Er_run 4 (pc' := 896) (ls' := [some (.ref sm_S), some (.ref 0), some (.ref 598), some (.ref 624), some (.int (Int32.ofNat i)), some (.int k), u6, u7]) (st' := [.int ((Int32.ofNat i) + ((2 : Int32))), .ref sm_S, .int (xs (i + 1)), .ref 598]) rfl ?_
  refine Er_sal (v := xs (i + 2)) rfl (mr_in (i := i + 2) (k := L) jx_a2 (by omega) (by omega) hs1.2.2.2.2.2.1) (mr_atI jx_a2 (by omega) (congrFun hs1.2.2.2.2.2.2 (i + 2))) ?_
  refine Er_run 4 (pc' := 902) (ls' := [some (.ref sm_S), some (.ref 0), some (.ref 598), some (.ref 624), some (.int (Int32.ofNat i)), some (.int k), u6, u7]) (st' := [.int ((Int32.ofNat i) + ((3 : Int32))), .ref sm_S, .int (xs (i + 2)), .int (xs (i + 1)), .ref 598]) rfl ?_
  refine Er_sal (v := xs (i + 3)) rfl (mr_in (i := i + 3) (k := L) jx_a3 (by omega) (by omega) hs1.2.2.2.2.2.1) (mr_atI jx_a3 (by omega) (congrFun hs1.2.2.2.2.2.2 (i + 3))) ?_
  refine Er_run 1 (pc' := bif decide ((xs (i + 3)) = 0) then 910 else 906) (ls' := [some (.ref sm_S), some (.ref 0), some (.ref 598), some (.ref 624), some (.int (Int32.ofNat i)), some (.int k), u6, u7]) (st' := [.int (xs (i + 2)), .int (xs (i + 1)), .ref 598]) rfl ?_
  refine Er_pc (t := 910) (show (bif decide ((xs (i + 3)) = 0) then 910 else 906) = 910 from by rw [show (decide ((xs (i + 3)) = 0)) = true from decide_eq_true hz]; rfl) ?_
  refine Er_run 1 (pc' := 911) (ls' := [some (.ref sm_S), some (.ref 0), some (.ref 598), some (.ref 624), some (.int (Int32.ofNat i)), some (.int k), u6, u7]) (st' := [.int ((0 : Int32)), .int (xs (i + 2)), .int (xs (i + 1)), .ref 598]) rfl ?_
  refine Er_inv1 (q' := 598) (ci := 12) (av := [.int (xs (i + 1)), .int (xs (i + 2)), .int ((0 : Int32))]) (rest := []) rfl rfl ⟨Nat.le_of_ble_eq_true rfl, Nat.le_of_ble_eq_true rfl⟩ rfl rfl m1.1 hm ?_
  refine Er_run 2 (pc' := 917) (ls' := [some (.ref sm_S), some (.ref 0), some (.ref 598), some (.ref 624), some (.int (Int32.ofNat i)), some (.int k), some (.long b), none]) (st' := [.ref 598]) rfl ?_
  refine Er_inv1 (q' := 598) (ci := 12) (av := []) (rest := []) rfl rfl ⟨Nat.le_of_ble_eq_true rfl, Nat.le_of_ble_eq_true rfl⟩ rfl rfl m2.1 (s_Ref_thrown m2 ht) ?_
  refine Er_run 2 (pc' := bif decide (k = k) then 927 else 925) (ls' := [some (.ref sm_S), some (.ref 0), some (.ref 598), some (.ref 624), some (.int (Int32.ofNat i)), some (.int k), some (.long b), none]) (st' := []) rfl ?_
  refine Er_pc (t := 927) (show (bif decide (k = k) then 927 else 925) = 927 from by rw [show (decide (k = k)) = true from decide_eq_true rfl]; rfl) ?_
  refine Er_run 2 (pc' := bif !decide (k = 0) then 943 else 932) (ls' := [some (.ref sm_S), some (.ref 0), some (.ref 598), some (.ref 624), some (.int (Int32.ofNat i)), some (.int k), some (.long b), none]) (st' := []) rfl ?_
  refine Er_if (fun hc1 => ?_) (fun hc1 => ?_)
  · skip
    refine Er_run 1 (pc' := 1071) (ls' := [some (.ref sm_S), some (.ref 0), some (.ref 598), some (.ref 624), some (.int (Int32.ofNat i)), some (.int k), some (.long b), none]) (st' := []) rfl ?_
    exact kk h2 _ _ _ hv
  · skip
    refine Er_run 2 (pc' := 934) (ls' := [some (.ref sm_S), some (.ref 0), some (.ref 598), some (.ref 624), some (.int (Int32.ofNat i)), some (.int k), some (.long b), none]) (st' := [.int ((0 : Int32)), .ref 624]) rfl ?_
    refine Er_lald (v := b) rfl hs2.2.2.2.1 (mr_in (i := 0) (k := 1) rfl (by omega) (by omega) hs2.2.2.2.2.1) (mr_atL (i := 0) rfl (by decide) (hb (kz hc1))) ?_
    refine Er_run 3 (pc' := bif decide ((lg_cmp b b) = 0) then 943 else 941) (ls' := [some (.ref sm_S), some (.ref 0), some (.ref 598), some (.ref 624), some (.int (Int32.ofNat i)), some (.int k), some (.long b), none]) (st' := []) rfl ?_
    refine Er_pc (t := 943) (show (bif decide ((lg_cmp b b) = 0) then 943 else 941) = 943 from by rw [show (decide ((lg_cmp b b) = 0)) = true from by rw [jx_cmp0]; exact decide_eq_true rfl]; rfl) ?_
    refine Er_run 1 (pc' := 1071) (ls' := [some (.ref sm_S), some (.ref 0), some (.ref 598), some (.ref 624), some (.int (Int32.ofNat i)), some (.int k), some (.long b), none]) (st' := []) rfl ?_
    exact kk h2 _ _ _ hv
set_option maxRecDepth 10000 in
theorem lw_told1 (hs0 : HS L xs c h) (hL : L ≤ 3072) (hi : i + 6 ≤ L) (hz : ¬ xs (i + 3) = 0) (hok : OKL L xs c h 194 [.ref 0, .int (xs (i + 1)), .int (xs (i + 2)), .int ((1 : Int32)), .ref 624] 179 [.ref 598, .int (xs (i + 1)), .int (xs (i + 2)), .int ((1 : Int32))]) (kk : ∀ (h2 : sm_H) (u5 u6 u7 : Option Value), INV L xs (c + 1) h2 → Ev 197 1071 [some (.ref sm_S), some (.ref 0), some (.ref 598), some (.ref 624), some (.int (Int32.ofNat i)), u5, u6, u7] [] h2 Q) : Ev 197 851 [some (.ref sm_S), some (.ref 0), some (.ref 598), some (.ref 624), some (.int (Int32.ofNat i)), u5, u6, u7] [] h Q := by
  obtain ⟨k, b, h1, h2, hr, hm, hs1, m1, m2, ht, hb, hv⟩ := hok
  have hs2 := hv.1
  refine Er_run 5 (pc' := 857) (ls' := [some (.ref sm_S), some (.ref 0), some (.ref 598), some (.ref 624), some (.int (Int32.ofNat i)), u5, u6, u7]) (st' := [.int ((Int32.ofNat i) + ((1 : Int32))), .ref sm_S, .ref 0]) rfl ?_
  refine Er_sal (v := xs (i + 1)) rfl (mr_in (i := i + 1) (k := L) jx_a1 (by omega) (by omega) hs0.2.2.2.2.2.1) (mr_atI jx_a1 (by omega) (congrFun hs0.2.2.2.2.2.2 (i + 1))) ?_
  refine Er_run 4 (pc' := 863) (ls' := [some (.ref sm_S), some (.ref 0), some (.ref 598), some (.ref 624), some (.int (Int32.ofNat i)), u5, u6, u7]) (st' := [.int ((Int32.ofNat i) + ((2 : Int32))), .ref sm_S, .int (xs (i + 1)), .ref 0]) rfl ?_
  refine Er_sal (v := xs (i + 2)) rfl (mr_in (i := i + 2) (k := L) jx_a2 (by omega) (by omega) hs0.2.2.2.2.2.1) (mr_atI jx_a2 (by omega) (congrFun hs0.2.2.2.2.2.2 (i + 2))) ?_
  refine Er_run 4 (pc' := 869) (ls' := [some (.ref sm_S), some (.ref 0), some (.ref 598), some (.ref 624), some (.int (Int32.ofNat i)), u5, u6, u7]) (st' := [.int ((Int32.ofNat i) + ((3 : Int32))), .ref sm_S, .int (xs (i + 2)), .int (xs (i + 1)), .ref 0]) rfl ?_
  refine Er_sal (v := xs (i + 3)) rfl (mr_in (i := i + 3) (k := L) jx_a3 (by omega) (by omega) hs0.2.2.2.2.2.1) (mr_atI jx_a3 (by omega) (congrFun hs0.2.2.2.2.2.2 (i + 3))) ?_
  refine Er_run 1 (pc' := bif decide ((xs (i + 3)) = 0) then 877 else 873) (ls' := [some (.ref sm_S), some (.ref 0), some (.ref 598), some (.ref 624), some (.int (Int32.ofNat i)), u5, u6, u7]) (st' := [.int (xs (i + 2)), .int (xs (i + 1)), .ref 0]) rfl ?_
  refine Er_pc (t := 873) (show (bif decide ((xs (i + 3)) = 0) then 877 else 873) = 873 from by rw [show (decide ((xs (i + 3)) = 0)) = false from decide_eq_false hz]; rfl) ?_
  refine Er_run 3 (pc' := 879) (ls' := [some (.ref sm_S), some (.ref 0), some (.ref 598), some (.ref 624), some (.int (Int32.ofNat i)), u5, u6, u7]) (st' := [.ref 624, .int ((1 : Int32)), .int (xs (i + 2)), .int (xs (i + 1)), .ref 0]) rfl ?_
  refine Er_sta1 (av := [.ref 0, .int (xs (i + 1)), .int (xs (i + 2)), .int ((1 : Int32)), .ref 624]) (rest := []) rfl rfl ⟨Nat.le_of_ble_eq_true rfl, Nat.le_of_ble_eq_true rfl⟩ rfl rfl hr ?_
  refine Er_run 6 (pc' := 890) (ls' := [some (.ref sm_S), some (.ref 0), some (.ref 598), some (.ref 624), some (.int (Int32.ofNat i)), some (.int k), u6, u7]) (st' := [.int ((Int32.ofNat i) + ((1 : Int32))), .ref sm_S, .ref 598]) rfl ?_
  refine Er_sal (v := xs (i + 1)) rfl (mr_in (i := i + 1) (k := L) jx_a1 (by omega) (by omega) hs1.2.2.2.2.2.1) (mr_atI jx_a1 (by omega) (congrFun hs1.2.2.2.2.2.2 (i + 1))) ?_
  refine Er_run 4 (pc' := 896) (ls' := [some (.ref sm_S), some (.ref 0), some (.ref 598), some (.ref 624), some (.int (Int32.ofNat i)), some (.int k), u6, u7]) (st' := [.int ((Int32.ofNat i) + ((2 : Int32))), .ref sm_S, .int (xs (i + 1)), .ref 598]) rfl ?_
  refine Er_sal (v := xs (i + 2)) rfl (mr_in (i := i + 2) (k := L) jx_a2 (by omega) (by omega) hs1.2.2.2.2.2.1) (mr_atI jx_a2 (by omega) (congrFun hs1.2.2.2.2.2.2 (i + 2))) ?_
  refine Er_run 4 (pc' := 902) (ls' := [some (.ref sm_S), some (.ref 0), some (.ref 598), some (.ref 624), some (.int (Int32.ofNat i)), some (.int k), u6, u7]) (st' := [.int ((Int32.ofNat i) + ((3 : Int32))), .ref sm_S, .int (xs (i + 2)), .int (xs (i + 1)), .ref 598]) rfl ?_
  refine Er_sal (v := xs (i + 3)) rfl (mr_in (i := i + 3) (k := L) jx_a3 (by omega) (by omega) hs1.2.2.2.2.2.1) (mr_atI jx_a3 (by omega) (congrFun hs1.2.2.2.2.2.2 (i + 3))) ?_
  refine Er_run 1 (pc' := bif decide ((xs (i + 3)) = 0) then 910 else 906) (ls' := [some (.ref sm_S), some (.ref 0), some (.ref 598), some (.ref 624), some (.int (Int32.ofNat i)), some (.int k), u6, u7]) (st' := [.int (xs (i + 2)), .int (xs (i + 1)), .ref 598]) rfl ?_
  refine Er_pc (t := 906) (show (bif decide ((xs (i + 3)) = 0) then 910 else 906) = 906 from by rw [show (decide ((xs (i + 3)) = 0)) = false from decide_eq_false hz]; rfl) ?_
  refine Er_run 2 (pc' := 911) (ls' := [some (.ref sm_S), some (.ref 0), some (.ref 598), some (.ref 624), some (.int (Int32.ofNat i)), some (.int k), u6, u7]) (st' := [.int ((1 : Int32)), .int (xs (i + 2)), .int (xs (i + 1)), .ref 598]) rfl ?_
  refine Er_inv1 (q' := 598) (ci := 12) (av := [.int (xs (i + 1)), .int (xs (i + 2)), .int ((1 : Int32))]) (rest := []) rfl rfl ⟨Nat.le_of_ble_eq_true rfl, Nat.le_of_ble_eq_true rfl⟩ rfl rfl m1.1 hm ?_
  refine Er_run 2 (pc' := 917) (ls' := [some (.ref sm_S), some (.ref 0), some (.ref 598), some (.ref 624), some (.int (Int32.ofNat i)), some (.int k), some (.long b), none]) (st' := [.ref 598]) rfl ?_
  refine Er_inv1 (q' := 598) (ci := 12) (av := []) (rest := []) rfl rfl ⟨Nat.le_of_ble_eq_true rfl, Nat.le_of_ble_eq_true rfl⟩ rfl rfl m2.1 (s_Ref_thrown m2 ht) ?_
  refine Er_run 2 (pc' := bif decide (k = k) then 927 else 925) (ls' := [some (.ref sm_S), some (.ref 0), some (.ref 598), some (.ref 624), some (.int (Int32.ofNat i)), some (.int k), some (.long b), none]) (st' := []) rfl ?_
  refine Er_pc (t := 927) (show (bif decide (k = k) then 927 else 925) = 927 from by rw [show (decide (k = k)) = true from decide_eq_true rfl]; rfl) ?_
  refine Er_run 2 (pc' := bif !decide (k = 0) then 943 else 932) (ls' := [some (.ref sm_S), some (.ref 0), some (.ref 598), some (.ref 624), some (.int (Int32.ofNat i)), some (.int k), some (.long b), none]) (st' := []) rfl ?_
  refine Er_if (fun hc1 => ?_) (fun hc1 => ?_)
  · skip
    refine Er_run 1 (pc' := 1071) (ls' := [some (.ref sm_S), some (.ref 0), some (.ref 598), some (.ref 624), some (.int (Int32.ofNat i)), some (.int k), some (.long b), none]) (st' := []) rfl ?_
    exact kk h2 _ _ _ hv
  · skip
    refine Er_run 2 (pc' := 934) (ls' := [some (.ref sm_S), some (.ref 0), some (.ref 598), some (.ref 624), some (.int (Int32.ofNat i)), some (.int k), some (.long b), none]) (st' := [.int ((0 : Int32)), .ref 624]) rfl ?_
    refine Er_lald (v := b) rfl hs2.2.2.2.1 (mr_in (i := 0) (k := 1) rfl (by omega) (by omega) hs2.2.2.2.2.1) (mr_atL (i := 0) rfl (by decide) (hb (kz hc1))) ?_
    refine Er_run 3 (pc' := bif decide ((lg_cmp b b) = 0) then 943 else 941) (ls' := [some (.ref sm_S), some (.ref 0), some (.ref 598), some (.ref 624), some (.int (Int32.ofNat i)), some (.int k), some (.long b), none]) (st' := []) rfl ?_
    refine Er_pc (t := 943) (show (bif decide ((lg_cmp b b) = 0) then 943 else 941) = 943 from by rw [show (decide ((lg_cmp b b) = 0)) = true from by rw [jx_cmp0]; exact decide_eq_true rfl]; rfl) ?_
    refine Er_run 1 (pc' := 1071) (ls' := [some (.ref sm_S), some (.ref 0), some (.ref 598), some (.ref 624), some (.int (Int32.ofNat i)), some (.int k), some (.long b), none]) (st' := []) rfl ?_
    exact kk h2 _ _ _ hv
set_option maxRecDepth 10000 in
theorem lw_size (hs0 : HS L xs c h) (hL : L ≤ 3072) (hi : i + 6 ≤ L) (hok : OKI L xs c h 195 [.ref 0, .int (xs (i + 1)), .ref 624] 180 [.ref 598, .int (xs (i + 1))]) (kk : ∀ (h2 : sm_H) (u5 u6 u7 : Option Value), INV L xs (c + 1) h2 → Ev 197 1071 [some (.ref sm_S), some (.ref 0), some (.ref 598), some (.ref 624), some (.int (Int32.ofNat i)), u5, u6, u7] [] h2 Q) : Ev 197 946 [some (.ref sm_S), some (.ref 0), some (.ref 598), some (.ref 624), some (.int (Int32.ofNat i)), u5, u6, u7] [] h Q := by
  obtain ⟨k, b, h1, h2, hr, hm, hs1, m1, m2, ht, hb, hv⟩ := hok
  have hs2 := hv.1
  refine Er_run 5 (pc' := 952) (ls' := [some (.ref sm_S), some (.ref 0), some (.ref 598), some (.ref 624), some (.int (Int32.ofNat i)), u5, u6, u7]) (st' := [.int ((Int32.ofNat i) + ((1 : Int32))), .ref sm_S, .ref 0]) rfl ?_
  refine Er_sal (v := xs (i + 1)) rfl (mr_in (i := i + 1) (k := L) jx_a1 (by omega) (by omega) hs0.2.2.2.2.2.1) (mr_atI jx_a1 (by omega) (congrFun hs0.2.2.2.2.2.2 (i + 1))) ?_
  refine Er_run 1 (pc' := 954) (ls' := [some (.ref sm_S), some (.ref 0), some (.ref 598), some (.ref 624), some (.int (Int32.ofNat i)), u5, u6, u7]) (st' := [.ref 624, .int (xs (i + 1)), .ref 0]) rfl ?_
  refine Er_sta1 (av := [.ref 0, .int (xs (i + 1)), .ref 624]) (rest := []) rfl rfl ⟨Nat.le_of_ble_eq_true rfl, Nat.le_of_ble_eq_true rfl⟩ rfl rfl hr ?_
  refine Er_run 6 (pc' := 965) (ls' := [some (.ref sm_S), some (.ref 0), some (.ref 598), some (.ref 624), some (.int (Int32.ofNat i)), some (.int k), u6, u7]) (st' := [.int ((Int32.ofNat i) + ((1 : Int32))), .ref sm_S, .ref 598]) rfl ?_
  refine Er_sal (v := xs (i + 1)) rfl (mr_in (i := i + 1) (k := L) jx_a1 (by omega) (by omega) hs1.2.2.2.2.2.1) (mr_atI jx_a1 (by omega) (congrFun hs1.2.2.2.2.2.2 (i + 1))) ?_
  refine Er_inv1 (q' := 598) (ci := 12) (av := [.int (xs (i + 1))]) (rest := []) rfl rfl ⟨Nat.le_of_ble_eq_true rfl, Nat.le_of_ble_eq_true rfl⟩ rfl rfl m1.1 hm ?_
  refine Er_run 2 (pc' := 972) (ls' := [some (.ref sm_S), some (.ref 0), some (.ref 598), some (.ref 624), some (.int (Int32.ofNat i)), some (.int k), some (.int b), u7]) (st' := [.ref 598]) rfl ?_
  refine Er_inv1 (q' := 598) (ci := 12) (av := []) (rest := []) rfl rfl ⟨Nat.le_of_ble_eq_true rfl, Nat.le_of_ble_eq_true rfl⟩ rfl rfl m2.1 (s_Ref_thrown m2 ht) ?_
  refine Er_run 2 (pc' := bif decide (k = k) then 982 else 980) (ls' := [some (.ref sm_S), some (.ref 0), some (.ref 598), some (.ref 624), some (.int (Int32.ofNat i)), some (.int k), some (.int b), u7]) (st' := []) rfl ?_
  refine Er_pc (t := 982) (show (bif decide (k = k) then 982 else 980) = 982 from by rw [show (decide (k = k)) = true from decide_eq_true rfl]; rfl) ?_
  refine Er_run 2 (pc' := bif !decide (k = 0) then 999 else 987) (ls' := [some (.ref sm_S), some (.ref 0), some (.ref 598), some (.ref 624), some (.int (Int32.ofNat i)), some (.int k), some (.int b), u7]) (st' := []) rfl ?_
  refine Er_if (fun hc1 => ?_) (fun hc1 => ?_)
  · skip
    refine Er_run 1 (pc' := 1071) (ls' := [some (.ref sm_S), some (.ref 0), some (.ref 598), some (.ref 624), some (.int (Int32.ofNat i)), some (.int k), some (.int b), u7]) (st' := []) rfl ?_
    exact kk h2 _ _ _ hv
  · skip
    refine Er_run 2 (pc' := 989) (ls' := [some (.ref sm_S), some (.ref 0), some (.ref 598), some (.ref 624), some (.int (Int32.ofNat i)), some (.int k), some (.int b), u7]) (st' := [.int ((0 : Int32)), .ref 624]) rfl ?_
    refine Er_lald (v := Int32.toInt64 b) rfl hs2.2.2.2.1 (mr_in (i := 0) (k := 1) rfl (by omega) (by omega) hs2.2.2.2.2.1) (mr_atL (i := 0) rfl (by decide) (hb (kz hc1)).1) ?_
    refine Er_run 4 (pc' := bif decide ((lg_cmp (Int32.toInt64 b) (Int32.toInt64 b)) = 0) then 999 else 997) (ls' := [some (.ref sm_S), some (.ref 0), some (.ref 598), some (.ref 624), some (.int (Int32.ofNat i)), some (.int k), some (.int b), u7]) (st' := []) rfl ?_
    refine Er_pc (t := 999) (show (bif decide ((lg_cmp (Int32.toInt64 b) (Int32.toInt64 b)) = 0) then 999 else 997) = 999 from by rw [show (decide ((lg_cmp (Int32.toInt64 b) (Int32.toInt64 b)) = 0)) = true from by rw [jx_cmp0]; exact decide_eq_true rfl]; rfl) ?_
    refine Er_run 1 (pc' := 1071) (ls' := [some (.ref sm_S), some (.ref 0), some (.ref 598), some (.ref 624), some (.int (Int32.ofNat i)), some (.int k), some (.int b), u7]) (st' := []) rfl ?_
    exact kk h2 _ _ _ hv
set_option maxRecDepth 10000 in
theorem lw_count (hs0 : HS L xs c h) (hL : L ≤ 3072) (hi : i + 6 ≤ L) (hok : OKI L xs c h 196 [.ref 0, .int (xs (i + 1)), .ref 624] 181 [.ref 598, .int (xs (i + 1))]) (kk : ∀ (h2 : sm_H) (u5 u6 u7 : Option Value), INV L xs (c + 1) h2 → Ev 197 1071 [some (.ref sm_S), some (.ref 0), some (.ref 598), some (.ref 624), some (.int (Int32.ofNat i)), u5, u6, u7] [] h2 Q) : Ev 197 1002 [some (.ref sm_S), some (.ref 0), some (.ref 598), some (.ref 624), some (.int (Int32.ofNat i)), u5, u6, u7] [] h Q := by
  obtain ⟨k, b, h1, h2, hr, hm, hs1, m1, m2, ht, hb, hv⟩ := hok
  have hs2 := hv.1
  refine Er_run 5 (pc' := 1008) (ls' := [some (.ref sm_S), some (.ref 0), some (.ref 598), some (.ref 624), some (.int (Int32.ofNat i)), u5, u6, u7]) (st' := [.int ((Int32.ofNat i) + ((1 : Int32))), .ref sm_S, .ref 0]) rfl ?_
  refine Er_sal (v := xs (i + 1)) rfl (mr_in (i := i + 1) (k := L) jx_a1 (by omega) (by omega) hs0.2.2.2.2.2.1) (mr_atI jx_a1 (by omega) (congrFun hs0.2.2.2.2.2.2 (i + 1))) ?_
  refine Er_run 1 (pc' := 1010) (ls' := [some (.ref sm_S), some (.ref 0), some (.ref 598), some (.ref 624), some (.int (Int32.ofNat i)), u5, u6, u7]) (st' := [.ref 624, .int (xs (i + 1)), .ref 0]) rfl ?_
  refine Er_sta1 (av := [.ref 0, .int (xs (i + 1)), .ref 624]) (rest := []) rfl rfl ⟨Nat.le_of_ble_eq_true rfl, Nat.le_of_ble_eq_true rfl⟩ rfl rfl hr ?_
  refine Er_run 6 (pc' := 1021) (ls' := [some (.ref sm_S), some (.ref 0), some (.ref 598), some (.ref 624), some (.int (Int32.ofNat i)), some (.int k), u6, u7]) (st' := [.int ((Int32.ofNat i) + ((1 : Int32))), .ref sm_S, .ref 598]) rfl ?_
  refine Er_sal (v := xs (i + 1)) rfl (mr_in (i := i + 1) (k := L) jx_a1 (by omega) (by omega) hs1.2.2.2.2.2.1) (mr_atI jx_a1 (by omega) (congrFun hs1.2.2.2.2.2.2 (i + 1))) ?_
  refine Er_inv1 (q' := 598) (ci := 12) (av := [.int (xs (i + 1))]) (rest := []) rfl rfl ⟨Nat.le_of_ble_eq_true rfl, Nat.le_of_ble_eq_true rfl⟩ rfl rfl m1.1 hm ?_
  refine Er_run 2 (pc' := 1028) (ls' := [some (.ref sm_S), some (.ref 0), some (.ref 598), some (.ref 624), some (.int (Int32.ofNat i)), some (.int k), some (.int b), u7]) (st' := [.ref 598]) rfl ?_
  refine Er_inv1 (q' := 598) (ci := 12) (av := []) (rest := []) rfl rfl ⟨Nat.le_of_ble_eq_true rfl, Nat.le_of_ble_eq_true rfl⟩ rfl rfl m2.1 (s_Ref_thrown m2 ht) ?_
  refine Er_run 2 (pc' := bif decide (k = k) then 1038 else 1036) (ls' := [some (.ref sm_S), some (.ref 0), some (.ref 598), some (.ref 624), some (.int (Int32.ofNat i)), some (.int k), some (.int b), u7]) (st' := []) rfl ?_
  refine Er_pc (t := 1038) (show (bif decide (k = k) then 1038 else 1036) = 1038 from by rw [show (decide (k = k)) = true from decide_eq_true rfl]; rfl) ?_
  refine Er_run 2 (pc' := bif !decide (k = 0) then 1055 else 1043) (ls' := [some (.ref sm_S), some (.ref 0), some (.ref 598), some (.ref 624), some (.int (Int32.ofNat i)), some (.int k), some (.int b), u7]) (st' := []) rfl ?_
  refine Er_if (fun hc1 => ?_) (fun hc1 => ?_)
  · skip
    refine Er_run 1 (pc' := 1071) (ls' := [some (.ref sm_S), some (.ref 0), some (.ref 598), some (.ref 624), some (.int (Int32.ofNat i)), some (.int k), some (.int b), u7]) (st' := []) rfl ?_
    exact kk h2 _ _ _ hv
  · skip
    refine Er_run 2 (pc' := 1045) (ls' := [some (.ref sm_S), some (.ref 0), some (.ref 598), some (.ref 624), some (.int (Int32.ofNat i)), some (.int k), some (.int b), u7]) (st' := [.int ((0 : Int32)), .ref 624]) rfl ?_
    refine Er_lald (v := Int32.toInt64 b) rfl hs2.2.2.2.1 (mr_in (i := 0) (k := 1) rfl (by omega) (by omega) hs2.2.2.2.2.1) (mr_atL (i := 0) rfl (by decide) (hb (kz hc1)).1) ?_
    refine Er_run 4 (pc' := bif decide ((lg_cmp (Int32.toInt64 b) (Int32.toInt64 b)) = 0) then 1055 else 1053) (ls' := [some (.ref sm_S), some (.ref 0), some (.ref 598), some (.ref 624), some (.int (Int32.ofNat i)), some (.int k), some (.int b), u7]) (st' := []) rfl ?_
    refine Er_pc (t := 1055) (show (bif decide ((lg_cmp (Int32.toInt64 b) (Int32.toInt64 b)) = 0) then 1055 else 1053) = 1055 from by rw [show (decide ((lg_cmp (Int32.toInt64 b) (Int32.toInt64 b)) = 0)) = true from by rw [jx_cmp0]; exact decide_eq_true rfl]; rfl) ?_
    refine Er_run 1 (pc' := 1071) (ls' := [some (.ref sm_S), some (.ref 0), some (.ref 598), some (.ref 624), some (.int (Int32.ofNat i)), some (.int k), some (.int b), u7]) (st' := []) rfl ?_
    exact kk h2 _ _ _ hv
set_option maxRecDepth 10000 in
theorem lw_drop0 (hs0 : HS L xs c h) (hL : L ≤ 3072) (hi : i + 6 ≤ L) {k : Int32} {h1 h2 : sm_H} (hr : Run 188 [.ref 0, .int (xs (i + 1)), .ref 624] h (.inl (some (.int k))) h1) (hm : Run 173 [.ref 598, .int (xs (i + 1))] h1 (.inl (some (.int ((0 : Int32))))) h2) (hs1 : HS L xs (c + 1) h1) (m1 : mrO h1 598) (m2 : mrO h2 598) (ht : gI h2 598 18 = k) (hb : k = 0 → gL h2 624 0 = 0) (hv : INV L xs (c + 1) h2) (kk : ∀ (h2 : sm_H) (u5 u6 u7 : Option Value), INV L xs (c + 1) h2 → Ev 197 1071 [some (.ref sm_S), some (.ref 0), some (.ref 598), some (.ref 624), some (.int (Int32.ofNat i)), u5, u6, u7] [] h2 Q) : Ev 197 568 [some (.ref sm_S), some (.ref 0), some (.ref 598), some (.ref 624), some (.int (Int32.ofNat i)), u5, u6, u7] [] h Q := by
  have hs2 := hv.1
  refine Er_run 5 (pc' := 574) (ls' := [some (.ref sm_S), some (.ref 0), some (.ref 598), some (.ref 624), some (.int (Int32.ofNat i)), u5, u6, u7]) (st' := [.int ((Int32.ofNat i) + ((1 : Int32))), .ref sm_S, .ref 0]) rfl ?_
  refine Er_sal (v := xs (i + 1)) rfl (mr_in (i := i + 1) (k := L) jx_a1 (by omega) (by omega) hs0.2.2.2.2.2.1) (mr_atI jx_a1 (by omega) (congrFun hs0.2.2.2.2.2.2 (i + 1))) ?_
  refine Er_run 1 (pc' := 576) (ls' := [some (.ref sm_S), some (.ref 0), some (.ref 598), some (.ref 624), some (.int (Int32.ofNat i)), u5, u6, u7]) (st' := [.ref 624, .int (xs (i + 1)), .ref 0]) rfl ?_
  refine Er_sta1 (av := [.ref 0, .int (xs (i + 1)), .ref 624]) (rest := []) rfl rfl ⟨Nat.le_of_ble_eq_true rfl, Nat.le_of_ble_eq_true rfl⟩ rfl rfl hr ?_
  refine Er_run 6 (pc' := 587) (ls' := [some (.ref sm_S), some (.ref 0), some (.ref 598), some (.ref 624), some (.int (Int32.ofNat i)), some (.int k), u6, u7]) (st' := [.int ((Int32.ofNat i) + ((1 : Int32))), .ref sm_S, .ref 598]) rfl ?_
  refine Er_sal (v := xs (i + 1)) rfl (mr_in (i := i + 1) (k := L) jx_a1 (by omega) (by omega) hs1.2.2.2.2.2.1) (mr_atI jx_a1 (by omega) (congrFun hs1.2.2.2.2.2.2 (i + 1))) ?_
  refine Er_inv1 (q' := 598) (ci := 12) (av := [.int (xs (i + 1))]) (rest := []) rfl rfl ⟨Nat.le_of_ble_eq_true rfl, Nat.le_of_ble_eq_true rfl⟩ rfl rfl m1.1 hm ?_
  refine Er_run 2 (pc' := 594) (ls' := [some (.ref sm_S), some (.ref 0), some (.ref 598), some (.ref 624), some (.int (Int32.ofNat i)), some (.int k), some (.int ((0 : Int32))), u7]) (st' := [.ref 598]) rfl ?_
  refine Er_inv1 (q' := 598) (ci := 12) (av := []) (rest := []) rfl rfl ⟨Nat.le_of_ble_eq_true rfl, Nat.le_of_ble_eq_true rfl⟩ rfl rfl m2.1 (s_Ref_thrown m2 ht) ?_
  refine Er_run 2 (pc' := bif decide (k = k) then 604 else 602) (ls' := [some (.ref sm_S), some (.ref 0), some (.ref 598), some (.ref 624), some (.int (Int32.ofNat i)), some (.int k), some (.int ((0 : Int32))), u7]) (st' := []) rfl ?_
  refine Er_pc (t := 604) (show (bif decide (k = k) then 604 else 602) = 604 from by rw [show (decide (k = k)) = true from decide_eq_true rfl]; rfl) ?_
  refine Er_run 2 (pc' := bif !decide (k = 0) then 628 else 609) (ls' := [some (.ref sm_S), some (.ref 0), some (.ref 598), some (.ref 624), some (.int (Int32.ofNat i)), some (.int k), some (.int ((0 : Int32))), u7]) (st' := []) rfl ?_
  refine Er_if (fun hc1 => ?_) (fun hc1 => ?_)
  · skip
    refine Er_run 1 (pc' := 1071) (ls' := [some (.ref sm_S), some (.ref 0), some (.ref 598), some (.ref 624), some (.int (Int32.ofNat i)), some (.int k), some (.int ((0 : Int32))), u7]) (st' := []) rfl ?_
    exact kk h2 _ _ _ hv
  · skip
    refine Er_run 2 (pc' := 611) (ls' := [some (.ref sm_S), some (.ref 0), some (.ref 598), some (.ref 624), some (.int (Int32.ofNat i)), some (.int k), some (.int ((0 : Int32))), u7]) (st' := [.int ((0 : Int32)), .ref 624]) rfl ?_
    refine Er_lald (v := (0 : Int64)) rfl hs2.2.2.2.1 (mr_in (i := 0) (k := 1) rfl (by omega) (by omega) hs2.2.2.2.2.1) (mr_atL (i := 0) rfl (by decide) (hb (kz hc1))) ?_
    refine Er_run 2 (pc' := bif decide (((0 : Int32)) = 0) then 621 else 617) (ls' := [some (.ref sm_S), some (.ref 0), some (.ref 598), some (.ref 624), some (.int (Int32.ofNat i)), some (.int k), some (.int ((0 : Int32))), u7]) (st' := [.long ((0 : Int64))]) rfl ?_
    refine Er_pc (t := 621) (show (bif decide (((0 : Int32)) = 0) then 621 else 617) = 621 from by rw [show (decide (((0 : Int32)) = 0)) = true from by decide]; rfl) ?_
    refine Er_run 3 (pc' := bif decide ((lg_cmp ((0 : Int64)) ((0 : Int64))) = 0) then 628 else 626) (ls' := [some (.ref sm_S), some (.ref 0), some (.ref 598), some (.ref 624), some (.int (Int32.ofNat i)), some (.int k), some (.int ((0 : Int32))), u7]) (st' := []) rfl ?_
    refine Er_pc (t := 628) (show (bif decide ((lg_cmp ((0 : Int64)) ((0 : Int64))) = 0) then 628 else 626) = 628 from by rw [show (decide ((lg_cmp ((0 : Int64)) ((0 : Int64))) = 0)) = true from by decide]; rfl) ?_
    refine Er_run 1 (pc' := 1071) (ls' := [some (.ref sm_S), some (.ref 0), some (.ref 598), some (.ref 624), some (.int (Int32.ofNat i)), some (.int k), some (.int ((0 : Int32))), u7]) (st' := []) rfl ?_
    exact kk h2 _ _ _ hv
set_option maxRecDepth 10000 in
theorem lw_drop1 (hs0 : HS L xs c h) (hL : L ≤ 3072) (hi : i + 6 ≤ L) {k : Int32} {h1 h2 : sm_H} (hr : Run 188 [.ref 0, .int (xs (i + 1)), .ref 624] h (.inl (some (.int k))) h1) (hm : Run 173 [.ref 598, .int (xs (i + 1))] h1 (.inl (some (.int ((1 : Int32))))) h2) (hs1 : HS L xs (c + 1) h1) (m1 : mrO h1 598) (m2 : mrO h2 598) (ht : gI h2 598 18 = k) (hb : k = 0 → gL h2 624 0 = 1) (hv : INV L xs (c + 1) h2) (kk : ∀ (h2 : sm_H) (u5 u6 u7 : Option Value), INV L xs (c + 1) h2 → Ev 197 1071 [some (.ref sm_S), some (.ref 0), some (.ref 598), some (.ref 624), some (.int (Int32.ofNat i)), u5, u6, u7] [] h2 Q) : Ev 197 568 [some (.ref sm_S), some (.ref 0), some (.ref 598), some (.ref 624), some (.int (Int32.ofNat i)), u5, u6, u7] [] h Q := by
  have hs2 := hv.1
  refine Er_run 5 (pc' := 574) (ls' := [some (.ref sm_S), some (.ref 0), some (.ref 598), some (.ref 624), some (.int (Int32.ofNat i)), u5, u6, u7]) (st' := [.int ((Int32.ofNat i) + ((1 : Int32))), .ref sm_S, .ref 0]) rfl ?_
  refine Er_sal (v := xs (i + 1)) rfl (mr_in (i := i + 1) (k := L) jx_a1 (by omega) (by omega) hs0.2.2.2.2.2.1) (mr_atI jx_a1 (by omega) (congrFun hs0.2.2.2.2.2.2 (i + 1))) ?_
  refine Er_run 1 (pc' := 576) (ls' := [some (.ref sm_S), some (.ref 0), some (.ref 598), some (.ref 624), some (.int (Int32.ofNat i)), u5, u6, u7]) (st' := [.ref 624, .int (xs (i + 1)), .ref 0]) rfl ?_
  refine Er_sta1 (av := [.ref 0, .int (xs (i + 1)), .ref 624]) (rest := []) rfl rfl ⟨Nat.le_of_ble_eq_true rfl, Nat.le_of_ble_eq_true rfl⟩ rfl rfl hr ?_
  refine Er_run 6 (pc' := 587) (ls' := [some (.ref sm_S), some (.ref 0), some (.ref 598), some (.ref 624), some (.int (Int32.ofNat i)), some (.int k), u6, u7]) (st' := [.int ((Int32.ofNat i) + ((1 : Int32))), .ref sm_S, .ref 598]) rfl ?_
  refine Er_sal (v := xs (i + 1)) rfl (mr_in (i := i + 1) (k := L) jx_a1 (by omega) (by omega) hs1.2.2.2.2.2.1) (mr_atI jx_a1 (by omega) (congrFun hs1.2.2.2.2.2.2 (i + 1))) ?_
  refine Er_inv1 (q' := 598) (ci := 12) (av := [.int (xs (i + 1))]) (rest := []) rfl rfl ⟨Nat.le_of_ble_eq_true rfl, Nat.le_of_ble_eq_true rfl⟩ rfl rfl m1.1 hm ?_
  refine Er_run 2 (pc' := 594) (ls' := [some (.ref sm_S), some (.ref 0), some (.ref 598), some (.ref 624), some (.int (Int32.ofNat i)), some (.int k), some (.int ((1 : Int32))), u7]) (st' := [.ref 598]) rfl ?_
  refine Er_inv1 (q' := 598) (ci := 12) (av := []) (rest := []) rfl rfl ⟨Nat.le_of_ble_eq_true rfl, Nat.le_of_ble_eq_true rfl⟩ rfl rfl m2.1 (s_Ref_thrown m2 ht) ?_
  refine Er_run 2 (pc' := bif decide (k = k) then 604 else 602) (ls' := [some (.ref sm_S), some (.ref 0), some (.ref 598), some (.ref 624), some (.int (Int32.ofNat i)), some (.int k), some (.int ((1 : Int32))), u7]) (st' := []) rfl ?_
  refine Er_pc (t := 604) (show (bif decide (k = k) then 604 else 602) = 604 from by rw [show (decide (k = k)) = true from decide_eq_true rfl]; rfl) ?_
  refine Er_run 2 (pc' := bif !decide (k = 0) then 628 else 609) (ls' := [some (.ref sm_S), some (.ref 0), some (.ref 598), some (.ref 624), some (.int (Int32.ofNat i)), some (.int k), some (.int ((1 : Int32))), u7]) (st' := []) rfl ?_
  refine Er_if (fun hc1 => ?_) (fun hc1 => ?_)
  · skip
    refine Er_run 1 (pc' := 1071) (ls' := [some (.ref sm_S), some (.ref 0), some (.ref 598), some (.ref 624), some (.int (Int32.ofNat i)), some (.int k), some (.int ((1 : Int32))), u7]) (st' := []) rfl ?_
    exact kk h2 _ _ _ hv
  · skip
    refine Er_run 2 (pc' := 611) (ls' := [some (.ref sm_S), some (.ref 0), some (.ref 598), some (.ref 624), some (.int (Int32.ofNat i)), some (.int k), some (.int ((1 : Int32))), u7]) (st' := [.int ((0 : Int32)), .ref 624]) rfl ?_
    refine Er_lald (v := (1 : Int64)) rfl hs2.2.2.2.1 (mr_in (i := 0) (k := 1) rfl (by omega) (by omega) hs2.2.2.2.2.1) (mr_atL (i := 0) rfl (by decide) (hb (kz hc1))) ?_
    refine Er_run 2 (pc' := bif decide (((1 : Int32)) = 0) then 621 else 617) (ls' := [some (.ref sm_S), some (.ref 0), some (.ref 598), some (.ref 624), some (.int (Int32.ofNat i)), some (.int k), some (.int ((1 : Int32))), u7]) (st' := [.long ((1 : Int64))]) rfl ?_
    refine Er_pc (t := 617) (show (bif decide (((1 : Int32)) = 0) then 621 else 617) = 617 from by rw [show (decide (((1 : Int32)) = 0)) = false from by decide]; rfl) ?_
    refine Er_run 4 (pc' := bif decide ((lg_cmp ((1 : Int64)) ((1 : Int64))) = 0) then 628 else 626) (ls' := [some (.ref sm_S), some (.ref 0), some (.ref 598), some (.ref 624), some (.int (Int32.ofNat i)), some (.int k), some (.int ((1 : Int32))), u7]) (st' := []) rfl ?_
    refine Er_pc (t := 628) (show (bif decide ((lg_cmp ((1 : Int64)) ((1 : Int64))) = 0) then 628 else 626) = 628 from by rw [show (decide ((lg_cmp ((1 : Int64)) ((1 : Int64))) = 0)) = true from by decide]; rfl) ?_
    refine Er_run 1 (pc' := 1071) (ls' := [some (.ref sm_S), some (.ref 0), some (.ref 598), some (.ref 624), some (.int (Int32.ofNat i)), some (.int k), some (.int ((1 : Int32))), u7]) (st' := []) rfl ?_
    exact kk h2 _ _ _ hv
set_option maxRecDepth 10000 in
theorem lw_dropx (hs0 : HS L xs c h) (hL : L ≤ 3072) (hi : i + 6 ≤ L) {k b : Int32} {h1 h2 : sm_H} (hr : Run 188 [.ref 0, .int (xs (i + 1)), .ref 624] h (.inl (some (.int k))) h1) (hm : Run 173 [.ref 598, .int (xs (i + 1))] h1 (.inl (some (.int b))) h2) (hs1 : HS L xs (c + 1) h1) (m1 : mrO h1 598) (m2 : mrO h2 598) (ht : gI h2 598 18 = k) (hk : ¬ k = 0) (hv : INV L xs (c + 1) h2) (kk : ∀ (h2 : sm_H) (u5 u6 u7 : Option Value), INV L xs (c + 1) h2 → Ev 197 1071 [some (.ref sm_S), some (.ref 0), some (.ref 598), some (.ref 624), some (.int (Int32.ofNat i)), u5, u6, u7] [] h2 Q) : Ev 197 568 [some (.ref sm_S), some (.ref 0), some (.ref 598), some (.ref 624), some (.int (Int32.ofNat i)), u5, u6, u7] [] h Q := by
  have hs2 := hv.1
  refine Er_run 5 (pc' := 574) (ls' := [some (.ref sm_S), some (.ref 0), some (.ref 598), some (.ref 624), some (.int (Int32.ofNat i)), u5, u6, u7]) (st' := [.int ((Int32.ofNat i) + ((1 : Int32))), .ref sm_S, .ref 0]) rfl ?_
  refine Er_sal (v := xs (i + 1)) rfl (mr_in (i := i + 1) (k := L) jx_a1 (by omega) (by omega) hs0.2.2.2.2.2.1) (mr_atI jx_a1 (by omega) (congrFun hs0.2.2.2.2.2.2 (i + 1))) ?_
  refine Er_run 1 (pc' := 576) (ls' := [some (.ref sm_S), some (.ref 0), some (.ref 598), some (.ref 624), some (.int (Int32.ofNat i)), u5, u6, u7]) (st' := [.ref 624, .int (xs (i + 1)), .ref 0]) rfl ?_
  refine Er_sta1 (av := [.ref 0, .int (xs (i + 1)), .ref 624]) (rest := []) rfl rfl ⟨Nat.le_of_ble_eq_true rfl, Nat.le_of_ble_eq_true rfl⟩ rfl rfl hr ?_
  refine Er_run 6 (pc' := 587) (ls' := [some (.ref sm_S), some (.ref 0), some (.ref 598), some (.ref 624), some (.int (Int32.ofNat i)), some (.int k), u6, u7]) (st' := [.int ((Int32.ofNat i) + ((1 : Int32))), .ref sm_S, .ref 598]) rfl ?_
  refine Er_sal (v := xs (i + 1)) rfl (mr_in (i := i + 1) (k := L) jx_a1 (by omega) (by omega) hs1.2.2.2.2.2.1) (mr_atI jx_a1 (by omega) (congrFun hs1.2.2.2.2.2.2 (i + 1))) ?_
  refine Er_inv1 (q' := 598) (ci := 12) (av := [.int (xs (i + 1))]) (rest := []) rfl rfl ⟨Nat.le_of_ble_eq_true rfl, Nat.le_of_ble_eq_true rfl⟩ rfl rfl m1.1 hm ?_
  refine Er_run 2 (pc' := 594) (ls' := [some (.ref sm_S), some (.ref 0), some (.ref 598), some (.ref 624), some (.int (Int32.ofNat i)), some (.int k), some (.int b), u7]) (st' := [.ref 598]) rfl ?_
  refine Er_inv1 (q' := 598) (ci := 12) (av := []) (rest := []) rfl rfl ⟨Nat.le_of_ble_eq_true rfl, Nat.le_of_ble_eq_true rfl⟩ rfl rfl m2.1 (s_Ref_thrown m2 ht) ?_
  refine Er_run 2 (pc' := bif decide (k = k) then 604 else 602) (ls' := [some (.ref sm_S), some (.ref 0), some (.ref 598), some (.ref 624), some (.int (Int32.ofNat i)), some (.int k), some (.int b), u7]) (st' := []) rfl ?_
  refine Er_pc (t := 604) (show (bif decide (k = k) then 604 else 602) = 604 from by rw [show (decide (k = k)) = true from decide_eq_true rfl]; rfl) ?_
  refine Er_run 2 (pc' := bif !decide (k = 0) then 628 else 609) (ls' := [some (.ref sm_S), some (.ref 0), some (.ref 598), some (.ref 624), some (.int (Int32.ofNat i)), some (.int k), some (.int b), u7]) (st' := []) rfl ?_
  refine Er_pc (t := 628) (show (bif !decide (k = 0) then 628 else 609) = 628 from by rw [show (!decide (k = 0)) = true from by rw [decide_eq_false hk]; rfl]; rfl) ?_
  refine Er_run 1 (pc' := 1071) (ls' := [some (.ref sm_S), some (.ref 0), some (.ref 598), some (.ref 624), some (.int (Int32.ofNat i)), some (.int k), some (.int b), u7]) (st' := []) rfl ?_
  exact kk h2 _ _ _ hv
set_option maxRecDepth 10000 in
theorem lw_drop (hs0 : HS L xs c h) (hL : L ≤ 3072) (hi : i + 6 ≤ L) (hok : OKI L xs c h 188 [.ref 0, .int (xs (i + 1)), .ref 624] 173 [.ref 598, .int (xs (i + 1))]) (kk : ∀ (h2 : sm_H) (u5 u6 u7 : Option Value), INV L xs (c + 1) h2 → Ev 197 1071 [some (.ref sm_S), some (.ref 0), some (.ref 598), some (.ref 624), some (.int (Int32.ofNat i)), u5, u6, u7] [] h2 Q) : Ev 197 568 [some (.ref sm_S), some (.ref 0), some (.ref 598), some (.ref 624), some (.int (Int32.ofNat i)), u5, u6, u7] [] h Q := by
  obtain ⟨k, b, h1, h2, hr, hm, hs1, m1, m2, ht, hb, hv⟩ := hok
  by_cases e0 : b = 0
  · subst e0
    exact lw_drop0 hs0 hL hi hr hm hs1 m1 m2 ht (fun e => (hb e).1) hv kk
  · by_cases e1 : b = 1
    · subst e1
      exact lw_drop1 hs0 hL hi hr hm hs1 m1 m2 ht (fun e => (hb e).1) hv kk
    · exact lw_dropx hs0 hL hi hr hm hs1 m1 m2 ht (fun e => by
        rcases (hb e).2 with z | z | z
        · exact e0 z
        · exact e1 z
        · exact z rfl) hv kk
set_option maxRecDepth 10000 in
theorem lw_check (hx : sm_at h 0 21 = true) (m0 : mrO h 598) (hr : Run 149 [.ref 0] h (.inl (some (.int 0))) h) (hv : INV L xs (c + 1) (setI h 598 18 0)) (kk : ∀ (h2 : sm_H) (u5 u6 u7 : Option Value), INV L xs (c + 1) h2 → Ev 197 1071 [some (.ref sm_S), some (.ref 0), some (.ref 598), some (.ref 624), some (.int (Int32.ofNat i)), u5, u6, u7] [] h2 Q) : Ev 197 1058 [some (.ref sm_S), some (.ref 0), some (.ref 598), some (.ref 624), some (.int (Int32.ofNat i)), u5, u6, u7] [] h Q := by
  refine Er_run 1 (pc' := 1059) (ls' := [some (.ref sm_S), some (.ref 0), some (.ref 598), some (.ref 624), some (.int (Int32.ofNat i)), u5, u6, u7]) (st' := [.ref 0]) rfl ?_
  refine Er_inv1 (q' := 0) (ci := 11) (av := []) (rest := []) rfl rfl ⟨Nat.le_of_ble_eq_true rfl, Nat.le_of_ble_eq_true rfl⟩ rfl rfl hx hr ?_
  refine Er_run 1 (pc' := 1063) (ls' := [some (.ref sm_S), some (.ref 0), some (.ref 598), some (.ref 624), some (.int (Int32.ofNat i)), u5, u6, u7]) (st' := [.ref 598, .int ((0 : Int32))]) rfl ?_
  refine Er_inv1 (q' := 598) (ci := 12) (av := []) (rest := [.int ((0 : Int32))]) rfl rfl ⟨Nat.le_of_ble_eq_true rfl, Nat.le_of_ble_eq_true rfl⟩ rfl rfl m0.1 (s_Ref_check m0) ?_
  refine Er_run 1 (pc' := bif decide (((0 : Int32)) = ((0 : Int32))) then 1071 else 1069) (ls' := [some (.ref sm_S), some (.ref 0), some (.ref 598), some (.ref 624), some (.int (Int32.ofNat i)), u5, u6, u7]) (st' := []) rfl ?_
  refine Er_pc (t := 1071) (show (bif decide (((0 : Int32)) = ((0 : Int32))) then 1071 else 1069) = 1071 from by rw [show (decide (((0 : Int32)) = ((0 : Int32)))) = true from by decide]; rfl) ?_
  exact kk _ _ _ _ hv
set_option maxRecDepth 10000 in
theorem lw_next (kk : Ev 197 23 [some (.ref sm_S), some (.ref 0), some (.ref 598), some (.ref 624), some (.int (Int32.ofNat (i + 6))), u5, u6, u7] [] h Q) : Ev 197 1071 [some (.ref sm_S), some (.ref 0), some (.ref 598), some (.ref 624), some (.int (Int32.ofNat i)), u5, u6, u7] [] h Q := by
  refine Er_run 2 (pc' := 23) (ls' := [some (.ref sm_S), some (.ref 0), some (.ref 598), some (.ref 624), some (.int ((Int32.ofNat i) + (6 : Int32))), u5, u6, u7]) (st' := []) rfl ?_
  rw [jx_a6]
  exact kk
set_option maxRecDepth 10000 in
theorem lw_40 (hs0 : HS L xs c h) (hL : L ≤ 3072) (hi : i + 6 ≤ L) (kk : Ev 197 40 [some (.ref sm_S), some (.ref 0), some (.ref 598), some (.ref 624), some (.int (Int32.ofNat i)), u5, u6, u7] [.int (xs i &&& 15)] h Q) : Ev 197 23 [some (.ref sm_S), some (.ref 0), some (.ref 598), some (.ref 624), some (.int (Int32.ofNat i)), u5, u6, u7] [] h Q := by
  refine Er_run 2 (pc' := 26) (ls' := [some (.ref sm_S), some (.ref 0), some (.ref 598), some (.ref 624), some (.int (Int32.ofNat i)), u5, u6, u7]) (st' := [.ref sm_S, .int (Int32.ofNat i)]) rfl ?_
  refine Er_slen rfl hs0.2.2.2.2.2.1 ?_
  refine Er_run 3 (pc' := bif decide (((Int32.ofNat L) - ((6 : Int32))) < (Int32.ofNat i)) then 1077 else 33) (ls' := [some (.ref sm_S), some (.ref 0), some (.ref 598), some (.ref 624), some (.int (Int32.ofNat i)), u5, u6, u7]) (st' := []) rfl ?_
  refine Er_pc (t := 33) (show (bif decide (((Int32.ofNat L) - ((6 : Int32))) < (Int32.ofNat i)) then 1077 else 33) = 33 from by rw [show (decide (((Int32.ofNat L) - ((6 : Int32))) < (Int32.ofNat i))) = false from by rw [show (6 : Int32) = Int32.ofNat 6 from rfl, jx_sub (by omega), jx_lt (by omega) (by omega)]; exact decide_eq_false (by omega)]; rfl) ?_
  refine Er_run 2 (pc' := 36) (ls' := [some (.ref sm_S), some (.ref 0), some (.ref 598), some (.ref 624), some (.int (Int32.ofNat i)), u5, u6, u7]) (st' := [.int (Int32.ofNat i), .ref sm_S]) rfl ?_
  refine Er_sal (v := xs i) rfl (mr_in (i := i) (k := L) rfl (by omega) (by omega) hs0.2.2.2.2.2.1) (mr_atI rfl (by omega) (congrFun hs0.2.2.2.2.2.2 (i))) ?_
  refine Er_run 2 (pc' := 40) (ls' := [some (.ref sm_S), some (.ref 0), some (.ref 598), some (.ref 624), some (.int (Int32.ofNat i)), u5, u6, u7]) (st' := [.int ((xs i) &&& ((15 : Int32)))]) rfl ?_
  exact kk
set_option maxRecDepth 10000 in
theorem lw_s0 (hk : xs i &&& 15 = Int32.ofNat 0) (kk : Ev 197 116 [some (.ref sm_S), some (.ref 0), some (.ref 598), some (.ref 624), some (.int (Int32.ofNat i)), u5, u6, u7] [] h Q) : Ev 197 40 [some (.ref sm_S), some (.ref 0), some (.ref 598), some (.ref 624), some (.int (Int32.ofNat i)), u5, u6, u7] [.int (xs i &&& 15)] h Q := by
  refine Er_run 1 (pc' := sm_sw 0 [116, 260, 316, 416, 484, 568, 631, 675, 723, 759, 807, 851, 946, 1002, 1058] 1071 (xs i &&& 15)) (ls' := [some (.ref sm_S), some (.ref 0), some (.ref 598), some (.ref 624), some (.int (Int32.ofNat i)), u5, u6, u7]) (st' := []) rfl ?_
  refine Er_pc (t := 116) (show sm_sw 0 [116, 260, 316, 416, 484, 568, 631, 675, 723, 759, 807, 851, 946, 1002, 1058] 1071 (xs i &&& 15) = 116 from by rw [hk]; rfl) ?_
  exact kk
set_option maxRecDepth 10000 in
theorem lw_s1 (hk : xs i &&& 15 = Int32.ofNat 1) (kk : Ev 197 260 [some (.ref sm_S), some (.ref 0), some (.ref 598), some (.ref 624), some (.int (Int32.ofNat i)), u5, u6, u7] [] h Q) : Ev 197 40 [some (.ref sm_S), some (.ref 0), some (.ref 598), some (.ref 624), some (.int (Int32.ofNat i)), u5, u6, u7] [.int (xs i &&& 15)] h Q := by
  refine Er_run 1 (pc' := sm_sw 0 [116, 260, 316, 416, 484, 568, 631, 675, 723, 759, 807, 851, 946, 1002, 1058] 1071 (xs i &&& 15)) (ls' := [some (.ref sm_S), some (.ref 0), some (.ref 598), some (.ref 624), some (.int (Int32.ofNat i)), u5, u6, u7]) (st' := []) rfl ?_
  refine Er_pc (t := 260) (show sm_sw 0 [116, 260, 316, 416, 484, 568, 631, 675, 723, 759, 807, 851, 946, 1002, 1058] 1071 (xs i &&& 15) = 260 from by rw [hk]; rfl) ?_
  exact kk
set_option maxRecDepth 10000 in
theorem lw_s2 (hk : xs i &&& 15 = Int32.ofNat 2) (kk : Ev 197 316 [some (.ref sm_S), some (.ref 0), some (.ref 598), some (.ref 624), some (.int (Int32.ofNat i)), u5, u6, u7] [] h Q) : Ev 197 40 [some (.ref sm_S), some (.ref 0), some (.ref 598), some (.ref 624), some (.int (Int32.ofNat i)), u5, u6, u7] [.int (xs i &&& 15)] h Q := by
  refine Er_run 1 (pc' := sm_sw 0 [116, 260, 316, 416, 484, 568, 631, 675, 723, 759, 807, 851, 946, 1002, 1058] 1071 (xs i &&& 15)) (ls' := [some (.ref sm_S), some (.ref 0), some (.ref 598), some (.ref 624), some (.int (Int32.ofNat i)), u5, u6, u7]) (st' := []) rfl ?_
  refine Er_pc (t := 316) (show sm_sw 0 [116, 260, 316, 416, 484, 568, 631, 675, 723, 759, 807, 851, 946, 1002, 1058] 1071 (xs i &&& 15) = 316 from by rw [hk]; rfl) ?_
  exact kk
set_option maxRecDepth 10000 in
theorem lw_s3 (hk : xs i &&& 15 = Int32.ofNat 3) (kk : Ev 197 416 [some (.ref sm_S), some (.ref 0), some (.ref 598), some (.ref 624), some (.int (Int32.ofNat i)), u5, u6, u7] [] h Q) : Ev 197 40 [some (.ref sm_S), some (.ref 0), some (.ref 598), some (.ref 624), some (.int (Int32.ofNat i)), u5, u6, u7] [.int (xs i &&& 15)] h Q := by
  refine Er_run 1 (pc' := sm_sw 0 [116, 260, 316, 416, 484, 568, 631, 675, 723, 759, 807, 851, 946, 1002, 1058] 1071 (xs i &&& 15)) (ls' := [some (.ref sm_S), some (.ref 0), some (.ref 598), some (.ref 624), some (.int (Int32.ofNat i)), u5, u6, u7]) (st' := []) rfl ?_
  refine Er_pc (t := 416) (show sm_sw 0 [116, 260, 316, 416, 484, 568, 631, 675, 723, 759, 807, 851, 946, 1002, 1058] 1071 (xs i &&& 15) = 416 from by rw [hk]; rfl) ?_
  exact kk
set_option maxRecDepth 10000 in
theorem lw_s4 (hk : xs i &&& 15 = Int32.ofNat 4) (kk : Ev 197 484 [some (.ref sm_S), some (.ref 0), some (.ref 598), some (.ref 624), some (.int (Int32.ofNat i)), u5, u6, u7] [] h Q) : Ev 197 40 [some (.ref sm_S), some (.ref 0), some (.ref 598), some (.ref 624), some (.int (Int32.ofNat i)), u5, u6, u7] [.int (xs i &&& 15)] h Q := by
  refine Er_run 1 (pc' := sm_sw 0 [116, 260, 316, 416, 484, 568, 631, 675, 723, 759, 807, 851, 946, 1002, 1058] 1071 (xs i &&& 15)) (ls' := [some (.ref sm_S), some (.ref 0), some (.ref 598), some (.ref 624), some (.int (Int32.ofNat i)), u5, u6, u7]) (st' := []) rfl ?_
  refine Er_pc (t := 484) (show sm_sw 0 [116, 260, 316, 416, 484, 568, 631, 675, 723, 759, 807, 851, 946, 1002, 1058] 1071 (xs i &&& 15) = 484 from by rw [hk]; rfl) ?_
  exact kk
set_option maxRecDepth 10000 in
theorem lw_s5 (hk : xs i &&& 15 = Int32.ofNat 5) (kk : Ev 197 568 [some (.ref sm_S), some (.ref 0), some (.ref 598), some (.ref 624), some (.int (Int32.ofNat i)), u5, u6, u7] [] h Q) : Ev 197 40 [some (.ref sm_S), some (.ref 0), some (.ref 598), some (.ref 624), some (.int (Int32.ofNat i)), u5, u6, u7] [.int (xs i &&& 15)] h Q := by
  refine Er_run 1 (pc' := sm_sw 0 [116, 260, 316, 416, 484, 568, 631, 675, 723, 759, 807, 851, 946, 1002, 1058] 1071 (xs i &&& 15)) (ls' := [some (.ref sm_S), some (.ref 0), some (.ref 598), some (.ref 624), some (.int (Int32.ofNat i)), u5, u6, u7]) (st' := []) rfl ?_
  refine Er_pc (t := 568) (show sm_sw 0 [116, 260, 316, 416, 484, 568, 631, 675, 723, 759, 807, 851, 946, 1002, 1058] 1071 (xs i &&& 15) = 568 from by rw [hk]; rfl) ?_
  exact kk
set_option maxRecDepth 10000 in
theorem lw_s6 (hk : xs i &&& 15 = Int32.ofNat 6) (kk : Ev 197 631 [some (.ref sm_S), some (.ref 0), some (.ref 598), some (.ref 624), some (.int (Int32.ofNat i)), u5, u6, u7] [] h Q) : Ev 197 40 [some (.ref sm_S), some (.ref 0), some (.ref 598), some (.ref 624), some (.int (Int32.ofNat i)), u5, u6, u7] [.int (xs i &&& 15)] h Q := by
  refine Er_run 1 (pc' := sm_sw 0 [116, 260, 316, 416, 484, 568, 631, 675, 723, 759, 807, 851, 946, 1002, 1058] 1071 (xs i &&& 15)) (ls' := [some (.ref sm_S), some (.ref 0), some (.ref 598), some (.ref 624), some (.int (Int32.ofNat i)), u5, u6, u7]) (st' := []) rfl ?_
  refine Er_pc (t := 631) (show sm_sw 0 [116, 260, 316, 416, 484, 568, 631, 675, 723, 759, 807, 851, 946, 1002, 1058] 1071 (xs i &&& 15) = 631 from by rw [hk]; rfl) ?_
  exact kk
set_option maxRecDepth 10000 in
theorem lw_s7 (hk : xs i &&& 15 = Int32.ofNat 7) (kk : Ev 197 675 [some (.ref sm_S), some (.ref 0), some (.ref 598), some (.ref 624), some (.int (Int32.ofNat i)), u5, u6, u7] [] h Q) : Ev 197 40 [some (.ref sm_S), some (.ref 0), some (.ref 598), some (.ref 624), some (.int (Int32.ofNat i)), u5, u6, u7] [.int (xs i &&& 15)] h Q := by
  refine Er_run 1 (pc' := sm_sw 0 [116, 260, 316, 416, 484, 568, 631, 675, 723, 759, 807, 851, 946, 1002, 1058] 1071 (xs i &&& 15)) (ls' := [some (.ref sm_S), some (.ref 0), some (.ref 598), some (.ref 624), some (.int (Int32.ofNat i)), u5, u6, u7]) (st' := []) rfl ?_
  refine Er_pc (t := 675) (show sm_sw 0 [116, 260, 316, 416, 484, 568, 631, 675, 723, 759, 807, 851, 946, 1002, 1058] 1071 (xs i &&& 15) = 675 from by rw [hk]; rfl) ?_
  exact kk
set_option maxRecDepth 10000 in
theorem lw_s8 (hk : xs i &&& 15 = Int32.ofNat 8) (kk : Ev 197 723 [some (.ref sm_S), some (.ref 0), some (.ref 598), some (.ref 624), some (.int (Int32.ofNat i)), u5, u6, u7] [] h Q) : Ev 197 40 [some (.ref sm_S), some (.ref 0), some (.ref 598), some (.ref 624), some (.int (Int32.ofNat i)), u5, u6, u7] [.int (xs i &&& 15)] h Q := by
  refine Er_run 1 (pc' := sm_sw 0 [116, 260, 316, 416, 484, 568, 631, 675, 723, 759, 807, 851, 946, 1002, 1058] 1071 (xs i &&& 15)) (ls' := [some (.ref sm_S), some (.ref 0), some (.ref 598), some (.ref 624), some (.int (Int32.ofNat i)), u5, u6, u7]) (st' := []) rfl ?_
  refine Er_pc (t := 723) (show sm_sw 0 [116, 260, 316, 416, 484, 568, 631, 675, 723, 759, 807, 851, 946, 1002, 1058] 1071 (xs i &&& 15) = 723 from by rw [hk]; rfl) ?_
  exact kk
set_option maxRecDepth 10000 in
theorem lw_s9 (hk : xs i &&& 15 = Int32.ofNat 9) (kk : Ev 197 759 [some (.ref sm_S), some (.ref 0), some (.ref 598), some (.ref 624), some (.int (Int32.ofNat i)), u5, u6, u7] [] h Q) : Ev 197 40 [some (.ref sm_S), some (.ref 0), some (.ref 598), some (.ref 624), some (.int (Int32.ofNat i)), u5, u6, u7] [.int (xs i &&& 15)] h Q := by
  refine Er_run 1 (pc' := sm_sw 0 [116, 260, 316, 416, 484, 568, 631, 675, 723, 759, 807, 851, 946, 1002, 1058] 1071 (xs i &&& 15)) (ls' := [some (.ref sm_S), some (.ref 0), some (.ref 598), some (.ref 624), some (.int (Int32.ofNat i)), u5, u6, u7]) (st' := []) rfl ?_
  refine Er_pc (t := 759) (show sm_sw 0 [116, 260, 316, 416, 484, 568, 631, 675, 723, 759, 807, 851, 946, 1002, 1058] 1071 (xs i &&& 15) = 759 from by rw [hk]; rfl) ?_
  exact kk
set_option maxRecDepth 10000 in
theorem lw_s10 (hk : xs i &&& 15 = Int32.ofNat 10) (kk : Ev 197 807 [some (.ref sm_S), some (.ref 0), some (.ref 598), some (.ref 624), some (.int (Int32.ofNat i)), u5, u6, u7] [] h Q) : Ev 197 40 [some (.ref sm_S), some (.ref 0), some (.ref 598), some (.ref 624), some (.int (Int32.ofNat i)), u5, u6, u7] [.int (xs i &&& 15)] h Q := by
  refine Er_run 1 (pc' := sm_sw 0 [116, 260, 316, 416, 484, 568, 631, 675, 723, 759, 807, 851, 946, 1002, 1058] 1071 (xs i &&& 15)) (ls' := [some (.ref sm_S), some (.ref 0), some (.ref 598), some (.ref 624), some (.int (Int32.ofNat i)), u5, u6, u7]) (st' := []) rfl ?_
  refine Er_pc (t := 807) (show sm_sw 0 [116, 260, 316, 416, 484, 568, 631, 675, 723, 759, 807, 851, 946, 1002, 1058] 1071 (xs i &&& 15) = 807 from by rw [hk]; rfl) ?_
  exact kk
set_option maxRecDepth 10000 in
theorem lw_s11 (hk : xs i &&& 15 = Int32.ofNat 11) (kk : Ev 197 851 [some (.ref sm_S), some (.ref 0), some (.ref 598), some (.ref 624), some (.int (Int32.ofNat i)), u5, u6, u7] [] h Q) : Ev 197 40 [some (.ref sm_S), some (.ref 0), some (.ref 598), some (.ref 624), some (.int (Int32.ofNat i)), u5, u6, u7] [.int (xs i &&& 15)] h Q := by
  refine Er_run 1 (pc' := sm_sw 0 [116, 260, 316, 416, 484, 568, 631, 675, 723, 759, 807, 851, 946, 1002, 1058] 1071 (xs i &&& 15)) (ls' := [some (.ref sm_S), some (.ref 0), some (.ref 598), some (.ref 624), some (.int (Int32.ofNat i)), u5, u6, u7]) (st' := []) rfl ?_
  refine Er_pc (t := 851) (show sm_sw 0 [116, 260, 316, 416, 484, 568, 631, 675, 723, 759, 807, 851, 946, 1002, 1058] 1071 (xs i &&& 15) = 851 from by rw [hk]; rfl) ?_
  exact kk
set_option maxRecDepth 10000 in
theorem lw_s12 (hk : xs i &&& 15 = Int32.ofNat 12) (kk : Ev 197 946 [some (.ref sm_S), some (.ref 0), some (.ref 598), some (.ref 624), some (.int (Int32.ofNat i)), u5, u6, u7] [] h Q) : Ev 197 40 [some (.ref sm_S), some (.ref 0), some (.ref 598), some (.ref 624), some (.int (Int32.ofNat i)), u5, u6, u7] [.int (xs i &&& 15)] h Q := by
  refine Er_run 1 (pc' := sm_sw 0 [116, 260, 316, 416, 484, 568, 631, 675, 723, 759, 807, 851, 946, 1002, 1058] 1071 (xs i &&& 15)) (ls' := [some (.ref sm_S), some (.ref 0), some (.ref 598), some (.ref 624), some (.int (Int32.ofNat i)), u5, u6, u7]) (st' := []) rfl ?_
  refine Er_pc (t := 946) (show sm_sw 0 [116, 260, 316, 416, 484, 568, 631, 675, 723, 759, 807, 851, 946, 1002, 1058] 1071 (xs i &&& 15) = 946 from by rw [hk]; rfl) ?_
  exact kk
set_option maxRecDepth 10000 in
theorem lw_s13 (hk : xs i &&& 15 = Int32.ofNat 13) (kk : Ev 197 1002 [some (.ref sm_S), some (.ref 0), some (.ref 598), some (.ref 624), some (.int (Int32.ofNat i)), u5, u6, u7] [] h Q) : Ev 197 40 [some (.ref sm_S), some (.ref 0), some (.ref 598), some (.ref 624), some (.int (Int32.ofNat i)), u5, u6, u7] [.int (xs i &&& 15)] h Q := by
  refine Er_run 1 (pc' := sm_sw 0 [116, 260, 316, 416, 484, 568, 631, 675, 723, 759, 807, 851, 946, 1002, 1058] 1071 (xs i &&& 15)) (ls' := [some (.ref sm_S), some (.ref 0), some (.ref 598), some (.ref 624), some (.int (Int32.ofNat i)), u5, u6, u7]) (st' := []) rfl ?_
  refine Er_pc (t := 1002) (show sm_sw 0 [116, 260, 316, 416, 484, 568, 631, 675, 723, 759, 807, 851, 946, 1002, 1058] 1071 (xs i &&& 15) = 1002 from by rw [hk]; rfl) ?_
  exact kk
set_option maxRecDepth 10000 in
theorem lw_s14 (hk : xs i &&& 15 = Int32.ofNat 14) (kk : Ev 197 1058 [some (.ref sm_S), some (.ref 0), some (.ref 598), some (.ref 624), some (.int (Int32.ofNat i)), u5, u6, u7] [] h Q) : Ev 197 40 [some (.ref sm_S), some (.ref 0), some (.ref 598), some (.ref 624), some (.int (Int32.ofNat i)), u5, u6, u7] [.int (xs i &&& 15)] h Q := by
  refine Er_run 1 (pc' := sm_sw 0 [116, 260, 316, 416, 484, 568, 631, 675, 723, 759, 807, 851, 946, 1002, 1058] 1071 (xs i &&& 15)) (ls' := [some (.ref sm_S), some (.ref 0), some (.ref 598), some (.ref 624), some (.int (Int32.ofNat i)), u5, u6, u7]) (st' := []) rfl ?_
  refine Er_pc (t := 1058) (show sm_sw 0 [116, 260, 316, 416, 484, 568, 631, 675, 723, 759, 807, 851, 946, 1002, 1058] 1071 (xs i &&& 15) = 1058 from by rw [hk]; rfl) ?_
  exact kk
set_option maxRecDepth 10000 in
theorem lw_s15 (hk : xs i &&& 15 = Int32.ofNat 15) (kk : Ev 197 1071 [some (.ref sm_S), some (.ref 0), some (.ref 598), some (.ref 624), some (.int (Int32.ofNat i)), u5, u6, u7] [] h Q) : Ev 197 40 [some (.ref sm_S), some (.ref 0), some (.ref 598), some (.ref 624), some (.int (Int32.ofNat i)), u5, u6, u7] [.int (xs i &&& 15)] h Q := by
  refine Er_run 1 (pc' := sm_sw 0 [116, 260, 316, 416, 484, 568, 631, 675, 723, 759, 807, 851, 946, 1002, 1058] 1071 (xs i &&& 15)) (ls' := [some (.ref sm_S), some (.ref 0), some (.ref 598), some (.ref 624), some (.int (Int32.ofNat i)), u5, u6, u7]) (st' := []) rfl ?_
  refine Er_pc (t := 1071) (show sm_sw 0 [116, 260, 316, 416, 484, 568, 631, 675, 723, 759, 807, 851, 946, 1002, 1058] 1071 (xs i &&& 15) = 1071 from by rw [hk]; rfl) ?_
  exact kk
set_option maxRecDepth 10000 in
theorem lw_e1 (hs0 : HS L xs c h) (hL : L ≤ 3072) (hi : L < i + 6) (hl6 : 6 ≤ L) (hi2 : i ≤ 4000) (hq : Q (.inl (some (.int 1))) h) : Ev 197 23 [some (.ref sm_S), some (.ref 0), some (.ref 598), some (.ref 624), some (.int (Int32.ofNat i)), u5, u6, u7] [] h Q := by
  refine Er_run 2 (pc' := 26) (ls' := [some (.ref sm_S), some (.ref 0), some (.ref 598), some (.ref 624), some (.int (Int32.ofNat i)), u5, u6, u7]) (st' := [.ref sm_S, .int (Int32.ofNat i)]) rfl ?_
  refine Er_slen rfl hs0.2.2.2.2.2.1 ?_
  refine Er_run 3 (pc' := bif decide (((Int32.ofNat L) - ((6 : Int32))) < (Int32.ofNat i)) then 1077 else 33) (ls' := [some (.ref sm_S), some (.ref 0), some (.ref 598), some (.ref 624), some (.int (Int32.ofNat i)), u5, u6, u7]) (st' := []) rfl ?_
  refine Er_pc (t := 1077) (show (bif decide (((Int32.ofNat L) - ((6 : Int32))) < (Int32.ofNat i)) then 1077 else 33) = 1077 from by rw [show (decide (((Int32.ofNat L) - ((6 : Int32))) < (Int32.ofNat i))) = true from by rw [show (6 : Int32) = Int32.ofNat 6 from rfl, jx_sub (by omega), jx_lt (by omega) (by omega)]; exact decide_eq_true (by omega)]; rfl) ?_
  refine Er_run 1 (pc' := 1078) (ls' := [some (.ref sm_S), some (.ref 0), some (.ref 598), some (.ref 624), some (.int (Int32.ofNat i)), u5, u6, u7]) (st' := [.int ((1 : Int32))]) rfl ?_
  exact Er_fin rfl rfl hq
theorem neg6 : ∀ L, L < 6 → decide (Int32.ofNat L - (6 : Int32) < Int32.ofNat 0) = true := by decide
set_option maxRecDepth 10000 in
theorem lw_e0 (hs0 : HS L xs c h) (hl6 : L < 6) (hq : Q (.inl (some (.int 1))) h) : Ev 197 23 [some (.ref sm_S), some (.ref 0), some (.ref 598), some (.ref 624), some (.int (Int32.ofNat 0)), u5, u6, u7] [] h Q := by
  refine Er_run 2 (pc' := 26) (ls' := [some (.ref sm_S), some (.ref 0), some (.ref 598), some (.ref 624), some (.int (Int32.ofNat 0)), u5, u6, u7]) (st' := [.ref sm_S, .int (Int32.ofNat 0)]) rfl ?_
  refine Er_slen rfl hs0.2.2.2.2.2.1 ?_
  refine Er_run 3 (pc' := bif decide (((Int32.ofNat L) - ((6 : Int32))) < (Int32.ofNat 0)) then 1077 else 33) (ls' := [some (.ref sm_S), some (.ref 0), some (.ref 598), some (.ref 624), some (.int (Int32.ofNat 0)), u5, u6, u7]) (st' := []) rfl ?_
  refine Er_pc (t := 1077) (show (bif decide (((Int32.ofNat L) - ((6 : Int32))) < (Int32.ofNat 0)) then 1077 else 33) = 1077 from by rw [show (decide (((Int32.ofNat L) - ((6 : Int32))) < (Int32.ofNat 0))) = true from neg6 L hl6]; rfl) ?_
  refine Er_run 1 (pc' := 1078) (ls' := [some (.ref sm_S), some (.ref 0), some (.ref 598), some (.ref 624), some (.int (Int32.ofNat 0)), u5, u6, u7]) (st' := [.int ((1 : Int32))]) rfl ?_
  exact Er_fin rfl rfl hq
end LAW
