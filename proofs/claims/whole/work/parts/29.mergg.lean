section MERGG
variable {h : sm_H} {a b n m : Nat} {l : List (Int64 × Int64)}
theorem Run_of {M : Nat} {av : List Value} {Q : sm_R → sm_H → Prop} (hl : (sm_ent av).length ≤ sm_prog.2.1 M) (k : Ev M 0 (sm_pad (sm_ent av) (sm_prog.2.1 M)) [] h Q) : ∃ r h', Run M av h r h' ∧ Q r h' := by
  obtain ⟨f, r, h', hx, hq⟩ := k
  exact ⟨r, h', ⟨hl, f, r, h', hx, rfl, rfl⟩, hq⟩

theorem s_min {i j : Nat} (hi : i < 2147483648) (hj : j < 2147483648) : Run 199 [.int (Int32.ofNat i), .int (Int32.ofNat j)] h (.inl (some (.int (Int32.ofNat (min i j))))) h := by
  refine ⟨Nat.le_of_ble_eq_true rfl, ?_⟩
  show Ev 199 0 [some (.int (Int32.ofNat i)), some (.int (Int32.ofNat j))] [] h _
  refine Er_run 3 (pc' := bif decide ((Int32.ofNat j) < (Int32.ofNat i)) then 9 else 5) (ls' := [some (.int (Int32.ofNat i)), some (.int (Int32.ofNat j))]) (st' := []) rfl ?_
  refine Er_if (fun hc1 => ?_) (fun hc1 => ?_)
  · skip
    refine Er_run 1 (pc' := 10) (ls' := [some (.int (Int32.ofNat i)), some (.int (Int32.ofNat j))]) (st' := [.int (Int32.ofNat j)]) rfl ?_
    exact Er_fin rfl rfl ⟨by rw [jx_lt hj hi] at hc1; first | rw [Nat.min_eq_left (by have := of_decide_eq_false hc1; omega)] | rw [Nat.min_eq_right (by have := of_decide_eq_true hc1; omega)], rfl⟩
  · skip
    refine Er_run 2 (pc' := 10) (ls' := [some (.int (Int32.ofNat i)), some (.int (Int32.ofNat j))]) (st' := [.int (Int32.ofNat i)]) rfl ?_
    exact Er_fin rfl rfl ⟨by rw [jx_lt hj hi] at hc1; first | rw [Nat.min_eq_left (by have := of_decide_eq_false hc1; omega)] | rw [Nat.min_eq_right (by have := of_decide_eq_true hc1; omega)], rfl⟩
theorem s_merge {f w : Nat} {out : List (Int64 × Int64)} (hp : PL h a n l) (hb : isP h b m) (hm : m ≤ 100000) (hd : a + 3 ≤ b ∨ b + 3 ≤ a) (hml : l.length ≤ m) (hs : SC h b out) (ho : out.length = f) (h0 : f ≤ l.length) (hw : w ≤ 1000000) : ∃ h', Run 11 [.ref a, .ref b, .int (Int32.ofNat f), .int (Int32.ofNat w)] h (.inl none) h' ∧ SC h' b (out ++ List.merge ((l.drop f).take (min (f + w) l.length - f)) ((l.drop (min (f + w) l.length)).take (min (min (f + w) l.length + w) l.length - min (f + w) l.length)) jx_kle) ∧ Fr (b + 1) (b + 3) h h' := by
  have hn := hp.2.1
  have hln := hp.2.2.1
  have h1 : f + w < 2147483648 := by omega
  have h2 : min (f + w) l.length + w < 2147483648 := by omega
  have hx : Ev 11 0 (sm_pad (sm_ent [.ref a, .ref b, .int (Int32.ofNat f), .int (Int32.ofNat w)]) (sm_prog.2.1 11)) [] h (fun r h1 => r = .inl none ∧ SC h1 b (out ++ List.merge ((l.drop f).take (min (f + w) l.length - f)) ((l.drop (min (f + w) l.length)).take (min (min (f + w) l.length + w) l.length - min (f + w) l.length)) jx_kle) ∧ Fr (b + 1) (b + 3) h h1) := by
    show Ev 11 0 [some (.ref a), some (.ref b), some (.int (Int32.ofNat f)), some (.int (Int32.ofNat w)), none, none, none, none, none, none, none] [] h _
    refine Er_run 4 (pc' := 4) (ls' := [some (.ref a), some (.ref b), some (.int (Int32.ofNat f)), some (.int (Int32.ofNat w)), none, none, none, none, none, none, none]) (st' := [.ref a, .int ((Int32.ofNat f) + (Int32.ofNat w))]) rfl ?_
    refine Er_getI (v := Int32.ofNat l.length) rfl hp.1.1 hp.2.2.2.1 ?_
    refine Er_sta1 (av := [.int ((Int32.ofNat f) + (Int32.ofNat w)), .int (Int32.ofNat l.length)]) (rest := []) rfl rfl ⟨Nat.le_of_ble_eq_true rfl, Nat.le_of_ble_eq_true rfl⟩ rfl rfl (by rw [← Int32.ofNat_add]; exact s_min (by omega) (by omega)) ?_
    refine Er_run 5 (pc' := 17) (ls' := [some (.ref a), some (.ref b), some (.int (Int32.ofNat f)), some (.int (Int32.ofNat w)), some (.int (Int32.ofNat (min (f + w) l.length))), none, none, none, none, none, none]) (st' := [.ref a, .int ((Int32.ofNat (min (f + w) l.length)) + (Int32.ofNat w))]) rfl ?_
    refine Er_getI (v := Int32.ofNat l.length) rfl hp.1.1 hp.2.2.2.1 ?_
    refine Er_sta1 (av := [.int ((Int32.ofNat (min (f + w) l.length)) + (Int32.ofNat w)), .int (Int32.ofNat l.length)]) (rest := []) rfl rfl ⟨Nat.le_of_ble_eq_true rfl, Nat.le_of_ble_eq_true rfl⟩ rfl rfl (by rw [← Int32.ofNat_add]; exact s_min (by omega) (by omega)) ?_
    refine Er_run 7 (pc' := 35) (ls' := [some (.ref a), some (.ref b), some (.int (Int32.ofNat f)), some (.int (Int32.ofNat w)), some (.int (Int32.ofNat (min (f + w) l.length))), some (.int (Int32.ofNat (min (min (f + w) l.length + w) l.length))), some (.int (Int32.ofNat f)), some (.int (Int32.ofNat (min (f + w) l.length))), some (.int (Int32.ofNat f)), none, none]) (st' := []) rfl ?_
    rw [← ho]
    rw [← ho] at h0 h1 h2
    exact l_merge (md := min (out.length + w) l.length) (en := min (min (out.length + w) l.length + w) l.length) hm hd (by omega) hml (by omega) (min (min (out.length + w) l.length + w) l.length - out.length) h out.length (min (out.length + w) l.length) out none none hp hb hs (by omega) (by omega) (by omega) (by omega)
  obtain ⟨r, h', hr, e, hq⟩ := Run_of (Nat.le_of_ble_eq_true rfl) hx
  subst e
  exact ⟨h', hr, hq⟩
end MERGG
