/-! words of callees and of calls: by their places -/
theorem sm_mz {w : Cond} (i : Nat) (h : (k2_sels lw_privs)[i]? = some w) : w ∈ lw_tbl := List.mem_append_left _ (List.mem_of_getElem? h)
theorem sm_m1 {w : Cond} (i : Nat) (h : tables_1_1[i]? = some w) : w ∈ lw_tbl := by
  have h := List.mem_of_getElem? h
  show w ∈ k2_sels lw_privs ++ (tables_1_1 ++ (tables_1_2 ++ (tables_1_3 ++ (tables_1_4 ++ (tables_1_5 ++ (tables_1_6 ++ tables_1_7))))))
  simp only [List.mem_append, h, true_or, or_true]
theorem sm_m2 {w : Cond} (i : Nat) (h : tables_1_2[i]? = some w) : w ∈ lw_tbl := by
  have h := List.mem_of_getElem? h
  show w ∈ k2_sels lw_privs ++ (tables_1_1 ++ (tables_1_2 ++ (tables_1_3 ++ (tables_1_4 ++ (tables_1_5 ++ (tables_1_6 ++ tables_1_7))))))
  simp only [List.mem_append, h, true_or, or_true]
theorem sm_m3 {w : Cond} (i : Nat) (h : tables_1_3[i]? = some w) : w ∈ lw_tbl := by
  have h := List.mem_of_getElem? h
  show w ∈ k2_sels lw_privs ++ (tables_1_1 ++ (tables_1_2 ++ (tables_1_3 ++ (tables_1_4 ++ (tables_1_5 ++ (tables_1_6 ++ tables_1_7))))))
  simp only [List.mem_append, h, true_or, or_true]
theorem sm_m4 {w : Cond} (i : Nat) (h : tables_1_4[i]? = some w) : w ∈ lw_tbl := by
  have h := List.mem_of_getElem? h
  show w ∈ k2_sels lw_privs ++ (tables_1_1 ++ (tables_1_2 ++ (tables_1_3 ++ (tables_1_4 ++ (tables_1_5 ++ (tables_1_6 ++ tables_1_7))))))
  simp only [List.mem_append, h, true_or, or_true]
theorem sm_m5 {w : Cond} (i : Nat) (h : tables_1_5[i]? = some w) : w ∈ lw_tbl := by
  have h := List.mem_of_getElem? h
  show w ∈ k2_sels lw_privs ++ (tables_1_1 ++ (tables_1_2 ++ (tables_1_3 ++ (tables_1_4 ++ (tables_1_5 ++ (tables_1_6 ++ tables_1_7))))))
  simp only [List.mem_append, h, true_or, or_true]
theorem sm_m6 {w : Cond} (i : Nat) (h : tables_1_6[i]? = some w) : w ∈ lw_tbl := by
  have h := List.mem_of_getElem? h
  show w ∈ k2_sels lw_privs ++ (tables_1_1 ++ (tables_1_2 ++ (tables_1_3 ++ (tables_1_4 ++ (tables_1_5 ++ (tables_1_6 ++ tables_1_7))))))
  simp only [List.mem_append, h, true_or, or_true]
theorem sm_m7 {w : Cond} (i : Nat) (h : tables_1_7[i]? = some w) : w ∈ lw_tbl := by
  have h := List.mem_of_getElem? h
  show w ∈ k2_sels lw_privs ++ (tables_1_1 ++ (tables_1_2 ++ (tables_1_3 ++ (tables_1_4 ++ (tables_1_5 ++ (tables_1_6 ++ tables_1_7))))))
  simp only [List.mem_append, h, true_or, or_true]
def sm_sta : List Bool := [false, false, false, false, false, false, false, false, false, false, false, false, false, true, true, false, false, false, false, false, false, false, false, false, false, false, false, false, false, false, false, false, false, false, false, false, false, false, false, false, false, false, false, false, false, false, false, false, false, false, false, false, false, false, false, false, false, false, false, false, false, false, false, false, false, false, false, false, false, false, false, false, false, false, false, false, false, false, false, false, false, false, false, false, false, false, false, false, false, false, false, false, false, false, false, false, false, false, false, false, false, false, false, false, false, false, false, false, false, false, false, false, false, false, false, false, false, false, false, false, false, false, false, false, false, false, false, false, false, false, false, false, false, false, false, false, false, false, false, false, false, false, false, false, false, false, false, false, false, false, false, false, false, false, true, true, true, true, false, false, false, true, false, false, false, false, false, true, false, false, false, false, false, false, false, false, false, false, false, false, false, false, false, true, true, true, true, true, true, true, true, true, true, true, true, true, true, true, true, true, true, true]
def sm_vir : List Bool := [false, true, true, true, true, true, true, true, true, true, true, true, false, false, false, true, true, true, true, true, true, true, false, true, true, true, true, true, true, true, true, true, true, false, true, true, true, true, true, true, true, true, true, true, true, true, true, true, true, false, true, true, true, true, true, true, true, true, true, true, true, true, false, true, true, true, true, true, true, false, true, true, true, true, true, true, true, false, true, true, true, true, true, true, true, true, true, false, true, true, true, true, true, true, true, true, true, true, true, true, true, true, true, true, true, true, true, false, true, true, true, true, true, true, true, true, true, true, false, true, true, true, true, true, true, true, true, true, true, true, true, true, true, true, false, true, true, true, true, true, true, true, true, true, true, true, true, true, true, true, true, true, true, true, false, false, false, false, false, true, true, false, true, true, true, true, true, false, true, true, true, true, true, true, true, true, true, true, true, true, true, true, true, false, false, false, false, false, false, false, false, false, false, false, false, false, false, false, false, false, false, false]
def sm_ini : List Bool := [true, false, false, false, false, false, false, false, false, false, false, false, true, false, false, false, false, false, false, false, false, false, true, false, false, false, false, false, false, false, false, false, false, true, false, false, false, false, false, false, false, false, false, false, false, false, false, false, false, true, false, false, false, false, false, false, false, false, false, false, false, false, true, false, false, false, false, false, false, true, false, false, false, false, false, false, false, true, false, false, false, false, false, false, false, false, false, true, false, false, false, false, false, false, false, false, false, false, false, false, false, false, false, false, false, false, false, true, false, false, false, false, false, false, false, false, false, false, true, false, false, false, false, false, false, false, false, false, false, false, false, false, false, false, true, false, false, false, false, false, false, false, false, false, false, false, false, false, false, false, false, false, false, false, false, false, false, false, true, false, false, false, false, false, false, false, false, false, false, false, false, false, false, false, false, false, false, false, false, false, false, false, false, false, false, false, false, false, false, false, false, false, false, false, false, false, false, false, false, false, false, false]
def sm_np : List Nat := [1, 0, 0, 0, 1, 1, 2, 1, 1, 2, 1, 3, 0, 1, 1, 0, 0, 1, 1, 2, 1, 0, 0, 1, 0, 4, 0, 1, 0, 0, 0, 0, 1, 0, 1, 1, 0, 0, 1, 1, 0, 1, 0, 1, 1, 1, 2, 2, 2, 0, 0, 5, 3, 2, 0, 2, 1, 1, 2, 0, 1, 0, 0, 5, 1, 1, 1, 4, 1, 0, 0, 2, 1, 1, 1, 1, 1, 0, 0, 0, 1, 1, 1, 1, 2, 2, 0, 3, 0, 0, 0, 0, 0, 1, 1, 1, 1, 4, 1, 0, 0, 0, 0, 0, 0, 1, 2, 0, 0, 4, 0, 0, 0, 1, 1, 1, 1, 0, 3, 0, 0, 0, 0, 3, 0, 0, 1, 0, 1, 1, 1, 1, 0, 1, 0, 3, 1, 2, 2, 5, 1, 0, 2, 1, 2, 0, 3, 1, 1, 0, 1, 1, 0, 0, 1, 1, 1, 1, 0, 0, 7, 4, 3, 2, 1, 2, 0, 3, 3, 1, 2, 2, 5, 1, 0, 2, 1, 2, 0, 3, 1, 1, 0, 5, 3, 4, 4, 6, 3, 2, 3, 2, 3, 2, 5, 3, 3, 1, 2, 2, 2, 2]
set_option maxRecDepth 20000 in
theorem mc_0 : Cond.initialized (sm_cn.getD 0 "") ∈ lw_tbl := sm_m1 3 rfl
set_option maxRecDepth 20000 in
theorem mc_1 : Cond.initialized (sm_cn.getD 1 "") ∈ lw_tbl := sm_m1 5 rfl
set_option maxRecDepth 20000 in
theorem mc_2 : Cond.initialized (sm_cn.getD 2 "") ∈ lw_tbl := sm_m1 4 rfl
set_option maxRecDepth 20000 in
theorem mc_3 : Cond.initialized (sm_cn.getD 3 "") ∈ lw_tbl := sm_m1 2 rfl
set_option maxRecDepth 20000 in
theorem mc_4 : Cond.initialized (sm_cn.getD 4 "") ∈ lw_tbl := sm_m1 13 rfl
set_option maxRecDepth 20000 in
theorem mc_5 : Cond.initialized (sm_cn.getD 5 "") ∈ lw_tbl := sm_m1 7 rfl
set_option maxRecDepth 20000 in
theorem mc_6 : Cond.initialized (sm_cn.getD 6 "") ∈ lw_tbl := sm_m1 6 rfl
set_option maxRecDepth 20000 in
theorem mc_7 : Cond.initialized (sm_cn.getD 7 "") ∈ lw_tbl := sm_m1 11 rfl
set_option maxRecDepth 20000 in
theorem mc_8 : Cond.initialized (sm_cn.getD 8 "") ∈ lw_tbl := sm_m1 10 rfl
set_option maxRecDepth 20000 in
theorem mc_9 : Cond.initialized (sm_cn.getD 9 "") ∈ lw_tbl := sm_m1 8 rfl
set_option maxRecDepth 20000 in
theorem mc_10 : Cond.initialized (sm_cn.getD 10 "") ∈ lw_tbl := sm_m1 9 rfl
set_option maxRecDepth 20000 in
theorem mc_11 : Cond.initialized (sm_cn.getD 11 "") ∈ lw_tbl := sm_m1 1 rfl
set_option maxRecDepth 20000 in
theorem mc_12 : Cond.initialized (sm_cn.getD 12 "") ∈ lw_tbl := sm_m1 14 rfl
set_option maxRecDepth 20000 in
theorem mc_13 : Cond.initialized (sm_cn.getD 13 "") ∈ lw_tbl := sm_m1 0 rfl
set_option maxRecDepth 20000 in
theorem mc_14 : Cond.initialized (sm_cn.getD 14 "") ∈ lw_tbl := sm_m1 23 rfl
set_option maxRecDepth 20000 in
theorem mc_15 : Cond.initialized (sm_cn.getD 15 "") ∈ lw_tbl := sm_m1 12 rfl
theorem sm_inz : ∀ oc, oc < 16 → Cond.initialized (sm_cn.getD oc "") ∈ lw_tbl
  | 0, _ => mc_0
  | 1, _ => mc_1
  | 2, _ => mc_2
  | 3, _ => mc_3
  | 4, _ => mc_4
  | 5, _ => mc_5
  | 6, _ => mc_6
  | 7, _ => mc_7
  | 8, _ => mc_8
  | 9, _ => mc_9
  | 10, _ => mc_10
  | 11, _ => mc_11
  | 12, _ => mc_12
  | 13, _ => mc_13
  | 14, _ => mc_14
  | 15, _ => mc_15
  | n + 16, h => absurd h (by omega)
set_option maxRecDepth 20000 in
theorem mw_0 : sm_cw (sm_mi 0).1 (sm_mi 0).2.1 (sm_mi 0).2.2.1 (sm_mi 0).2.2.2.1 (sm_mi 0).2.2.2.2.1 ∈ lw_tbl := sm_m1 45 rfl
set_option maxRecDepth 20000 in
theorem mi_0 : Cond.instanceMethod (sm_mi 0).1 ∈ lw_tbl := sm_m1 44 rfl
set_option maxRecDepth 20000 in
theorem mn_0 : (sm_mi 0).1.name = "<init>" ∧ (sm_mi 0).2.2.2.1 = none ∧ (sm_mi 0).2.2.2.2.1 = [] := ⟨rfl, rfl, rfl⟩
set_option maxRecDepth 20000 in
theorem mw_1 : sm_cw (sm_mi 1).1 (sm_mi 1).2.1 (sm_mi 1).2.2.1 (sm_mi 1).2.2.2.1 (sm_mi 1).2.2.2.2.1 ∈ lw_tbl := sm_m3 172 rfl
set_option maxRecDepth 20000 in
theorem mi_1 : Cond.instanceMethod (sm_mi 1).1 ∈ lw_tbl := sm_m3 170 rfl
set_option maxRecDepth 20000 in
theorem ms_1 : Cond.selects (sm_mi 1).1.cls (sm_mi 1).1 (sm_mi 1).1 ∈ lw_tbl := sm_m3 171 rfl
set_option maxRecDepth 20000 in
theorem mw_2 : sm_cw (sm_mi 2).1 (sm_mi 2).2.1 (sm_mi 2).2.2.1 (sm_mi 2).2.2.2.1 (sm_mi 2).2.2.2.2.1 ∈ lw_tbl := sm_m5 74 rfl
set_option maxRecDepth 20000 in
theorem mi_2 : Cond.instanceMethod (sm_mi 2).1 ∈ lw_tbl := sm_m5 72 rfl
set_option maxRecDepth 20000 in
theorem ms_2 : Cond.selects (sm_mi 2).1.cls (sm_mi 2).1 (sm_mi 2).1 ∈ lw_tbl := sm_m5 73 rfl
set_option maxRecDepth 20000 in
theorem mw_3 : sm_cw (sm_mi 3).1 (sm_mi 3).2.1 (sm_mi 3).2.2.1 (sm_mi 3).2.2.2.1 (sm_mi 3).2.2.2.2.1 ∈ lw_tbl := sm_m3 183 rfl
set_option maxRecDepth 20000 in
theorem mi_3 : Cond.instanceMethod (sm_mi 3).1 ∈ lw_tbl := sm_m3 181 rfl
set_option maxRecDepth 20000 in
theorem ms_3 : Cond.selects (sm_mi 3).1.cls (sm_mi 3).1 (sm_mi 3).1 ∈ lw_tbl := sm_m3 182 rfl
set_option maxRecDepth 20000 in
theorem mw_4 : sm_cw (sm_mi 4).1 (sm_mi 4).2.1 (sm_mi 4).2.2.1 (sm_mi 4).2.2.2.1 (sm_mi 4).2.2.2.2.1 ∈ lw_tbl := sm_m3 51 rfl
set_option maxRecDepth 20000 in
theorem mi_4 : Cond.instanceMethod (sm_mi 4).1 ∈ lw_tbl := sm_m3 49 rfl
set_option maxRecDepth 20000 in
theorem ms_4 : Cond.selects (sm_mi 4).1.cls (sm_mi 4).1 (sm_mi 4).1 ∈ lw_tbl := sm_m3 50 rfl
set_option maxRecDepth 20000 in
theorem mw_5 : sm_cw (sm_mi 5).1 (sm_mi 5).2.1 (sm_mi 5).2.2.1 (sm_mi 5).2.2.2.1 (sm_mi 5).2.2.2.2.1 ∈ lw_tbl := sm_m3 55 rfl
set_option maxRecDepth 20000 in
theorem mi_5 : Cond.instanceMethod (sm_mi 5).1 ∈ lw_tbl := sm_m3 53 rfl
set_option maxRecDepth 20000 in
theorem ms_5 : Cond.selects (sm_mi 5).1.cls (sm_mi 5).1 (sm_mi 5).1 ∈ lw_tbl := sm_m3 54 rfl
set_option maxRecDepth 20000 in
theorem mw_6 : sm_cw (sm_mi 6).1 (sm_mi 6).2.1 (sm_mi 6).2.2.1 (sm_mi 6).2.2.2.1 (sm_mi 6).2.2.2.2.1 ∈ lw_tbl := sm_m3 167 rfl
set_option maxRecDepth 20000 in
theorem mi_6 : Cond.instanceMethod (sm_mi 6).1 ∈ lw_tbl := sm_m3 165 rfl
set_option maxRecDepth 20000 in
theorem ms_6 : Cond.selects (sm_mi 6).1.cls (sm_mi 6).1 (sm_mi 6).1 ∈ lw_tbl := sm_m3 166 rfl
set_option maxRecDepth 20000 in
theorem mw_7 : sm_cw (sm_mi 7).1 (sm_mi 7).2.1 (sm_mi 7).2.2.1 (sm_mi 7).2.2.2.1 (sm_mi 7).2.2.2.2.1 ∈ lw_tbl := sm_m5 70 rfl
set_option maxRecDepth 20000 in
theorem mi_7 : Cond.instanceMethod (sm_mi 7).1 ∈ lw_tbl := sm_m5 68 rfl
set_option maxRecDepth 20000 in
theorem ms_7 : Cond.selects (sm_mi 7).1.cls (sm_mi 7).1 (sm_mi 7).1 ∈ lw_tbl := sm_m5 69 rfl
set_option maxRecDepth 20000 in
theorem mw_8 : sm_cw (sm_mi 8).1 (sm_mi 8).2.1 (sm_mi 8).2.2.1 (sm_mi 8).2.2.2.1 (sm_mi 8).2.2.2.2.1 ∈ lw_tbl := sm_m6 30 rfl
set_option maxRecDepth 20000 in
theorem mi_8 : Cond.instanceMethod (sm_mi 8).1 ∈ lw_tbl := sm_m6 28 rfl
set_option maxRecDepth 20000 in
theorem ms_8 : Cond.selects (sm_mi 8).1.cls (sm_mi 8).1 (sm_mi 8).1 ∈ lw_tbl := sm_m6 29 rfl
set_option maxRecDepth 20000 in
theorem mw_9 : sm_cw (sm_mi 9).1 (sm_mi 9).2.1 (sm_mi 9).2.2.1 (sm_mi 9).2.2.2.1 (sm_mi 9).2.2.2.2.1 ∈ lw_tbl := sm_m3 46 rfl
set_option maxRecDepth 20000 in
theorem mi_9 : Cond.instanceMethod (sm_mi 9).1 ∈ lw_tbl := sm_m3 44 rfl
set_option maxRecDepth 20000 in
theorem ms_9 : Cond.selects (sm_mi 9).1.cls (sm_mi 9).1 (sm_mi 9).1 ∈ lw_tbl := sm_m3 45 rfl
set_option maxRecDepth 20000 in
theorem mw_10 : sm_cw (sm_mi 10).1 (sm_mi 10).2.1 (sm_mi 10).2.2.1 (sm_mi 10).2.2.2.1 (sm_mi 10).2.2.2.2.1 ∈ lw_tbl := sm_m5 165 rfl
set_option maxRecDepth 20000 in
theorem mi_10 : Cond.instanceMethod (sm_mi 10).1 ∈ lw_tbl := sm_m5 163 rfl
set_option maxRecDepth 20000 in
theorem ms_10 : Cond.selects (sm_mi 10).1.cls (sm_mi 10).1 (sm_mi 10).1 ∈ lw_tbl := sm_m5 164 rfl
set_option maxRecDepth 20000 in
theorem mw_11 : sm_cw (sm_mi 11).1 (sm_mi 11).2.1 (sm_mi 11).2.2.1 (sm_mi 11).2.2.2.1 (sm_mi 11).2.2.2.2.1 ∈ lw_tbl := sm_m5 169 rfl
set_option maxRecDepth 20000 in
theorem mi_11 : Cond.instanceMethod (sm_mi 11).1 ∈ lw_tbl := sm_m5 168 rfl
set_option maxRecDepth 20000 in
theorem ms_11 : Cond.selects (sm_mi 11).1.cls (sm_mi 11).1 (sm_mi 11).1 ∈ lw_tbl := sm_mz 31 rfl
set_option maxRecDepth 20000 in
theorem mw_12 : sm_cw (sm_mi 12).1 (sm_mi 12).2.1 (sm_mi 12).2.2.1 (sm_mi 12).2.2.2.1 (sm_mi 12).2.2.2.2.1 ∈ lw_tbl := sm_m1 69 rfl
set_option maxRecDepth 20000 in
theorem mi_12 : Cond.instanceMethod (sm_mi 12).1 ∈ lw_tbl := sm_m1 68 rfl
set_option maxRecDepth 20000 in
theorem mn_12 : (sm_mi 12).1.name = "<init>" ∧ (sm_mi 12).2.2.2.1 = none ∧ (sm_mi 12).2.2.2.2.1 = [] := ⟨rfl, rfl, rfl⟩
set_option maxRecDepth 20000 in
theorem mw_13 : sm_cw (sm_mi 13).1 (sm_mi 13).2.1 (sm_mi 13).2.2.1 (sm_mi 13).2.2.2.1 (sm_mi 13).2.2.2.2.1 ∈ lw_tbl := sm_m3 210 rfl
set_option maxRecDepth 20000 in
theorem mi_13 : Cond.static (sm_mi 13).1 ∈ lw_tbl := sm_m3 209 rfl
set_option maxRecDepth 20000 in
theorem mw_14 : sm_cw (sm_mi 14).1 (sm_mi 14).2.1 (sm_mi 14).2.2.1 (sm_mi 14).2.2.2.1 (sm_mi 14).2.2.2.2.1 ∈ lw_tbl := sm_m3 215 rfl
set_option maxRecDepth 20000 in
theorem mi_14 : Cond.static (sm_mi 14).1 ∈ lw_tbl := sm_m3 214 rfl
set_option maxRecDepth 20000 in
theorem mw_15 : sm_cw (sm_mi 15).1 (sm_mi 15).2.1 (sm_mi 15).2.2.1 (sm_mi 15).2.2.2.1 (sm_mi 15).2.2.2.2.1 ∈ lw_tbl := sm_m3 226 rfl
set_option maxRecDepth 20000 in
theorem mi_15 : Cond.instanceMethod (sm_mi 15).1 ∈ lw_tbl := sm_m3 224 rfl
set_option maxRecDepth 20000 in
theorem ms_15 : Cond.selects (sm_mi 15).1.cls (sm_mi 15).1 (sm_mi 15).1 ∈ lw_tbl := sm_m3 225 rfl
set_option maxRecDepth 20000 in
theorem mw_16 : sm_cw (sm_mi 16).1 (sm_mi 16).2.1 (sm_mi 16).2.2.1 (sm_mi 16).2.2.2.1 (sm_mi 16).2.2.2.2.1 ∈ lw_tbl := sm_m4 24 rfl
set_option maxRecDepth 20000 in
theorem mi_16 : Cond.instanceMethod (sm_mi 16).1 ∈ lw_tbl := sm_m4 22 rfl
set_option maxRecDepth 20000 in
theorem ms_16 : Cond.selects (sm_mi 16).1.cls (sm_mi 16).1 (sm_mi 16).1 ∈ lw_tbl := sm_m4 23 rfl
set_option maxRecDepth 20000 in
theorem mw_17 : sm_cw (sm_mi 17).1 (sm_mi 17).2.1 (sm_mi 17).2.2.1 (sm_mi 17).2.2.2.1 (sm_mi 17).2.2.2.2.1 ∈ lw_tbl := sm_m5 196 rfl
set_option maxRecDepth 20000 in
theorem mi_17 : Cond.instanceMethod (sm_mi 17).1 ∈ lw_tbl := sm_m5 194 rfl
set_option maxRecDepth 20000 in
theorem ms_17 : Cond.selects (sm_mi 17).1.cls (sm_mi 17).1 (sm_mi 17).1 ∈ lw_tbl := sm_m5 195 rfl
set_option maxRecDepth 20000 in
theorem mw_18 : sm_cw (sm_mi 18).1 (sm_mi 18).2.1 (sm_mi 18).2.2.1 (sm_mi 18).2.2.2.1 (sm_mi 18).2.2.2.2.1 ∈ lw_tbl := sm_m5 200 rfl
set_option maxRecDepth 20000 in
theorem mi_18 : Cond.instanceMethod (sm_mi 18).1 ∈ lw_tbl := sm_m5 198 rfl
set_option maxRecDepth 20000 in
theorem ms_18 : Cond.selects (sm_mi 18).1.cls (sm_mi 18).1 (sm_mi 18).1 ∈ lw_tbl := sm_m5 199 rfl
set_option maxRecDepth 20000 in
theorem mw_19 : sm_cw (sm_mi 19).1 (sm_mi 19).2.1 (sm_mi 19).2.2.1 (sm_mi 19).2.2.2.1 (sm_mi 19).2.2.2.2.1 ∈ lw_tbl := sm_m3 221 rfl
set_option maxRecDepth 20000 in
theorem mi_19 : Cond.instanceMethod (sm_mi 19).1 ∈ lw_tbl := sm_m3 219 rfl
set_option maxRecDepth 20000 in
theorem ms_19 : Cond.selects (sm_mi 19).1.cls (sm_mi 19).1 (sm_mi 19).1 ∈ lw_tbl := sm_m3 220 rfl
set_option maxRecDepth 20000 in
theorem mw_20 : sm_cw (sm_mi 20).1 (sm_mi 20).2.1 (sm_mi 20).2.2.1 (sm_mi 20).2.2.2.1 (sm_mi 20).2.2.2.2.1 ∈ lw_tbl := sm_m4 17 rfl
set_option maxRecDepth 20000 in
theorem mi_20 : Cond.instanceMethod (sm_mi 20).1 ∈ lw_tbl := sm_m4 15 rfl
set_option maxRecDepth 20000 in
theorem ms_20 : Cond.selects (sm_mi 20).1.cls (sm_mi 20).1 (sm_mi 20).1 ∈ lw_tbl := sm_m4 16 rfl
set_option maxRecDepth 20000 in
theorem mw_21 : sm_cw (sm_mi 21).1 (sm_mi 21).2.1 (sm_mi 21).2.2.1 (sm_mi 21).2.2.2.1 (sm_mi 21).2.2.2.2.1 ∈ lw_tbl := sm_m4 3 rfl
set_option maxRecDepth 20000 in
theorem mi_21 : Cond.instanceMethod (sm_mi 21).1 ∈ lw_tbl := sm_m4 1 rfl
set_option maxRecDepth 20000 in
theorem ms_21 : Cond.selects (sm_mi 21).1.cls (sm_mi 21).1 (sm_mi 21).1 ∈ lw_tbl := sm_m4 2 rfl
set_option maxRecDepth 20000 in
theorem mw_22 : sm_cw (sm_mi 22).1 (sm_mi 22).2.1 (sm_mi 22).2.2.1 (sm_mi 22).2.2.2.1 (sm_mi 22).2.2.2.2.1 ∈ lw_tbl := sm_m1 62 rfl
set_option maxRecDepth 20000 in
theorem mi_22 : Cond.instanceMethod (sm_mi 22).1 ∈ lw_tbl := sm_m1 61 rfl
set_option maxRecDepth 20000 in
theorem mn_22 : (sm_mi 22).1.name = "<init>" ∧ (sm_mi 22).2.2.2.1 = none ∧ (sm_mi 22).2.2.2.2.1 = [] := ⟨rfl, rfl, rfl⟩
set_option maxRecDepth 20000 in
theorem mw_23 : sm_cw (sm_mi 23).1 (sm_mi 23).2.1 (sm_mi 23).2.2.1 (sm_mi 23).2.2.2.1 (sm_mi 23).2.2.2.2.1 ∈ lw_tbl := sm_m4 13 rfl
set_option maxRecDepth 20000 in
theorem mi_23 : Cond.instanceMethod (sm_mi 23).1 ∈ lw_tbl := sm_m4 11 rfl
set_option maxRecDepth 20000 in
theorem ms_23 : Cond.selects (sm_mi 23).1.cls (sm_mi 23).1 (sm_mi 23).1 ∈ lw_tbl := sm_m4 12 rfl
set_option maxRecDepth 20000 in
theorem mw_24 : sm_cw (sm_mi 24).1 (sm_mi 24).2.1 (sm_mi 24).2.2.1 (sm_mi 24).2.2.2.1 (sm_mi 24).2.2.2.2.1 ∈ lw_tbl := sm_m4 68 rfl
set_option maxRecDepth 20000 in
theorem mi_24 : Cond.instanceMethod (sm_mi 24).1 ∈ lw_tbl := sm_m4 66 rfl
set_option maxRecDepth 20000 in
theorem ms_24 : Cond.selects (sm_mi 24).1.cls (sm_mi 24).1 (sm_mi 24).1 ∈ lw_tbl := sm_m4 67 rfl
set_option maxRecDepth 20000 in
theorem mw_25 : sm_cw (sm_mi 25).1 (sm_mi 25).2.1 (sm_mi 25).2.2.1 (sm_mi 25).2.2.2.1 (sm_mi 25).2.2.2.2.1 ∈ lw_tbl := sm_m4 37 rfl
set_option maxRecDepth 20000 in
theorem mi_25 : Cond.instanceMethod (sm_mi 25).1 ∈ lw_tbl := sm_m4 35 rfl
set_option maxRecDepth 20000 in
theorem ms_25 : Cond.selects (sm_mi 25).1.cls (sm_mi 25).1 (sm_mi 25).1 ∈ lw_tbl := sm_m4 36 rfl
set_option maxRecDepth 20000 in
theorem mw_26 : sm_cw (sm_mi 26).1 (sm_mi 26).2.1 (sm_mi 26).2.2.1 (sm_mi 26).2.2.2.1 (sm_mi 26).2.2.2.2.1 ∈ lw_tbl := sm_m4 48 rfl
set_option maxRecDepth 20000 in
theorem mi_26 : Cond.instanceMethod (sm_mi 26).1 ∈ lw_tbl := sm_m4 46 rfl
set_option maxRecDepth 20000 in
theorem ms_26 : Cond.selects (sm_mi 26).1.cls (sm_mi 26).1 (sm_mi 26).1 ∈ lw_tbl := sm_m4 47 rfl
set_option maxRecDepth 20000 in
theorem mw_27 : sm_cw (sm_mi 27).1 (sm_mi 27).2.1 (sm_mi 27).2.2.1 (sm_mi 27).2.2.2.1 (sm_mi 27).2.2.2.2.1 ∈ lw_tbl := sm_m4 88 rfl
set_option maxRecDepth 20000 in
theorem mi_27 : Cond.instanceMethod (sm_mi 27).1 ∈ lw_tbl := sm_m4 86 rfl
set_option maxRecDepth 20000 in
theorem ms_27 : Cond.selects (sm_mi 27).1.cls (sm_mi 27).1 (sm_mi 27).1 ∈ lw_tbl := sm_m4 87 rfl
set_option maxRecDepth 20000 in
theorem mw_28 : sm_cw (sm_mi 28).1 (sm_mi 28).2.1 (sm_mi 28).2.2.1 (sm_mi 28).2.2.2.1 (sm_mi 28).2.2.2.2.1 ∈ lw_tbl := sm_m4 163 rfl
set_option maxRecDepth 20000 in
theorem mi_28 : Cond.instanceMethod (sm_mi 28).1 ∈ lw_tbl := sm_m4 161 rfl
set_option maxRecDepth 20000 in
theorem ms_28 : Cond.selects (sm_mi 28).1.cls (sm_mi 28).1 (sm_mi 28).1 ∈ lw_tbl := sm_m4 162 rfl
set_option maxRecDepth 20000 in
theorem mw_29 : sm_cw (sm_mi 29).1 (sm_mi 29).2.1 (sm_mi 29).2.2.1 (sm_mi 29).2.2.2.1 (sm_mi 29).2.2.2.2.1 ∈ lw_tbl := sm_m4 169 rfl
set_option maxRecDepth 20000 in
theorem mi_29 : Cond.instanceMethod (sm_mi 29).1 ∈ lw_tbl := sm_m4 167 rfl
set_option maxRecDepth 20000 in
theorem ms_29 : Cond.selects (sm_mi 29).1.cls (sm_mi 29).1 (sm_mi 29).1 ∈ lw_tbl := sm_m4 168 rfl
set_option maxRecDepth 20000 in
theorem mw_30 : sm_cw (sm_mi 30).1 (sm_mi 30).2.1 (sm_mi 30).2.2.1 (sm_mi 30).2.2.2.1 (sm_mi 30).2.2.2.2.1 ∈ lw_tbl := sm_m4 84 rfl
set_option maxRecDepth 20000 in
theorem mi_30 : Cond.instanceMethod (sm_mi 30).1 ∈ lw_tbl := sm_m4 82 rfl
set_option maxRecDepth 20000 in
theorem ms_30 : Cond.selects (sm_mi 30).1.cls (sm_mi 30).1 (sm_mi 30).1 ∈ lw_tbl := sm_m4 83 rfl
set_option maxRecDepth 20000 in
theorem mw_31 : sm_cw (sm_mi 31).1 (sm_mi 31).2.1 (sm_mi 31).2.2.1 (sm_mi 31).2.2.2.1 (sm_mi 31).2.2.2.2.1 ∈ lw_tbl := sm_m5 6 rfl
set_option maxRecDepth 20000 in
theorem mi_31 : Cond.instanceMethod (sm_mi 31).1 ∈ lw_tbl := sm_m5 4 rfl
set_option maxRecDepth 20000 in
theorem ms_31 : Cond.selects (sm_mi 31).1.cls (sm_mi 31).1 (sm_mi 31).1 ∈ lw_tbl := sm_m5 5 rfl
set_option maxRecDepth 20000 in
theorem mw_32 : sm_cw (sm_mi 32).1 (sm_mi 32).2.1 (sm_mi 32).2.2.1 (sm_mi 32).2.2.2.1 (sm_mi 32).2.2.2.2.1 ∈ lw_tbl := sm_m5 133 rfl
set_option maxRecDepth 20000 in
theorem mi_32 : Cond.instanceMethod (sm_mi 32).1 ∈ lw_tbl := sm_m5 131 rfl
set_option maxRecDepth 20000 in
theorem ms_32 : Cond.selects (sm_mi 32).1.cls (sm_mi 32).1 (sm_mi 32).1 ∈ lw_tbl := sm_m5 132 rfl
set_option maxRecDepth 20000 in
theorem mw_33 : sm_cw (sm_mi 33).1 (sm_mi 33).2.1 (sm_mi 33).2.2.1 (sm_mi 33).2.2.2.1 (sm_mi 33).2.2.2.2.1 ∈ lw_tbl := sm_m1 36 rfl
set_option maxRecDepth 20000 in
theorem mi_33 : Cond.instanceMethod (sm_mi 33).1 ∈ lw_tbl := sm_m1 35 rfl
set_option maxRecDepth 20000 in
theorem mn_33 : (sm_mi 33).1.name = "<init>" ∧ (sm_mi 33).2.2.2.1 = none ∧ (sm_mi 33).2.2.2.2.1 = [] := ⟨rfl, rfl, rfl⟩
set_option maxRecDepth 20000 in
theorem mw_34 : sm_cw (sm_mi 34).1 (sm_mi 34).2.1 (sm_mi 34).2.2.1 (sm_mi 34).2.2.2.1 (sm_mi 34).2.2.2.2.1 ∈ lw_tbl := sm_m3 163 rfl
set_option maxRecDepth 20000 in
theorem mi_34 : Cond.instanceMethod (sm_mi 34).1 ∈ lw_tbl := sm_m3 161 rfl
set_option maxRecDepth 20000 in
theorem ms_34 : Cond.selects (sm_mi 34).1.cls (sm_mi 34).1 (sm_mi 34).1 ∈ lw_tbl := sm_m3 162 rfl
set_option maxRecDepth 20000 in
theorem mw_35 : sm_cw (sm_mi 35).1 (sm_mi 35).2.1 (sm_mi 35).2.2.1 (sm_mi 35).2.2.2.1 (sm_mi 35).2.2.2.2.1 ∈ lw_tbl := sm_m4 9 rfl
set_option maxRecDepth 20000 in
theorem mi_35 : Cond.instanceMethod (sm_mi 35).1 ∈ lw_tbl := sm_m4 7 rfl
set_option maxRecDepth 20000 in
theorem ms_35 : Cond.selects (sm_mi 35).1.cls (sm_mi 35).1 (sm_mi 35).1 ∈ lw_tbl := sm_m4 8 rfl
set_option maxRecDepth 20000 in
theorem mw_36 : sm_cw (sm_mi 36).1 (sm_mi 36).2.1 (sm_mi 36).2.2.1 (sm_mi 36).2.2.2.1 (sm_mi 36).2.2.2.2.1 ∈ lw_tbl := sm_m4 64 rfl
set_option maxRecDepth 20000 in
theorem mi_36 : Cond.instanceMethod (sm_mi 36).1 ∈ lw_tbl := sm_m4 62 rfl
set_option maxRecDepth 20000 in
theorem ms_36 : Cond.selects (sm_mi 36).1.cls (sm_mi 36).1 (sm_mi 36).1 ∈ lw_tbl := sm_m4 63 rfl
set_option maxRecDepth 20000 in
theorem mw_37 : sm_cw (sm_mi 37).1 (sm_mi 37).2.1 (sm_mi 37).2.2.1 (sm_mi 37).2.2.2.1 (sm_mi 37).2.2.2.2.1 ∈ lw_tbl := sm_m4 191 rfl
set_option maxRecDepth 20000 in
theorem mi_37 : Cond.instanceMethod (sm_mi 37).1 ∈ lw_tbl := sm_m4 189 rfl
set_option maxRecDepth 20000 in
theorem ms_37 : Cond.selects (sm_mi 37).1.cls (sm_mi 37).1 (sm_mi 37).1 ∈ lw_tbl := sm_m4 190 rfl
set_option maxRecDepth 20000 in
theorem mw_38 : sm_cw (sm_mi 38).1 (sm_mi 38).2.1 (sm_mi 38).2.2.1 (sm_mi 38).2.2.2.1 (sm_mi 38).2.2.2.2.1 ∈ lw_tbl := sm_m4 177 rfl
set_option maxRecDepth 20000 in
theorem mi_38 : Cond.instanceMethod (sm_mi 38).1 ∈ lw_tbl := sm_m4 175 rfl
set_option maxRecDepth 20000 in
theorem ms_38 : Cond.selects (sm_mi 38).1.cls (sm_mi 38).1 (sm_mi 38).1 ∈ lw_tbl := sm_m4 176 rfl
set_option maxRecDepth 20000 in
theorem mw_39 : sm_cw (sm_mi 39).1 (sm_mi 39).2.1 (sm_mi 39).2.2.1 (sm_mi 39).2.2.2.1 (sm_mi 39).2.2.2.2.1 ∈ lw_tbl := sm_m4 155 rfl
set_option maxRecDepth 20000 in
theorem mi_39 : Cond.instanceMethod (sm_mi 39).1 ∈ lw_tbl := sm_m4 153 rfl
set_option maxRecDepth 20000 in
theorem ms_39 : Cond.selects (sm_mi 39).1.cls (sm_mi 39).1 (sm_mi 39).1 ∈ lw_tbl := sm_m4 154 rfl
set_option maxRecDepth 20000 in
theorem mw_40 : sm_cw (sm_mi 40).1 (sm_mi 40).2.1 (sm_mi 40).2.2.1 (sm_mi 40).2.2.2.1 (sm_mi 40).2.2.2.2.1 ∈ lw_tbl := sm_m4 60 rfl
set_option maxRecDepth 20000 in
theorem mi_40 : Cond.instanceMethod (sm_mi 40).1 ∈ lw_tbl := sm_m4 58 rfl
set_option maxRecDepth 20000 in
theorem ms_40 : Cond.selects (sm_mi 40).1.cls (sm_mi 40).1 (sm_mi 40).1 ∈ lw_tbl := sm_m4 59 rfl
set_option maxRecDepth 20000 in
theorem mw_41 : sm_cw (sm_mi 41).1 (sm_mi 41).2.1 (sm_mi 41).2.2.1 (sm_mi 41).2.2.2.1 (sm_mi 41).2.2.2.2.1 ∈ lw_tbl := sm_m4 92 rfl
set_option maxRecDepth 20000 in
theorem mi_41 : Cond.instanceMethod (sm_mi 41).1 ∈ lw_tbl := sm_m4 91 rfl
set_option maxRecDepth 20000 in
theorem ms_41 : Cond.selects (sm_mi 41).1.cls (sm_mi 41).1 (sm_mi 41).1 ∈ lw_tbl := sm_mz 7 rfl
set_option maxRecDepth 20000 in
theorem mw_42 : sm_cw (sm_mi 42).1 (sm_mi 42).2.1 (sm_mi 42).2.2.1 (sm_mi 42).2.2.2.1 (sm_mi 42).2.2.2.2.1 ∈ lw_tbl := sm_m4 72 rfl
set_option maxRecDepth 20000 in
theorem mi_42 : Cond.instanceMethod (sm_mi 42).1 ∈ lw_tbl := sm_m4 71 rfl
set_option maxRecDepth 20000 in
theorem ms_42 : Cond.selects (sm_mi 42).1.cls (sm_mi 42).1 (sm_mi 42).1 ∈ lw_tbl := sm_mz 4 rfl
set_option maxRecDepth 20000 in
theorem mw_43 : sm_cw (sm_mi 43).1 (sm_mi 43).2.1 (sm_mi 43).2.2.1 (sm_mi 43).2.2.2.1 (sm_mi 43).2.2.2.2.1 ∈ lw_tbl := sm_m4 80 rfl
set_option maxRecDepth 20000 in
theorem mi_43 : Cond.instanceMethod (sm_mi 43).1 ∈ lw_tbl := sm_m4 79 rfl
set_option maxRecDepth 20000 in
theorem ms_43 : Cond.selects (sm_mi 43).1.cls (sm_mi 43).1 (sm_mi 43).1 ∈ lw_tbl := sm_mz 6 rfl
set_option maxRecDepth 20000 in
theorem mw_44 : sm_cw (sm_mi 44).1 (sm_mi 44).2.1 (sm_mi 44).2.2.1 (sm_mi 44).2.2.2.1 (sm_mi 44).2.2.2.2.1 ∈ lw_tbl := sm_m4 76 rfl
set_option maxRecDepth 20000 in
theorem mi_44 : Cond.instanceMethod (sm_mi 44).1 ∈ lw_tbl := sm_m4 75 rfl
set_option maxRecDepth 20000 in
theorem ms_44 : Cond.selects (sm_mi 44).1.cls (sm_mi 44).1 (sm_mi 44).1 ∈ lw_tbl := sm_mz 5 rfl
set_option maxRecDepth 20000 in
theorem mw_45 : sm_cw (sm_mi 45).1 (sm_mi 45).2.1 (sm_mi 45).2.2.1 (sm_mi 45).2.2.2.1 (sm_mi 45).2.2.2.2.1 ∈ lw_tbl := sm_m4 159 rfl
set_option maxRecDepth 20000 in
theorem mi_45 : Cond.instanceMethod (sm_mi 45).1 ∈ lw_tbl := sm_m4 157 rfl
set_option maxRecDepth 20000 in
theorem ms_45 : Cond.selects (sm_mi 45).1.cls (sm_mi 45).1 (sm_mi 45).1 ∈ lw_tbl := sm_m4 158 rfl
set_option maxRecDepth 20000 in
theorem mw_46 : sm_cw (sm_mi 46).1 (sm_mi 46).2.1 (sm_mi 46).2.2.1 (sm_mi 46).2.2.2.1 (sm_mi 46).2.2.2.2.1 ∈ lw_tbl := sm_m5 178 rfl
set_option maxRecDepth 20000 in
theorem mi_46 : Cond.instanceMethod (sm_mi 46).1 ∈ lw_tbl := sm_m5 176 rfl
set_option maxRecDepth 20000 in
theorem ms_46 : Cond.selects (sm_mi 46).1.cls (sm_mi 46).1 (sm_mi 46).1 ∈ lw_tbl := sm_m5 177 rfl
set_option maxRecDepth 20000 in
theorem mw_47 : sm_cw (sm_mi 47).1 (sm_mi 47).2.1 (sm_mi 47).2.2.1 (sm_mi 47).2.2.2.1 (sm_mi 47).2.2.2.2.1 ∈ lw_tbl := sm_m5 182 rfl
set_option maxRecDepth 20000 in
theorem mi_47 : Cond.instanceMethod (sm_mi 47).1 ∈ lw_tbl := sm_m5 180 rfl
set_option maxRecDepth 20000 in
theorem ms_47 : Cond.selects (sm_mi 47).1.cls (sm_mi 47).1 (sm_mi 47).1 ∈ lw_tbl := sm_m5 181 rfl
set_option maxRecDepth 20000 in
theorem mw_48 : sm_cw (sm_mi 48).1 (sm_mi 48).2.1 (sm_mi 48).2.2.1 (sm_mi 48).2.2.2.1 (sm_mi 48).2.2.2.2.1 ∈ lw_tbl := sm_m5 65 rfl
set_option maxRecDepth 20000 in
theorem mi_48 : Cond.instanceMethod (sm_mi 48).1 ∈ lw_tbl := sm_m5 63 rfl
set_option maxRecDepth 20000 in
theorem ms_48 : Cond.selects (sm_mi 48).1.cls (sm_mi 48).1 (sm_mi 48).1 ∈ lw_tbl := sm_m5 64 rfl
set_option maxRecDepth 20000 in
theorem mw_49 : sm_cw (sm_mi 49).1 (sm_mi 49).2.1 (sm_mi 49).2.2.1 (sm_mi 49).2.2.2.1 (sm_mi 49).2.2.2.2.1 ∈ lw_tbl := sm_m2 107 rfl
set_option maxRecDepth 20000 in
theorem mi_49 : Cond.instanceMethod (sm_mi 49).1 ∈ lw_tbl := sm_m2 106 rfl
set_option maxRecDepth 20000 in
theorem mn_49 : (sm_mi 49).1.name = "<init>" ∧ (sm_mi 49).2.2.2.1 = none ∧ (sm_mi 49).2.2.2.2.1 = [] := ⟨rfl, rfl, rfl⟩
set_option maxRecDepth 20000 in
theorem mw_50 : sm_cw (sm_mi 50).1 (sm_mi 50).2.1 (sm_mi 50).2.2.1 (sm_mi 50).2.2.2.1 (sm_mi 50).2.2.2.2.1 ∈ lw_tbl := sm_m6 7 rfl
set_option maxRecDepth 20000 in
theorem mi_50 : Cond.instanceMethod (sm_mi 50).1 ∈ lw_tbl := sm_m6 5 rfl
set_option maxRecDepth 20000 in
theorem ms_50 : Cond.selects (sm_mi 50).1.cls (sm_mi 50).1 (sm_mi 50).1 ∈ lw_tbl := sm_m6 6 rfl
set_option maxRecDepth 20000 in
theorem mw_51 : sm_cw (sm_mi 51).1 (sm_mi 51).2.1 (sm_mi 51).2.2.1 (sm_mi 51).2.2.2.1 (sm_mi 51).2.2.2.2.1 ∈ lw_tbl := sm_m5 186 rfl
set_option maxRecDepth 20000 in
theorem mi_51 : Cond.instanceMethod (sm_mi 51).1 ∈ lw_tbl := sm_m5 184 rfl
set_option maxRecDepth 20000 in
theorem ms_51 : Cond.selects (sm_mi 51).1.cls (sm_mi 51).1 (sm_mi 51).1 ∈ lw_tbl := sm_m5 185 rfl
set_option maxRecDepth 20000 in
theorem mw_52 : sm_cw (sm_mi 52).1 (sm_mi 52).2.1 (sm_mi 52).2.2.1 (sm_mi 52).2.2.2.1 (sm_mi 52).2.2.2.2.1 ∈ lw_tbl := sm_m5 204 rfl
set_option maxRecDepth 20000 in
theorem mi_52 : Cond.instanceMethod (sm_mi 52).1 ∈ lw_tbl := sm_m5 203 rfl
set_option maxRecDepth 20000 in
theorem ms_52 : Cond.selects (sm_mi 52).1.cls (sm_mi 52).1 (sm_mi 52).1 ∈ lw_tbl := sm_mz 32 rfl
set_option maxRecDepth 20000 in
theorem mw_53 : sm_cw (sm_mi 53).1 (sm_mi 53).2.1 (sm_mi 53).2.2.1 (sm_mi 53).2.2.2.1 (sm_mi 53).2.2.2.2.1 ∈ lw_tbl := sm_m5 230 rfl
set_option maxRecDepth 20000 in
theorem mi_53 : Cond.instanceMethod (sm_mi 53).1 ∈ lw_tbl := sm_m5 229 rfl
set_option maxRecDepth 20000 in
theorem ms_53 : Cond.selects (sm_mi 53).1.cls (sm_mi 53).1 (sm_mi 53).1 ∈ lw_tbl := sm_mz 38 rfl
set_option maxRecDepth 20000 in
theorem mw_54 : sm_cw (sm_mi 54).1 (sm_mi 54).2.1 (sm_mi 54).2.2.1 (sm_mi 54).2.2.2.1 (sm_mi 54).2.2.2.2.1 ∈ lw_tbl := sm_m5 234 rfl
set_option maxRecDepth 20000 in
theorem mi_54 : Cond.instanceMethod (sm_mi 54).1 ∈ lw_tbl := sm_m5 233 rfl
set_option maxRecDepth 20000 in
theorem ms_54 : Cond.selects (sm_mi 54).1.cls (sm_mi 54).1 (sm_mi 54).1 ∈ lw_tbl := sm_mz 39 rfl
set_option maxRecDepth 20000 in
theorem mw_55 : sm_cw (sm_mi 55).1 (sm_mi 55).2.1 (sm_mi 55).2.2.1 (sm_mi 55).2.2.2.1 (sm_mi 55).2.2.2.2.1 ∈ lw_tbl := sm_m5 217 rfl
set_option maxRecDepth 20000 in
theorem mi_55 : Cond.instanceMethod (sm_mi 55).1 ∈ lw_tbl := sm_m5 216 rfl
set_option maxRecDepth 20000 in
theorem ms_55 : Cond.selects (sm_mi 55).1.cls (sm_mi 55).1 (sm_mi 55).1 ∈ lw_tbl := sm_mz 35 rfl
set_option maxRecDepth 20000 in
theorem mw_56 : sm_cw (sm_mi 56).1 (sm_mi 56).2.1 (sm_mi 56).2.2.1 (sm_mi 56).2.2.2.1 (sm_mi 56).2.2.2.2.1 ∈ lw_tbl := sm_m5 222 rfl
set_option maxRecDepth 20000 in
theorem mi_56 : Cond.instanceMethod (sm_mi 56).1 ∈ lw_tbl := sm_m5 221 rfl
set_option maxRecDepth 20000 in
theorem ms_56 : Cond.selects (sm_mi 56).1.cls (sm_mi 56).1 (sm_mi 56).1 ∈ lw_tbl := sm_mz 36 rfl
set_option maxRecDepth 20000 in
theorem mw_57 : sm_cw (sm_mi 57).1 (sm_mi 57).2.1 (sm_mi 57).2.2.1 (sm_mi 57).2.2.2.1 (sm_mi 57).2.2.2.2.1 ∈ lw_tbl := sm_m5 239 rfl
set_option maxRecDepth 20000 in
theorem mi_57 : Cond.instanceMethod (sm_mi 57).1 ∈ lw_tbl := sm_m5 238 rfl
set_option maxRecDepth 20000 in
theorem ms_57 : Cond.selects (sm_mi 57).1.cls (sm_mi 57).1 (sm_mi 57).1 ∈ lw_tbl := sm_mz 40 rfl
set_option maxRecDepth 20000 in
theorem mw_58 : sm_cw (sm_mi 58).1 (sm_mi 58).2.1 (sm_mi 58).2.2.1 (sm_mi 58).2.2.2.1 (sm_mi 58).2.2.2.2.1 ∈ lw_tbl := sm_m6 3 rfl
set_option maxRecDepth 20000 in
theorem mi_58 : Cond.instanceMethod (sm_mi 58).1 ∈ lw_tbl := sm_m6 2 rfl
set_option maxRecDepth 20000 in
theorem ms_58 : Cond.selects (sm_mi 58).1.cls (sm_mi 58).1 (sm_mi 58).1 ∈ lw_tbl := sm_mz 41 rfl
set_option maxRecDepth 20000 in
theorem mw_59 : sm_cw (sm_mi 59).1 (sm_mi 59).2.1 (sm_mi 59).2.2.1 (sm_mi 59).2.2.2.1 (sm_mi 59).2.2.2.2.1 ∈ lw_tbl := sm_m5 212 rfl
set_option maxRecDepth 20000 in
theorem mi_59 : Cond.instanceMethod (sm_mi 59).1 ∈ lw_tbl := sm_m5 211 rfl
set_option maxRecDepth 20000 in
theorem ms_59 : Cond.selects (sm_mi 59).1.cls (sm_mi 59).1 (sm_mi 59).1 ∈ lw_tbl := sm_mz 34 rfl
set_option maxRecDepth 20000 in
theorem mw_60 : sm_cw (sm_mi 60).1 (sm_mi 60).2.1 (sm_mi 60).2.2.1 (sm_mi 60).2.2.2.1 (sm_mi 60).2.2.2.2.1 ∈ lw_tbl := sm_m5 226 rfl
set_option maxRecDepth 20000 in
theorem mi_60 : Cond.instanceMethod (sm_mi 60).1 ∈ lw_tbl := sm_m5 225 rfl
set_option maxRecDepth 20000 in
theorem ms_60 : Cond.selects (sm_mi 60).1.cls (sm_mi 60).1 (sm_mi 60).1 ∈ lw_tbl := sm_mz 37 rfl
set_option maxRecDepth 20000 in
theorem mw_61 : sm_cw (sm_mi 61).1 (sm_mi 61).2.1 (sm_mi 61).2.2.1 (sm_mi 61).2.2.2.1 (sm_mi 61).2.2.2.2.1 ∈ lw_tbl := sm_m5 208 rfl
set_option maxRecDepth 20000 in
theorem mi_61 : Cond.instanceMethod (sm_mi 61).1 ∈ lw_tbl := sm_m5 207 rfl
set_option maxRecDepth 20000 in
theorem ms_61 : Cond.selects (sm_mi 61).1.cls (sm_mi 61).1 (sm_mi 61).1 ∈ lw_tbl := sm_mz 33 rfl
set_option maxRecDepth 20000 in
theorem mw_62 : sm_cw (sm_mi 62).1 (sm_mi 62).2.1 (sm_mi 62).2.2.1 (sm_mi 62).2.2.2.1 (sm_mi 62).2.2.2.2.1 ∈ lw_tbl := sm_m1 126 rfl
set_option maxRecDepth 20000 in
theorem mi_62 : Cond.instanceMethod (sm_mi 62).1 ∈ lw_tbl := sm_m1 125 rfl
set_option maxRecDepth 20000 in
theorem mn_62 : (sm_mi 62).1.name = "<init>" ∧ (sm_mi 62).2.2.2.1 = none ∧ (sm_mi 62).2.2.2.2.1 = [] := ⟨rfl, rfl, rfl⟩
set_option maxRecDepth 20000 in
theorem mw_63 : sm_cw (sm_mi 63).1 (sm_mi 63).2.1 (sm_mi 63).2.2.1 (sm_mi 63).2.2.2.1 (sm_mi 63).2.2.2.2.1 ∈ lw_tbl := sm_m5 10 rfl
set_option maxRecDepth 20000 in
theorem mi_63 : Cond.instanceMethod (sm_mi 63).1 ∈ lw_tbl := sm_m5 8 rfl
set_option maxRecDepth 20000 in
theorem ms_63 : Cond.selects (sm_mi 63).1.cls (sm_mi 63).1 (sm_mi 63).1 ∈ lw_tbl := sm_m5 9 rfl
set_option maxRecDepth 20000 in
theorem mw_64 : sm_cw (sm_mi 64).1 (sm_mi 64).2.1 (sm_mi 64).2.2.1 (sm_mi 64).2.2.2.1 (sm_mi 64).2.2.2.2.1 ∈ lw_tbl := sm_m5 22 rfl
set_option maxRecDepth 20000 in
theorem mi_64 : Cond.instanceMethod (sm_mi 64).1 ∈ lw_tbl := sm_m5 20 rfl
set_option maxRecDepth 20000 in
theorem ms_64 : Cond.selects (sm_mi 64).1.cls (sm_mi 64).1 (sm_mi 64).1 ∈ lw_tbl := sm_m5 21 rfl
set_option maxRecDepth 20000 in
theorem mw_65 : sm_cw (sm_mi 65).1 (sm_mi 65).2.1 (sm_mi 65).2.2.1 (sm_mi 65).2.2.2.1 (sm_mi 65).2.2.2.2.1 ∈ lw_tbl := sm_m5 14 rfl
set_option maxRecDepth 20000 in
theorem mi_65 : Cond.instanceMethod (sm_mi 65).1 ∈ lw_tbl := sm_m5 12 rfl
set_option maxRecDepth 20000 in
theorem ms_65 : Cond.selects (sm_mi 65).1.cls (sm_mi 65).1 (sm_mi 65).1 ∈ lw_tbl := sm_m5 13 rfl
set_option maxRecDepth 20000 in
theorem mw_66 : sm_cw (sm_mi 66).1 (sm_mi 66).2.1 (sm_mi 66).2.2.1 (sm_mi 66).2.2.2.1 (sm_mi 66).2.2.2.2.1 ∈ lw_tbl := sm_m5 51 rfl
set_option maxRecDepth 20000 in
theorem mi_66 : Cond.instanceMethod (sm_mi 66).1 ∈ lw_tbl := sm_m5 49 rfl
set_option maxRecDepth 20000 in
theorem ms_66 : Cond.selects (sm_mi 66).1.cls (sm_mi 66).1 (sm_mi 66).1 ∈ lw_tbl := sm_m5 50 rfl
set_option maxRecDepth 20000 in
theorem mw_67 : sm_cw (sm_mi 67).1 (sm_mi 67).2.1 (sm_mi 67).2.2.1 (sm_mi 67).2.2.2.1 (sm_mi 67).2.2.2.2.1 ∈ lw_tbl := sm_m5 43 rfl
set_option maxRecDepth 20000 in
theorem mi_67 : Cond.instanceMethod (sm_mi 67).1 ∈ lw_tbl := sm_m5 41 rfl
set_option maxRecDepth 20000 in
theorem ms_67 : Cond.selects (sm_mi 67).1.cls (sm_mi 67).1 (sm_mi 67).1 ∈ lw_tbl := sm_m5 42 rfl
set_option maxRecDepth 20000 in
theorem mw_68 : sm_cw (sm_mi 68).1 (sm_mi 68).2.1 (sm_mi 68).2.2.1 (sm_mi 68).2.2.2.1 (sm_mi 68).2.2.2.2.1 ∈ lw_tbl := sm_m5 47 rfl
set_option maxRecDepth 20000 in
theorem mi_68 : Cond.instanceMethod (sm_mi 68).1 ∈ lw_tbl := sm_m5 45 rfl
set_option maxRecDepth 20000 in
theorem ms_68 : Cond.selects (sm_mi 68).1.cls (sm_mi 68).1 (sm_mi 68).1 ∈ lw_tbl := sm_m5 46 rfl
set_option maxRecDepth 20000 in
theorem mw_69 : sm_cw (sm_mi 69).1 (sm_mi 69).2.1 (sm_mi 69).2.2.1 (sm_mi 69).2.2.2.1 (sm_mi 69).2.2.2.2.1 ∈ lw_tbl := sm_m1 119 rfl
set_option maxRecDepth 20000 in
theorem mi_69 : Cond.instanceMethod (sm_mi 69).1 ∈ lw_tbl := sm_m1 118 rfl
set_option maxRecDepth 20000 in
theorem mn_69 : (sm_mi 69).1.name = "<init>" ∧ (sm_mi 69).2.2.2.1 = none ∧ (sm_mi 69).2.2.2.2.1 = [] := ⟨rfl, rfl, rfl⟩
set_option maxRecDepth 20000 in
theorem mw_70 : sm_cw (sm_mi 70).1 (sm_mi 70).2.1 (sm_mi 70).2.2.1 (sm_mi 70).2.2.2.1 (sm_mi 70).2.2.2.2.1 ∈ lw_tbl := sm_m4 112 rfl
set_option maxRecDepth 20000 in
theorem mi_70 : Cond.instanceMethod (sm_mi 70).1 ∈ lw_tbl := sm_m4 110 rfl
set_option maxRecDepth 20000 in
theorem ms_70 : Cond.selects (sm_mi 70).1.cls (sm_mi 70).1 (sm_mi 70).1 ∈ lw_tbl := sm_m4 111 rfl
set_option maxRecDepth 20000 in
theorem mw_71 : sm_cw (sm_mi 71).1 (sm_mi 71).2.1 (sm_mi 71).2.2.1 (sm_mi 71).2.2.2.1 (sm_mi 71).2.2.2.2.1 ∈ lw_tbl := sm_m4 116 rfl
set_option maxRecDepth 20000 in
theorem mi_71 : Cond.instanceMethod (sm_mi 71).1 ∈ lw_tbl := sm_m4 114 rfl
set_option maxRecDepth 20000 in
theorem ms_71 : Cond.selects (sm_mi 71).1.cls (sm_mi 71).1 (sm_mi 71).1 ∈ lw_tbl := sm_m4 115 rfl
set_option maxRecDepth 20000 in
theorem mw_72 : sm_cw (sm_mi 72).1 (sm_mi 72).2.1 (sm_mi 72).2.2.1 (sm_mi 72).2.2.2.1 (sm_mi 72).2.2.2.2.1 ∈ lw_tbl := sm_m5 18 rfl
set_option maxRecDepth 20000 in
theorem mi_72 : Cond.instanceMethod (sm_mi 72).1 ∈ lw_tbl := sm_m5 16 rfl
set_option maxRecDepth 20000 in
theorem ms_72 : Cond.selects (sm_mi 72).1.cls (sm_mi 72).1 (sm_mi 72).1 ∈ lw_tbl := sm_m5 17 rfl
set_option maxRecDepth 20000 in
theorem mw_73 : sm_cw (sm_mi 73).1 (sm_mi 73).2.1 (sm_mi 73).2.2.1 (sm_mi 73).2.2.2.1 (sm_mi 73).2.2.2.2.1 ∈ lw_tbl := sm_m4 221 rfl
set_option maxRecDepth 20000 in
theorem mi_73 : Cond.instanceMethod (sm_mi 73).1 ∈ lw_tbl := sm_m4 219 rfl
set_option maxRecDepth 20000 in
theorem ms_73 : Cond.selects (sm_mi 73).1.cls (sm_mi 73).1 (sm_mi 73).1 ∈ lw_tbl := sm_m4 220 rfl
set_option maxRecDepth 20000 in
theorem mw_74 : sm_cw (sm_mi 74).1 (sm_mi 74).2.1 (sm_mi 74).2.2.1 (sm_mi 74).2.2.2.1 (sm_mi 74).2.2.2.2.1 ∈ lw_tbl := sm_m4 225 rfl
set_option maxRecDepth 20000 in
theorem mi_74 : Cond.instanceMethod (sm_mi 74).1 ∈ lw_tbl := sm_m4 223 rfl
set_option maxRecDepth 20000 in
theorem ms_74 : Cond.selects (sm_mi 74).1.cls (sm_mi 74).1 (sm_mi 74).1 ∈ lw_tbl := sm_m4 224 rfl
set_option maxRecDepth 20000 in
theorem mw_75 : sm_cw (sm_mi 75).1 (sm_mi 75).2.1 (sm_mi 75).2.2.1 (sm_mi 75).2.2.2.1 (sm_mi 75).2.2.2.2.1 ∈ lw_tbl := sm_m6 41 rfl
set_option maxRecDepth 20000 in
theorem mi_75 : Cond.instanceMethod (sm_mi 75).1 ∈ lw_tbl := sm_m6 39 rfl
set_option maxRecDepth 20000 in
theorem ms_75 : Cond.selects (sm_mi 75).1.cls (sm_mi 75).1 (sm_mi 75).1 ∈ lw_tbl := sm_m6 40 rfl
set_option maxRecDepth 20000 in
theorem mw_76 : sm_cw (sm_mi 76).1 (sm_mi 76).2.1 (sm_mi 76).2.2.1 (sm_mi 76).2.2.2.1 (sm_mi 76).2.2.2.2.1 ∈ lw_tbl := sm_m4 216 rfl
set_option maxRecDepth 20000 in
theorem mi_76 : Cond.instanceMethod (sm_mi 76).1 ∈ lw_tbl := sm_m4 214 rfl
set_option maxRecDepth 20000 in
theorem ms_76 : Cond.selects (sm_mi 76).1.cls (sm_mi 76).1 (sm_mi 76).1 ∈ lw_tbl := sm_m4 215 rfl
set_option maxRecDepth 20000 in
theorem mw_77 : sm_cw (sm_mi 77).1 (sm_mi 77).2.1 (sm_mi 77).2.2.1 (sm_mi 77).2.2.2.1 (sm_mi 77).2.2.2.2.1 ∈ lw_tbl := sm_m2 74 rfl
set_option maxRecDepth 20000 in
theorem mi_77 : Cond.instanceMethod (sm_mi 77).1 ∈ lw_tbl := sm_m2 73 rfl
set_option maxRecDepth 20000 in
theorem mn_77 : (sm_mi 77).1.name = "<init>" ∧ (sm_mi 77).2.2.2.1 = none ∧ (sm_mi 77).2.2.2.2.1 = [] := ⟨rfl, rfl, rfl⟩
set_option maxRecDepth 20000 in
theorem mw_78 : sm_cw (sm_mi 78).1 (sm_mi 78).2.1 (sm_mi 78).2.2.1 (sm_mi 78).2.2.2.1 (sm_mi 78).2.2.2.2.1 ∈ lw_tbl := sm_m3 21 rfl
set_option maxRecDepth 20000 in
theorem mi_78 : Cond.instanceMethod (sm_mi 78).1 ∈ lw_tbl := sm_m3 19 rfl
set_option maxRecDepth 20000 in
theorem ms_78 : Cond.selects (sm_mi 78).1.cls (sm_mi 78).1 (sm_mi 78).1 ∈ lw_tbl := sm_m3 20 rfl
set_option maxRecDepth 20000 in
theorem mw_79 : sm_cw (sm_mi 79).1 (sm_mi 79).2.1 (sm_mi 79).2.2.1 (sm_mi 79).2.2.2.1 (sm_mi 79).2.2.2.2.1 ∈ lw_tbl := sm_m5 112 rfl
set_option maxRecDepth 20000 in
theorem mi_79 : Cond.instanceMethod (sm_mi 79).1 ∈ lw_tbl := sm_m5 110 rfl
set_option maxRecDepth 20000 in
theorem ms_79 : Cond.selects (sm_mi 79).1.cls (sm_mi 79).1 (sm_mi 79).1 ∈ lw_tbl := sm_m5 111 rfl
set_option maxRecDepth 20000 in
theorem mw_80 : sm_cw (sm_mi 80).1 (sm_mi 80).2.1 (sm_mi 80).2.2.1 (sm_mi 80).2.2.2.1 (sm_mi 80).2.2.2.2.1 ∈ lw_tbl := sm_m4 138 rfl
set_option maxRecDepth 20000 in
theorem mi_80 : Cond.instanceMethod (sm_mi 80).1 ∈ lw_tbl := sm_m4 136 rfl
set_option maxRecDepth 20000 in
theorem ms_80 : Cond.selects (sm_mi 80).1.cls (sm_mi 80).1 (sm_mi 80).1 ∈ lw_tbl := sm_m4 137 rfl
set_option maxRecDepth 20000 in
theorem mw_81 : sm_cw (sm_mi 81).1 (sm_mi 81).2.1 (sm_mi 81).2.2.1 (sm_mi 81).2.2.2.1 (sm_mi 81).2.2.2.2.1 ∈ lw_tbl := sm_m3 33 rfl
set_option maxRecDepth 20000 in
theorem mi_81 : Cond.instanceMethod (sm_mi 81).1 ∈ lw_tbl := sm_m3 31 rfl
set_option maxRecDepth 20000 in
theorem ms_81 : Cond.selects (sm_mi 81).1.cls (sm_mi 81).1 (sm_mi 81).1 ∈ lw_tbl := sm_m3 32 rfl
set_option maxRecDepth 20000 in
theorem mw_82 : sm_cw (sm_mi 82).1 (sm_mi 82).2.1 (sm_mi 82).2.2.1 (sm_mi 82).2.2.2.1 (sm_mi 82).2.2.2.2.1 ∈ lw_tbl := sm_m5 103 rfl
set_option maxRecDepth 20000 in
theorem mi_82 : Cond.instanceMethod (sm_mi 82).1 ∈ lw_tbl := sm_m5 101 rfl
set_option maxRecDepth 20000 in
theorem ms_82 : Cond.selects (sm_mi 82).1.cls (sm_mi 82).1 (sm_mi 82).1 ∈ lw_tbl := sm_m5 102 rfl
set_option maxRecDepth 20000 in
theorem mw_83 : sm_cw (sm_mi 83).1 (sm_mi 83).2.1 (sm_mi 83).2.2.1 (sm_mi 83).2.2.2.1 (sm_mi 83).2.2.2.2.1 ∈ lw_tbl := sm_m3 42 rfl
set_option maxRecDepth 20000 in
theorem mi_83 : Cond.instanceMethod (sm_mi 83).1 ∈ lw_tbl := sm_m3 41 rfl
set_option maxRecDepth 20000 in
theorem ms_83 : Cond.selects (sm_mi 83).1.cls (sm_mi 83).1 (sm_mi 83).1 ∈ lw_tbl := sm_mz 1 rfl
set_option maxRecDepth 20000 in
theorem mw_84 : sm_cw (sm_mi 84).1 (sm_mi 84).2.1 (sm_mi 84).2.2.1 (sm_mi 84).2.2.2.1 (sm_mi 84).2.2.2.2.1 ∈ lw_tbl := sm_m6 24 rfl
set_option maxRecDepth 20000 in
theorem mi_84 : Cond.instanceMethod (sm_mi 84).1 ∈ lw_tbl := sm_m6 22 rfl
set_option maxRecDepth 20000 in
theorem ms_84 : Cond.selects (sm_mi 84).1.cls (sm_mi 84).1 (sm_mi 84).1 ∈ lw_tbl := sm_m6 23 rfl
set_option maxRecDepth 20000 in
theorem mw_85 : sm_cw (sm_mi 85).1 (sm_mi 85).2.1 (sm_mi 85).2.2.1 (sm_mi 85).2.2.2.1 (sm_mi 85).2.2.2.2.1 ∈ lw_tbl := sm_m5 128 rfl
set_option maxRecDepth 20000 in
theorem mi_85 : Cond.instanceMethod (sm_mi 85).1 ∈ lw_tbl := sm_m5 126 rfl
set_option maxRecDepth 20000 in
theorem ms_85 : Cond.selects (sm_mi 85).1.cls (sm_mi 85).1 (sm_mi 85).1 ∈ lw_tbl := sm_m5 127 rfl
set_option maxRecDepth 20000 in
theorem mw_86 : sm_cw (sm_mi 86).1 (sm_mi 86).2.1 (sm_mi 86).2.2.1 (sm_mi 86).2.2.2.1 (sm_mi 86).2.2.2.2.1 ∈ lw_tbl := sm_m3 37 rfl
set_option maxRecDepth 20000 in
theorem mi_86 : Cond.instanceMethod (sm_mi 86).1 ∈ lw_tbl := sm_m3 35 rfl
set_option maxRecDepth 20000 in
theorem ms_86 : Cond.selects (sm_mi 86).1.cls (sm_mi 86).1 (sm_mi 86).1 ∈ lw_tbl := sm_m3 36 rfl
set_option maxRecDepth 20000 in
theorem mw_87 : sm_cw (sm_mi 87).1 (sm_mi 87).2.1 (sm_mi 87).2.2.1 (sm_mi 87).2.2.2.1 (sm_mi 87).2.2.2.2.1 ∈ lw_tbl := sm_m2 68 rfl
set_option maxRecDepth 20000 in
theorem mi_87 : Cond.instanceMethod (sm_mi 87).1 ∈ lw_tbl := sm_m2 67 rfl
set_option maxRecDepth 20000 in
theorem mn_87 : (sm_mi 87).1.name = "<init>" ∧ (sm_mi 87).2.2.2.1 = none ∧ (sm_mi 87).2.2.2.2.1 = [] := ⟨rfl, rfl, rfl⟩
set_option maxRecDepth 20000 in
theorem mw_88 : sm_cw (sm_mi 88).1 (sm_mi 88).2.1 (sm_mi 88).2.2.1 (sm_mi 88).2.2.2.1 (sm_mi 88).2.2.2.2.1 ∈ lw_tbl := sm_m3 17 rfl
set_option maxRecDepth 20000 in
theorem mi_88 : Cond.instanceMethod (sm_mi 88).1 ∈ lw_tbl := sm_m3 15 rfl
set_option maxRecDepth 20000 in
theorem ms_88 : Cond.selects (sm_mi 88).1.cls (sm_mi 88).1 (sm_mi 88).1 ∈ lw_tbl := sm_m3 16 rfl
set_option maxRecDepth 20000 in
theorem mw_89 : sm_cw (sm_mi 89).1 (sm_mi 89).2.1 (sm_mi 89).2.2.1 (sm_mi 89).2.2.2.1 (sm_mi 89).2.2.2.2.1 ∈ lw_tbl := sm_m4 125 rfl
set_option maxRecDepth 20000 in
theorem mi_89 : Cond.instanceMethod (sm_mi 89).1 ∈ lw_tbl := sm_m4 123 rfl
set_option maxRecDepth 20000 in
theorem ms_89 : Cond.selects (sm_mi 89).1.cls (sm_mi 89).1 (sm_mi 89).1 ∈ lw_tbl := sm_m4 124 rfl
set_option maxRecDepth 20000 in
theorem mw_90 : sm_cw (sm_mi 90).1 (sm_mi 90).2.1 (sm_mi 90).2.2.1 (sm_mi 90).2.2.2.1 (sm_mi 90).2.2.2.2.1 ∈ lw_tbl := sm_m4 129 rfl
set_option maxRecDepth 20000 in
theorem mi_90 : Cond.instanceMethod (sm_mi 90).1 ∈ lw_tbl := sm_m4 127 rfl
set_option maxRecDepth 20000 in
theorem ms_90 : Cond.selects (sm_mi 90).1.cls (sm_mi 90).1 (sm_mi 90).1 ∈ lw_tbl := sm_m4 128 rfl
set_option maxRecDepth 20000 in
theorem mw_91 : sm_cw (sm_mi 91).1 (sm_mi 91).2.1 (sm_mi 91).2.2.1 (sm_mi 91).2.2.2.1 (sm_mi 91).2.2.2.2.1 ∈ lw_tbl := sm_m4 133 rfl
set_option maxRecDepth 20000 in
theorem mi_91 : Cond.instanceMethod (sm_mi 91).1 ∈ lw_tbl := sm_m4 132 rfl
set_option maxRecDepth 20000 in
theorem ms_91 : Cond.selects (sm_mi 91).1.cls (sm_mi 91).1 (sm_mi 91).1 ∈ lw_tbl := sm_mz 8 rfl
set_option maxRecDepth 20000 in
theorem mw_92 : sm_cw (sm_mi 92).1 (sm_mi 92).2.1 (sm_mi 92).2.2.1 (sm_mi 92).2.2.2.1 (sm_mi 92).2.2.2.2.1 ∈ lw_tbl := sm_m5 80 rfl
set_option maxRecDepth 20000 in
theorem mi_92 : Cond.instanceMethod (sm_mi 92).1 ∈ lw_tbl := sm_m5 78 rfl
set_option maxRecDepth 20000 in
theorem ms_92 : Cond.selects (sm_mi 92).1.cls (sm_mi 92).1 (sm_mi 92).1 ∈ lw_tbl := sm_m5 79 rfl
set_option maxRecDepth 20000 in
theorem mw_93 : sm_cw (sm_mi 93).1 (sm_mi 93).2.1 (sm_mi 93).2.2.1 (sm_mi 93).2.2.2.1 (sm_mi 93).2.2.2.2.1 ∈ lw_tbl := sm_m5 87 rfl
set_option maxRecDepth 20000 in
theorem mi_93 : Cond.instanceMethod (sm_mi 93).1 ∈ lw_tbl := sm_m5 86 rfl
set_option maxRecDepth 20000 in
theorem ms_93 : Cond.selects (sm_mi 93).1.cls (sm_mi 93).1 (sm_mi 93).1 ∈ lw_tbl := sm_mz 20 rfl
set_option maxRecDepth 20000 in
theorem mw_94 : sm_cw (sm_mi 94).1 (sm_mi 94).2.1 (sm_mi 94).2.2.1 (sm_mi 94).2.2.2.1 (sm_mi 94).2.2.2.2.1 ∈ lw_tbl := sm_m5 91 rfl
set_option maxRecDepth 20000 in
theorem mi_94 : Cond.instanceMethod (sm_mi 94).1 ∈ lw_tbl := sm_m5 90 rfl
set_option maxRecDepth 20000 in
theorem ms_94 : Cond.selects (sm_mi 94).1.cls (sm_mi 94).1 (sm_mi 94).1 ∈ lw_tbl := sm_mz 21 rfl
set_option maxRecDepth 20000 in
theorem mw_95 : sm_cw (sm_mi 95).1 (sm_mi 95).2.1 (sm_mi 95).2.2.1 (sm_mi 95).2.2.2.1 (sm_mi 95).2.2.2.2.1 ∈ lw_tbl := sm_m5 108 rfl
set_option maxRecDepth 20000 in
theorem mi_95 : Cond.instanceMethod (sm_mi 95).1 ∈ lw_tbl := sm_m5 107 rfl
set_option maxRecDepth 20000 in
theorem ms_95 : Cond.selects (sm_mi 95).1.cls (sm_mi 95).1 (sm_mi 95).1 ∈ lw_tbl := sm_mz 23 rfl
set_option maxRecDepth 20000 in
theorem mw_96 : sm_cw (sm_mi 96).1 (sm_mi 96).2.1 (sm_mi 96).2.2.1 (sm_mi 96).2.2.2.1 (sm_mi 96).2.2.2.2.1 ∈ lw_tbl := sm_m5 120 rfl
set_option maxRecDepth 20000 in
theorem mi_96 : Cond.instanceMethod (sm_mi 96).1 ∈ lw_tbl := sm_m5 119 rfl
set_option maxRecDepth 20000 in
theorem ms_96 : Cond.selects (sm_mi 96).1.cls (sm_mi 96).1 (sm_mi 96).1 ∈ lw_tbl := sm_mz 24 rfl
set_option maxRecDepth 20000 in
theorem mw_97 : sm_cw (sm_mi 97).1 (sm_mi 97).2.1 (sm_mi 97).2.2.1 (sm_mi 97).2.2.2.1 (sm_mi 97).2.2.2.2.1 ∈ lw_tbl := sm_m5 124 rfl
set_option maxRecDepth 20000 in
theorem mi_97 : Cond.instanceMethod (sm_mi 97).1 ∈ lw_tbl := sm_m5 123 rfl
set_option maxRecDepth 20000 in
theorem ms_97 : Cond.selects (sm_mi 97).1.cls (sm_mi 97).1 (sm_mi 97).1 ∈ lw_tbl := sm_mz 25 rfl
set_option maxRecDepth 20000 in
theorem mw_98 : sm_cw (sm_mi 98).1 (sm_mi 98).2.1 (sm_mi 98).2.2.1 (sm_mi 98).2.2.2.1 (sm_mi 98).2.2.2.2.1 ∈ lw_tbl := sm_m5 142 rfl
set_option maxRecDepth 20000 in
theorem mi_98 : Cond.instanceMethod (sm_mi 98).1 ∈ lw_tbl := sm_m5 141 rfl
set_option maxRecDepth 20000 in
theorem ms_98 : Cond.selects (sm_mi 98).1.cls (sm_mi 98).1 (sm_mi 98).1 ∈ lw_tbl := sm_mz 26 rfl
set_option maxRecDepth 20000 in
theorem mw_99 : sm_cw (sm_mi 99).1 (sm_mi 99).2.1 (sm_mi 99).2.2.1 (sm_mi 99).2.2.2.1 (sm_mi 99).2.2.2.2.1 ∈ lw_tbl := sm_m5 148 rfl
set_option maxRecDepth 20000 in
theorem mi_99 : Cond.instanceMethod (sm_mi 99).1 ∈ lw_tbl := sm_m5 147 rfl
set_option maxRecDepth 20000 in
theorem ms_99 : Cond.selects (sm_mi 99).1.cls (sm_mi 99).1 (sm_mi 99).1 ∈ lw_tbl := sm_mz 27 rfl
set_option maxRecDepth 20000 in
theorem mw_100 : sm_cw (sm_mi 100).1 (sm_mi 100).2.1 (sm_mi 100).2.2.1 (sm_mi 100).2.2.2.1 (sm_mi 100).2.2.2.2.1 ∈ lw_tbl := sm_m5 152 rfl
set_option maxRecDepth 20000 in
theorem mi_100 : Cond.instanceMethod (sm_mi 100).1 ∈ lw_tbl := sm_m5 151 rfl
set_option maxRecDepth 20000 in
theorem ms_100 : Cond.selects (sm_mi 100).1.cls (sm_mi 100).1 (sm_mi 100).1 ∈ lw_tbl := sm_mz 28 rfl
set_option maxRecDepth 20000 in
theorem mw_101 : sm_cw (sm_mi 101).1 (sm_mi 101).2.1 (sm_mi 101).2.2.1 (sm_mi 101).2.2.2.1 (sm_mi 101).2.2.2.2.1 ∈ lw_tbl := sm_m5 161 rfl
set_option maxRecDepth 20000 in
theorem mi_101 : Cond.instanceMethod (sm_mi 101).1 ∈ lw_tbl := sm_m5 160 rfl
set_option maxRecDepth 20000 in
theorem ms_101 : Cond.selects (sm_mi 101).1.cls (sm_mi 101).1 (sm_mi 101).1 ∈ lw_tbl := sm_mz 30 rfl
set_option maxRecDepth 20000 in
theorem mw_102 : sm_cw (sm_mi 102).1 (sm_mi 102).2.1 (sm_mi 102).2.2.1 (sm_mi 102).2.2.2.1 (sm_mi 102).2.2.2.2.1 ∈ lw_tbl := sm_m5 157 rfl
set_option maxRecDepth 20000 in
theorem mi_102 : Cond.instanceMethod (sm_mi 102).1 ∈ lw_tbl := sm_m5 156 rfl
set_option maxRecDepth 20000 in
theorem ms_102 : Cond.selects (sm_mi 102).1.cls (sm_mi 102).1 (sm_mi 102).1 ∈ lw_tbl := sm_mz 29 rfl
set_option maxRecDepth 20000 in
theorem mw_103 : sm_cw (sm_mi 103).1 (sm_mi 103).2.1 (sm_mi 103).2.2.1 (sm_mi 103).2.2.2.1 (sm_mi 103).2.2.2.2.1 ∈ lw_tbl := sm_m6 12 rfl
set_option maxRecDepth 20000 in
theorem mi_103 : Cond.instanceMethod (sm_mi 103).1 ∈ lw_tbl := sm_m6 11 rfl
set_option maxRecDepth 20000 in
theorem ms_103 : Cond.selects (sm_mi 103).1.cls (sm_mi 103).1 (sm_mi 103).1 ∈ lw_tbl := sm_mz 42 rfl
set_option maxRecDepth 20000 in
theorem mw_104 : sm_cw (sm_mi 104).1 (sm_mi 104).2.1 (sm_mi 104).2.2.1 (sm_mi 104).2.2.2.1 (sm_mi 104).2.2.2.2.1 ∈ lw_tbl := sm_m6 16 rfl
set_option maxRecDepth 20000 in
theorem mi_104 : Cond.instanceMethod (sm_mi 104).1 ∈ lw_tbl := sm_m6 15 rfl
set_option maxRecDepth 20000 in
theorem ms_104 : Cond.selects (sm_mi 104).1.cls (sm_mi 104).1 (sm_mi 104).1 ∈ lw_tbl := sm_mz 43 rfl
set_option maxRecDepth 20000 in
theorem mw_105 : sm_cw (sm_mi 105).1 (sm_mi 105).2.1 (sm_mi 105).2.2.1 (sm_mi 105).2.2.2.1 (sm_mi 105).2.2.2.2.1 ∈ lw_tbl := sm_m6 20 rfl
set_option maxRecDepth 20000 in
theorem mi_105 : Cond.instanceMethod (sm_mi 105).1 ∈ lw_tbl := sm_m6 19 rfl
set_option maxRecDepth 20000 in
theorem ms_105 : Cond.selects (sm_mi 105).1.cls (sm_mi 105).1 (sm_mi 105).1 ∈ lw_tbl := sm_mz 44 rfl
set_option maxRecDepth 20000 in
theorem mw_106 : sm_cw (sm_mi 106).1 (sm_mi 106).2.1 (sm_mi 106).2.2.1 (sm_mi 106).2.2.2.1 (sm_mi 106).2.2.2.2.1 ∈ lw_tbl := sm_m5 98 rfl
set_option maxRecDepth 20000 in
theorem mi_106 : Cond.instanceMethod (sm_mi 106).1 ∈ lw_tbl := sm_m5 97 rfl
set_option maxRecDepth 20000 in
theorem ms_106 : Cond.selects (sm_mi 106).1.cls (sm_mi 106).1 (sm_mi 106).1 ∈ lw_tbl := sm_mz 22 rfl
set_option maxRecDepth 20000 in
theorem mw_107 : sm_cw (sm_mi 107).1 (sm_mi 107).2.1 (sm_mi 107).2.2.1 (sm_mi 107).2.2.2.1 (sm_mi 107).2.2.2.2.1 ∈ lw_tbl := sm_m1 208 rfl
set_option maxRecDepth 20000 in
theorem mi_107 : Cond.instanceMethod (sm_mi 107).1 ∈ lw_tbl := sm_m1 207 rfl
set_option maxRecDepth 20000 in
theorem mn_107 : (sm_mi 107).1.name = "<init>" ∧ (sm_mi 107).2.2.2.1 = none ∧ (sm_mi 107).2.2.2.2.1 = [] := ⟨rfl, rfl, rfl⟩
set_option maxRecDepth 20000 in
theorem mw_108 : sm_cw (sm_mi 108).1 (sm_mi 108).2.1 (sm_mi 108).2.2.1 (sm_mi 108).2.2.2.1 (sm_mi 108).2.2.2.2.1 ∈ lw_tbl := sm_m4 121 rfl
set_option maxRecDepth 20000 in
theorem mi_108 : Cond.instanceMethod (sm_mi 108).1 ∈ lw_tbl := sm_m4 119 rfl
set_option maxRecDepth 20000 in
theorem ms_108 : Cond.selects (sm_mi 108).1.cls (sm_mi 108).1 (sm_mi 108).1 ∈ lw_tbl := sm_m4 120 rfl
set_option maxRecDepth 20000 in
theorem mw_109 : sm_cw (sm_mi 109).1 (sm_mi 109).2.1 (sm_mi 109).2.2.1 (sm_mi 109).2.2.2.1 (sm_mi 109).2.2.2.2.1 ∈ lw_tbl := sm_m5 31 rfl
set_option maxRecDepth 20000 in
theorem mi_109 : Cond.instanceMethod (sm_mi 109).1 ∈ lw_tbl := sm_m5 29 rfl
set_option maxRecDepth 20000 in
theorem ms_109 : Cond.selects (sm_mi 109).1.cls (sm_mi 109).1 (sm_mi 109).1 ∈ lw_tbl := sm_m5 30 rfl
set_option maxRecDepth 20000 in
theorem mw_110 : sm_cw (sm_mi 110).1 (sm_mi 110).2.1 (sm_mi 110).2.2.1 (sm_mi 110).2.2.2.1 (sm_mi 110).2.2.2.2.1 ∈ lw_tbl := sm_m3 1 rfl
set_option maxRecDepth 20000 in
theorem mi_110 : Cond.instanceMethod (sm_mi 110).1 ∈ lw_tbl := sm_m2 239 rfl
set_option maxRecDepth 20000 in
theorem ms_110 : Cond.selects (sm_mi 110).1.cls (sm_mi 110).1 (sm_mi 110).1 ∈ lw_tbl := sm_m3 0 rfl
set_option maxRecDepth 20000 in
theorem mw_111 : sm_cw (sm_mi 111).1 (sm_mi 111).2.1 (sm_mi 111).2.2.1 (sm_mi 111).2.2.2.1 (sm_mi 111).2.2.2.2.1 ∈ lw_tbl := sm_m3 25 rfl
set_option maxRecDepth 20000 in
theorem mi_111 : Cond.instanceMethod (sm_mi 111).1 ∈ lw_tbl := sm_m3 23 rfl
set_option maxRecDepth 20000 in
theorem ms_111 : Cond.selects (sm_mi 111).1.cls (sm_mi 111).1 (sm_mi 111).1 ∈ lw_tbl := sm_m3 24 rfl
set_option maxRecDepth 20000 in
theorem mw_112 : sm_cw (sm_mi 112).1 (sm_mi 112).2.1 (sm_mi 112).2.2.1 (sm_mi 112).2.2.2.1 (sm_mi 112).2.2.2.2.1 ∈ lw_tbl := sm_m2 237 rfl
set_option maxRecDepth 20000 in
theorem mi_112 : Cond.instanceMethod (sm_mi 112).1 ∈ lw_tbl := sm_m2 235 rfl
set_option maxRecDepth 20000 in
theorem ms_112 : Cond.selects (sm_mi 112).1.cls (sm_mi 112).1 (sm_mi 112).1 ∈ lw_tbl := sm_m2 236 rfl
set_option maxRecDepth 20000 in
theorem mw_113 : sm_cw (sm_mi 113).1 (sm_mi 113).2.1 (sm_mi 113).2.2.1 (sm_mi 113).2.2.2.1 (sm_mi 113).2.2.2.2.1 ∈ lw_tbl := sm_m3 5 rfl
set_option maxRecDepth 20000 in
theorem mi_113 : Cond.instanceMethod (sm_mi 113).1 ∈ lw_tbl := sm_m3 3 rfl
set_option maxRecDepth 20000 in
theorem ms_113 : Cond.selects (sm_mi 113).1.cls (sm_mi 113).1 (sm_mi 113).1 ∈ lw_tbl := sm_m3 4 rfl
set_option maxRecDepth 20000 in
theorem mw_114 : sm_cw (sm_mi 114).1 (sm_mi 114).2.1 (sm_mi 114).2.2.1 (sm_mi 114).2.2.2.1 (sm_mi 114).2.2.2.2.1 ∈ lw_tbl := sm_m3 29 rfl
set_option maxRecDepth 20000 in
theorem mi_114 : Cond.instanceMethod (sm_mi 114).1 ∈ lw_tbl := sm_m3 27 rfl
set_option maxRecDepth 20000 in
theorem ms_114 : Cond.selects (sm_mi 114).1.cls (sm_mi 114).1 (sm_mi 114).1 ∈ lw_tbl := sm_m3 28 rfl
set_option maxRecDepth 20000 in
theorem mw_115 : sm_cw (sm_mi 115).1 (sm_mi 115).2.1 (sm_mi 115).2.2.1 (sm_mi 115).2.2.2.1 (sm_mi 115).2.2.2.2.1 ∈ lw_tbl := sm_m3 13 rfl
set_option maxRecDepth 20000 in
theorem mi_115 : Cond.instanceMethod (sm_mi 115).1 ∈ lw_tbl := sm_m3 11 rfl
set_option maxRecDepth 20000 in
theorem ms_115 : Cond.selects (sm_mi 115).1.cls (sm_mi 115).1 (sm_mi 115).1 ∈ lw_tbl := sm_m3 12 rfl
set_option maxRecDepth 20000 in
theorem mw_116 : sm_cw (sm_mi 116).1 (sm_mi 116).2.1 (sm_mi 116).2.2.1 (sm_mi 116).2.2.2.1 (sm_mi 116).2.2.2.2.1 ∈ lw_tbl := sm_m4 183 rfl
set_option maxRecDepth 20000 in
theorem mi_116 : Cond.instanceMethod (sm_mi 116).1 ∈ lw_tbl := sm_m4 181 rfl
set_option maxRecDepth 20000 in
theorem ms_116 : Cond.selects (sm_mi 116).1.cls (sm_mi 116).1 (sm_mi 116).1 ∈ lw_tbl := sm_m4 182 rfl
set_option maxRecDepth 20000 in
theorem mw_117 : sm_cw (sm_mi 117).1 (sm_mi 117).2.1 (sm_mi 117).2.2.1 (sm_mi 117).2.2.2.1 (sm_mi 117).2.2.2.2.1 ∈ lw_tbl := sm_m2 233 rfl
set_option maxRecDepth 20000 in
theorem mi_117 : Cond.instanceMethod (sm_mi 117).1 ∈ lw_tbl := sm_m2 231 rfl
set_option maxRecDepth 20000 in
theorem ms_117 : Cond.selects (sm_mi 117).1.cls (sm_mi 117).1 (sm_mi 117).1 ∈ lw_tbl := sm_m2 232 rfl
set_option maxRecDepth 20000 in
theorem mw_118 : sm_cw (sm_mi 118).1 (sm_mi 118).2.1 (sm_mi 118).2.2.1 (sm_mi 118).2.2.2.1 (sm_mi 118).2.2.2.2.1 ∈ lw_tbl := sm_m1 238 rfl
set_option maxRecDepth 20000 in
theorem mi_118 : Cond.instanceMethod (sm_mi 118).1 ∈ lw_tbl := sm_m1 237 rfl
set_option maxRecDepth 20000 in
theorem mn_118 : (sm_mi 118).1.name = "<init>" ∧ (sm_mi 118).2.2.2.1 = none ∧ (sm_mi 118).2.2.2.2.1 = [] := ⟨rfl, rfl, rfl⟩
set_option maxRecDepth 20000 in
theorem mw_119 : sm_cw (sm_mi 119).1 (sm_mi 119).2.1 (sm_mi 119).2.2.1 (sm_mi 119).2.2.2.1 (sm_mi 119).2.2.2.2.1 ∈ lw_tbl := sm_m4 229 rfl
set_option maxRecDepth 20000 in
theorem mi_119 : Cond.instanceMethod (sm_mi 119).1 ∈ lw_tbl := sm_m4 227 rfl
set_option maxRecDepth 20000 in
theorem ms_119 : Cond.selects (sm_mi 119).1.cls (sm_mi 119).1 (sm_mi 119).1 ∈ lw_tbl := sm_m4 228 rfl
set_option maxRecDepth 20000 in
theorem mw_120 : sm_cw (sm_mi 120).1 (sm_mi 120).2.1 (sm_mi 120).2.2.1 (sm_mi 120).2.2.2.1 (sm_mi 120).2.2.2.2.1 ∈ lw_tbl := sm_m6 64 rfl
set_option maxRecDepth 20000 in
theorem mi_120 : Cond.instanceMethod (sm_mi 120).1 ∈ lw_tbl := sm_m6 62 rfl
set_option maxRecDepth 20000 in
theorem ms_120 : Cond.selects (sm_mi 120).1.cls (sm_mi 120).1 (sm_mi 120).1 ∈ lw_tbl := sm_m6 63 rfl
set_option maxRecDepth 20000 in
theorem mw_121 : sm_cw (sm_mi 121).1 (sm_mi 121).2.1 (sm_mi 121).2.2.1 (sm_mi 121).2.2.2.1 (sm_mi 121).2.2.2.2.1 ∈ lw_tbl := sm_m4 147 rfl
set_option maxRecDepth 20000 in
theorem mi_121 : Cond.instanceMethod (sm_mi 121).1 ∈ lw_tbl := sm_m4 145 rfl
set_option maxRecDepth 20000 in
theorem ms_121 : Cond.selects (sm_mi 121).1.cls (sm_mi 121).1 (sm_mi 121).1 ∈ lw_tbl := sm_m4 146 rfl
set_option maxRecDepth 20000 in
theorem mw_122 : sm_cw (sm_mi 122).1 (sm_mi 122).2.1 (sm_mi 122).2.2.1 (sm_mi 122).2.2.2.1 (sm_mi 122).2.2.2.2.1 ∈ lw_tbl := sm_m4 143 rfl
set_option maxRecDepth 20000 in
theorem mi_122 : Cond.instanceMethod (sm_mi 122).1 ∈ lw_tbl := sm_m4 141 rfl
set_option maxRecDepth 20000 in
theorem ms_122 : Cond.selects (sm_mi 122).1.cls (sm_mi 122).1 (sm_mi 122).1 ∈ lw_tbl := sm_m4 142 rfl
set_option maxRecDepth 20000 in
theorem mw_123 : sm_cw (sm_mi 123).1 (sm_mi 123).2.1 (sm_mi 123).2.2.1 (sm_mi 123).2.2.2.1 (sm_mi 123).2.2.2.2.1 ∈ lw_tbl := sm_m4 187 rfl
set_option maxRecDepth 20000 in
theorem mi_123 : Cond.instanceMethod (sm_mi 123).1 ∈ lw_tbl := sm_m4 186 rfl
set_option maxRecDepth 20000 in
theorem ms_123 : Cond.selects (sm_mi 123).1.cls (sm_mi 123).1 (sm_mi 123).1 ∈ lw_tbl := sm_mz 10 rfl
set_option maxRecDepth 20000 in
theorem mw_124 : sm_cw (sm_mi 124).1 (sm_mi 124).2.1 (sm_mi 124).2.2.1 (sm_mi 124).2.2.2.1 (sm_mi 124).2.2.2.2.1 ∈ lw_tbl := sm_m5 35 rfl
set_option maxRecDepth 20000 in
theorem mi_124 : Cond.instanceMethod (sm_mi 124).1 ∈ lw_tbl := sm_m5 34 rfl
set_option maxRecDepth 20000 in
theorem ms_124 : Cond.selects (sm_mi 124).1.cls (sm_mi 124).1 (sm_mi 124).1 ∈ lw_tbl := sm_mz 16 rfl
set_option maxRecDepth 20000 in
theorem mw_125 : sm_cw (sm_mi 125).1 (sm_mi 125).2.1 (sm_mi 125).2.2.1 (sm_mi 125).2.2.2.1 (sm_mi 125).2.2.2.2.1 ∈ lw_tbl := sm_m5 60 rfl
set_option maxRecDepth 20000 in
theorem mi_125 : Cond.instanceMethod (sm_mi 125).1 ∈ lw_tbl := sm_m5 59 rfl
set_option maxRecDepth 20000 in
theorem ms_125 : Cond.selects (sm_mi 125).1.cls (sm_mi 125).1 (sm_mi 125).1 ∈ lw_tbl := sm_mz 19 rfl
set_option maxRecDepth 20000 in
theorem mw_126 : sm_cw (sm_mi 126).1 (sm_mi 126).2.1 (sm_mi 126).2.2.1 (sm_mi 126).2.2.2.1 (sm_mi 126).2.2.2.2.1 ∈ lw_tbl := sm_m4 151 rfl
set_option maxRecDepth 20000 in
theorem mi_126 : Cond.instanceMethod (sm_mi 126).1 ∈ lw_tbl := sm_m4 150 rfl
set_option maxRecDepth 20000 in
theorem ms_126 : Cond.selects (sm_mi 126).1.cls (sm_mi 126).1 (sm_mi 126).1 ∈ lw_tbl := sm_mz 9 rfl
set_option maxRecDepth 20000 in
theorem mw_127 : sm_cw (sm_mi 127).1 (sm_mi 127).2.1 (sm_mi 127).2.2.1 (sm_mi 127).2.2.2.1 (sm_mi 127).2.2.2.2.1 ∈ lw_tbl := sm_m4 212 rfl
set_option maxRecDepth 20000 in
theorem mi_127 : Cond.instanceMethod (sm_mi 127).1 ∈ lw_tbl := sm_m4 210 rfl
set_option maxRecDepth 20000 in
theorem ms_127 : Cond.selects (sm_mi 127).1.cls (sm_mi 127).1 (sm_mi 127).1 ∈ lw_tbl := sm_m4 211 rfl
set_option maxRecDepth 20000 in
theorem mw_128 : sm_cw (sm_mi 128).1 (sm_mi 128).2.1 (sm_mi 128).2.2.1 (sm_mi 128).2.2.2.1 (sm_mi 128).2.2.2.2.1 ∈ lw_tbl := sm_m4 234 rfl
set_option maxRecDepth 20000 in
theorem mi_128 : Cond.instanceMethod (sm_mi 128).1 ∈ lw_tbl := sm_m4 233 rfl
set_option maxRecDepth 20000 in
theorem ms_128 : Cond.selects (sm_mi 128).1.cls (sm_mi 128).1 (sm_mi 128).1 ∈ lw_tbl := sm_mz 12 rfl
set_option maxRecDepth 20000 in
theorem mw_129 : sm_cw (sm_mi 129).1 (sm_mi 129).2.1 (sm_mi 129).2.2.1 (sm_mi 129).2.2.2.1 (sm_mi 129).2.2.2.2.1 ∈ lw_tbl := sm_m4 238 rfl
set_option maxRecDepth 20000 in
theorem mi_129 : Cond.instanceMethod (sm_mi 129).1 ∈ lw_tbl := sm_m4 237 rfl
set_option maxRecDepth 20000 in
theorem ms_129 : Cond.selects (sm_mi 129).1.cls (sm_mi 129).1 (sm_mi 129).1 ∈ lw_tbl := sm_mz 13 rfl
set_option maxRecDepth 20000 in
theorem mw_130 : sm_cw (sm_mi 130).1 (sm_mi 130).2.1 (sm_mi 130).2.2.1 (sm_mi 130).2.2.2.1 (sm_mi 130).2.2.2.2.1 ∈ lw_tbl := sm_m5 2 rfl
set_option maxRecDepth 20000 in
theorem mi_130 : Cond.instanceMethod (sm_mi 130).1 ∈ lw_tbl := sm_m5 1 rfl
set_option maxRecDepth 20000 in
theorem ms_130 : Cond.selects (sm_mi 130).1.cls (sm_mi 130).1 (sm_mi 130).1 ∈ lw_tbl := sm_mz 14 rfl
set_option maxRecDepth 20000 in
theorem mw_131 : sm_cw (sm_mi 131).1 (sm_mi 131).2.1 (sm_mi 131).2.2.1 (sm_mi 131).2.2.2.1 (sm_mi 131).2.2.2.2.1 ∈ lw_tbl := sm_m5 27 rfl
set_option maxRecDepth 20000 in
theorem mi_131 : Cond.instanceMethod (sm_mi 131).1 ∈ lw_tbl := sm_m5 26 rfl
set_option maxRecDepth 20000 in
theorem ms_131 : Cond.selects (sm_mi 131).1.cls (sm_mi 131).1 (sm_mi 131).1 ∈ lw_tbl := sm_mz 15 rfl
set_option maxRecDepth 20000 in
theorem mw_132 : sm_cw (sm_mi 132).1 (sm_mi 132).2.1 (sm_mi 132).2.2.1 (sm_mi 132).2.2.2.1 (sm_mi 132).2.2.2.2.1 ∈ lw_tbl := sm_m5 56 rfl
set_option maxRecDepth 20000 in
theorem mi_132 : Cond.instanceMethod (sm_mi 132).1 ∈ lw_tbl := sm_m5 55 rfl
set_option maxRecDepth 20000 in
theorem ms_132 : Cond.selects (sm_mi 132).1.cls (sm_mi 132).1 (sm_mi 132).1 ∈ lw_tbl := sm_mz 18 rfl
set_option maxRecDepth 20000 in
theorem mw_133 : sm_cw (sm_mi 133).1 (sm_mi 133).2.1 (sm_mi 133).2.2.1 (sm_mi 133).2.2.2.1 (sm_mi 133).2.2.2.2.1 ∈ lw_tbl := sm_m5 39 rfl
set_option maxRecDepth 20000 in
theorem mi_133 : Cond.instanceMethod (sm_mi 133).1 ∈ lw_tbl := sm_m5 38 rfl
set_option maxRecDepth 20000 in
theorem ms_133 : Cond.selects (sm_mi 133).1.cls (sm_mi 133).1 (sm_mi 133).1 ∈ lw_tbl := sm_mz 17 rfl
set_option maxRecDepth 20000 in
theorem mw_134 : sm_cw (sm_mi 134).1 (sm_mi 134).2.1 (sm_mi 134).2.2.1 (sm_mi 134).2.2.2.1 (sm_mi 134).2.2.2.2.1 ∈ lw_tbl := sm_m1 28 rfl
set_option maxRecDepth 20000 in
theorem mi_134 : Cond.instanceMethod (sm_mi 134).1 ∈ lw_tbl := sm_m1 27 rfl
set_option maxRecDepth 20000 in
theorem mn_134 : (sm_mi 134).1.name = "<init>" ∧ (sm_mi 134).2.2.2.1 = none ∧ (sm_mi 134).2.2.2.2.1 = [] := ⟨rfl, rfl, rfl⟩
set_option maxRecDepth 20000 in
theorem mw_135 : sm_cw (sm_mi 135).1 (sm_mi 135).2.1 (sm_mi 135).2.2.1 (sm_mi 135).2.2.2.1 (sm_mi 135).2.2.2.2.1 ∈ lw_tbl := sm_m3 64 rfl
set_option maxRecDepth 20000 in
theorem mi_135 : Cond.instanceMethod (sm_mi 135).1 ∈ lw_tbl := sm_m3 62 rfl
set_option maxRecDepth 20000 in
theorem ms_135 : Cond.selects (sm_mi 135).1.cls (sm_mi 135).1 (sm_mi 135).1 ∈ lw_tbl := sm_m3 63 rfl
set_option maxRecDepth 20000 in
theorem mw_136 : sm_cw (sm_mi 136).1 (sm_mi 136).2.1 (sm_mi 136).2.2.1 (sm_mi 136).2.2.2.1 (sm_mi 136).2.2.2.2.1 ∈ lw_tbl := sm_m3 179 rfl
set_option maxRecDepth 20000 in
theorem mi_136 : Cond.instanceMethod (sm_mi 136).1 ∈ lw_tbl := sm_m3 177 rfl
set_option maxRecDepth 20000 in
theorem ms_136 : Cond.selects (sm_mi 136).1.cls (sm_mi 136).1 (sm_mi 136).1 ∈ lw_tbl := sm_m3 178 rfl
set_option maxRecDepth 20000 in
theorem mw_137 : sm_cw (sm_mi 137).1 (sm_mi 137).2.1 (sm_mi 137).2.2.1 (sm_mi 137).2.2.2.1 (sm_mi 137).2.2.2.2.1 ∈ lw_tbl := sm_m3 191 rfl
set_option maxRecDepth 20000 in
theorem mi_137 : Cond.instanceMethod (sm_mi 137).1 ∈ lw_tbl := sm_m3 189 rfl
set_option maxRecDepth 20000 in
theorem ms_137 : Cond.selects (sm_mi 137).1.cls (sm_mi 137).1 (sm_mi 137).1 ∈ lw_tbl := sm_m3 190 rfl
set_option maxRecDepth 20000 in
theorem mw_138 : sm_cw (sm_mi 138).1 (sm_mi 138).2.1 (sm_mi 138).2.2.1 (sm_mi 138).2.2.2.1 (sm_mi 138).2.2.2.2.1 ∈ lw_tbl := sm_m3 233 rfl
set_option maxRecDepth 20000 in
theorem mi_138 : Cond.instanceMethod (sm_mi 138).1 ∈ lw_tbl := sm_m3 231 rfl
set_option maxRecDepth 20000 in
theorem ms_138 : Cond.selects (sm_mi 138).1.cls (sm_mi 138).1 (sm_mi 138).1 ∈ lw_tbl := sm_m3 232 rfl
set_option maxRecDepth 20000 in
theorem mw_139 : sm_cw (sm_mi 139).1 (sm_mi 139).2.1 (sm_mi 139).2.2.1 (sm_mi 139).2.2.2.1 (sm_mi 139).2.2.2.2.1 ∈ lw_tbl := sm_m4 31 rfl
set_option maxRecDepth 20000 in
theorem mi_139 : Cond.instanceMethod (sm_mi 139).1 ∈ lw_tbl := sm_m4 29 rfl
set_option maxRecDepth 20000 in
theorem ms_139 : Cond.selects (sm_mi 139).1.cls (sm_mi 139).1 (sm_mi 139).1 ∈ lw_tbl := sm_m4 30 rfl
set_option maxRecDepth 20000 in
theorem mw_140 : sm_cw (sm_mi 140).1 (sm_mi 140).2.1 (sm_mi 140).2.2.1 (sm_mi 140).2.2.2.1 (sm_mi 140).2.2.2.2.1 ∈ lw_tbl := sm_m4 44 rfl
set_option maxRecDepth 20000 in
theorem mi_140 : Cond.instanceMethod (sm_mi 140).1 ∈ lw_tbl := sm_m4 42 rfl
set_option maxRecDepth 20000 in
theorem ms_140 : Cond.selects (sm_mi 140).1.cls (sm_mi 140).1 (sm_mi 140).1 ∈ lw_tbl := sm_m4 43 rfl
set_option maxRecDepth 20000 in
theorem mw_141 : sm_cw (sm_mi 141).1 (sm_mi 141).2.1 (sm_mi 141).2.2.1 (sm_mi 141).2.2.2.1 (sm_mi 141).2.2.2.2.1 ∈ lw_tbl := sm_m4 56 rfl
set_option maxRecDepth 20000 in
theorem mi_141 : Cond.instanceMethod (sm_mi 141).1 ∈ lw_tbl := sm_m4 54 rfl
set_option maxRecDepth 20000 in
theorem ms_141 : Cond.selects (sm_mi 141).1.cls (sm_mi 141).1 (sm_mi 141).1 ∈ lw_tbl := sm_m4 55 rfl
set_option maxRecDepth 20000 in
theorem mw_142 : sm_cw (sm_mi 142).1 (sm_mi 142).2.1 (sm_mi 142).2.2.1 (sm_mi 142).2.2.2.1 (sm_mi 142).2.2.2.2.1 ∈ lw_tbl := sm_m4 198 rfl
set_option maxRecDepth 20000 in
theorem mi_142 : Cond.instanceMethod (sm_mi 142).1 ∈ lw_tbl := sm_m4 196 rfl
set_option maxRecDepth 20000 in
theorem ms_142 : Cond.selects (sm_mi 142).1.cls (sm_mi 142).1 (sm_mi 142).1 ∈ lw_tbl := sm_m4 197 rfl
set_option maxRecDepth 20000 in
theorem mw_143 : sm_cw (sm_mi 143).1 (sm_mi 143).2.1 (sm_mi 143).2.2.1 (sm_mi 143).2.2.2.1 (sm_mi 143).2.2.2.2.1 ∈ lw_tbl := sm_m6 37 rfl
set_option maxRecDepth 20000 in
theorem mi_143 : Cond.instanceMethod (sm_mi 143).1 ∈ lw_tbl := sm_m6 35 rfl
set_option maxRecDepth 20000 in
theorem ms_143 : Cond.selects (sm_mi 143).1.cls (sm_mi 143).1 (sm_mi 143).1 ∈ lw_tbl := sm_m6 36 rfl
set_option maxRecDepth 20000 in
theorem mw_144 : sm_cw (sm_mi 144).1 (sm_mi 144).2.1 (sm_mi 144).2.2.1 (sm_mi 144).2.2.2.1 (sm_mi 144).2.2.2.2.1 ∈ lw_tbl := sm_m6 50 rfl
set_option maxRecDepth 20000 in
theorem mi_144 : Cond.instanceMethod (sm_mi 144).1 ∈ lw_tbl := sm_m6 48 rfl
set_option maxRecDepth 20000 in
theorem ms_144 : Cond.selects (sm_mi 144).1.cls (sm_mi 144).1 (sm_mi 144).1 ∈ lw_tbl := sm_m6 49 rfl
set_option maxRecDepth 20000 in
theorem mw_145 : sm_cw (sm_mi 145).1 (sm_mi 145).2.1 (sm_mi 145).2.2.1 (sm_mi 145).2.2.2.1 (sm_mi 145).2.2.2.2.1 ∈ lw_tbl := sm_m6 58 rfl
set_option maxRecDepth 20000 in
theorem mi_145 : Cond.instanceMethod (sm_mi 145).1 ∈ lw_tbl := sm_m6 56 rfl
set_option maxRecDepth 20000 in
theorem ms_145 : Cond.selects (sm_mi 145).1.cls (sm_mi 145).1 (sm_mi 145).1 ∈ lw_tbl := sm_m6 57 rfl
set_option maxRecDepth 20000 in
theorem mw_146 : sm_cw (sm_mi 146).1 (sm_mi 146).2.1 (sm_mi 146).2.2.1 (sm_mi 146).2.2.2.1 (sm_mi 146).2.2.2.2.1 ∈ lw_tbl := sm_m6 71 rfl
set_option maxRecDepth 20000 in
theorem mi_146 : Cond.instanceMethod (sm_mi 146).1 ∈ lw_tbl := sm_m6 69 rfl
set_option maxRecDepth 20000 in
theorem ms_146 : Cond.selects (sm_mi 146).1.cls (sm_mi 146).1 (sm_mi 146).1 ∈ lw_tbl := sm_m6 70 rfl
set_option maxRecDepth 20000 in
theorem mw_147 : sm_cw (sm_mi 147).1 (sm_mi 147).2.1 (sm_mi 147).2.2.1 (sm_mi 147).2.2.2.1 (sm_mi 147).2.2.2.2.1 ∈ lw_tbl := sm_m6 81 rfl
set_option maxRecDepth 20000 in
theorem mi_147 : Cond.instanceMethod (sm_mi 147).1 ∈ lw_tbl := sm_m6 79 rfl
set_option maxRecDepth 20000 in
theorem ms_147 : Cond.selects (sm_mi 147).1.cls (sm_mi 147).1 (sm_mi 147).1 ∈ lw_tbl := sm_m6 80 rfl
set_option maxRecDepth 20000 in
theorem mw_148 : sm_cw (sm_mi 148).1 (sm_mi 148).2.1 (sm_mi 148).2.2.1 (sm_mi 148).2.2.2.1 (sm_mi 148).2.2.2.2.1 ∈ lw_tbl := sm_m6 88 rfl
set_option maxRecDepth 20000 in
theorem mi_148 : Cond.instanceMethod (sm_mi 148).1 ∈ lw_tbl := sm_m6 86 rfl
set_option maxRecDepth 20000 in
theorem ms_148 : Cond.selects (sm_mi 148).1.cls (sm_mi 148).1 (sm_mi 148).1 ∈ lw_tbl := sm_m6 87 rfl
set_option maxRecDepth 20000 in
theorem mw_149 : sm_cw (sm_mi 149).1 (sm_mi 149).2.1 (sm_mi 149).2.2.1 (sm_mi 149).2.2.2.1 (sm_mi 149).2.2.2.2.1 ∈ lw_tbl := sm_m2 229 rfl
set_option maxRecDepth 20000 in
theorem mi_149 : Cond.instanceMethod (sm_mi 149).1 ∈ lw_tbl := sm_m2 227 rfl
set_option maxRecDepth 20000 in
theorem ms_149 : Cond.selects (sm_mi 149).1.cls (sm_mi 149).1 (sm_mi 149).1 ∈ lw_tbl := sm_m2 228 rfl
set_option maxRecDepth 20000 in
theorem mw_150 : sm_cw (sm_mi 150).1 (sm_mi 150).2.1 (sm_mi 150).2.2.1 (sm_mi 150).2.2.2.1 (sm_mi 150).2.2.2.2.1 ∈ lw_tbl := sm_m6 93 rfl
set_option maxRecDepth 20000 in
theorem mi_150 : Cond.instanceMethod (sm_mi 150).1 ∈ lw_tbl := sm_m6 92 rfl
set_option maxRecDepth 20000 in
theorem ms_150 : Cond.selects (sm_mi 150).1.cls (sm_mi 150).1 (sm_mi 150).1 ∈ lw_tbl := sm_mz 45 rfl
set_option maxRecDepth 20000 in
theorem mw_151 : sm_cw (sm_mi 151).1 (sm_mi 151).2.1 (sm_mi 151).2.2.1 (sm_mi 151).2.2.2.1 (sm_mi 151).2.2.2.2.1 ∈ lw_tbl := sm_m3 9 rfl
set_option maxRecDepth 20000 in
theorem mi_151 : Cond.instanceMethod (sm_mi 151).1 ∈ lw_tbl := sm_m3 8 rfl
set_option maxRecDepth 20000 in
theorem ms_151 : Cond.selects (sm_mi 151).1.cls (sm_mi 151).1 (sm_mi 151).1 ∈ lw_tbl := sm_mz 0 rfl
set_option maxRecDepth 20000 in
theorem mw_152 : sm_cw (sm_mi 152).1 (sm_mi 152).2.1 (sm_mi 152).2.2.1 (sm_mi 152).2.2.2.1 (sm_mi 152).2.2.2.2.1 ∈ lw_tbl := sm_m3 143 rfl
set_option maxRecDepth 20000 in
theorem mi_152 : Cond.instanceMethod (sm_mi 152).1 ∈ lw_tbl := sm_m3 142 rfl
set_option maxRecDepth 20000 in
theorem ms_152 : Cond.selects (sm_mi 152).1.cls (sm_mi 152).1 (sm_mi 152).1 ∈ lw_tbl := sm_mz 3 rfl
set_option maxRecDepth 20000 in
theorem mw_153 : sm_cw (sm_mi 153).1 (sm_mi 153).2.1 (sm_mi 153).2.2.1 (sm_mi 153).2.2.2.1 (sm_mi 153).2.2.2.2.1 ∈ lw_tbl := sm_m4 207 rfl
set_option maxRecDepth 20000 in
theorem mi_153 : Cond.instanceMethod (sm_mi 153).1 ∈ lw_tbl := sm_m4 206 rfl
set_option maxRecDepth 20000 in
theorem ms_153 : Cond.selects (sm_mi 153).1.cls (sm_mi 153).1 (sm_mi 153).1 ∈ lw_tbl := sm_mz 11 rfl
set_option maxRecDepth 20000 in
theorem mw_154 : sm_cw (sm_mi 154).1 (sm_mi 154).2.1 (sm_mi 154).2.2.1 (sm_mi 154).2.2.2.1 (sm_mi 154).2.2.2.2.1 ∈ lw_tbl := sm_m3 70 rfl
set_option maxRecDepth 20000 in
theorem mi_154 : Cond.static (sm_mi 154).1 ∈ lw_tbl := sm_m3 69 rfl
set_option maxRecDepth 20000 in
theorem mw_155 : sm_cw (sm_mi 155).1 (sm_mi 155).2.1 (sm_mi 155).2.2.1 (sm_mi 155).2.2.2.1 (sm_mi 155).2.2.2.2.1 ∈ lw_tbl := sm_m3 67 rfl
set_option maxRecDepth 20000 in
theorem mi_155 : Cond.static (sm_mi 155).1 ∈ lw_tbl := sm_m3 66 rfl
set_option maxRecDepth 20000 in
theorem mw_156 : sm_cw (sm_mi 156).1 (sm_mi 156).2.1 (sm_mi 156).2.2.1 (sm_mi 156).2.2.2.1 (sm_mi 156).2.2.2.2.1 ∈ lw_tbl := sm_m3 236 rfl
set_option maxRecDepth 20000 in
theorem mi_156 : Cond.static (sm_mi 156).1 ∈ lw_tbl := sm_m3 235 rfl
set_option maxRecDepth 20000 in
theorem mw_157 : sm_cw (sm_mi 157).1 (sm_mi 157).2.1 (sm_mi 157).2.2.1 (sm_mi 157).2.2.2.1 (sm_mi 157).2.2.2.2.1 ∈ lw_tbl := sm_m4 201 rfl
set_option maxRecDepth 20000 in
theorem mi_157 : Cond.static (sm_mi 157).1 ∈ lw_tbl := sm_m4 200 rfl
set_option maxRecDepth 20000 in
theorem mw_158 : sm_cw (sm_mi 158).1 (sm_mi 158).2.1 (sm_mi 158).2.2.1 (sm_mi 158).2.2.2.1 (sm_mi 158).2.2.2.2.1 ∈ lw_tbl := sm_m6 100 rfl
set_option maxRecDepth 20000 in
theorem mi_158 : Cond.instanceMethod (sm_mi 158).1 ∈ lw_tbl := sm_m6 99 rfl
set_option maxRecDepth 20000 in
theorem mn_158 : (sm_mi 158).1.name = "<init>" ∧ (sm_mi 158).2.2.2.1 = none ∧ (sm_mi 158).2.2.2.2.1 = [] := ⟨rfl, rfl, rfl⟩
set_option maxRecDepth 20000 in
theorem mw_159 : sm_cw (sm_mi 159).1 (sm_mi 159).2.1 (sm_mi 159).2.2.1 (sm_mi 159).2.2.2.1 (sm_mi 159).2.2.2.2.1 ∈ lw_tbl := sm_m6 202 rfl
set_option maxRecDepth 20000 in
theorem mi_159 : Cond.instanceMethod (sm_mi 159).1 ∈ lw_tbl := sm_m6 200 rfl
set_option maxRecDepth 20000 in
theorem ms_159 : Cond.selects (sm_mi 159).1.cls (sm_mi 159).1 (sm_mi 159).1 ∈ lw_tbl := sm_m6 201 rfl
set_option maxRecDepth 20000 in
theorem mw_160 : sm_cw (sm_mi 160).1 (sm_mi 160).2.1 (sm_mi 160).2.2.1 (sm_mi 160).2.2.2.1 (sm_mi 160).2.2.2.2.1 ∈ lw_tbl := sm_m7 32 rfl
set_option maxRecDepth 20000 in
theorem mi_160 : Cond.instanceMethod (sm_mi 160).1 ∈ lw_tbl := sm_m7 31 rfl
set_option maxRecDepth 20000 in
theorem ms_160 : Cond.selects (sm_mi 160).1.cls (sm_mi 160).1 (sm_mi 160).1 ∈ lw_tbl := sm_mz 50 rfl
set_option maxRecDepth 20000 in
theorem mw_161 : sm_cw (sm_mi 161).1 (sm_mi 161).2.1 (sm_mi 161).2.2.1 (sm_mi 161).2.2.2.1 (sm_mi 161).2.2.2.2.1 ∈ lw_tbl := sm_m7 35 rfl
set_option maxRecDepth 20000 in
theorem mi_161 : Cond.static (sm_mi 161).1 ∈ lw_tbl := sm_m7 34 rfl
set_option maxRecDepth 20000 in
theorem mw_162 : sm_cw (sm_mi 162).1 (sm_mi 162).2.1 (sm_mi 162).2.2.1 (sm_mi 162).2.2.2.1 (sm_mi 162).2.2.2.2.1 ∈ lw_tbl := sm_m7 28 rfl
set_option maxRecDepth 20000 in
theorem mi_162 : Cond.instanceMethod (sm_mi 162).1 ∈ lw_tbl := sm_m7 27 rfl
set_option maxRecDepth 20000 in
theorem ms_162 : Cond.selects (sm_mi 162).1.cls (sm_mi 162).1 (sm_mi 162).1 ∈ lw_tbl := sm_mz 49 rfl
set_option maxRecDepth 20000 in
theorem mw_163 : sm_cw (sm_mi 163).1 (sm_mi 163).2.1 (sm_mi 163).2.2.1 (sm_mi 163).2.2.2.1 (sm_mi 163).2.2.2.2.1 ∈ lw_tbl := sm_m7 39 rfl
set_option maxRecDepth 20000 in
theorem mi_163 : Cond.instanceMethod (sm_mi 163).1 ∈ lw_tbl := sm_m7 38 rfl
set_option maxRecDepth 20000 in
theorem ms_163 : Cond.selects (sm_mi 163).1.cls (sm_mi 163).1 (sm_mi 163).1 ∈ lw_tbl := sm_mz 51 rfl
set_option maxRecDepth 20000 in
theorem mw_164 : sm_cw (sm_mi 164).1 (sm_mi 164).2.1 (sm_mi 164).2.2.1 (sm_mi 164).2.2.2.1 (sm_mi 164).2.2.2.2.1 ∈ lw_tbl := sm_m7 23 rfl
set_option maxRecDepth 20000 in
theorem mi_164 : Cond.instanceMethod (sm_mi 164).1 ∈ lw_tbl := sm_m7 22 rfl
set_option maxRecDepth 20000 in
theorem ms_164 : Cond.selects (sm_mi 164).1.cls (sm_mi 164).1 (sm_mi 164).1 ∈ lw_tbl := sm_mz 48 rfl
set_option maxRecDepth 20000 in
theorem mw_165 : sm_cw (sm_mi 165).1 (sm_mi 165).2.1 (sm_mi 165).2.2.1 (sm_mi 165).2.2.2.1 (sm_mi 165).2.2.2.2.1 ∈ lw_tbl := sm_m7 3 rfl
set_option maxRecDepth 20000 in
theorem mi_165 : Cond.instanceMethod (sm_mi 165).1 ∈ lw_tbl := sm_m7 2 rfl
set_option maxRecDepth 20000 in
theorem ms_165 : Cond.selects (sm_mi 165).1.cls (sm_mi 165).1 (sm_mi 165).1 ∈ lw_tbl := sm_mz 47 rfl
set_option maxRecDepth 20000 in
theorem mw_166 : sm_cw (sm_mi 166).1 (sm_mi 166).2.1 (sm_mi 166).2.2.1 (sm_mi 166).2.2.2.1 (sm_mi 166).2.2.2.2.1 ∈ lw_tbl := sm_m6 239 rfl
set_option maxRecDepth 20000 in
theorem mi_166 : Cond.instanceMethod (sm_mi 166).1 ∈ lw_tbl := sm_m6 238 rfl
set_option maxRecDepth 20000 in
theorem ms_166 : Cond.selects (sm_mi 166).1.cls (sm_mi 166).1 (sm_mi 166).1 ∈ lw_tbl := sm_mz 46 rfl
set_option maxRecDepth 20000 in
theorem mw_167 : sm_cw (sm_mi 167).1 (sm_mi 167).2.1 (sm_mi 167).2.2.1 (sm_mi 167).2.2.2.1 (sm_mi 167).2.2.2.2.1 ∈ lw_tbl := sm_m6 209 rfl
set_option maxRecDepth 20000 in
theorem mi_167 : Cond.static (sm_mi 167).1 ∈ lw_tbl := sm_m6 208 rfl
set_option maxRecDepth 20000 in
theorem mw_168 : sm_cw (sm_mi 168).1 (sm_mi 168).2.1 (sm_mi 168).2.2.1 (sm_mi 168).2.2.2.1 (sm_mi 168).2.2.2.2.1 ∈ lw_tbl := sm_m6 206 rfl
set_option maxRecDepth 20000 in
theorem mi_168 : Cond.instanceMethod (sm_mi 168).1 ∈ lw_tbl := sm_m6 204 rfl
set_option maxRecDepth 20000 in
theorem ms_168 : Cond.selects (sm_mi 168).1.cls (sm_mi 168).1 (sm_mi 168).1 ∈ lw_tbl := sm_m6 205 rfl
set_option maxRecDepth 20000 in
theorem mw_169 : sm_cw (sm_mi 169).1 (sm_mi 169).2.1 (sm_mi 169).2.2.1 (sm_mi 169).2.2.2.1 (sm_mi 169).2.2.2.2.1 ∈ lw_tbl := sm_m6 213 rfl
set_option maxRecDepth 20000 in
theorem mi_169 : Cond.instanceMethod (sm_mi 169).1 ∈ lw_tbl := sm_m6 211 rfl
set_option maxRecDepth 20000 in
theorem ms_169 : Cond.selects (sm_mi 169).1.cls (sm_mi 169).1 (sm_mi 169).1 ∈ lw_tbl := sm_m6 212 rfl
set_option maxRecDepth 20000 in
theorem mw_170 : sm_cw (sm_mi 170).1 (sm_mi 170).2.1 (sm_mi 170).2.2.1 (sm_mi 170).2.2.2.1 (sm_mi 170).2.2.2.2.1 ∈ lw_tbl := sm_m6 217 rfl
set_option maxRecDepth 20000 in
theorem mi_170 : Cond.instanceMethod (sm_mi 170).1 ∈ lw_tbl := sm_m6 215 rfl
set_option maxRecDepth 20000 in
theorem ms_170 : Cond.selects (sm_mi 170).1.cls (sm_mi 170).1 (sm_mi 170).1 ∈ lw_tbl := sm_m6 216 rfl
set_option maxRecDepth 20000 in
theorem mw_171 : sm_cw (sm_mi 171).1 (sm_mi 171).2.1 (sm_mi 171).2.2.1 (sm_mi 171).2.2.2.1 (sm_mi 171).2.2.2.2.1 ∈ lw_tbl := sm_m6 223 rfl
set_option maxRecDepth 20000 in
theorem mi_171 : Cond.instanceMethod (sm_mi 171).1 ∈ lw_tbl := sm_m6 221 rfl
set_option maxRecDepth 20000 in
theorem ms_171 : Cond.selects (sm_mi 171).1.cls (sm_mi 171).1 (sm_mi 171).1 ∈ lw_tbl := sm_m6 222 rfl
set_option maxRecDepth 20000 in
theorem mw_172 : sm_cw (sm_mi 172).1 (sm_mi 172).2.1 (sm_mi 172).2.2.1 (sm_mi 172).2.2.2.1 (sm_mi 172).2.2.2.2.1 ∈ lw_tbl := sm_m6 227 rfl
set_option maxRecDepth 20000 in
theorem mi_172 : Cond.instanceMethod (sm_mi 172).1 ∈ lw_tbl := sm_m6 225 rfl
set_option maxRecDepth 20000 in
theorem ms_172 : Cond.selects (sm_mi 172).1.cls (sm_mi 172).1 (sm_mi 172).1 ∈ lw_tbl := sm_m6 226 rfl
set_option maxRecDepth 20000 in
theorem mw_173 : sm_cw (sm_mi 173).1 (sm_mi 173).2.1 (sm_mi 173).2.2.1 (sm_mi 173).2.2.2.1 (sm_mi 173).2.2.2.2.1 ∈ lw_tbl := sm_m6 231 rfl
set_option maxRecDepth 20000 in
theorem mi_173 : Cond.instanceMethod (sm_mi 173).1 ∈ lw_tbl := sm_m6 229 rfl
set_option maxRecDepth 20000 in
theorem ms_173 : Cond.selects (sm_mi 173).1.cls (sm_mi 173).1 (sm_mi 173).1 ∈ lw_tbl := sm_m6 230 rfl
set_option maxRecDepth 20000 in
theorem mw_174 : sm_cw (sm_mi 174).1 (sm_mi 174).2.1 (sm_mi 174).2.2.1 (sm_mi 174).2.2.2.1 (sm_mi 174).2.2.2.2.1 ∈ lw_tbl := sm_m6 235 rfl
set_option maxRecDepth 20000 in
theorem mi_174 : Cond.instanceMethod (sm_mi 174).1 ∈ lw_tbl := sm_m6 233 rfl
set_option maxRecDepth 20000 in
theorem ms_174 : Cond.selects (sm_mi 174).1.cls (sm_mi 174).1 (sm_mi 174).1 ∈ lw_tbl := sm_m6 234 rfl
set_option maxRecDepth 20000 in
theorem mw_175 : sm_cw (sm_mi 175).1 (sm_mi 175).2.1 (sm_mi 175).2.2.1 (sm_mi 175).2.2.2.1 (sm_mi 175).2.2.2.2.1 ∈ lw_tbl := sm_m7 7 rfl
set_option maxRecDepth 20000 in
theorem mi_175 : Cond.instanceMethod (sm_mi 175).1 ∈ lw_tbl := sm_m7 5 rfl
set_option maxRecDepth 20000 in
theorem ms_175 : Cond.selects (sm_mi 175).1.cls (sm_mi 175).1 (sm_mi 175).1 ∈ lw_tbl := sm_m7 6 rfl
set_option maxRecDepth 20000 in
theorem mw_176 : sm_cw (sm_mi 176).1 (sm_mi 176).2.1 (sm_mi 176).2.2.1 (sm_mi 176).2.2.2.1 (sm_mi 176).2.2.2.2.1 ∈ lw_tbl := sm_m7 11 rfl
set_option maxRecDepth 20000 in
theorem mi_176 : Cond.instanceMethod (sm_mi 176).1 ∈ lw_tbl := sm_m7 9 rfl
set_option maxRecDepth 20000 in
theorem ms_176 : Cond.selects (sm_mi 176).1.cls (sm_mi 176).1 (sm_mi 176).1 ∈ lw_tbl := sm_m7 10 rfl
set_option maxRecDepth 20000 in
theorem mw_177 : sm_cw (sm_mi 177).1 (sm_mi 177).2.1 (sm_mi 177).2.2.1 (sm_mi 177).2.2.2.1 (sm_mi 177).2.2.2.2.1 ∈ lw_tbl := sm_m7 15 rfl
set_option maxRecDepth 20000 in
theorem mi_177 : Cond.instanceMethod (sm_mi 177).1 ∈ lw_tbl := sm_m7 13 rfl
set_option maxRecDepth 20000 in
theorem ms_177 : Cond.selects (sm_mi 177).1.cls (sm_mi 177).1 (sm_mi 177).1 ∈ lw_tbl := sm_m7 14 rfl
set_option maxRecDepth 20000 in
theorem mw_178 : sm_cw (sm_mi 178).1 (sm_mi 178).2.1 (sm_mi 178).2.2.1 (sm_mi 178).2.2.2.1 (sm_mi 178).2.2.2.2.1 ∈ lw_tbl := sm_m7 19 rfl
set_option maxRecDepth 20000 in
theorem mi_178 : Cond.instanceMethod (sm_mi 178).1 ∈ lw_tbl := sm_m7 17 rfl
set_option maxRecDepth 20000 in
theorem ms_178 : Cond.selects (sm_mi 178).1.cls (sm_mi 178).1 (sm_mi 178).1 ∈ lw_tbl := sm_m7 18 rfl
set_option maxRecDepth 20000 in
theorem mw_179 : sm_cw (sm_mi 179).1 (sm_mi 179).2.1 (sm_mi 179).2.2.1 (sm_mi 179).2.2.2.1 (sm_mi 179).2.2.2.2.1 ∈ lw_tbl := sm_m7 45 rfl
set_option maxRecDepth 20000 in
theorem mi_179 : Cond.instanceMethod (sm_mi 179).1 ∈ lw_tbl := sm_m7 43 rfl
set_option maxRecDepth 20000 in
theorem ms_179 : Cond.selects (sm_mi 179).1.cls (sm_mi 179).1 (sm_mi 179).1 ∈ lw_tbl := sm_m7 44 rfl
set_option maxRecDepth 20000 in
theorem mw_180 : sm_cw (sm_mi 180).1 (sm_mi 180).2.1 (sm_mi 180).2.2.1 (sm_mi 180).2.2.2.1 (sm_mi 180).2.2.2.2.1 ∈ lw_tbl := sm_m7 49 rfl
set_option maxRecDepth 20000 in
theorem mi_180 : Cond.instanceMethod (sm_mi 180).1 ∈ lw_tbl := sm_m7 47 rfl
set_option maxRecDepth 20000 in
theorem ms_180 : Cond.selects (sm_mi 180).1.cls (sm_mi 180).1 (sm_mi 180).1 ∈ lw_tbl := sm_m7 48 rfl
set_option maxRecDepth 20000 in
theorem mw_181 : sm_cw (sm_mi 181).1 (sm_mi 181).2.1 (sm_mi 181).2.2.1 (sm_mi 181).2.2.2.1 (sm_mi 181).2.2.2.2.1 ∈ lw_tbl := sm_m7 53 rfl
set_option maxRecDepth 20000 in
theorem mi_181 : Cond.instanceMethod (sm_mi 181).1 ∈ lw_tbl := sm_m7 51 rfl
set_option maxRecDepth 20000 in
theorem ms_181 : Cond.selects (sm_mi 181).1.cls (sm_mi 181).1 (sm_mi 181).1 ∈ lw_tbl := sm_m7 52 rfl
set_option maxRecDepth 20000 in
theorem mw_182 : sm_cw (sm_mi 182).1 (sm_mi 182).2.1 (sm_mi 182).2.2.1 (sm_mi 182).2.2.2.1 (sm_mi 182).2.2.2.2.1 ∈ lw_tbl := sm_m7 57 rfl
set_option maxRecDepth 20000 in
theorem mi_182 : Cond.instanceMethod (sm_mi 182).1 ∈ lw_tbl := sm_m7 55 rfl
set_option maxRecDepth 20000 in
theorem ms_182 : Cond.selects (sm_mi 182).1.cls (sm_mi 182).1 (sm_mi 182).1 ∈ lw_tbl := sm_m7 56 rfl
set_option maxRecDepth 20000 in
theorem mw_183 : sm_cw (sm_mi 183).1 (sm_mi 183).2.1 (sm_mi 183).2.2.1 (sm_mi 183).2.2.2.1 (sm_mi 183).2.2.2.2.1 ∈ lw_tbl := sm_m3 58 rfl
set_option maxRecDepth 20000 in
theorem mi_183 : Cond.static (sm_mi 183).1 ∈ lw_tbl := sm_m3 57 rfl
set_option maxRecDepth 20000 in
theorem mw_184 : sm_cw (sm_mi 184).1 (sm_mi 184).2.1 (sm_mi 184).2.2.1 (sm_mi 184).2.2.2.1 (sm_mi 184).2.2.2.2.1 ∈ lw_tbl := sm_m3 175 rfl
set_option maxRecDepth 20000 in
theorem mi_184 : Cond.static (sm_mi 184).1 ∈ lw_tbl := sm_m3 174 rfl
set_option maxRecDepth 20000 in
theorem mw_185 : sm_cw (sm_mi 185).1 (sm_mi 185).2.1 (sm_mi 185).2.2.1 (sm_mi 185).2.2.2.1 (sm_mi 185).2.2.2.2.1 ∈ lw_tbl := sm_m3 186 rfl
set_option maxRecDepth 20000 in
theorem mi_185 : Cond.static (sm_mi 185).1 ∈ lw_tbl := sm_m3 185 rfl
set_option maxRecDepth 20000 in
theorem mw_186 : sm_cw (sm_mi 186).1 (sm_mi 186).2.1 (sm_mi 186).2.2.1 (sm_mi 186).2.2.2.1 (sm_mi 186).2.2.2.2.1 ∈ lw_tbl := sm_m3 229 rfl
set_option maxRecDepth 20000 in
theorem mi_186 : Cond.static (sm_mi 186).1 ∈ lw_tbl := sm_m3 228 rfl
set_option maxRecDepth 20000 in
theorem mw_187 : sm_cw (sm_mi 187).1 (sm_mi 187).2.1 (sm_mi 187).2.2.1 (sm_mi 187).2.2.2.1 (sm_mi 187).2.2.2.2.1 ∈ lw_tbl := sm_m4 27 rfl
set_option maxRecDepth 20000 in
theorem mi_187 : Cond.static (sm_mi 187).1 ∈ lw_tbl := sm_m4 26 rfl
set_option maxRecDepth 20000 in
theorem mw_188 : sm_cw (sm_mi 188).1 (sm_mi 188).2.1 (sm_mi 188).2.2.1 (sm_mi 188).2.2.2.1 (sm_mi 188).2.2.2.2.1 ∈ lw_tbl := sm_m4 40 rfl
set_option maxRecDepth 20000 in
theorem mi_188 : Cond.static (sm_mi 188).1 ∈ lw_tbl := sm_m4 39 rfl
set_option maxRecDepth 20000 in
theorem mw_189 : sm_cw (sm_mi 189).1 (sm_mi 189).2.1 (sm_mi 189).2.2.1 (sm_mi 189).2.2.2.1 (sm_mi 189).2.2.2.2.1 ∈ lw_tbl := sm_m4 51 rfl
set_option maxRecDepth 20000 in
theorem mi_189 : Cond.static (sm_mi 189).1 ∈ lw_tbl := sm_m4 50 rfl
set_option maxRecDepth 20000 in
theorem mw_190 : sm_cw (sm_mi 190).1 (sm_mi 190).2.1 (sm_mi 190).2.2.1 (sm_mi 190).2.2.2.1 (sm_mi 190).2.2.2.2.1 ∈ lw_tbl := sm_m4 194 rfl
set_option maxRecDepth 20000 in
theorem mi_190 : Cond.static (sm_mi 190).1 ∈ lw_tbl := sm_m4 193 rfl
set_option maxRecDepth 20000 in
theorem mw_191 : sm_cw (sm_mi 191).1 (sm_mi 191).2.1 (sm_mi 191).2.2.1 (sm_mi 191).2.2.2.1 (sm_mi 191).2.2.2.2.1 ∈ lw_tbl := sm_m6 33 rfl
set_option maxRecDepth 20000 in
theorem mi_191 : Cond.static (sm_mi 191).1 ∈ lw_tbl := sm_m6 32 rfl
set_option maxRecDepth 20000 in
theorem mw_192 : sm_cw (sm_mi 192).1 (sm_mi 192).2.1 (sm_mi 192).2.2.1 (sm_mi 192).2.2.2.1 (sm_mi 192).2.2.2.2.1 ∈ lw_tbl := sm_m6 46 rfl
set_option maxRecDepth 20000 in
theorem mi_192 : Cond.static (sm_mi 192).1 ∈ lw_tbl := sm_m6 45 rfl
set_option maxRecDepth 20000 in
theorem mw_193 : sm_cw (sm_mi 193).1 (sm_mi 193).2.1 (sm_mi 193).2.2.1 (sm_mi 193).2.2.2.1 (sm_mi 193).2.2.2.2.1 ∈ lw_tbl := sm_m6 54 rfl
set_option maxRecDepth 20000 in
theorem mi_193 : Cond.static (sm_mi 193).1 ∈ lw_tbl := sm_m6 53 rfl
set_option maxRecDepth 20000 in
theorem mw_194 : sm_cw (sm_mi 194).1 (sm_mi 194).2.1 (sm_mi 194).2.2.1 (sm_mi 194).2.2.2.1 (sm_mi 194).2.2.2.2.1 ∈ lw_tbl := sm_m6 67 rfl
set_option maxRecDepth 20000 in
theorem mi_194 : Cond.static (sm_mi 194).1 ∈ lw_tbl := sm_m6 66 rfl
set_option maxRecDepth 20000 in
theorem mw_195 : sm_cw (sm_mi 195).1 (sm_mi 195).2.1 (sm_mi 195).2.2.1 (sm_mi 195).2.2.2.1 (sm_mi 195).2.2.2.2.1 ∈ lw_tbl := sm_m6 77 rfl
set_option maxRecDepth 20000 in
theorem mi_195 : Cond.static (sm_mi 195).1 ∈ lw_tbl := sm_m6 76 rfl
set_option maxRecDepth 20000 in
theorem mw_196 : sm_cw (sm_mi 196).1 (sm_mi 196).2.1 (sm_mi 196).2.2.1 (sm_mi 196).2.2.2.1 (sm_mi 196).2.2.2.2.1 ∈ lw_tbl := sm_m6 84 rfl
set_option maxRecDepth 20000 in
theorem mi_196 : Cond.static (sm_mi 196).1 ∈ lw_tbl := sm_m6 83 rfl
set_option maxRecDepth 20000 in
theorem mw_198 : sm_cw (sm_mi 198).1 (sm_mi 198).2.1 (sm_mi 198).2.2.1 (sm_mi 198).2.2.2.1 (sm_mi 198).2.2.2.2.1 ∈ lw_tbl := sm_m5 136 rfl
set_option maxRecDepth 20000 in
theorem mi_198 : Cond.static (sm_mi 198).1 ∈ lw_tbl := sm_m5 135 rfl
set_option maxRecDepth 20000 in
theorem mw_199 : sm_cw (sm_mi 199).1 (sm_mi 199).2.1 (sm_mi 199).2.2.1 (sm_mi 199).2.2.2.1 (sm_mi 199).2.2.2.2.1 ∈ lw_tbl := sm_m5 115 rfl
set_option maxRecDepth 20000 in
theorem mi_199 : Cond.static (sm_mi 199).1 ∈ lw_tbl := sm_m5 114 rfl
set_option maxRecDepth 20000 in
theorem mw_200 : sm_cw (sm_mi 200).1 (sm_mi 200).2.1 (sm_mi 200).2.2.1 (sm_mi 200).2.2.2.1 (sm_mi 200).2.2.2.2.1 ∈ lw_tbl := sm_m2 80 rfl
set_option maxRecDepth 20000 in
theorem mi_200 : Cond.static (sm_mi 200).1 ∈ lw_tbl := sm_m2 79 rfl
set_option maxRecDepth 20000 in
theorem mw_201 : sm_cw (sm_mi 201).1 (sm_mi 201).2.1 (sm_mi 201).2.2.1 (sm_mi 201).2.2.2.1 (sm_mi 201).2.2.2.2.1 ∈ lw_tbl := sm_m5 189 rfl
set_option maxRecDepth 20000 in
theorem mi_201 : Cond.static (sm_mi 201).1 ∈ lw_tbl := sm_m5 188 rfl
theorem sm_cwi : ∀ N, N < 202 → N ≠ 197 → sm_cw (sm_mi N).1 (sm_mi N).2.1 (sm_mi N).2.2.1 (sm_mi N).2.2.2.1 (sm_mi N).2.2.2.2.1 ∈ lw_tbl
  | 0, _, _ => mw_0
  | 1, _, _ => mw_1
  | 2, _, _ => mw_2
  | 3, _, _ => mw_3
  | 4, _, _ => mw_4
  | 5, _, _ => mw_5
  | 6, _, _ => mw_6
  | 7, _, _ => mw_7
  | 8, _, _ => mw_8
  | 9, _, _ => mw_9
  | 10, _, _ => mw_10
  | 11, _, _ => mw_11
  | 12, _, _ => mw_12
  | 13, _, _ => mw_13
  | 14, _, _ => mw_14
  | 15, _, _ => mw_15
  | 16, _, _ => mw_16
  | 17, _, _ => mw_17
  | 18, _, _ => mw_18
  | 19, _, _ => mw_19
  | 20, _, _ => mw_20
  | 21, _, _ => mw_21
  | 22, _, _ => mw_22
  | 23, _, _ => mw_23
  | 24, _, _ => mw_24
  | 25, _, _ => mw_25
  | 26, _, _ => mw_26
  | 27, _, _ => mw_27
  | 28, _, _ => mw_28
  | 29, _, _ => mw_29
  | 30, _, _ => mw_30
  | 31, _, _ => mw_31
  | 32, _, _ => mw_32
  | 33, _, _ => mw_33
  | 34, _, _ => mw_34
  | 35, _, _ => mw_35
  | 36, _, _ => mw_36
  | 37, _, _ => mw_37
  | 38, _, _ => mw_38
  | 39, _, _ => mw_39
  | 40, _, _ => mw_40
  | 41, _, _ => mw_41
  | 42, _, _ => mw_42
  | 43, _, _ => mw_43
  | 44, _, _ => mw_44
  | 45, _, _ => mw_45
  | 46, _, _ => mw_46
  | 47, _, _ => mw_47
  | 48, _, _ => mw_48
  | 49, _, _ => mw_49
  | 50, _, _ => mw_50
  | 51, _, _ => mw_51
  | 52, _, _ => mw_52
  | 53, _, _ => mw_53
  | 54, _, _ => mw_54
  | 55, _, _ => mw_55
  | 56, _, _ => mw_56
  | 57, _, _ => mw_57
  | 58, _, _ => mw_58
  | 59, _, _ => mw_59
  | 60, _, _ => mw_60
  | 61, _, _ => mw_61
  | 62, _, _ => mw_62
  | 63, _, _ => mw_63
  | 64, _, _ => mw_64
  | 65, _, _ => mw_65
  | 66, _, _ => mw_66
  | 67, _, _ => mw_67
  | 68, _, _ => mw_68
  | 69, _, _ => mw_69
  | 70, _, _ => mw_70
  | 71, _, _ => mw_71
  | 72, _, _ => mw_72
  | 73, _, _ => mw_73
  | 74, _, _ => mw_74
  | 75, _, _ => mw_75
  | 76, _, _ => mw_76
  | 77, _, _ => mw_77
  | 78, _, _ => mw_78
  | 79, _, _ => mw_79
  | 80, _, _ => mw_80
  | 81, _, _ => mw_81
  | 82, _, _ => mw_82
  | 83, _, _ => mw_83
  | 84, _, _ => mw_84
  | 85, _, _ => mw_85
  | 86, _, _ => mw_86
  | 87, _, _ => mw_87
  | 88, _, _ => mw_88
  | 89, _, _ => mw_89
  | 90, _, _ => mw_90
  | 91, _, _ => mw_91
  | 92, _, _ => mw_92
  | 93, _, _ => mw_93
  | 94, _, _ => mw_94
  | 95, _, _ => mw_95
  | 96, _, _ => mw_96
  | 97, _, _ => mw_97
  | 98, _, _ => mw_98
  | 99, _, _ => mw_99
  | 100, _, _ => mw_100
  | 101, _, _ => mw_101
  | 102, _, _ => mw_102
  | 103, _, _ => mw_103
  | 104, _, _ => mw_104
  | 105, _, _ => mw_105
  | 106, _, _ => mw_106
  | 107, _, _ => mw_107
  | 108, _, _ => mw_108
  | 109, _, _ => mw_109
  | 110, _, _ => mw_110
  | 111, _, _ => mw_111
  | 112, _, _ => mw_112
  | 113, _, _ => mw_113
  | 114, _, _ => mw_114
  | 115, _, _ => mw_115
  | 116, _, _ => mw_116
  | 117, _, _ => mw_117
  | 118, _, _ => mw_118
  | 119, _, _ => mw_119
  | 120, _, _ => mw_120
  | 121, _, _ => mw_121
  | 122, _, _ => mw_122
  | 123, _, _ => mw_123
  | 124, _, _ => mw_124
  | 125, _, _ => mw_125
  | 126, _, _ => mw_126
  | 127, _, _ => mw_127
  | 128, _, _ => mw_128
  | 129, _, _ => mw_129
  | 130, _, _ => mw_130
  | 131, _, _ => mw_131
  | 132, _, _ => mw_132
  | 133, _, _ => mw_133
  | 134, _, _ => mw_134
  | 135, _, _ => mw_135
  | 136, _, _ => mw_136
  | 137, _, _ => mw_137
  | 138, _, _ => mw_138
  | 139, _, _ => mw_139
  | 140, _, _ => mw_140
  | 141, _, _ => mw_141
  | 142, _, _ => mw_142
  | 143, _, _ => mw_143
  | 144, _, _ => mw_144
  | 145, _, _ => mw_145
  | 146, _, _ => mw_146
  | 147, _, _ => mw_147
  | 148, _, _ => mw_148
  | 149, _, _ => mw_149
  | 150, _, _ => mw_150
  | 151, _, _ => mw_151
  | 152, _, _ => mw_152
  | 153, _, _ => mw_153
  | 154, _, _ => mw_154
  | 155, _, _ => mw_155
  | 156, _, _ => mw_156
  | 157, _, _ => mw_157
  | 158, _, _ => mw_158
  | 159, _, _ => mw_159
  | 160, _, _ => mw_160
  | 161, _, _ => mw_161
  | 162, _, _ => mw_162
  | 163, _, _ => mw_163
  | 164, _, _ => mw_164
  | 165, _, _ => mw_165
  | 166, _, _ => mw_166
  | 167, _, _ => mw_167
  | 168, _, _ => mw_168
  | 169, _, _ => mw_169
  | 170, _, _ => mw_170
  | 171, _, _ => mw_171
  | 172, _, _ => mw_172
  | 173, _, _ => mw_173
  | 174, _, _ => mw_174
  | 175, _, _ => mw_175
  | 176, _, _ => mw_176
  | 177, _, _ => mw_177
  | 178, _, _ => mw_178
  | 179, _, _ => mw_179
  | 180, _, _ => mw_180
  | 181, _, _ => mw_181
  | 182, _, _ => mw_182
  | 183, _, _ => mw_183
  | 184, _, _ => mw_184
  | 185, _, _ => mw_185
  | 186, _, _ => mw_186
  | 187, _, _ => mw_187
  | 188, _, _ => mw_188
  | 189, _, _ => mw_189
  | 190, _, _ => mw_190
  | 191, _, _ => mw_191
  | 192, _, _ => mw_192
  | 193, _, _ => mw_193
  | 194, _, _ => mw_194
  | 195, _, _ => mw_195
  | 196, _, _ => mw_196
  | 197, _, h => absurd h (by decide)
  | 198, _, _ => mw_198
  | 199, _, _ => mw_199
  | 200, _, _ => mw_200
  | 201, _, _ => mw_201
  | n + 202, h, _ => absurd h (by omega)
theorem sm_sti : ∀ N, N < 202 → sm_sta.getD N false = true ∧ N ≠ 197 → Cond.static (sm_mi N).1 ∈ lw_tbl
  | 0, _, h => absurd h (by decide)
  | 1, _, h => absurd h (by decide)
  | 2, _, h => absurd h (by decide)
  | 3, _, h => absurd h (by decide)
  | 4, _, h => absurd h (by decide)
  | 5, _, h => absurd h (by decide)
  | 6, _, h => absurd h (by decide)
  | 7, _, h => absurd h (by decide)
  | 8, _, h => absurd h (by decide)
  | 9, _, h => absurd h (by decide)
  | 10, _, h => absurd h (by decide)
  | 11, _, h => absurd h (by decide)
  | 12, _, h => absurd h (by decide)
  | 13, _, _ => mi_13
  | 14, _, _ => mi_14
  | 15, _, h => absurd h (by decide)
  | 16, _, h => absurd h (by decide)
  | 17, _, h => absurd h (by decide)
  | 18, _, h => absurd h (by decide)
  | 19, _, h => absurd h (by decide)
  | 20, _, h => absurd h (by decide)
  | 21, _, h => absurd h (by decide)
  | 22, _, h => absurd h (by decide)
  | 23, _, h => absurd h (by decide)
  | 24, _, h => absurd h (by decide)
  | 25, _, h => absurd h (by decide)
  | 26, _, h => absurd h (by decide)
  | 27, _, h => absurd h (by decide)
  | 28, _, h => absurd h (by decide)
  | 29, _, h => absurd h (by decide)
  | 30, _, h => absurd h (by decide)
  | 31, _, h => absurd h (by decide)
  | 32, _, h => absurd h (by decide)
  | 33, _, h => absurd h (by decide)
  | 34, _, h => absurd h (by decide)
  | 35, _, h => absurd h (by decide)
  | 36, _, h => absurd h (by decide)
  | 37, _, h => absurd h (by decide)
  | 38, _, h => absurd h (by decide)
  | 39, _, h => absurd h (by decide)
  | 40, _, h => absurd h (by decide)
  | 41, _, h => absurd h (by decide)
  | 42, _, h => absurd h (by decide)
  | 43, _, h => absurd h (by decide)
  | 44, _, h => absurd h (by decide)
  | 45, _, h => absurd h (by decide)
  | 46, _, h => absurd h (by decide)
  | 47, _, h => absurd h (by decide)
  | 48, _, h => absurd h (by decide)
  | 49, _, h => absurd h (by decide)
  | 50, _, h => absurd h (by decide)
  | 51, _, h => absurd h (by decide)
  | 52, _, h => absurd h (by decide)
  | 53, _, h => absurd h (by decide)
  | 54, _, h => absurd h (by decide)
  | 55, _, h => absurd h (by decide)
  | 56, _, h => absurd h (by decide)
  | 57, _, h => absurd h (by decide)
  | 58, _, h => absurd h (by decide)
  | 59, _, h => absurd h (by decide)
  | 60, _, h => absurd h (by decide)
  | 61, _, h => absurd h (by decide)
  | 62, _, h => absurd h (by decide)
  | 63, _, h => absurd h (by decide)
  | 64, _, h => absurd h (by decide)
  | 65, _, h => absurd h (by decide)
  | 66, _, h => absurd h (by decide)
  | 67, _, h => absurd h (by decide)
  | 68, _, h => absurd h (by decide)
  | 69, _, h => absurd h (by decide)
  | 70, _, h => absurd h (by decide)
  | 71, _, h => absurd h (by decide)
  | 72, _, h => absurd h (by decide)
  | 73, _, h => absurd h (by decide)
  | 74, _, h => absurd h (by decide)
  | 75, _, h => absurd h (by decide)
  | 76, _, h => absurd h (by decide)
  | 77, _, h => absurd h (by decide)
  | 78, _, h => absurd h (by decide)
  | 79, _, h => absurd h (by decide)
  | 80, _, h => absurd h (by decide)
  | 81, _, h => absurd h (by decide)
  | 82, _, h => absurd h (by decide)
  | 83, _, h => absurd h (by decide)
  | 84, _, h => absurd h (by decide)
  | 85, _, h => absurd h (by decide)
  | 86, _, h => absurd h (by decide)
  | 87, _, h => absurd h (by decide)
  | 88, _, h => absurd h (by decide)
  | 89, _, h => absurd h (by decide)
  | 90, _, h => absurd h (by decide)
  | 91, _, h => absurd h (by decide)
  | 92, _, h => absurd h (by decide)
  | 93, _, h => absurd h (by decide)
  | 94, _, h => absurd h (by decide)
  | 95, _, h => absurd h (by decide)
  | 96, _, h => absurd h (by decide)
  | 97, _, h => absurd h (by decide)
  | 98, _, h => absurd h (by decide)
  | 99, _, h => absurd h (by decide)
  | 100, _, h => absurd h (by decide)
  | 101, _, h => absurd h (by decide)
  | 102, _, h => absurd h (by decide)
  | 103, _, h => absurd h (by decide)
  | 104, _, h => absurd h (by decide)
  | 105, _, h => absurd h (by decide)
  | 106, _, h => absurd h (by decide)
  | 107, _, h => absurd h (by decide)
  | 108, _, h => absurd h (by decide)
  | 109, _, h => absurd h (by decide)
  | 110, _, h => absurd h (by decide)
  | 111, _, h => absurd h (by decide)
  | 112, _, h => absurd h (by decide)
  | 113, _, h => absurd h (by decide)
  | 114, _, h => absurd h (by decide)
  | 115, _, h => absurd h (by decide)
  | 116, _, h => absurd h (by decide)
  | 117, _, h => absurd h (by decide)
  | 118, _, h => absurd h (by decide)
  | 119, _, h => absurd h (by decide)
  | 120, _, h => absurd h (by decide)
  | 121, _, h => absurd h (by decide)
  | 122, _, h => absurd h (by decide)
  | 123, _, h => absurd h (by decide)
  | 124, _, h => absurd h (by decide)
  | 125, _, h => absurd h (by decide)
  | 126, _, h => absurd h (by decide)
  | 127, _, h => absurd h (by decide)
  | 128, _, h => absurd h (by decide)
  | 129, _, h => absurd h (by decide)
  | 130, _, h => absurd h (by decide)
  | 131, _, h => absurd h (by decide)
  | 132, _, h => absurd h (by decide)
  | 133, _, h => absurd h (by decide)
  | 134, _, h => absurd h (by decide)
  | 135, _, h => absurd h (by decide)
  | 136, _, h => absurd h (by decide)
  | 137, _, h => absurd h (by decide)
  | 138, _, h => absurd h (by decide)
  | 139, _, h => absurd h (by decide)
  | 140, _, h => absurd h (by decide)
  | 141, _, h => absurd h (by decide)
  | 142, _, h => absurd h (by decide)
  | 143, _, h => absurd h (by decide)
  | 144, _, h => absurd h (by decide)
  | 145, _, h => absurd h (by decide)
  | 146, _, h => absurd h (by decide)
  | 147, _, h => absurd h (by decide)
  | 148, _, h => absurd h (by decide)
  | 149, _, h => absurd h (by decide)
  | 150, _, h => absurd h (by decide)
  | 151, _, h => absurd h (by decide)
  | 152, _, h => absurd h (by decide)
  | 153, _, h => absurd h (by decide)
  | 154, _, _ => mi_154
  | 155, _, _ => mi_155
  | 156, _, _ => mi_156
  | 157, _, _ => mi_157
  | 158, _, h => absurd h (by decide)
  | 159, _, h => absurd h (by decide)
  | 160, _, h => absurd h (by decide)
  | 161, _, _ => mi_161
  | 162, _, h => absurd h (by decide)
  | 163, _, h => absurd h (by decide)
  | 164, _, h => absurd h (by decide)
  | 165, _, h => absurd h (by decide)
  | 166, _, h => absurd h (by decide)
  | 167, _, _ => mi_167
  | 168, _, h => absurd h (by decide)
  | 169, _, h => absurd h (by decide)
  | 170, _, h => absurd h (by decide)
  | 171, _, h => absurd h (by decide)
  | 172, _, h => absurd h (by decide)
  | 173, _, h => absurd h (by decide)
  | 174, _, h => absurd h (by decide)
  | 175, _, h => absurd h (by decide)
  | 176, _, h => absurd h (by decide)
  | 177, _, h => absurd h (by decide)
  | 178, _, h => absurd h (by decide)
  | 179, _, h => absurd h (by decide)
  | 180, _, h => absurd h (by decide)
  | 181, _, h => absurd h (by decide)
  | 182, _, h => absurd h (by decide)
  | 183, _, _ => mi_183
  | 184, _, _ => mi_184
  | 185, _, _ => mi_185
  | 186, _, _ => mi_186
  | 187, _, _ => mi_187
  | 188, _, _ => mi_188
  | 189, _, _ => mi_189
  | 190, _, _ => mi_190
  | 191, _, _ => mi_191
  | 192, _, _ => mi_192
  | 193, _, _ => mi_193
  | 194, _, _ => mi_194
  | 195, _, _ => mi_195
  | 196, _, _ => mi_196
  | 197, _, h => absurd h (by decide)
  | 198, _, _ => mi_198
  | 199, _, _ => mi_199
  | 200, _, _ => mi_200
  | 201, _, _ => mi_201
  | n + 202, h, _ => absurd h (by omega)
theorem sm_imi : ∀ N, N < 202 → sm_sta.getD N true = false ∧ N ≠ 197 → Cond.instanceMethod (sm_mi N).1 ∈ lw_tbl
  | 0, _, _ => mi_0
  | 1, _, _ => mi_1
  | 2, _, _ => mi_2
  | 3, _, _ => mi_3
  | 4, _, _ => mi_4
  | 5, _, _ => mi_5
  | 6, _, _ => mi_6
  | 7, _, _ => mi_7
  | 8, _, _ => mi_8
  | 9, _, _ => mi_9
  | 10, _, _ => mi_10
  | 11, _, _ => mi_11
  | 12, _, _ => mi_12
  | 13, _, h => absurd h (by decide)
  | 14, _, h => absurd h (by decide)
  | 15, _, _ => mi_15
  | 16, _, _ => mi_16
  | 17, _, _ => mi_17
  | 18, _, _ => mi_18
  | 19, _, _ => mi_19
  | 20, _, _ => mi_20
  | 21, _, _ => mi_21
  | 22, _, _ => mi_22
  | 23, _, _ => mi_23
  | 24, _, _ => mi_24
  | 25, _, _ => mi_25
  | 26, _, _ => mi_26
  | 27, _, _ => mi_27
  | 28, _, _ => mi_28
  | 29, _, _ => mi_29
  | 30, _, _ => mi_30
  | 31, _, _ => mi_31
  | 32, _, _ => mi_32
  | 33, _, _ => mi_33
  | 34, _, _ => mi_34
  | 35, _, _ => mi_35
  | 36, _, _ => mi_36
  | 37, _, _ => mi_37
  | 38, _, _ => mi_38
  | 39, _, _ => mi_39
  | 40, _, _ => mi_40
  | 41, _, _ => mi_41
  | 42, _, _ => mi_42
  | 43, _, _ => mi_43
  | 44, _, _ => mi_44
  | 45, _, _ => mi_45
  | 46, _, _ => mi_46
  | 47, _, _ => mi_47
  | 48, _, _ => mi_48
  | 49, _, _ => mi_49
  | 50, _, _ => mi_50
  | 51, _, _ => mi_51
  | 52, _, _ => mi_52
  | 53, _, _ => mi_53
  | 54, _, _ => mi_54
  | 55, _, _ => mi_55
  | 56, _, _ => mi_56
  | 57, _, _ => mi_57
  | 58, _, _ => mi_58
  | 59, _, _ => mi_59
  | 60, _, _ => mi_60
  | 61, _, _ => mi_61
  | 62, _, _ => mi_62
  | 63, _, _ => mi_63
  | 64, _, _ => mi_64
  | 65, _, _ => mi_65
  | 66, _, _ => mi_66
  | 67, _, _ => mi_67
  | 68, _, _ => mi_68
  | 69, _, _ => mi_69
  | 70, _, _ => mi_70
  | 71, _, _ => mi_71
  | 72, _, _ => mi_72
  | 73, _, _ => mi_73
  | 74, _, _ => mi_74
  | 75, _, _ => mi_75
  | 76, _, _ => mi_76
  | 77, _, _ => mi_77
  | 78, _, _ => mi_78
  | 79, _, _ => mi_79
  | 80, _, _ => mi_80
  | 81, _, _ => mi_81
  | 82, _, _ => mi_82
  | 83, _, _ => mi_83
  | 84, _, _ => mi_84
  | 85, _, _ => mi_85
  | 86, _, _ => mi_86
  | 87, _, _ => mi_87
  | 88, _, _ => mi_88
  | 89, _, _ => mi_89
  | 90, _, _ => mi_90
  | 91, _, _ => mi_91
  | 92, _, _ => mi_92
  | 93, _, _ => mi_93
  | 94, _, _ => mi_94
  | 95, _, _ => mi_95
  | 96, _, _ => mi_96
  | 97, _, _ => mi_97
  | 98, _, _ => mi_98
  | 99, _, _ => mi_99
  | 100, _, _ => mi_100
  | 101, _, _ => mi_101
  | 102, _, _ => mi_102
  | 103, _, _ => mi_103
  | 104, _, _ => mi_104
  | 105, _, _ => mi_105
  | 106, _, _ => mi_106
  | 107, _, _ => mi_107
  | 108, _, _ => mi_108
  | 109, _, _ => mi_109
  | 110, _, _ => mi_110
  | 111, _, _ => mi_111
  | 112, _, _ => mi_112
  | 113, _, _ => mi_113
  | 114, _, _ => mi_114
  | 115, _, _ => mi_115
  | 116, _, _ => mi_116
  | 117, _, _ => mi_117
  | 118, _, _ => mi_118
  | 119, _, _ => mi_119
  | 120, _, _ => mi_120
  | 121, _, _ => mi_121
  | 122, _, _ => mi_122
  | 123, _, _ => mi_123
  | 124, _, _ => mi_124
  | 125, _, _ => mi_125
  | 126, _, _ => mi_126
  | 127, _, _ => mi_127
  | 128, _, _ => mi_128
  | 129, _, _ => mi_129
  | 130, _, _ => mi_130
  | 131, _, _ => mi_131
  | 132, _, _ => mi_132
  | 133, _, _ => mi_133
  | 134, _, _ => mi_134
  | 135, _, _ => mi_135
  | 136, _, _ => mi_136
  | 137, _, _ => mi_137
  | 138, _, _ => mi_138
  | 139, _, _ => mi_139
  | 140, _, _ => mi_140
  | 141, _, _ => mi_141
  | 142, _, _ => mi_142
  | 143, _, _ => mi_143
  | 144, _, _ => mi_144
  | 145, _, _ => mi_145
  | 146, _, _ => mi_146
  | 147, _, _ => mi_147
  | 148, _, _ => mi_148
  | 149, _, _ => mi_149
  | 150, _, _ => mi_150
  | 151, _, _ => mi_151
  | 152, _, _ => mi_152
  | 153, _, _ => mi_153
  | 154, _, h => absurd h (by decide)
  | 155, _, h => absurd h (by decide)
  | 156, _, h => absurd h (by decide)
  | 157, _, h => absurd h (by decide)
  | 158, _, _ => mi_158
  | 159, _, _ => mi_159
  | 160, _, _ => mi_160
  | 161, _, h => absurd h (by decide)
  | 162, _, _ => mi_162
  | 163, _, _ => mi_163
  | 164, _, _ => mi_164
  | 165, _, _ => mi_165
  | 166, _, _ => mi_166
  | 167, _, h => absurd h (by decide)
  | 168, _, _ => mi_168
  | 169, _, _ => mi_169
  | 170, _, _ => mi_170
  | 171, _, _ => mi_171
  | 172, _, _ => mi_172
  | 173, _, _ => mi_173
  | 174, _, _ => mi_174
  | 175, _, _ => mi_175
  | 176, _, _ => mi_176
  | 177, _, _ => mi_177
  | 178, _, _ => mi_178
  | 179, _, _ => mi_179
  | 180, _, _ => mi_180
  | 181, _, _ => mi_181
  | 182, _, _ => mi_182
  | 183, _, h => absurd h (by decide)
  | 184, _, h => absurd h (by decide)
  | 185, _, h => absurd h (by decide)
  | 186, _, h => absurd h (by decide)
  | 187, _, h => absurd h (by decide)
  | 188, _, h => absurd h (by decide)
  | 189, _, h => absurd h (by decide)
  | 190, _, h => absurd h (by decide)
  | 191, _, h => absurd h (by decide)
  | 192, _, h => absurd h (by decide)
  | 193, _, h => absurd h (by decide)
  | 194, _, h => absurd h (by decide)
  | 195, _, h => absurd h (by decide)
  | 196, _, h => absurd h (by decide)
  | 197, _, h => absurd h (by decide)
  | 198, _, h => absurd h (by decide)
  | 199, _, h => absurd h (by decide)
  | 200, _, h => absurd h (by decide)
  | 201, _, h => absurd h (by decide)
  | n + 202, h, _ => absurd h (by omega)
theorem sm_sei : ∀ N, N < 202 → sm_vir.getD N false = true → Cond.selects (sm_mi N).1.cls (sm_mi N).1 (sm_mi N).1 ∈ lw_tbl
  | 0, _, h => absurd h (by decide)
  | 1, _, _ => ms_1
  | 2, _, _ => ms_2
  | 3, _, _ => ms_3
  | 4, _, _ => ms_4
  | 5, _, _ => ms_5
  | 6, _, _ => ms_6
  | 7, _, _ => ms_7
  | 8, _, _ => ms_8
  | 9, _, _ => ms_9
  | 10, _, _ => ms_10
  | 11, _, _ => ms_11
  | 12, _, h => absurd h (by decide)
  | 13, _, h => absurd h (by decide)
  | 14, _, h => absurd h (by decide)
  | 15, _, _ => ms_15
  | 16, _, _ => ms_16
  | 17, _, _ => ms_17
  | 18, _, _ => ms_18
  | 19, _, _ => ms_19
  | 20, _, _ => ms_20
  | 21, _, _ => ms_21
  | 22, _, h => absurd h (by decide)
  | 23, _, _ => ms_23
  | 24, _, _ => ms_24
  | 25, _, _ => ms_25
  | 26, _, _ => ms_26
  | 27, _, _ => ms_27
  | 28, _, _ => ms_28
  | 29, _, _ => ms_29
  | 30, _, _ => ms_30
  | 31, _, _ => ms_31
  | 32, _, _ => ms_32
  | 33, _, h => absurd h (by decide)
  | 34, _, _ => ms_34
  | 35, _, _ => ms_35
  | 36, _, _ => ms_36
  | 37, _, _ => ms_37
  | 38, _, _ => ms_38
  | 39, _, _ => ms_39
  | 40, _, _ => ms_40
  | 41, _, _ => ms_41
  | 42, _, _ => ms_42
  | 43, _, _ => ms_43
  | 44, _, _ => ms_44
  | 45, _, _ => ms_45
  | 46, _, _ => ms_46
  | 47, _, _ => ms_47
  | 48, _, _ => ms_48
  | 49, _, h => absurd h (by decide)
  | 50, _, _ => ms_50
  | 51, _, _ => ms_51
  | 52, _, _ => ms_52
  | 53, _, _ => ms_53
  | 54, _, _ => ms_54
  | 55, _, _ => ms_55
  | 56, _, _ => ms_56
  | 57, _, _ => ms_57
  | 58, _, _ => ms_58
  | 59, _, _ => ms_59
  | 60, _, _ => ms_60
  | 61, _, _ => ms_61
  | 62, _, h => absurd h (by decide)
  | 63, _, _ => ms_63
  | 64, _, _ => ms_64
  | 65, _, _ => ms_65
  | 66, _, _ => ms_66
  | 67, _, _ => ms_67
  | 68, _, _ => ms_68
  | 69, _, h => absurd h (by decide)
  | 70, _, _ => ms_70
  | 71, _, _ => ms_71
  | 72, _, _ => ms_72
  | 73, _, _ => ms_73
  | 74, _, _ => ms_74
  | 75, _, _ => ms_75
  | 76, _, _ => ms_76
  | 77, _, h => absurd h (by decide)
  | 78, _, _ => ms_78
  | 79, _, _ => ms_79
  | 80, _, _ => ms_80
  | 81, _, _ => ms_81
  | 82, _, _ => ms_82
  | 83, _, _ => ms_83
  | 84, _, _ => ms_84
  | 85, _, _ => ms_85
  | 86, _, _ => ms_86
  | 87, _, h => absurd h (by decide)
  | 88, _, _ => ms_88
  | 89, _, _ => ms_89
  | 90, _, _ => ms_90
  | 91, _, _ => ms_91
  | 92, _, _ => ms_92
  | 93, _, _ => ms_93
  | 94, _, _ => ms_94
  | 95, _, _ => ms_95
  | 96, _, _ => ms_96
  | 97, _, _ => ms_97
  | 98, _, _ => ms_98
  | 99, _, _ => ms_99
  | 100, _, _ => ms_100
  | 101, _, _ => ms_101
  | 102, _, _ => ms_102
  | 103, _, _ => ms_103
  | 104, _, _ => ms_104
  | 105, _, _ => ms_105
  | 106, _, _ => ms_106
  | 107, _, h => absurd h (by decide)
  | 108, _, _ => ms_108
  | 109, _, _ => ms_109
  | 110, _, _ => ms_110
  | 111, _, _ => ms_111
  | 112, _, _ => ms_112
  | 113, _, _ => ms_113
  | 114, _, _ => ms_114
  | 115, _, _ => ms_115
  | 116, _, _ => ms_116
  | 117, _, _ => ms_117
  | 118, _, h => absurd h (by decide)
  | 119, _, _ => ms_119
  | 120, _, _ => ms_120
  | 121, _, _ => ms_121
  | 122, _, _ => ms_122
  | 123, _, _ => ms_123
  | 124, _, _ => ms_124
  | 125, _, _ => ms_125
  | 126, _, _ => ms_126
  | 127, _, _ => ms_127
  | 128, _, _ => ms_128
  | 129, _, _ => ms_129
  | 130, _, _ => ms_130
  | 131, _, _ => ms_131
  | 132, _, _ => ms_132
  | 133, _, _ => ms_133
  | 134, _, h => absurd h (by decide)
  | 135, _, _ => ms_135
  | 136, _, _ => ms_136
  | 137, _, _ => ms_137
  | 138, _, _ => ms_138
  | 139, _, _ => ms_139
  | 140, _, _ => ms_140
  | 141, _, _ => ms_141
  | 142, _, _ => ms_142
  | 143, _, _ => ms_143
  | 144, _, _ => ms_144
  | 145, _, _ => ms_145
  | 146, _, _ => ms_146
  | 147, _, _ => ms_147
  | 148, _, _ => ms_148
  | 149, _, _ => ms_149
  | 150, _, _ => ms_150
  | 151, _, _ => ms_151
  | 152, _, _ => ms_152
  | 153, _, _ => ms_153
  | 154, _, h => absurd h (by decide)
  | 155, _, h => absurd h (by decide)
  | 156, _, h => absurd h (by decide)
  | 157, _, h => absurd h (by decide)
  | 158, _, h => absurd h (by decide)
  | 159, _, _ => ms_159
  | 160, _, _ => ms_160
  | 161, _, h => absurd h (by decide)
  | 162, _, _ => ms_162
  | 163, _, _ => ms_163
  | 164, _, _ => ms_164
  | 165, _, _ => ms_165
  | 166, _, _ => ms_166
  | 167, _, h => absurd h (by decide)
  | 168, _, _ => ms_168
  | 169, _, _ => ms_169
  | 170, _, _ => ms_170
  | 171, _, _ => ms_171
  | 172, _, _ => ms_172
  | 173, _, _ => ms_173
  | 174, _, _ => ms_174
  | 175, _, _ => ms_175
  | 176, _, _ => ms_176
  | 177, _, _ => ms_177
  | 178, _, _ => ms_178
  | 179, _, _ => ms_179
  | 180, _, _ => ms_180
  | 181, _, _ => ms_181
  | 182, _, _ => ms_182
  | 183, _, h => absurd h (by decide)
  | 184, _, h => absurd h (by decide)
  | 185, _, h => absurd h (by decide)
  | 186, _, h => absurd h (by decide)
  | 187, _, h => absurd h (by decide)
  | 188, _, h => absurd h (by decide)
  | 189, _, h => absurd h (by decide)
  | 190, _, h => absurd h (by decide)
  | 191, _, h => absurd h (by decide)
  | 192, _, h => absurd h (by decide)
  | 193, _, h => absurd h (by decide)
  | 194, _, h => absurd h (by decide)
  | 195, _, h => absurd h (by decide)
  | 196, _, h => absurd h (by decide)
  | 197, _, h => absurd h (by decide)
  | 198, _, h => absurd h (by decide)
  | 199, _, h => absurd h (by decide)
  | 200, _, h => absurd h (by decide)
  | 201, _, h => absurd h (by decide)
  | n + 202, h, _ => absurd h (by omega)
theorem sm_ini_ok : ∀ N, N < 202 → sm_ini.getD N false = true → (sm_mi N).1.name = "<init>" ∧ (sm_mi N).2.2.2.1 = none ∧ (sm_mi N).2.2.2.2.1 = []
  | 0, _, _ => mn_0
  | 1, _, h => absurd h (by decide)
  | 2, _, h => absurd h (by decide)
  | 3, _, h => absurd h (by decide)
  | 4, _, h => absurd h (by decide)
  | 5, _, h => absurd h (by decide)
  | 6, _, h => absurd h (by decide)
  | 7, _, h => absurd h (by decide)
  | 8, _, h => absurd h (by decide)
  | 9, _, h => absurd h (by decide)
  | 10, _, h => absurd h (by decide)
  | 11, _, h => absurd h (by decide)
  | 12, _, _ => mn_12
  | 13, _, h => absurd h (by decide)
  | 14, _, h => absurd h (by decide)
  | 15, _, h => absurd h (by decide)
  | 16, _, h => absurd h (by decide)
  | 17, _, h => absurd h (by decide)
  | 18, _, h => absurd h (by decide)
  | 19, _, h => absurd h (by decide)
  | 20, _, h => absurd h (by decide)
  | 21, _, h => absurd h (by decide)
  | 22, _, _ => mn_22
  | 23, _, h => absurd h (by decide)
  | 24, _, h => absurd h (by decide)
  | 25, _, h => absurd h (by decide)
  | 26, _, h => absurd h (by decide)
  | 27, _, h => absurd h (by decide)
  | 28, _, h => absurd h (by decide)
  | 29, _, h => absurd h (by decide)
  | 30, _, h => absurd h (by decide)
  | 31, _, h => absurd h (by decide)
  | 32, _, h => absurd h (by decide)
  | 33, _, _ => mn_33
  | 34, _, h => absurd h (by decide)
  | 35, _, h => absurd h (by decide)
  | 36, _, h => absurd h (by decide)
  | 37, _, h => absurd h (by decide)
  | 38, _, h => absurd h (by decide)
  | 39, _, h => absurd h (by decide)
  | 40, _, h => absurd h (by decide)
  | 41, _, h => absurd h (by decide)
  | 42, _, h => absurd h (by decide)
  | 43, _, h => absurd h (by decide)
  | 44, _, h => absurd h (by decide)
  | 45, _, h => absurd h (by decide)
  | 46, _, h => absurd h (by decide)
  | 47, _, h => absurd h (by decide)
  | 48, _, h => absurd h (by decide)
  | 49, _, _ => mn_49
  | 50, _, h => absurd h (by decide)
  | 51, _, h => absurd h (by decide)
  | 52, _, h => absurd h (by decide)
  | 53, _, h => absurd h (by decide)
  | 54, _, h => absurd h (by decide)
  | 55, _, h => absurd h (by decide)
  | 56, _, h => absurd h (by decide)
  | 57, _, h => absurd h (by decide)
  | 58, _, h => absurd h (by decide)
  | 59, _, h => absurd h (by decide)
  | 60, _, h => absurd h (by decide)
  | 61, _, h => absurd h (by decide)
  | 62, _, _ => mn_62
  | 63, _, h => absurd h (by decide)
  | 64, _, h => absurd h (by decide)
  | 65, _, h => absurd h (by decide)
  | 66, _, h => absurd h (by decide)
  | 67, _, h => absurd h (by decide)
  | 68, _, h => absurd h (by decide)
  | 69, _, _ => mn_69
  | 70, _, h => absurd h (by decide)
  | 71, _, h => absurd h (by decide)
  | 72, _, h => absurd h (by decide)
  | 73, _, h => absurd h (by decide)
  | 74, _, h => absurd h (by decide)
  | 75, _, h => absurd h (by decide)
  | 76, _, h => absurd h (by decide)
  | 77, _, _ => mn_77
  | 78, _, h => absurd h (by decide)
  | 79, _, h => absurd h (by decide)
  | 80, _, h => absurd h (by decide)
  | 81, _, h => absurd h (by decide)
  | 82, _, h => absurd h (by decide)
  | 83, _, h => absurd h (by decide)
  | 84, _, h => absurd h (by decide)
  | 85, _, h => absurd h (by decide)
  | 86, _, h => absurd h (by decide)
  | 87, _, _ => mn_87
  | 88, _, h => absurd h (by decide)
  | 89, _, h => absurd h (by decide)
  | 90, _, h => absurd h (by decide)
  | 91, _, h => absurd h (by decide)
  | 92, _, h => absurd h (by decide)
  | 93, _, h => absurd h (by decide)
  | 94, _, h => absurd h (by decide)
  | 95, _, h => absurd h (by decide)
  | 96, _, h => absurd h (by decide)
  | 97, _, h => absurd h (by decide)
  | 98, _, h => absurd h (by decide)
  | 99, _, h => absurd h (by decide)
  | 100, _, h => absurd h (by decide)
  | 101, _, h => absurd h (by decide)
  | 102, _, h => absurd h (by decide)
  | 103, _, h => absurd h (by decide)
  | 104, _, h => absurd h (by decide)
  | 105, _, h => absurd h (by decide)
  | 106, _, h => absurd h (by decide)
  | 107, _, _ => mn_107
  | 108, _, h => absurd h (by decide)
  | 109, _, h => absurd h (by decide)
  | 110, _, h => absurd h (by decide)
  | 111, _, h => absurd h (by decide)
  | 112, _, h => absurd h (by decide)
  | 113, _, h => absurd h (by decide)
  | 114, _, h => absurd h (by decide)
  | 115, _, h => absurd h (by decide)
  | 116, _, h => absurd h (by decide)
  | 117, _, h => absurd h (by decide)
  | 118, _, _ => mn_118
  | 119, _, h => absurd h (by decide)
  | 120, _, h => absurd h (by decide)
  | 121, _, h => absurd h (by decide)
  | 122, _, h => absurd h (by decide)
  | 123, _, h => absurd h (by decide)
  | 124, _, h => absurd h (by decide)
  | 125, _, h => absurd h (by decide)
  | 126, _, h => absurd h (by decide)
  | 127, _, h => absurd h (by decide)
  | 128, _, h => absurd h (by decide)
  | 129, _, h => absurd h (by decide)
  | 130, _, h => absurd h (by decide)
  | 131, _, h => absurd h (by decide)
  | 132, _, h => absurd h (by decide)
  | 133, _, h => absurd h (by decide)
  | 134, _, _ => mn_134
  | 135, _, h => absurd h (by decide)
  | 136, _, h => absurd h (by decide)
  | 137, _, h => absurd h (by decide)
  | 138, _, h => absurd h (by decide)
  | 139, _, h => absurd h (by decide)
  | 140, _, h => absurd h (by decide)
  | 141, _, h => absurd h (by decide)
  | 142, _, h => absurd h (by decide)
  | 143, _, h => absurd h (by decide)
  | 144, _, h => absurd h (by decide)
  | 145, _, h => absurd h (by decide)
  | 146, _, h => absurd h (by decide)
  | 147, _, h => absurd h (by decide)
  | 148, _, h => absurd h (by decide)
  | 149, _, h => absurd h (by decide)
  | 150, _, h => absurd h (by decide)
  | 151, _, h => absurd h (by decide)
  | 152, _, h => absurd h (by decide)
  | 153, _, h => absurd h (by decide)
  | 154, _, h => absurd h (by decide)
  | 155, _, h => absurd h (by decide)
  | 156, _, h => absurd h (by decide)
  | 157, _, h => absurd h (by decide)
  | 158, _, _ => mn_158
  | 159, _, h => absurd h (by decide)
  | 160, _, h => absurd h (by decide)
  | 161, _, h => absurd h (by decide)
  | 162, _, h => absurd h (by decide)
  | 163, _, h => absurd h (by decide)
  | 164, _, h => absurd h (by decide)
  | 165, _, h => absurd h (by decide)
  | 166, _, h => absurd h (by decide)
  | 167, _, h => absurd h (by decide)
  | 168, _, h => absurd h (by decide)
  | 169, _, h => absurd h (by decide)
  | 170, _, h => absurd h (by decide)
  | 171, _, h => absurd h (by decide)
  | 172, _, h => absurd h (by decide)
  | 173, _, h => absurd h (by decide)
  | 174, _, h => absurd h (by decide)
  | 175, _, h => absurd h (by decide)
  | 176, _, h => absurd h (by decide)
  | 177, _, h => absurd h (by decide)
  | 178, _, h => absurd h (by decide)
  | 179, _, h => absurd h (by decide)
  | 180, _, h => absurd h (by decide)
  | 181, _, h => absurd h (by decide)
  | 182, _, h => absurd h (by decide)
  | 183, _, h => absurd h (by decide)
  | 184, _, h => absurd h (by decide)
  | 185, _, h => absurd h (by decide)
  | 186, _, h => absurd h (by decide)
  | 187, _, h => absurd h (by decide)
  | 188, _, h => absurd h (by decide)
  | 189, _, h => absurd h (by decide)
  | 190, _, h => absurd h (by decide)
  | 191, _, h => absurd h (by decide)
  | 192, _, h => absurd h (by decide)
  | 193, _, h => absurd h (by decide)
  | 194, _, h => absurd h (by decide)
  | 195, _, h => absurd h (by decide)
  | 196, _, h => absurd h (by decide)
  | 197, _, h => absurd h (by decide)
  | 198, _, h => absurd h (by decide)
  | 199, _, h => absurd h (by decide)
  | 200, _, h => absurd h (by decide)
  | 201, _, h => absurd h (by decide)
  | n + 202, h, _ => absurd h (by omega)
