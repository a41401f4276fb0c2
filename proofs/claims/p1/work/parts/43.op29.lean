theorem ro_354 (z : pq_C) (a1 : Int32) (h0 : a1.toInt < 0) : pq_Ru 1 16 [.int a1, .int 0, .int 999] (fw z) (some (.int 0), (fw z)) := by
  refine ru_of (k := 0) (M := pm_16) rfl rfl ?_
  refine go_seg 2 (pc' := 2) (ls' := [(0, .int a1), (1, .int 0), (2, .int 999)]) (st' := [.int 0, .int a1]) (w' := (fw z)) (cs' := 0) (ss' := 0) ?_ (fun _ _ => rfl)
  refine go_cmp true rfl (br_lt_t (b := 0) rfl (by omega)) ?_
  exact go_end 2 (fun _ _ => rfl)
theorem ro_355 (z : pq_C) (a1 : Int32) (h0 : a1.toInt < 0) : pq_Ru 3 121 [.ref 1, .int a1] (fw z) (some (.int (-1000001)), (wd_1000 z)) := by
  refine ru_of (k := 2) (M := pm_121) rfl rfl ?_
  refine go_seg 3 (pc' := 5) (ls' := [(0, .ref 1), (1, .int a1)]) (st' := [.int 999, .int 0, .int a1]) (w' := (fw z)) (cs' := 0) (ss' := 0) ?_ (fun _ _ => rfl)
  refine go_cl (k := 2) (st' := [.int 0]) (cs' := 0) (ss' := 0) rfl rfl rfl rfl rfl rfl rfl (ro_354 z a1 (by omega)) ?_
  refine go_seg 3 (pc' := 13) (ls' := [(0, .ref 1), (1, .int a1)]) (st' := [.int 1, .ref 1]) (w' := (fw z)) (cs' := 0) (ss' := 0) ?_ (fun _ _ => rfl)
  refine go_cl (k := 2) (st' := [.int (-1000001)]) (cs' := 0) (ss' := 0) rfl rfl rfl rfl rfl rfl rfl (ro_2 z) ?_
  exact go_end 1 (fun _ _ => rfl)
theorem ro_356 (z : pq_C) (a1 : Int32) (h0 : a1.toInt < 0) : pq_Ru 2 230 [.ref 90, .int a1] (wd_1000 z) (some (.int (-1000001)), (wd_1001 z)) := by
  refine ru_of (k := 1) (M := pm_230) rfl rfl ?_
  refine go_seg 4 (pc' := 6) (ls' := [(0, .ref 90), (1, .int a1)]) (st' := [.long 999, .long 0, .long a1.toInt64]) (w' := (wd_1000 z)) (cs' := 0) (ss' := 0) ?_ (fun _ _ => rfl)
  refine go_cl (k := 1) (st' := [.int 0]) (cs' := 0) (ss' := 0) rfl rfl rfl rfl rfl rfl rfl (wi_f _ a1 0 999 0 999 rfl rfl (by omega)) ?_
  refine go_seg 3 (pc' := 15) (ls' := [(0, .ref 90), (1, .int a1)]) (st' := [.int (-1000001), .ref 90]) (w' := (wd_1000 z)) (cs' := 0) (ss' := 0) ?_ (fun _ _ => rfl)
  refine go_cl (k := 1) (st' := [.int (-1000001)]) (cs' := 0) (ss' := 0) rfl rfl rfl rfl rfl rfl rfl (ro_5 z) ?_
  exact go_end 1 (fun _ _ => rfl)
theorem lf_29_357 (a0 : Int32) (a1 : Int32) (a2 : Int32) (a3 : Int32) (a4 : Int32) (a5 : Int32) (h0 : a1.toInt < 0) : ∃ w', pq_Go 20 pm_law 1251 [(3, .int 0), (2, .ref 90), (1, .ref 1), (0, .ref 0)] [] (fw (sz a0 a1 a2 a3 a4 a5)) 109 12668 (some (.int 1), w') := by
  refine ⟨(wd_1001 (sz a0 a1 a2 a3 a4 a5)), ?_⟩
  refine go_seg 6 (pc' := 1257) (ls' := [(3, .int 0), (2, .ref 90), (1, .ref 1), (0, .ref 0)]) (st' := [.int a1, .ref 1]) (w' := (fw (sz a0 a1 a2 a3 a4 a5))) (cs' := 109) (ss' := 12668) ?_ (fun _ _ => rfl)
  refine go_cl (k := 20) (st' := [.int (-1000001)]) (cs' := 109) (ss' := 12668) rfl rfl rfl rfl rfl rfl rfl (ro_355 (sz a0 a1 a2 a3 a4 a5) a1 (by omega)) ?_
  refine go_seg 6 (pc' := 1266) (ls' := [(3, .int 0), (2, .ref 90), (1, .ref 1), (0, .ref 0)]) (st' := [.int a1, .ref 90, .int (-1000001)]) (w' := (wd_1000 (sz a0 a1 a2 a3 a4 a5))) (cs' := 109) (ss' := 12668) ?_ (fun _ _ => rfl)
  refine go_cl (k := 20) (st' := [.int (-1000001), .int (-1000001)]) (cs' := 109) (ss' := 12668) rfl rfl rfl rfl rfl rfl rfl (ro_356 (sz a0 a1 a2 a3 a4 a5) a1 (by omega)) ?_
  refine go_cmp true rfl (br_self _) ?_
  exact law_tail (f := sc a0 a1 a2 a3 a4 a5) rfl
theorem ro_358 (z : pq_C) (a1 : Int32) (h0 : 0 ≤ a1.toInt) (h1 : a1.toInt < 1000) : pq_Ru 1 16 [.int a1, .int 0, .int 999] (fw z) (some (.int 1), (fw z)) := by
  refine ru_of (k := 0) (M := pm_16) rfl rfl ?_
  refine go_seg 2 (pc' := 2) (ls' := [(0, .int a1), (1, .int 0), (2, .int 999)]) (st' := [.int 0, .int a1]) (w' := (fw z)) (cs' := 0) (ss' := 0) ?_ (fun _ _ => rfl)
  refine go_cmp false rfl (br_lt_f (b := 0) rfl (by omega)) ?_
  refine go_seg 2 (pc' := 7) (ls' := [(0, .int a1), (1, .int 0), (2, .int 999)]) (st' := [.int 999, .int a1]) (w' := (fw z)) (cs' := 0) (ss' := 0) ?_ (fun _ _ => rfl)
  refine go_cmp false rfl (br_gt_f (b := 999) rfl (by omega)) ?_
  exact go_end 3 (fun _ _ => rfl)
def wd_1027 (z : pq_C) (a1 : Int32) : pq_W := ((fw z).set 2 (.inr (7, [.ref 3, .ref 4, .ref 5, .ref 6, .ref 7, .ref 8, .ref 9, .ref 10, .int 0, .int a1])))
theorem ro_359 (z : pq_C) (a1 : Int32) (h0 : 0 ≤ a1.toInt) (h1 : a1.toInt < 1000) : pq_Ru 2 121 [.ref 1, .int a1] (fw z) (some (.int 10), (wd_1027 z a1)) := by
  refine ru_of (k := 1) (M := pm_121) rfl rfl ?_
  refine go_seg 3 (pc' := 5) (ls' := [(0, .ref 1), (1, .int a1)]) (st' := [.int 999, .int 0, .int a1]) (w' := (fw z)) (cs' := 0) (ss' := 0) ?_ (fun _ _ => rfl)
  refine go_cl (k := 1) (st' := [.int 1]) (cs' := 0) (ss' := 0) rfl rfl rfl rfl rfl rfl rfl (ro_358 z a1 (by omega) (by omega)) ?_
  refine go_seg 8 (pc' := 30) (ls' := [(2, .int 10), (0, .ref 1), (1, .int a1)]) (st' := [.int a1, .ref 2]) (w' := (fw z)) (cs' := 0) (ss' := 0) ?_ (fun _ _ => rfl)
  exact go_end 3 (fun _ _ => rfl)
def wd_1028 (z : pq_C) (a1 : Int32) : pq_W := ((wd_1027 z a1).set 91 (.inl (.int, 2858, .inl (upd (upd (upd (upd (upd (upd (upd (upd (upd (upd (upd (upd (upd (upd (upd (upd (upd (upd (upd (upd (upd (upd (upd (upd (upd (upd (upd (upd (upd (upd (upd (upd (upd (upd (upd (upd (upd (upd (upd (upd (upd (upd (upd (upd (upd (upd (upd (upd (upd (upd (upd (upd (upd (upd (upd (upd (upd (upd (upd (upd (upd (upd (upd (upd (upd (upd (upd (upd (upd (upd (upd (upd (upd (upd (upd (upd (upd (upd (upd (upd (upd (upd (fun _ => 0) 1 10) 10 (-1)) 11 (-1)) 12 (-1)) 13 (-1)) 14 (-1)) 15 (-1)) 16 (-1)) 17 (-1)) 18 (-1)) 19 (-1)) 20 (-1)) 21 (-1)) 22 (-1)) 23 (-1)) 24 (-1)) 25 (-1)) 26 (-1)) 27 (-1)) 28 (-1)) 29 (-1)) 30 (-1)) 31 (-1)) 32 (-1)) 33 (-1)) 34 (-1)) 35 (-1)) 36 (-1)) 37 (-1)) 38 (-1)) 39 (-1)) 40 (-1)) 41 (-1)) 42 (-1)) 43 (-1)) 44 (-1)) 45 (-1)) 46 (-1)) 47 (-1)) 48 (-1)) 49 (-1)) 50 (-1)) 51 (-1)) 52 (-1)) 53 (-1)) 54 (-1)) 55 (-1)) 56 (-1)) 57 (-1)) 58 (-1)) 59 (-1)) 60 (-1)) 61 (-1)) 62 (-1)) 63 (-1)) 64 (-1)) 65 (-1)) 66 (-1)) 67 (-1)) 68 (-1)) 69 (-1)) 70 (-1)) 71 (-1)) 72 (-1)) 73 (-1)) 139 1000) 140 100) 145 1000) 146 100) 151 1000) 152 100) 157 1000) 158 100) 163 1000) 164 100) 169 1000) 170 100) 175 1000) 176 100) 181 1000) 182 100) 1 a1))))
theorem ro_361 (z : pq_C) (a1 : Int32) (h0 : 0 ≤ a1.toInt) (h1 : a1.toInt < 1000) : pq_Ru 2 230 [.ref 90, .int a1] (wd_1027 z a1) (some (.int 10), (wd_1028 z a1)) := by
  refine ru_of (k := 1) (M := pm_230) rfl rfl ?_
  refine go_seg 4 (pc' := 6) (ls' := [(0, .ref 90), (1, .int a1)]) (st' := [.long 999, .long 0, .long a1.toInt64]) (w' := (wd_1027 z a1)) (cs' := 0) (ss' := 0) ?_ (fun _ _ => rfl)
  refine go_cl (k := 1) (st' := [.int 1]) (cs' := 0) (ss' := 0) rfl rfl rfl rfl rfl rfl rfl (wi_t _ a1 0 999 0 999 rfl rfl (by omega)) ?_
  refine go_seg 8 (pc' := 30) (ls' := [(2, .int 10), (0, .ref 90), (1, .int a1)]) (st' := [.ref 91]) (w' := (wd_1027 z a1)) (cs' := 0) (ss' := 0) ?_ (fun _ _ => rfl)
  exact go_end 5 (fun _ _ => rfl)
theorem lf_29_363 (a0 : Int32) (a1 : Int32) (a2 : Int32) (a3 : Int32) (a4 : Int32) (a5 : Int32) (h0 : 0 ≤ a1.toInt) (h1 : a1.toInt < 1000) : ∃ w', pq_Go 20 pm_law 1251 [(3, .int 0), (2, .ref 90), (1, .ref 1), (0, .ref 0)] [] (fw (sz a0 a1 a2 a3 a4 a5)) 109 12668 (some (.int 1), w') := by
  refine ⟨(wd_1028 (sz a0 a1 a2 a3 a4 a5) a1), ?_⟩
  refine go_seg 6 (pc' := 1257) (ls' := [(3, .int 0), (2, .ref 90), (1, .ref 1), (0, .ref 0)]) (st' := [.int a1, .ref 1]) (w' := (fw (sz a0 a1 a2 a3 a4 a5))) (cs' := 109) (ss' := 12668) ?_ (fun _ _ => rfl)
  refine go_cl (k := 20) (st' := [.int 10]) (cs' := 109) (ss' := 12668) rfl rfl rfl rfl rfl rfl rfl (ro_359 (sz a0 a1 a2 a3 a4 a5) a1 (by omega) (by omega)) ?_
  refine go_seg 6 (pc' := 1266) (ls' := [(3, .int 0), (2, .ref 90), (1, .ref 1), (0, .ref 0)]) (st' := [.int a1, .ref 90, .int 10]) (w' := (wd_1027 (sz a0 a1 a2 a3 a4 a5) a1)) (cs' := 109) (ss' := 12668) ?_ (fun _ _ => rfl)
  refine go_cl (k := 20) (st' := [.int 10, .int 10]) (cs' := 109) (ss' := 12668) rfl rfl rfl rfl rfl rfl rfl (ro_361 (sz a0 a1 a2 a3 a4 a5) a1 (by omega) (by omega)) ?_
  refine go_cmp true rfl (br_self _) ?_
  exact law_tail (f := sc a0 a1 a2 a3 a4 a5) rfl
theorem ro_364 (z : pq_C) (a1 : Int32) (h0 : 0 ≤ a1.toInt) (h1 : 1000 ≤ a1.toInt) : pq_Ru 1 16 [.int a1, .int 0, .int 999] (fw z) (some (.int 0), (fw z)) := by
  refine ru_of (k := 0) (M := pm_16) rfl rfl ?_
  refine go_seg 2 (pc' := 2) (ls' := [(0, .int a1), (1, .int 0), (2, .int 999)]) (st' := [.int 0, .int a1]) (w' := (fw z)) (cs' := 0) (ss' := 0) ?_ (fun _ _ => rfl)
  refine go_cmp false rfl (br_lt_f (b := 0) rfl (by omega)) ?_
  refine go_seg 2 (pc' := 7) (ls' := [(0, .int a1), (1, .int 0), (2, .int 999)]) (st' := [.int 999, .int a1]) (w' := (fw z)) (cs' := 0) (ss' := 0) ?_ (fun _ _ => rfl)
  refine go_cmp true rfl (br_gt_t (b := 999) rfl (by omega)) ?_
  exact go_end 2 (fun _ _ => rfl)
theorem ro_365 (z : pq_C) (a1 : Int32) (h0 : 0 ≤ a1.toInt) (h1 : 1000 ≤ a1.toInt) : pq_Ru 3 121 [.ref 1, .int a1] (fw z) (some (.int (-1000001)), (wd_1000 z)) := by
  refine ru_of (k := 2) (M := pm_121) rfl rfl ?_
  refine go_seg 3 (pc' := 5) (ls' := [(0, .ref 1), (1, .int a1)]) (st' := [.int 999, .int 0, .int a1]) (w' := (fw z)) (cs' := 0) (ss' := 0) ?_ (fun _ _ => rfl)
  refine go_cl (k := 2) (st' := [.int 0]) (cs' := 0) (ss' := 0) rfl rfl rfl rfl rfl rfl rfl (ro_364 z a1 (by omega) (by omega)) ?_
  refine go_seg 3 (pc' := 13) (ls' := [(0, .ref 1), (1, .int a1)]) (st' := [.int 1, .ref 1]) (w' := (fw z)) (cs' := 0) (ss' := 0) ?_ (fun _ _ => rfl)
  refine go_cl (k := 2) (st' := [.int (-1000001)]) (cs' := 0) (ss' := 0) rfl rfl rfl rfl rfl rfl rfl (ro_2 z) ?_
  exact go_end 1 (fun _ _ => rfl)
theorem ro_366 (z : pq_C) (a1 : Int32) (h0 : 0 ≤ a1.toInt) (h1 : 1000 ≤ a1.toInt) : pq_Ru 2 230 [.ref 90, .int a1] (wd_1000 z) (some (.int (-1000001)), (wd_1001 z)) := by
  refine ru_of (k := 1) (M := pm_230) rfl rfl ?_
  refine go_seg 4 (pc' := 6) (ls' := [(0, .ref 90), (1, .int a1)]) (st' := [.long 999, .long 0, .long a1.toInt64]) (w' := (wd_1000 z)) (cs' := 0) (ss' := 0) ?_ (fun _ _ => rfl)
  refine go_cl (k := 1) (st' := [.int 0]) (cs' := 0) (ss' := 0) rfl rfl rfl rfl rfl rfl rfl (wi_f _ a1 0 999 0 999 rfl rfl (by omega)) ?_
  refine go_seg 3 (pc' := 15) (ls' := [(0, .ref 90), (1, .int a1)]) (st' := [.int (-1000001), .ref 90]) (w' := (wd_1000 z)) (cs' := 0) (ss' := 0) ?_ (fun _ _ => rfl)
  refine go_cl (k := 1) (st' := [.int (-1000001)]) (cs' := 0) (ss' := 0) rfl rfl rfl rfl rfl rfl rfl (ro_5 z) ?_
  exact go_end 1 (fun _ _ => rfl)
theorem lf_29_367 (a0 : Int32) (a1 : Int32) (a2 : Int32) (a3 : Int32) (a4 : Int32) (a5 : Int32) (h0 : 0 ≤ a1.toInt) (h1 : 1000 ≤ a1.toInt) : ∃ w', pq_Go 20 pm_law 1251 [(3, .int 0), (2, .ref 90), (1, .ref 1), (0, .ref 0)] [] (fw (sz a0 a1 a2 a3 a4 a5)) 109 12668 (some (.int 1), w') := by
  refine ⟨(wd_1001 (sz a0 a1 a2 a3 a4 a5)), ?_⟩
  refine go_seg 6 (pc' := 1257) (ls' := [(3, .int 0), (2, .ref 90), (1, .ref 1), (0, .ref 0)]) (st' := [.int a1, .ref 1]) (w' := (fw (sz a0 a1 a2 a3 a4 a5))) (cs' := 109) (ss' := 12668) ?_ (fun _ _ => rfl)
  refine go_cl (k := 20) (st' := [.int (-1000001)]) (cs' := 109) (ss' := 12668) rfl rfl rfl rfl rfl rfl rfl (ro_365 (sz a0 a1 a2 a3 a4 a5) a1 (by omega) (by omega)) ?_
  refine go_seg 6 (pc' := 1266) (ls' := [(3, .int 0), (2, .ref 90), (1, .ref 1), (0, .ref 0)]) (st' := [.int a1, .ref 90, .int (-1000001)]) (w' := (wd_1000 (sz a0 a1 a2 a3 a4 a5))) (cs' := 109) (ss' := 12668) ?_ (fun _ _ => rfl)
  refine go_cl (k := 20) (st' := [.int (-1000001), .int (-1000001)]) (cs' := 109) (ss' := 12668) rfl rfl rfl rfl rfl rfl rfl (ro_366 (sz a0 a1 a2 a3 a4 a5) a1 (by omega) (by omega)) ?_
  refine go_cmp true rfl (br_self _) ?_
  exact law_tail (f := sc a0 a1 a2 a3 a4 a5) rfl
theorem op_29 (a0 a1 a2 a3 a4 a5 : Int32) : ∃ w', pq_Go 20 pm_law 1251 [(3, .int 0), (2, .ref 90), (1, .ref 1), (0, .ref 0)] [] (fw (sz a0 a1 a2 a3 a4 a5)) 109 12668 (some (.int 1), w') := by
  by_cases c0 : a1.toInt < 0
  · exact lf_29_357 a0 a1 a2 a3 a4 a5 (by omega)
  · by_cases c1 : a1.toInt < 1000
    · exact lf_29_363 a0 a1 a2 a3 a4 a5 (by omega) (by omega)
    · exact lf_29_367 a0 a1 a2 a3 a4 a5 (by omega) (by omega)
