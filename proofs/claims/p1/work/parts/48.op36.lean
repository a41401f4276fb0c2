theorem ro_409 (z : pq_C) (a1 : Int32) (a2 : Int32) (a3 : Int32) (a4 : Int32) (a5 : Int32) (h0 : a1.toInt < 0) : pq_Ru 3 145 [.ref 1, .int a1, .int a2, .int a3, .int a4, .int a5] (fw z) (some (.int (-1000001)), (wd_1000 z)) := by
  refine ru_of (k := 2) (M := pm_145) rfl rfl ?_
  refine go_seg 1 (pc' := 1) (ls' := [(0, .ref 1), (1, .int a1), (2, .int a2), (3, .int a3), (4, .int a4), (5, .int a5)]) (st' := [.int a1]) (w' := (fw z)) (cs' := 0) (ss' := 0) ?_ (fun _ _ => rfl)
  refine go_cl (k := 2) (st' := [.int 0]) (cs' := 0) (ss' := 0) rfl rfl rfl rfl rfl rfl rfl (ro_138 z a1 (by omega)) ?_
  refine go_seg 3 (pc' := 16) (ls' := [(0, .ref 1), (1, .int a1), (2, .int a2), (3, .int a3), (4, .int a4), (5, .int a5)]) (st' := [.int 1, .ref 1]) (w' := (fw z)) (cs' := 0) (ss' := 0) ?_ (fun _ _ => rfl)
  refine go_cl (k := 2) (st' := [.int (-1000001)]) (cs' := 0) (ss' := 0) rfl rfl rfl rfl rfl rfl rfl (ro_2 z) ?_
  exact go_end 1 (fun _ _ => rfl)
theorem ro_410 (z : pq_C) (a1 : Int32) (a2 : Int32) (a3 : Int32) (a4 : Int32) (a5 : Int32) (h0 : a1.toInt < 0) : pq_Ru 3 244 [.ref 90, .int a1, .int a2, .int a3, .int a4, .int a5] (wd_1000 z) (some (.int (-1000001)), (wd_1001 z)) := by
  refine ru_of (k := 2) (M := pm_244) rfl rfl ?_
  refine go_seg 1 (pc' := 1) (ls' := [(0, .ref 90), (1, .int a1), (2, .int a2), (3, .int a3), (4, .int a4), (5, .int a5)]) (st' := [.int a1]) (w' := (wd_1000 z)) (cs' := 0) (ss' := 0) ?_ (fun _ _ => rfl)
  refine go_cl (k := 2) (st' := [.int 0]) (cs' := 0) (ss' := 0) rfl rfl rfl rfl rfl rfl rfl (ro_140 z a1 (by omega)) ?_
  refine go_seg 3 (pc' := 17) (ls' := [(0, .ref 90), (1, .int a1), (2, .int a2), (3, .int a3), (4, .int a4), (5, .int a5)]) (st' := [.int (-1000001), .ref 90]) (w' := (wd_1000 z)) (cs' := 0) (ss' := 0) ?_ (fun _ _ => rfl)
  refine go_cl (k := 2) (st' := [.int (-1000001)]) (cs' := 0) (ss' := 0) rfl rfl rfl rfl rfl rfl rfl (ro_5 z) ?_
  exact go_end 1 (fun _ _ => rfl)
theorem lf_36_411 (a0 : Int32) (a1 : Int32) (a2 : Int32) (a3 : Int32) (a4 : Int32) (a5 : Int32) (h0 : a1.toInt < 0) : ∃ w', pq_Go 20 pm_law 1532 [(3, .int 0), (2, .ref 90), (1, .ref 1), (0, .ref 0)] [] (fw (sz a0 a1 a2 a3 a4 a5)) 109 12668 (some (.int 1), w') := by
  refine ⟨(wd_1001 (sz a0 a1 a2 a3 a4 a5)), ?_⟩
  refine go_seg 8 (pc' := 1540) (ls' := [(3, .int 0), (2, .ref 90), (1, .ref 1), (0, .ref 0)]) (st' := [.int 0, .ref 0, .int a1, .ref 1]) (w' := (fw (sz a0 a1 a2 a3 a4 a5))) (cs' := 109) (ss' := 12668) ?_ (fun _ _ => rfl)
  refine go_seg 8 (pc' := 1548) (ls' := [(3, .int 0), (2, .ref 90), (1, .ref 1), (0, .ref 0)]) (st' := [.int a3, .int a2, .int a1, .ref 1]) (w' := (fw (sz a0 a1 a2 a3 a4 a5))) (cs' := 109) (ss' := 12668) ?_ (fun _ _ => rfl)
  refine go_seg 8 (pc' := 1556) (ls' := [(3, .int 0), (2, .ref 90), (1, .ref 1), (0, .ref 0)]) (st' := [.int 5, .int 0, .ref 0, .int a4, .int a3, .int a2, .int a1, .ref 1]) (w' := (fw (sz a0 a1 a2 a3 a4 a5))) (cs' := 109) (ss' := 12668) ?_ (fun _ _ => rfl)
  refine go_seg 2 (pc' := 1558) (ls' := [(3, .int 0), (2, .ref 90), (1, .ref 1), (0, .ref 0)]) (st' := [.int a5, .int a4, .int a3, .int a2, .int a1, .ref 1]) (w' := (fw (sz a0 a1 a2 a3 a4 a5))) (cs' := 109) (ss' := 12668) ?_ (fun _ _ => rfl)
  refine go_cl (k := 20) (st' := [.int (-1000001)]) (cs' := 109) (ss' := 12668) rfl rfl rfl rfl rfl rfl rfl (ro_409 (sz a0 a1 a2 a3 a4 a5) a1 a2 a3 a4 a5 (by omega)) ?_
  refine go_seg 8 (pc' := 1569) (ls' := [(3, .int 0), (2, .ref 90), (1, .ref 1), (0, .ref 0)]) (st' := [.int 0, .ref 0, .int a1, .ref 90, .int (-1000001)]) (w' := (wd_1000 (sz a0 a1 a2 a3 a4 a5))) (cs' := 109) (ss' := 12668) ?_ (fun _ _ => rfl)
  refine go_seg 8 (pc' := 1577) (ls' := [(3, .int 0), (2, .ref 90), (1, .ref 1), (0, .ref 0)]) (st' := [.int a3, .int a2, .int a1, .ref 90, .int (-1000001)]) (w' := (wd_1000 (sz a0 a1 a2 a3 a4 a5))) (cs' := 109) (ss' := 12668) ?_ (fun _ _ => rfl)
  refine go_seg 8 (pc' := 1585) (ls' := [(3, .int 0), (2, .ref 90), (1, .ref 1), (0, .ref 0)]) (st' := [.int 5, .int 0, .ref 0, .int a4, .int a3, .int a2, .int a1, .ref 90, .int (-1000001)]) (w' := (wd_1000 (sz a0 a1 a2 a3 a4 a5))) (cs' := 109) (ss' := 12668) ?_ (fun _ _ => rfl)
  refine go_seg 2 (pc' := 1587) (ls' := [(3, .int 0), (2, .ref 90), (1, .ref 1), (0, .ref 0)]) (st' := [.int a5, .int a4, .int a3, .int a2, .int a1, .ref 90, .int (-1000001)]) (w' := (wd_1000 (sz a0 a1 a2 a3 a4 a5))) (cs' := 109) (ss' := 12668) ?_ (fun _ _ => rfl)
  refine go_cl (k := 20) (st' := [.int (-1000001), .int (-1000001)]) (cs' := 109) (ss' := 12668) rfl rfl rfl rfl rfl rfl rfl (ro_410 (sz a0 a1 a2 a3 a4 a5) a1 a2 a3 a4 a5 (by omega)) ?_
  refine go_cmp true rfl (br_self _) ?_
  exact law_tail (f := sc a0 a1 a2 a3 a4 a5) rfl
theorem ro_412 (z : pq_C) (a3 : Int32) (h0 : a3.toInt < 0) : pq_Ru 1 18 [.int a3] (fw z) (some (.int 0), (fw z)) := by
  refine ru_of (k := 0) (M := pm_18) rfl rfl ?_
  refine go_seg 1 (pc' := 1) (ls' := [(0, .int a3)]) (st' := [.int a3]) (w' := (fw z)) (cs' := 0) (ss' := 0) ?_ (fun _ _ => rfl)
  refine go_if true rfl (br_lt_t (b := 0) rfl (by omega)) ?_
  exact go_end 2 (fun _ _ => rfl)
theorem ro_413 (z : pq_C) (a1 : Int32) (a2 : Int32) (a3 : Int32) (a4 : Int32) (a5 : Int32) (h0 : 0 ≤ a1.toInt) (h1 : a1.toInt < 4) (h2 : a3.toInt < 0) : pq_Ru 3 145 [.ref 1, .int a1, .int a2, .int a3, .int a4, .int a5] (fw z) (some (.int (-1000001)), (wd_1000 z)) := by
  refine ru_of (k := 2) (M := pm_145) rfl rfl ?_
  refine go_seg 1 (pc' := 1) (ls' := [(0, .ref 1), (1, .int a1), (2, .int a2), (3, .int a3), (4, .int a4), (5, .int a5)]) (st' := [.int a1]) (w' := (fw z)) (cs' := 0) (ss' := 0) ?_ (fun _ _ => rfl)
  refine go_cl (k := 2) (st' := [.int 1]) (cs' := 0) (ss' := 0) rfl rfl rfl rfl rfl rfl rfl (ro_143 z a1 (by omega) (by omega)) ?_
  refine go_seg 2 (pc' := 8) (ls' := [(0, .ref 1), (1, .int a1), (2, .int a2), (3, .int a3), (4, .int a4), (5, .int a5)]) (st' := [.int a3]) (w' := (fw z)) (cs' := 0) (ss' := 0) ?_ (fun _ _ => rfl)
  refine go_cl (k := 2) (st' := [.int 0]) (cs' := 0) (ss' := 0) rfl rfl rfl rfl rfl rfl rfl (ro_412 z a3 (by omega)) ?_
  refine go_seg 3 (pc' := 16) (ls' := [(0, .ref 1), (1, .int a1), (2, .int a2), (3, .int a3), (4, .int a4), (5, .int a5)]) (st' := [.int 1, .ref 1]) (w' := (fw z)) (cs' := 0) (ss' := 0) ?_ (fun _ _ => rfl)
  refine go_cl (k := 2) (st' := [.int (-1000001)]) (cs' := 0) (ss' := 0) rfl rfl rfl rfl rfl rfl rfl (ro_2 z) ?_
  exact go_end 1 (fun _ _ => rfl)
theorem ro_414 (z : pq_C) (a3 : Int32) (h0 : a3.toInt < 0) : pq_Ru 2 164 [.int a3] (wd_1000 z) (some (.int 0), (wd_1000 z)) := by
  refine ru_of (k := 1) (M := pm_164) rfl rfl ?_
  refine go_seg 4 (pc' := 6) (ls' := [(0, .int a3)]) (st' := [.long 3, .long 0, .long a3.toInt64]) (w' := (wd_1000 z)) (cs' := 0) (ss' := 0) ?_ (fun _ _ => rfl)
  refine go_cl (k := 1) (st' := [.int 0]) (cs' := 0) (ss' := 0) rfl rfl rfl rfl rfl rfl rfl (wi_f _ a3 0 3 0 3 rfl rfl (by omega)) ?_
  exact go_end 1 (fun _ _ => rfl)
theorem ro_415 (z : pq_C) (a1 : Int32) (a2 : Int32) (a3 : Int32) (a4 : Int32) (a5 : Int32) (h0 : 0 ≤ a1.toInt) (h1 : a1.toInt < 4) (h2 : a3.toInt < 0) : pq_Ru 3 244 [.ref 90, .int a1, .int a2, .int a3, .int a4, .int a5] (wd_1000 z) (some (.int (-1000001)), (wd_1001 z)) := by
  refine ru_of (k := 2) (M := pm_244) rfl rfl ?_
  refine go_seg 1 (pc' := 1) (ls' := [(0, .ref 90), (1, .int a1), (2, .int a2), (3, .int a3), (4, .int a4), (5, .int a5)]) (st' := [.int a1]) (w' := (wd_1000 z)) (cs' := 0) (ss' := 0) ?_ (fun _ _ => rfl)
  refine go_cl (k := 2) (st' := [.int 1]) (cs' := 0) (ss' := 0) rfl rfl rfl rfl rfl rfl rfl (ro_146 z a1 (by omega) (by omega)) ?_
  refine go_seg 2 (pc' := 8) (ls' := [(0, .ref 90), (1, .int a1), (2, .int a2), (3, .int a3), (4, .int a4), (5, .int a5)]) (st' := [.int a3]) (w' := (wd_1000 z)) (cs' := 0) (ss' := 0) ?_ (fun _ _ => rfl)
  refine go_cl (k := 2) (st' := [.int 0]) (cs' := 0) (ss' := 0) rfl rfl rfl rfl rfl rfl rfl (ro_414 z a3 (by omega)) ?_
  refine go_seg 3 (pc' := 17) (ls' := [(0, .ref 90), (1, .int a1), (2, .int a2), (3, .int a3), (4, .int a4), (5, .int a5)]) (st' := [.int (-1000001), .ref 90]) (w' := (wd_1000 z)) (cs' := 0) (ss' := 0) ?_ (fun _ _ => rfl)
  refine go_cl (k := 2) (st' := [.int (-1000001)]) (cs' := 0) (ss' := 0) rfl rfl rfl rfl rfl rfl rfl (ro_5 z) ?_
  exact go_end 1 (fun _ _ => rfl)
theorem lf_36_416 (a0 : Int32) (a1 : Int32) (a2 : Int32) (a3 : Int32) (a4 : Int32) (a5 : Int32) (h0 : 0 ≤ a1.toInt) (h1 : a1.toInt < 4) (h2 : a3.toInt < 0) : ∃ w', pq_Go 20 pm_law 1532 [(3, .int 0), (2, .ref 90), (1, .ref 1), (0, .ref 0)] [] (fw (sz a0 a1 a2 a3 a4 a5)) 109 12668 (some (.int 1), w') := by
  refine ⟨(wd_1001 (sz a0 a1 a2 a3 a4 a5)), ?_⟩
  refine go_seg 8 (pc' := 1540) (ls' := [(3, .int 0), (2, .ref 90), (1, .ref 1), (0, .ref 0)]) (st' := [.int 0, .ref 0, .int a1, .ref 1]) (w' := (fw (sz a0 a1 a2 a3 a4 a5))) (cs' := 109) (ss' := 12668) ?_ (fun _ _ => rfl)
  refine go_seg 8 (pc' := 1548) (ls' := [(3, .int 0), (2, .ref 90), (1, .ref 1), (0, .ref 0)]) (st' := [.int a3, .int a2, .int a1, .ref 1]) (w' := (fw (sz a0 a1 a2 a3 a4 a5))) (cs' := 109) (ss' := 12668) ?_ (fun _ _ => rfl)
  refine go_seg 8 (pc' := 1556) (ls' := [(3, .int 0), (2, .ref 90), (1, .ref 1), (0, .ref 0)]) (st' := [.int 5, .int 0, .ref 0, .int a4, .int a3, .int a2, .int a1, .ref 1]) (w' := (fw (sz a0 a1 a2 a3 a4 a5))) (cs' := 109) (ss' := 12668) ?_ (fun _ _ => rfl)
  refine go_seg 2 (pc' := 1558) (ls' := [(3, .int 0), (2, .ref 90), (1, .ref 1), (0, .ref 0)]) (st' := [.int a5, .int a4, .int a3, .int a2, .int a1, .ref 1]) (w' := (fw (sz a0 a1 a2 a3 a4 a5))) (cs' := 109) (ss' := 12668) ?_ (fun _ _ => rfl)
  refine go_cl (k := 20) (st' := [.int (-1000001)]) (cs' := 109) (ss' := 12668) rfl rfl rfl rfl rfl rfl rfl (ro_413 (sz a0 a1 a2 a3 a4 a5) a1 a2 a3 a4 a5 (by omega) (by omega) (by omega)) ?_
  refine go_seg 8 (pc' := 1569) (ls' := [(3, .int 0), (2, .ref 90), (1, .ref 1), (0, .ref 0)]) (st' := [.int 0, .ref 0, .int a1, .ref 90, .int (-1000001)]) (w' := (wd_1000 (sz a0 a1 a2 a3 a4 a5))) (cs' := 109) (ss' := 12668) ?_ (fun _ _ => rfl)
  refine go_seg 8 (pc' := 1577) (ls' := [(3, .int 0), (2, .ref 90), (1, .ref 1), (0, .ref 0)]) (st' := [.int a3, .int a2, .int a1, .ref 90, .int (-1000001)]) (w' := (wd_1000 (sz a0 a1 a2 a3 a4 a5))) (cs' := 109) (ss' := 12668) ?_ (fun _ _ => rfl)
  refine go_seg 8 (pc' := 1585) (ls' := [(3, .int 0), (2, .ref 90), (1, .ref 1), (0, .ref 0)]) (st' := [.int 5, .int 0, .ref 0, .int a4, .int a3, .int a2, .int a1, .ref 90, .int (-1000001)]) (w' := (wd_1000 (sz a0 a1 a2 a3 a4 a5))) (cs' := 109) (ss' := 12668) ?_ (fun _ _ => rfl)
  refine go_seg 2 (pc' := 1587) (ls' := [(3, .int 0), (2, .ref 90), (1, .ref 1), (0, .ref 0)]) (st' := [.int a5, .int a4, .int a3, .int a2, .int a1, .ref 90, .int (-1000001)]) (w' := (wd_1000 (sz a0 a1 a2 a3 a4 a5))) (cs' := 109) (ss' := 12668) ?_ (fun _ _ => rfl)
  refine go_cl (k := 20) (st' := [.int (-1000001), .int (-1000001)]) (cs' := 109) (ss' := 12668) rfl rfl rfl rfl rfl rfl rfl (ro_415 (sz a0 a1 a2 a3 a4 a5) a1 a2 a3 a4 a5 (by omega) (by omega) (by omega)) ?_
  refine go_cmp true rfl (br_self _) ?_
  exact law_tail (f := sc a0 a1 a2 a3 a4 a5) rfl
theorem ro_417 (z : pq_C) (a3 : Int32) (h0 : 0 ≤ a3.toInt) (h1 : a3.toInt < 4) : pq_Ru 1 18 [.int a3] (fw z) (some (.int 1), (fw z)) := by
  refine ru_of (k := 0) (M := pm_18) rfl rfl ?_
  refine go_seg 1 (pc' := 1) (ls' := [(0, .int a3)]) (st' := [.int a3]) (w' := (fw z)) (cs' := 0) (ss' := 0) ?_ (fun _ _ => rfl)
  refine go_if false rfl (br_lt_f (b := 0) rfl (by omega)) ?_
  refine go_seg 2 (pc' := 6) (ls' := [(0, .int a3)]) (st' := [.int 4, .int a3]) (w' := (fw z)) (cs' := 0) (ss' := 0) ?_ (fun _ _ => rfl)
  refine go_cmp false rfl (br_ge_f (b := 4) rfl (by omega)) ?_
  exact go_end 3 (fun _ _ => rfl)
theorem ro_418 (z : pq_C) (a2 : Int32) (a3 : Int32) (a4 : Int32) (a5 : Int32) (h0 : 0 ≤ a3.toInt) (h1 : a3.toInt < 4) : pq_Ru 3 145 [.ref 1, .int 0, .int a2, .int a3, .int a4, .int a5] (fw z) (some (.int (-1000002)), (wd_1025 z)) := by
  refine ru_of (k := 2) (M := pm_145) rfl rfl ?_
  refine go_seg 1 (pc' := 1) (ls' := [(0, .ref 1), (1, .int 0), (2, .int a2), (3, .int a3), (4, .int a4), (5, .int a5)]) (st' := [.int 0]) (w' := (fw z)) (cs' := 0) (ss' := 0) ?_ (fun _ _ => rfl)
  refine go_cl (k := 2) (st' := [.int 1]) (cs' := 0) (ss' := 0) rfl rfl rfl rfl rfl rfl rfl (ro_150 z) ?_
  refine go_seg 2 (pc' := 8) (ls' := [(0, .ref 1), (1, .int 0), (2, .int a2), (3, .int a3), (4, .int a4), (5, .int a5)]) (st' := [.int a3]) (w' := (fw z)) (cs' := 0) (ss' := 0) ?_ (fun _ _ => rfl)
  refine go_cl (k := 2) (st' := [.int 1]) (cs' := 0) (ss' := 0) rfl rfl rfl rfl rfl rfl rfl (ro_417 z a3 (by omega) (by omega)) ?_
  refine go_seg 4 (pc' := 25) (ls' := [(0, .ref 1), (1, .int 0), (2, .int a2), (3, .int a3), (4, .int a4), (5, .int a5)]) (st' := [.int 0, .ref 85]) (w' := (fw z)) (cs' := 0) (ss' := 0) ?_ (fun _ _ => rfl)
  refine go_cl (k := 2) (st' := [.int 1]) (cs' := 0) (ss' := 0) rfl rfl rfl rfl rfl rfl rfl (ro_152 z) ?_
  refine go_seg 3 (pc' := 44) (ls' := [(0, .ref 1), (1, .int 0), (2, .int a2), (3, .int a3), (4, .int a4), (5, .int a5)]) (st' := [.int 2, .ref 1]) (w' := (fw z)) (cs' := 0) (ss' := 0) ?_ (fun _ _ => rfl)
  refine go_cl (k := 2) (st' := [.int (-1000002)]) (cs' := 0) (ss' := 0) rfl rfl rfl rfl rfl rfl rfl (ro_127 z) ?_
  exact go_end 1 (fun _ _ => rfl)
theorem ro_419 (z : pq_C) (a3 : Int32) (h0 : 0 ≤ a3.toInt) (h1 : a3.toInt < 4) : pq_Ru 2 164 [.int a3] (wd_1025 z) (some (.int 1), (wd_1025 z)) := by
  refine ru_of (k := 1) (M := pm_164) rfl rfl ?_
  refine go_seg 4 (pc' := 6) (ls' := [(0, .int a3)]) (st' := [.long 3, .long 0, .long a3.toInt64]) (w' := (wd_1025 z)) (cs' := 0) (ss' := 0) ?_ (fun _ _ => rfl)
  refine go_cl (k := 1) (st' := [.int 1]) (cs' := 0) (ss' := 0) rfl rfl rfl rfl rfl rfl rfl (wi_t _ a3 0 3 0 3 rfl rfl (by omega)) ?_
  exact go_end 1 (fun _ _ => rfl)
theorem ro_420 (z : pq_C) (a2 : Int32) (a3 : Int32) (a4 : Int32) (a5 : Int32) (h0 : 0 ≤ a3.toInt) (h1 : a3.toInt < 4) : pq_Ru 3 244 [.ref 90, .int 0, .int a2, .int a3, .int a4, .int a5] (wd_1025 z) (some (.int (-1000002)), (wd_1026 z)) := by
  refine ru_of (k := 2) (M := pm_244) rfl rfl ?_
  refine go_seg 1 (pc' := 1) (ls' := [(0, .ref 90), (1, .int 0), (2, .int a2), (3, .int a3), (4, .int a4), (5, .int a5)]) (st' := [.int 0]) (w' := (wd_1025 z)) (cs' := 0) (ss' := 0) ?_ (fun _ _ => rfl)
  refine go_cl (k := 2) (st' := [.int 1]) (cs' := 0) (ss' := 0) rfl rfl rfl rfl rfl rfl rfl (ro_155 z) ?_
  refine go_seg 2 (pc' := 8) (ls' := [(0, .ref 90), (1, .int 0), (2, .int a2), (3, .int a3), (4, .int a4), (5, .int a5)]) (st' := [.int a3]) (w' := (wd_1025 z)) (cs' := 0) (ss' := 0) ?_ (fun _ _ => rfl)
  refine go_cl (k := 2) (st' := [.int 1]) (cs' := 0) (ss' := 0) rfl rfl rfl rfl rfl rfl rfl (ro_419 z a3 (by omega) (by omega)) ?_
  refine go_seg 8 (pc' := 42) (ls' := [(0, .ref 90), (1, .int 0), (2, .int a2), (3, .int a3), (4, .int a4), (5, .int a5)]) (st' := [.int (-1000002), .ref 90]) (w' := (wd_1025 z)) (cs' := 0) (ss' := 0) ?_ (fun _ _ => rfl)
  refine go_cl (k := 2) (st' := [.int (-1000002)]) (cs' := 0) (ss' := 0) rfl rfl rfl rfl rfl rfl rfl (ro_130 z) ?_
  exact go_end 1 (fun _ _ => rfl)
theorem lf_36_421 (a0 : Int32) (a2 : Int32) (a3 : Int32) (a4 : Int32) (a5 : Int32) (h0 : 0 ≤ a3.toInt) (h1 : a3.toInt < 4) : ∃ w', pq_Go 20 pm_law 1532 [(3, .int 0), (2, .ref 90), (1, .ref 1), (0, .ref 0)] [] (fw (sz a0 0 a2 a3 a4 a5)) 109 12668 (some (.int 1), w') := by
  refine ⟨(wd_1026 (sz a0 0 a2 a3 a4 a5)), ?_⟩
  refine go_seg 8 (pc' := 1540) (ls' := [(3, .int 0), (2, .ref 90), (1, .ref 1), (0, .ref 0)]) (st' := [.int 0, .ref 0, .int 0, .ref 1]) (w' := (fw (sz a0 0 a2 a3 a4 a5))) (cs' := 109) (ss' := 12668) ?_ (fun _ _ => rfl)
  refine go_seg 8 (pc' := 1548) (ls' := [(3, .int 0), (2, .ref 90), (1, .ref 1), (0, .ref 0)]) (st' := [.int a3, .int a2, .int 0, .ref 1]) (w' := (fw (sz a0 0 a2 a3 a4 a5))) (cs' := 109) (ss' := 12668) ?_ (fun _ _ => rfl)
  refine go_seg 8 (pc' := 1556) (ls' := [(3, .int 0), (2, .ref 90), (1, .ref 1), (0, .ref 0)]) (st' := [.int 5, .int 0, .ref 0, .int a4, .int a3, .int a2, .int 0, .ref 1]) (w' := (fw (sz a0 0 a2 a3 a4 a5))) (cs' := 109) (ss' := 12668) ?_ (fun _ _ => rfl)
  refine go_seg 2 (pc' := 1558) (ls' := [(3, .int 0), (2, .ref 90), (1, .ref 1), (0, .ref 0)]) (st' := [.int a5, .int a4, .int a3, .int a2, .int 0, .ref 1]) (w' := (fw (sz a0 0 a2 a3 a4 a5))) (cs' := 109) (ss' := 12668) ?_ (fun _ _ => rfl)
  refine go_cl (k := 20) (st' := [.int (-1000002)]) (cs' := 109) (ss' := 12668) rfl rfl rfl rfl rfl rfl rfl (ro_418 (sz a0 0 a2 a3 a4 a5) a2 a3 a4 a5 (by omega) (by omega)) ?_
  refine go_seg 8 (pc' := 1569) (ls' := [(3, .int 0), (2, .ref 90), (1, .ref 1), (0, .ref 0)]) (st' := [.int 0, .ref 0, .int 0, .ref 90, .int (-1000002)]) (w' := (wd_1025 (sz a0 0 a2 a3 a4 a5))) (cs' := 109) (ss' := 12668) ?_ (fun _ _ => rfl)
  refine go_seg 8 (pc' := 1577) (ls' := [(3, .int 0), (2, .ref 90), (1, .ref 1), (0, .ref 0)]) (st' := [.int a3, .int a2, .int 0, .ref 90, .int (-1000002)]) (w' := (wd_1025 (sz a0 0 a2 a3 a4 a5))) (cs' := 109) (ss' := 12668) ?_ (fun _ _ => rfl)
  refine go_seg 8 (pc' := 1585) (ls' := [(3, .int 0), (2, .ref 90), (1, .ref 1), (0, .ref 0)]) (st' := [.int 5, .int 0, .ref 0, .int a4, .int a3, .int a2, .int 0, .ref 90, .int (-1000002)]) (w' := (wd_1025 (sz a0 0 a2 a3 a4 a5))) (cs' := 109) (ss' := 12668) ?_ (fun _ _ => rfl)
  refine go_seg 2 (pc' := 1587) (ls' := [(3, .int 0), (2, .ref 90), (1, .ref 1), (0, .ref 0)]) (st' := [.int a5, .int a4, .int a3, .int a2, .int 0, .ref 90, .int (-1000002)]) (w' := (wd_1025 (sz a0 0 a2 a3 a4 a5))) (cs' := 109) (ss' := 12668) ?_ (fun _ _ => rfl)
  refine go_cl (k := 20) (st' := [.int (-1000002), .int (-1000002)]) (cs' := 109) (ss' := 12668) rfl rfl rfl rfl rfl rfl rfl (ro_420 (sz a0 0 a2 a3 a4 a5) a2 a3 a4 a5 (by omega) (by omega)) ?_
  refine go_cmp true rfl (br_self _) ?_
  exact law_tail (f := sc a0 0 a2 a3 a4 a5) rfl
theorem ro_422 (z : pq_C) (a2 : Int32) (a3 : Int32) (a4 : Int32) (a5 : Int32) (h0 : 0 ≤ a3.toInt) (h1 : a3.toInt < 4) : pq_Ru 3 145 [.ref 1, .int 1, .int a2, .int a3, .int a4, .int a5] (fw z) (some (.int (-1000002)), (wd_1025 z)) := by
  refine ru_of (k := 2) (M := pm_145) rfl rfl ?_
  refine go_seg 1 (pc' := 1) (ls' := [(0, .ref 1), (1, .int 1), (2, .int a2), (3, .int a3), (4, .int a4), (5, .int a5)]) (st' := [.int 1]) (w' := (fw z)) (cs' := 0) (ss' := 0) ?_ (fun _ _ => rfl)
  refine go_cl (k := 2) (st' := [.int 1]) (cs' := 0) (ss' := 0) rfl rfl rfl rfl rfl rfl rfl (ro_159 z) ?_
  refine go_seg 2 (pc' := 8) (ls' := [(0, .ref 1), (1, .int 1), (2, .int a2), (3, .int a3), (4, .int a4), (5, .int a5)]) (st' := [.int a3]) (w' := (fw z)) (cs' := 0) (ss' := 0) ?_ (fun _ _ => rfl)
  refine go_cl (k := 2) (st' := [.int 1]) (cs' := 0) (ss' := 0) rfl rfl rfl rfl rfl rfl rfl (ro_417 z a3 (by omega) (by omega)) ?_
  refine go_seg 4 (pc' := 25) (ls' := [(0, .ref 1), (1, .int 1), (2, .int a2), (3, .int a3), (4, .int a4), (5, .int a5)]) (st' := [.int 1, .ref 85]) (w' := (fw z)) (cs' := 0) (ss' := 0) ?_ (fun _ _ => rfl)
  refine go_cl (k := 2) (st' := [.int 1]) (cs' := 0) (ss' := 0) rfl rfl rfl rfl rfl rfl rfl (ro_160 z) ?_
  refine go_seg 3 (pc' := 44) (ls' := [(0, .ref 1), (1, .int 1), (2, .int a2), (3, .int a3), (4, .int a4), (5, .int a5)]) (st' := [.int 2, .ref 1]) (w' := (fw z)) (cs' := 0) (ss' := 0) ?_ (fun _ _ => rfl)
  refine go_cl (k := 2) (st' := [.int (-1000002)]) (cs' := 0) (ss' := 0) rfl rfl rfl rfl rfl rfl rfl (ro_127 z) ?_
  exact go_end 1 (fun _ _ => rfl)
theorem ro_423 (z : pq_C) (a2 : Int32) (a3 : Int32) (a4 : Int32) (a5 : Int32) (h0 : 0 ≤ a3.toInt) (h1 : a3.toInt < 4) : pq_Ru 3 244 [.ref 90, .int 1, .int a2, .int a3, .int a4, .int a5] (wd_1025 z) (some (.int (-1000002)), (wd_1026 z)) := by
  refine ru_of (k := 2) (M := pm_244) rfl rfl ?_
  refine go_seg 1 (pc' := 1) (ls' := [(0, .ref 90), (1, .int 1), (2, .int a2), (3, .int a3), (4, .int a4), (5, .int a5)]) (st' := [.int 1]) (w' := (wd_1025 z)) (cs' := 0) (ss' := 0) ?_ (fun _ _ => rfl)
  refine go_cl (k := 2) (st' := [.int 1]) (cs' := 0) (ss' := 0) rfl rfl rfl rfl rfl rfl rfl (ro_163 z) ?_
  refine go_seg 2 (pc' := 8) (ls' := [(0, .ref 90), (1, .int 1), (2, .int a2), (3, .int a3), (4, .int a4), (5, .int a5)]) (st' := [.int a3]) (w' := (wd_1025 z)) (cs' := 0) (ss' := 0) ?_ (fun _ _ => rfl)
  refine go_cl (k := 2) (st' := [.int 1]) (cs' := 0) (ss' := 0) rfl rfl rfl rfl rfl rfl rfl (ro_419 z a3 (by omega) (by omega)) ?_
  refine go_seg 8 (pc' := 42) (ls' := [(0, .ref 90), (1, .int 1), (2, .int a2), (3, .int a3), (4, .int a4), (5, .int a5)]) (st' := [.int (-1000002), .ref 90]) (w' := (wd_1025 z)) (cs' := 0) (ss' := 0) ?_ (fun _ _ => rfl)
  refine go_cl (k := 2) (st' := [.int (-1000002)]) (cs' := 0) (ss' := 0) rfl rfl rfl rfl rfl rfl rfl (ro_130 z) ?_
  exact go_end 1 (fun _ _ => rfl)
theorem lf_36_424 (a0 : Int32) (a2 : Int32) (a3 : Int32) (a4 : Int32) (a5 : Int32) (h0 : 0 ≤ a3.toInt) (h1 : a3.toInt < 4) : ∃ w', pq_Go 20 pm_law 1532 [(3, .int 0), (2, .ref 90), (1, .ref 1), (0, .ref 0)] [] (fw (sz a0 1 a2 a3 a4 a5)) 109 12668 (some (.int 1), w') := by
  refine ⟨(wd_1026 (sz a0 1 a2 a3 a4 a5)), ?_⟩
  refine go_seg 8 (pc' := 1540) (ls' := [(3, .int 0), (2, .ref 90), (1, .ref 1), (0, .ref 0)]) (st' := [.int 0, .ref 0, .int 1, .ref 1]) (w' := (fw (sz a0 1 a2 a3 a4 a5))) (cs' := 109) (ss' := 12668) ?_ (fun _ _ => rfl)
  refine go_seg 8 (pc' := 1548) (ls' := [(3, .int 0), (2, .ref 90), (1, .ref 1), (0, .ref 0)]) (st' := [.int a3, .int a2, .int 1, .ref 1]) (w' := (fw (sz a0 1 a2 a3 a4 a5))) (cs' := 109) (ss' := 12668) ?_ (fun _ _ => rfl)
  refine go_seg 8 (pc' := 1556) (ls' := [(3, .int 0), (2, .ref 90), (1, .ref 1), (0, .ref 0)]) (st' := [.int 5, .int 0, .ref 0, .int a4, .int a3, .int a2, .int 1, .ref 1]) (w' := (fw (sz a0 1 a2 a3 a4 a5))) (cs' := 109) (ss' := 12668) ?_ (fun _ _ => rfl)
  refine go_seg 2 (pc' := 1558) (ls' := [(3, .int 0), (2, .ref 90), (1, .ref 1), (0, .ref 0)]) (st' := [.int a5, .int a4, .int a3, .int a2, .int 1, .ref 1]) (w' := (fw (sz a0 1 a2 a3 a4 a5))) (cs' := 109) (ss' := 12668) ?_ (fun _ _ => rfl)
  refine go_cl (k := 20) (st' := [.int (-1000002)]) (cs' := 109) (ss' := 12668) rfl rfl rfl rfl rfl rfl rfl (ro_422 (sz a0 1 a2 a3 a4 a5) a2 a3 a4 a5 (by omega) (by omega)) ?_
  refine go_seg 8 (pc' := 1569) (ls' := [(3, .int 0), (2, .ref 90), (1, .ref 1), (0, .ref 0)]) (st' := [.int 0, .ref 0, .int 1, .ref 90, .int (-1000002)]) (w' := (wd_1025 (sz a0 1 a2 a3 a4 a5))) (cs' := 109) (ss' := 12668) ?_ (fun _ _ => rfl)
  refine go_seg 8 (pc' := 1577) (ls' := [(3, .int 0), (2, .ref 90), (1, .ref 1), (0, .ref 0)]) (st' := [.int a3, .int a2, .int 1, .ref 90, .int (-1000002)]) (w' := (wd_1025 (sz a0 1 a2 a3 a4 a5))) (cs' := 109) (ss' := 12668) ?_ (fun _ _ => rfl)
  refine go_seg 8 (pc' := 1585) (ls' := [(3, .int 0), (2, .ref 90), (1, .ref 1), (0, .ref 0)]) (st' := [.int 5, .int 0, .ref 0, .int a4, .int a3, .int a2, .int 1, .ref 90, .int (-1000002)]) (w' := (wd_1025 (sz a0 1 a2 a3 a4 a5))) (cs' := 109) (ss' := 12668) ?_ (fun _ _ => rfl)
  refine go_seg 2 (pc' := 1587) (ls' := [(3, .int 0), (2, .ref 90), (1, .ref 1), (0, .ref 0)]) (st' := [.int a5, .int a4, .int a3, .int a2, .int 1, .ref 90, .int (-1000002)]) (w' := (wd_1025 (sz a0 1 a2 a3 a4 a5))) (cs' := 109) (ss' := 12668) ?_ (fun _ _ => rfl)
  refine go_cl (k := 20) (st' := [.int (-1000002), .int (-1000002)]) (cs' := 109) (ss' := 12668) rfl rfl rfl rfl rfl rfl rfl (ro_423 (sz a0 1 a2 a3 a4 a5) a2 a3 a4 a5 (by omega) (by omega)) ?_
  refine go_cmp true rfl (br_self _) ?_
  exact law_tail (f := sc a0 1 a2 a3 a4 a5) rfl
theorem ro_425 (z : pq_C) (a2 : Int32) (a3 : Int32) (a4 : Int32) (a5 : Int32) (h0 : 0 ≤ a3.toInt) (h1 : a3.toInt < 4) : pq_Ru 3 145 [.ref 1, .int 2, .int a2, .int a3, .int a4, .int a5] (fw z) (some (.int (-1000002)), (wd_1025 z)) := by
  refine ru_of (k := 2) (M := pm_145) rfl rfl ?_
  refine go_seg 1 (pc' := 1) (ls' := [(0, .ref 1), (1, .int 2), (2, .int a2), (3, .int a3), (4, .int a4), (5, .int a5)]) (st' := [.int 2]) (w' := (fw z)) (cs' := 0) (ss' := 0) ?_ (fun _ _ => rfl)
  refine go_cl (k := 2) (st' := [.int 1]) (cs' := 0) (ss' := 0) rfl rfl rfl rfl rfl rfl rfl (ro_166 z) ?_
  refine go_seg 2 (pc' := 8) (ls' := [(0, .ref 1), (1, .int 2), (2, .int a2), (3, .int a3), (4, .int a4), (5, .int a5)]) (st' := [.int a3]) (w' := (fw z)) (cs' := 0) (ss' := 0) ?_ (fun _ _ => rfl)
  refine go_cl (k := 2) (st' := [.int 1]) (cs' := 0) (ss' := 0) rfl rfl rfl rfl rfl rfl rfl (ro_417 z a3 (by omega) (by omega)) ?_
  refine go_seg 4 (pc' := 25) (ls' := [(0, .ref 1), (1, .int 2), (2, .int a2), (3, .int a3), (4, .int a4), (5, .int a5)]) (st' := [.int 2, .ref 85]) (w' := (fw z)) (cs' := 0) (ss' := 0) ?_ (fun _ _ => rfl)
  refine go_cl (k := 2) (st' := [.int 1]) (cs' := 0) (ss' := 0) rfl rfl rfl rfl rfl rfl rfl (ro_167 z) ?_
  refine go_seg 3 (pc' := 44) (ls' := [(0, .ref 1), (1, .int 2), (2, .int a2), (3, .int a3), (4, .int a4), (5, .int a5)]) (st' := [.int 2, .ref 1]) (w' := (fw z)) (cs' := 0) (ss' := 0) ?_ (fun _ _ => rfl)
  refine go_cl (k := 2) (st' := [.int (-1000002)]) (cs' := 0) (ss' := 0) rfl rfl rfl rfl rfl rfl rfl (ro_127 z) ?_
  exact go_end 1 (fun _ _ => rfl)
theorem ro_426 (z : pq_C) (a2 : Int32) (a3 : Int32) (a4 : Int32) (a5 : Int32) (h0 : 0 ≤ a3.toInt) (h1 : a3.toInt < 4) : pq_Ru 3 244 [.ref 90, .int 2, .int a2, .int a3, .int a4, .int a5] (wd_1025 z) (some (.int (-1000002)), (wd_1026 z)) := by
  refine ru_of (k := 2) (M := pm_244) rfl rfl ?_
  refine go_seg 1 (pc' := 1) (ls' := [(0, .ref 90), (1, .int 2), (2, .int a2), (3, .int a3), (4, .int a4), (5, .int a5)]) (st' := [.int 2]) (w' := (wd_1025 z)) (cs' := 0) (ss' := 0) ?_ (fun _ _ => rfl)
  refine go_cl (k := 2) (st' := [.int 1]) (cs' := 0) (ss' := 0) rfl rfl rfl rfl rfl rfl rfl (ro_170 z) ?_
  refine go_seg 2 (pc' := 8) (ls' := [(0, .ref 90), (1, .int 2), (2, .int a2), (3, .int a3), (4, .int a4), (5, .int a5)]) (st' := [.int a3]) (w' := (wd_1025 z)) (cs' := 0) (ss' := 0) ?_ (fun _ _ => rfl)
  refine go_cl (k := 2) (st' := [.int 1]) (cs' := 0) (ss' := 0) rfl rfl rfl rfl rfl rfl rfl (ro_419 z a3 (by omega) (by omega)) ?_
  refine go_seg 8 (pc' := 42) (ls' := [(0, .ref 90), (1, .int 2), (2, .int a2), (3, .int a3), (4, .int a4), (5, .int a5)]) (st' := [.int (-1000002), .ref 90]) (w' := (wd_1025 z)) (cs' := 0) (ss' := 0) ?_ (fun _ _ => rfl)
  refine go_cl (k := 2) (st' := [.int (-1000002)]) (cs' := 0) (ss' := 0) rfl rfl rfl rfl rfl rfl rfl (ro_130 z) ?_
  exact go_end 1 (fun _ _ => rfl)
theorem lf_36_427 (a0 : Int32) (a2 : Int32) (a3 : Int32) (a4 : Int32) (a5 : Int32) (h0 : 0 ≤ a3.toInt) (h1 : a3.toInt < 4) : ∃ w', pq_Go 20 pm_law 1532 [(3, .int 0), (2, .ref 90), (1, .ref 1), (0, .ref 0)] [] (fw (sz a0 2 a2 a3 a4 a5)) 109 12668 (some (.int 1), w') := by
  refine ⟨(wd_1026 (sz a0 2 a2 a3 a4 a5)), ?_⟩
  refine go_seg 8 (pc' := 1540) (ls' := [(3, .int 0), (2, .ref 90), (1, .ref 1), (0, .ref 0)]) (st' := [.int 0, .ref 0, .int 2, .ref 1]) (w' := (fw (sz a0 2 a2 a3 a4 a5))) (cs' := 109) (ss' := 12668) ?_ (fun _ _ => rfl)
  refine go_seg 8 (pc' := 1548) (ls' := [(3, .int 0), (2, .ref 90), (1, .ref 1), (0, .ref 0)]) (st' := [.int a3, .int a2, .int 2, .ref 1]) (w' := (fw (sz a0 2 a2 a3 a4 a5))) (cs' := 109) (ss' := 12668) ?_ (fun _ _ => rfl)
  refine go_seg 8 (pc' := 1556) (ls' := [(3, .int 0), (2, .ref 90), (1, .ref 1), (0, .ref 0)]) (st' := [.int 5, .int 0, .ref 0, .int a4, .int a3, .int a2, .int 2, .ref 1]) (w' := (fw (sz a0 2 a2 a3 a4 a5))) (cs' := 109) (ss' := 12668) ?_ (fun _ _ => rfl)
  refine go_seg 2 (pc' := 1558) (ls' := [(3, .int 0), (2, .ref 90), (1, .ref 1), (0, .ref 0)]) (st' := [.int a5, .int a4, .int a3, .int a2, .int 2, .ref 1]) (w' := (fw (sz a0 2 a2 a3 a4 a5))) (cs' := 109) (ss' := 12668) ?_ (fun _ _ => rfl)
  refine go_cl (k := 20) (st' := [.int (-1000002)]) (cs' := 109) (ss' := 12668) rfl rfl rfl rfl rfl rfl rfl (ro_425 (sz a0 2 a2 a3 a4 a5) a2 a3 a4 a5 (by omega) (by omega)) ?_
  refine go_seg 8 (pc' := 1569) (ls' := [(3, .int 0), (2, .ref 90), (1, .ref 1), (0, .ref 0)]) (st' := [.int 0, .ref 0, .int 2, .ref 90, .int (-1000002)]) (w' := (wd_1025 (sz a0 2 a2 a3 a4 a5))) (cs' := 109) (ss' := 12668) ?_ (fun _ _ => rfl)
  refine go_seg 8 (pc' := 1577) (ls' := [(3, .int 0), (2, .ref 90), (1, .ref 1), (0, .ref 0)]) (st' := [.int a3, .int a2, .int 2, .ref 90, .int (-1000002)]) (w' := (wd_1025 (sz a0 2 a2 a3 a4 a5))) (cs' := 109) (ss' := 12668) ?_ (fun _ _ => rfl)
  refine go_seg 8 (pc' := 1585) (ls' := [(3, .int 0), (2, .ref 90), (1, .ref 1), (0, .ref 0)]) (st' := [.int 5, .int 0, .ref 0, .int a4, .int a3, .int a2, .int 2, .ref 90, .int (-1000002)]) (w' := (wd_1025 (sz a0 2 a2 a3 a4 a5))) (cs' := 109) (ss' := 12668) ?_ (fun _ _ => rfl)
  refine go_seg 2 (pc' := 1587) (ls' := [(3, .int 0), (2, .ref 90), (1, .ref 1), (0, .ref 0)]) (st' := [.int a5, .int a4, .int a3, .int a2, .int 2, .ref 90, .int (-1000002)]) (w' := (wd_1025 (sz a0 2 a2 a3 a4 a5))) (cs' := 109) (ss' := 12668) ?_ (fun _ _ => rfl)
  refine go_cl (k := 20) (st' := [.int (-1000002), .int (-1000002)]) (cs' := 109) (ss' := 12668) rfl rfl rfl rfl rfl rfl rfl (ro_426 (sz a0 2 a2 a3 a4 a5) a2 a3 a4 a5 (by omega) (by omega)) ?_
  refine go_cmp true rfl (br_self _) ?_
  exact law_tail (f := sc a0 2 a2 a3 a4 a5) rfl
theorem ro_428 (z : pq_C) (a2 : Int32) (a3 : Int32) (a4 : Int32) (a5 : Int32) (h0 : 0 ≤ a3.toInt) (h1 : a3.toInt < 4) : pq_Ru 3 145 [.ref 1, .int 3, .int a2, .int a3, .int a4, .int a5] (fw z) (some (.int (-1000002)), (wd_1025 z)) := by
  refine ru_of (k := 2) (M := pm_145) rfl rfl ?_
  refine go_seg 1 (pc' := 1) (ls' := [(0, .ref 1), (1, .int 3), (2, .int a2), (3, .int a3), (4, .int a4), (5, .int a5)]) (st' := [.int 3]) (w' := (fw z)) (cs' := 0) (ss' := 0) ?_ (fun _ _ => rfl)
  refine go_cl (k := 2) (st' := [.int 1]) (cs' := 0) (ss' := 0) rfl rfl rfl rfl rfl rfl rfl (ro_173 z) ?_
  refine go_seg 2 (pc' := 8) (ls' := [(0, .ref 1), (1, .int 3), (2, .int a2), (3, .int a3), (4, .int a4), (5, .int a5)]) (st' := [.int a3]) (w' := (fw z)) (cs' := 0) (ss' := 0) ?_ (fun _ _ => rfl)
  refine go_cl (k := 2) (st' := [.int 1]) (cs' := 0) (ss' := 0) rfl rfl rfl rfl rfl rfl rfl (ro_417 z a3 (by omega) (by omega)) ?_
  refine go_seg 4 (pc' := 25) (ls' := [(0, .ref 1), (1, .int 3), (2, .int a2), (3, .int a3), (4, .int a4), (5, .int a5)]) (st' := [.int 3, .ref 85]) (w' := (fw z)) (cs' := 0) (ss' := 0) ?_ (fun _ _ => rfl)
  refine go_cl (k := 2) (st' := [.int 1]) (cs' := 0) (ss' := 0) rfl rfl rfl rfl rfl rfl rfl (ro_174 z) ?_
  refine go_seg 3 (pc' := 44) (ls' := [(0, .ref 1), (1, .int 3), (2, .int a2), (3, .int a3), (4, .int a4), (5, .int a5)]) (st' := [.int 2, .ref 1]) (w' := (fw z)) (cs' := 0) (ss' := 0) ?_ (fun _ _ => rfl)
  refine go_cl (k := 2) (st' := [.int (-1000002)]) (cs' := 0) (ss' := 0) rfl rfl rfl rfl rfl rfl rfl (ro_127 z) ?_
  exact go_end 1 (fun _ _ => rfl)
theorem ro_429 (z : pq_C) (a2 : Int32) (a3 : Int32) (a4 : Int32) (a5 : Int32) (h0 : 0 ≤ a3.toInt) (h1 : a3.toInt < 4) : pq_Ru 3 244 [.ref 90, .int 3, .int a2, .int a3, .int a4, .int a5] (wd_1025 z) (some (.int (-1000002)), (wd_1026 z)) := by
  refine ru_of (k := 2) (M := pm_244) rfl rfl ?_
  refine go_seg 1 (pc' := 1) (ls' := [(0, .ref 90), (1, .int 3), (2, .int a2), (3, .int a3), (4, .int a4), (5, .int a5)]) (st' := [.int 3]) (w' := (wd_1025 z)) (cs' := 0) (ss' := 0) ?_ (fun _ _ => rfl)
  refine go_cl (k := 2) (st' := [.int 1]) (cs' := 0) (ss' := 0) rfl rfl rfl rfl rfl rfl rfl (ro_177 z) ?_
  refine go_seg 2 (pc' := 8) (ls' := [(0, .ref 90), (1, .int 3), (2, .int a2), (3, .int a3), (4, .int a4), (5, .int a5)]) (st' := [.int a3]) (w' := (wd_1025 z)) (cs' := 0) (ss' := 0) ?_ (fun _ _ => rfl)
  refine go_cl (k := 2) (st' := [.int 1]) (cs' := 0) (ss' := 0) rfl rfl rfl rfl rfl rfl rfl (ro_419 z a3 (by omega) (by omega)) ?_
  refine go_seg 8 (pc' := 42) (ls' := [(0, .ref 90), (1, .int 3), (2, .int a2), (3, .int a3), (4, .int a4), (5, .int a5)]) (st' := [.int (-1000002), .ref 90]) (w' := (wd_1025 z)) (cs' := 0) (ss' := 0) ?_ (fun _ _ => rfl)
  refine go_cl (k := 2) (st' := [.int (-1000002)]) (cs' := 0) (ss' := 0) rfl rfl rfl rfl rfl rfl rfl (ro_130 z) ?_
  exact go_end 1 (fun _ _ => rfl)
theorem lf_36_430 (a0 : Int32) (a2 : Int32) (a3 : Int32) (a4 : Int32) (a5 : Int32) (h0 : 0 ≤ a3.toInt) (h1 : a3.toInt < 4) : ∃ w', pq_Go 20 pm_law 1532 [(3, .int 0), (2, .ref 90), (1, .ref 1), (0, .ref 0)] [] (fw (sz a0 3 a2 a3 a4 a5)) 109 12668 (some (.int 1), w') := by
  refine ⟨(wd_1026 (sz a0 3 a2 a3 a4 a5)), ?_⟩
  refine go_seg 8 (pc' := 1540) (ls' := [(3, .int 0), (2, .ref 90), (1, .ref 1), (0, .ref 0)]) (st' := [.int 0, .ref 0, .int 3, .ref 1]) (w' := (fw (sz a0 3 a2 a3 a4 a5))) (cs' := 109) (ss' := 12668) ?_ (fun _ _ => rfl)
  refine go_seg 8 (pc' := 1548) (ls' := [(3, .int 0), (2, .ref 90), (1, .ref 1), (0, .ref 0)]) (st' := [.int a3, .int a2, .int 3, .ref 1]) (w' := (fw (sz a0 3 a2 a3 a4 a5))) (cs' := 109) (ss' := 12668) ?_ (fun _ _ => rfl)
  refine go_seg 8 (pc' := 1556) (ls' := [(3, .int 0), (2, .ref 90), (1, .ref 1), (0, .ref 0)]) (st' := [.int 5, .int 0, .ref 0, .int a4, .int a3, .int a2, .int 3, .ref 1]) (w' := (fw (sz a0 3 a2 a3 a4 a5))) (cs' := 109) (ss' := 12668) ?_ (fun _ _ => rfl)
  refine go_seg 2 (pc' := 1558) (ls' := [(3, .int 0), (2, .ref 90), (1, .ref 1), (0, .ref 0)]) (st' := [.int a5, .int a4, .int a3, .int a2, .int 3, .ref 1]) (w' := (fw (sz a0 3 a2 a3 a4 a5))) (cs' := 109) (ss' := 12668) ?_ (fun _ _ => rfl)
  refine go_cl (k := 20) (st' := [.int (-1000002)]) (cs' := 109) (ss' := 12668) rfl rfl rfl rfl rfl rfl rfl (ro_428 (sz a0 3 a2 a3 a4 a5) a2 a3 a4 a5 (by omega) (by omega)) ?_
  refine go_seg 8 (pc' := 1569) (ls' := [(3, .int 0), (2, .ref 90), (1, .ref 1), (0, .ref 0)]) (st' := [.int 0, .ref 0, .int 3, .ref 90, .int (-1000002)]) (w' := (wd_1025 (sz a0 3 a2 a3 a4 a5))) (cs' := 109) (ss' := 12668) ?_ (fun _ _ => rfl)
  refine go_seg 8 (pc' := 1577) (ls' := [(3, .int 0), (2, .ref 90), (1, .ref 1), (0, .ref 0)]) (st' := [.int a3, .int a2, .int 3, .ref 90, .int (-1000002)]) (w' := (wd_1025 (sz a0 3 a2 a3 a4 a5))) (cs' := 109) (ss' := 12668) ?_ (fun _ _ => rfl)
  refine go_seg 8 (pc' := 1585) (ls' := [(3, .int 0), (2, .ref 90), (1, .ref 1), (0, .ref 0)]) (st' := [.int 5, .int 0, .ref 0, .int a4, .int a3, .int a2, .int 3, .ref 90, .int (-1000002)]) (w' := (wd_1025 (sz a0 3 a2 a3 a4 a5))) (cs' := 109) (ss' := 12668) ?_ (fun _ _ => rfl)
  refine go_seg 2 (pc' := 1587) (ls' := [(3, .int 0), (2, .ref 90), (1, .ref 1), (0, .ref 0)]) (st' := [.int a5, .int a4, .int a3, .int a2, .int 3, .ref 90, .int (-1000002)]) (w' := (wd_1025 (sz a0 3 a2 a3 a4 a5))) (cs' := 109) (ss' := 12668) ?_ (fun _ _ => rfl)
  refine go_cl (k := 20) (st' := [.int (-1000002), .int (-1000002)]) (cs' := 109) (ss' := 12668) rfl rfl rfl rfl rfl rfl rfl (ro_429 (sz a0 3 a2 a3 a4 a5) a2 a3 a4 a5 (by omega) (by omega)) ?_
  refine go_cmp true rfl (br_self _) ?_
  exact law_tail (f := sc a0 3 a2 a3 a4 a5) rfl
theorem ro_431 (z : pq_C) (a3 : Int32) (h0 : 0 ≤ a3.toInt) (h1 : 4 ≤ a3.toInt) : pq_Ru 1 18 [.int a3] (fw z) (some (.int 0), (fw z)) := by
  refine ru_of (k := 0) (M := pm_18) rfl rfl ?_
  refine go_seg 1 (pc' := 1) (ls' := [(0, .int a3)]) (st' := [.int a3]) (w' := (fw z)) (cs' := 0) (ss' := 0) ?_ (fun _ _ => rfl)
  refine go_if false rfl (br_lt_f (b := 0) rfl (by omega)) ?_
  refine go_seg 2 (pc' := 6) (ls' := [(0, .int a3)]) (st' := [.int 4, .int a3]) (w' := (fw z)) (cs' := 0) (ss' := 0) ?_ (fun _ _ => rfl)
  refine go_cmp true rfl (br_ge_t (b := 4) rfl (by omega)) ?_
  exact go_end 2 (fun _ _ => rfl)
theorem ro_432 (z : pq_C) (a1 : Int32) (a2 : Int32) (a3 : Int32) (a4 : Int32) (a5 : Int32) (h0 : 0 ≤ a1.toInt) (h1 : a1.toInt < 4) (h2 : 0 ≤ a3.toInt) (h3 : 4 ≤ a3.toInt) : pq_Ru 3 145 [.ref 1, .int a1, .int a2, .int a3, .int a4, .int a5] (fw z) (some (.int (-1000001)), (wd_1000 z)) := by
  refine ru_of (k := 2) (M := pm_145) rfl rfl ?_
  refine go_seg 1 (pc' := 1) (ls' := [(0, .ref 1), (1, .int a1), (2, .int a2), (3, .int a3), (4, .int a4), (5, .int a5)]) (st' := [.int a1]) (w' := (fw z)) (cs' := 0) (ss' := 0) ?_ (fun _ _ => rfl)
  refine go_cl (k := 2) (st' := [.int 1]) (cs' := 0) (ss' := 0) rfl rfl rfl rfl rfl rfl rfl (ro_143 z a1 (by omega) (by omega)) ?_
  refine go_seg 2 (pc' := 8) (ls' := [(0, .ref 1), (1, .int a1), (2, .int a2), (3, .int a3), (4, .int a4), (5, .int a5)]) (st' := [.int a3]) (w' := (fw z)) (cs' := 0) (ss' := 0) ?_ (fun _ _ => rfl)
  refine go_cl (k := 2) (st' := [.int 0]) (cs' := 0) (ss' := 0) rfl rfl rfl rfl rfl rfl rfl (ro_431 z a3 (by omega) (by omega)) ?_
  refine go_seg 3 (pc' := 16) (ls' := [(0, .ref 1), (1, .int a1), (2, .int a2), (3, .int a3), (4, .int a4), (5, .int a5)]) (st' := [.int 1, .ref 1]) (w' := (fw z)) (cs' := 0) (ss' := 0) ?_ (fun _ _ => rfl)
  refine go_cl (k := 2) (st' := [.int (-1000001)]) (cs' := 0) (ss' := 0) rfl rfl rfl rfl rfl rfl rfl (ro_2 z) ?_
  exact go_end 1 (fun _ _ => rfl)
theorem ro_433 (z : pq_C) (a3 : Int32) (h0 : 0 ≤ a3.toInt) (h1 : 4 ≤ a3.toInt) : pq_Ru 2 164 [.int a3] (wd_1000 z) (some (.int 0), (wd_1000 z)) := by
  refine ru_of (k := 1) (M := pm_164) rfl rfl ?_
  refine go_seg 4 (pc' := 6) (ls' := [(0, .int a3)]) (st' := [.long 3, .long 0, .long a3.toInt64]) (w' := (wd_1000 z)) (cs' := 0) (ss' := 0) ?_ (fun _ _ => rfl)
  refine go_cl (k := 1) (st' := [.int 0]) (cs' := 0) (ss' := 0) rfl rfl rfl rfl rfl rfl rfl (wi_f _ a3 0 3 0 3 rfl rfl (by omega)) ?_
  exact go_end 1 (fun _ _ => rfl)
theorem ro_434 (z : pq_C) (a1 : Int32) (a2 : Int32) (a3 : Int32) (a4 : Int32) (a5 : Int32) (h0 : 0 ≤ a1.toInt) (h1 : a1.toInt < 4) (h2 : 0 ≤ a3.toInt) (h3 : 4 ≤ a3.toInt) : pq_Ru 3 244 [.ref 90, .int a1, .int a2, .int a3, .int a4, .int a5] (wd_1000 z) (some (.int (-1000001)), (wd_1001 z)) := by
  refine ru_of (k := 2) (M := pm_244) rfl rfl ?_
  refine go_seg 1 (pc' := 1) (ls' := [(0, .ref 90), (1, .int a1), (2, .int a2), (3, .int a3), (4, .int a4), (5, .int a5)]) (st' := [.int a1]) (w' := (wd_1000 z)) (cs' := 0) (ss' := 0) ?_ (fun _ _ => rfl)
  refine go_cl (k := 2) (st' := [.int 1]) (cs' := 0) (ss' := 0) rfl rfl rfl rfl rfl rfl rfl (ro_146 z a1 (by omega) (by omega)) ?_
  refine go_seg 2 (pc' := 8) (ls' := [(0, .ref 90), (1, .int a1), (2, .int a2), (3, .int a3), (4, .int a4), (5, .int a5)]) (st' := [.int a3]) (w' := (wd_1000 z)) (cs' := 0) (ss' := 0) ?_ (fun _ _ => rfl)
  refine go_cl (k := 2) (st' := [.int 0]) (cs' := 0) (ss' := 0) rfl rfl rfl rfl rfl rfl rfl (ro_433 z a3 (by omega) (by omega)) ?_
  refine go_seg 3 (pc' := 17) (ls' := [(0, .ref 90), (1, .int a1), (2, .int a2), (3, .int a3), (4, .int a4), (5, .int a5)]) (st' := [.int (-1000001), .ref 90]) (w' := (wd_1000 z)) (cs' := 0) (ss' := 0) ?_ (fun _ _ => rfl)
  refine go_cl (k := 2) (st' := [.int (-1000001)]) (cs' := 0) (ss' := 0) rfl rfl rfl rfl rfl rfl rfl (ro_5 z) ?_
  exact go_end 1 (fun _ _ => rfl)
theorem lf_36_435 (a0 : Int32) (a1 : Int32) (a2 : Int32) (a3 : Int32) (a4 : Int32) (a5 : Int32) (h0 : 0 ≤ a1.toInt) (h1 : a1.toInt < 4) (h2 : 0 ≤ a3.toInt) (h3 : 4 ≤ a3.toInt) : ∃ w', pq_Go 20 pm_law 1532 [(3, .int 0), (2, .ref 90), (1, .ref 1), (0, .ref 0)] [] (fw (sz a0 a1 a2 a3 a4 a5)) 109 12668 (some (.int 1), w') := by
  refine ⟨(wd_1001 (sz a0 a1 a2 a3 a4 a5)), ?_⟩
  refine go_seg 8 (pc' := 1540) (ls' := [(3, .int 0), (2, .ref 90), (1, .ref 1), (0, .ref 0)]) (st' := [.int 0, .ref 0, .int a1, .ref 1]) (w' := (fw (sz a0 a1 a2 a3 a4 a5))) (cs' := 109) (ss' := 12668) ?_ (fun _ _ => rfl)
  refine go_seg 8 (pc' := 1548) (ls' := [(3, .int 0), (2, .ref 90), (1, .ref 1), (0, .ref 0)]) (st' := [.int a3, .int a2, .int a1, .ref 1]) (w' := (fw (sz a0 a1 a2 a3 a4 a5))) (cs' := 109) (ss' := 12668) ?_ (fun _ _ => rfl)
  refine go_seg 8 (pc' := 1556) (ls' := [(3, .int 0), (2, .ref 90), (1, .ref 1), (0, .ref 0)]) (st' := [.int 5, .int 0, .ref 0, .int a4, .int a3, .int a2, .int a1, .ref 1]) (w' := (fw (sz a0 a1 a2 a3 a4 a5))) (cs' := 109) (ss' := 12668) ?_ (fun _ _ => rfl)
  refine go_seg 2 (pc' := 1558) (ls' := [(3, .int 0), (2, .ref 90), (1, .ref 1), (0, .ref 0)]) (st' := [.int a5, .int a4, .int a3, .int a2, .int a1, .ref 1]) (w' := (fw (sz a0 a1 a2 a3 a4 a5))) (cs' := 109) (ss' := 12668) ?_ (fun _ _ => rfl)
  refine go_cl (k := 20) (st' := [.int (-1000001)]) (cs' := 109) (ss' := 12668) rfl rfl rfl rfl rfl rfl rfl (ro_432 (sz a0 a1 a2 a3 a4 a5) a1 a2 a3 a4 a5 (by omega) (by omega) (by omega) (by omega)) ?_
  refine go_seg 8 (pc' := 1569) (ls' := [(3, .int 0), (2, .ref 90), (1, .ref 1), (0, .ref 0)]) (st' := [.int 0, .ref 0, .int a1, .ref 90, .int (-1000001)]) (w' := (wd_1000 (sz a0 a1 a2 a3 a4 a5))) (cs' := 109) (ss' := 12668) ?_ (fun _ _ => rfl)
  refine go_seg 8 (pc' := 1577) (ls' := [(3, .int 0), (2, .ref 90), (1, .ref 1), (0, .ref 0)]) (st' := [.int a3, .int a2, .int a1, .ref 90, .int (-1000001)]) (w' := (wd_1000 (sz a0 a1 a2 a3 a4 a5))) (cs' := 109) (ss' := 12668) ?_ (fun _ _ => rfl)
  refine go_seg 8 (pc' := 1585) (ls' := [(3, .int 0), (2, .ref 90), (1, .ref 1), (0, .ref 0)]) (st' := [.int 5, .int 0, .ref 0, .int a4, .int a3, .int a2, .int a1, .ref 90, .int (-1000001)]) (w' := (wd_1000 (sz a0 a1 a2 a3 a4 a5))) (cs' := 109) (ss' := 12668) ?_ (fun _ _ => rfl)
  refine go_seg 2 (pc' := 1587) (ls' := [(3, .int 0), (2, .ref 90), (1, .ref 1), (0, .ref 0)]) (st' := [.int a5, .int a4, .int a3, .int a2, .int a1, .ref 90, .int (-1000001)]) (w' := (wd_1000 (sz a0 a1 a2 a3 a4 a5))) (cs' := 109) (ss' := 12668) ?_ (fun _ _ => rfl)
  refine go_cl (k := 20) (st' := [.int (-1000001), .int (-1000001)]) (cs' := 109) (ss' := 12668) rfl rfl rfl rfl rfl rfl rfl (ro_434 (sz a0 a1 a2 a3 a4 a5) a1 a2 a3 a4 a5 (by omega) (by omega) (by omega) (by omega)) ?_
  refine go_cmp true rfl (br_self _) ?_
  exact law_tail (f := sc a0 a1 a2 a3 a4 a5) rfl
theorem ro_436 (z : pq_C) (a1 : Int32) (a2 : Int32) (a3 : Int32) (a4 : Int32) (a5 : Int32) (h0 : 0 ≤ a1.toInt) (h1 : 4 ≤ a1.toInt) : pq_Ru 3 145 [.ref 1, .int a1, .int a2, .int a3, .int a4, .int a5] (fw z) (some (.int (-1000001)), (wd_1000 z)) := by
  refine ru_of (k := 2) (M := pm_145) rfl rfl ?_
  refine go_seg 1 (pc' := 1) (ls' := [(0, .ref 1), (1, .int a1), (2, .int a2), (3, .int a3), (4, .int a4), (5, .int a5)]) (st' := [.int a1]) (w' := (fw z)) (cs' := 0) (ss' := 0) ?_ (fun _ _ => rfl)
  refine go_cl (k := 2) (st' := [.int 0]) (cs' := 0) (ss' := 0) rfl rfl rfl rfl rfl rfl rfl (ro_185 z a1 (by omega) (by omega)) ?_
  refine go_seg 3 (pc' := 16) (ls' := [(0, .ref 1), (1, .int a1), (2, .int a2), (3, .int a3), (4, .int a4), (5, .int a5)]) (st' := [.int 1, .ref 1]) (w' := (fw z)) (cs' := 0) (ss' := 0) ?_ (fun _ _ => rfl)
  refine go_cl (k := 2) (st' := [.int (-1000001)]) (cs' := 0) (ss' := 0) rfl rfl rfl rfl rfl rfl rfl (ro_2 z) ?_
  exact go_end 1 (fun _ _ => rfl)
theorem ro_437 (z : pq_C) (a1 : Int32) (a2 : Int32) (a3 : Int32) (a4 : Int32) (a5 : Int32) (h0 : 0 ≤ a1.toInt) (h1 : 4 ≤ a1.toInt) : pq_Ru 3 244 [.ref 90, .int a1, .int a2, .int a3, .int a4, .int a5] (wd_1000 z) (some (.int (-1000001)), (wd_1001 z)) := by
  refine ru_of (k := 2) (M := pm_244) rfl rfl ?_
  refine go_seg 1 (pc' := 1) (ls' := [(0, .ref 90), (1, .int a1), (2, .int a2), (3, .int a3), (4, .int a4), (5, .int a5)]) (st' := [.int a1]) (w' := (wd_1000 z)) (cs' := 0) (ss' := 0) ?_ (fun _ _ => rfl)
  refine go_cl (k := 2) (st' := [.int 0]) (cs' := 0) (ss' := 0) rfl rfl rfl rfl rfl rfl rfl (ro_187 z a1 (by omega) (by omega)) ?_
  refine go_seg 3 (pc' := 17) (ls' := [(0, .ref 90), (1, .int a1), (2, .int a2), (3, .int a3), (4, .int a4), (5, .int a5)]) (st' := [.int (-1000001), .ref 90]) (w' := (wd_1000 z)) (cs' := 0) (ss' := 0) ?_ (fun _ _ => rfl)
  refine go_cl (k := 2) (st' := [.int (-1000001)]) (cs' := 0) (ss' := 0) rfl rfl rfl rfl rfl rfl rfl (ro_5 z) ?_
  exact go_end 1 (fun _ _ => rfl)
theorem lf_36_438 (a0 : Int32) (a1 : Int32) (a2 : Int32) (a3 : Int32) (a4 : Int32) (a5 : Int32) (h0 : 0 ≤ a1.toInt) (h1 : 4 ≤ a1.toInt) : ∃ w', pq_Go 20 pm_law 1532 [(3, .int 0), (2, .ref 90), (1, .ref 1), (0, .ref 0)] [] (fw (sz a0 a1 a2 a3 a4 a5)) 109 12668 (some (.int 1), w') := by
  refine ⟨(wd_1001 (sz a0 a1 a2 a3 a4 a5)), ?_⟩
  refine go_seg 8 (pc' := 1540) (ls' := [(3, .int 0), (2, .ref 90), (1, .ref 1), (0, .ref 0)]) (st' := [.int 0, .ref 0, .int a1, .ref 1]) (w' := (fw (sz a0 a1 a2 a3 a4 a5))) (cs' := 109) (ss' := 12668) ?_ (fun _ _ => rfl)
  refine go_seg 8 (pc' := 1548) (ls' := [(3, .int 0), (2, .ref 90), (1, .ref 1), (0, .ref 0)]) (st' := [.int a3, .int a2, .int a1, .ref 1]) (w' := (fw (sz a0 a1 a2 a3 a4 a5))) (cs' := 109) (ss' := 12668) ?_ (fun _ _ => rfl)
  refine go_seg 8 (pc' := 1556) (ls' := [(3, .int 0), (2, .ref 90), (1, .ref 1), (0, .ref 0)]) (st' := [.int 5, .int 0, .ref 0, .int a4, .int a3, .int a2, .int a1, .ref 1]) (w' := (fw (sz a0 a1 a2 a3 a4 a5))) (cs' := 109) (ss' := 12668) ?_ (fun _ _ => rfl)
  refine go_seg 2 (pc' := 1558) (ls' := [(3, .int 0), (2, .ref 90), (1, .ref 1), (0, .ref 0)]) (st' := [.int a5, .int a4, .int a3, .int a2, .int a1, .ref 1]) (w' := (fw (sz a0 a1 a2 a3 a4 a5))) (cs' := 109) (ss' := 12668) ?_ (fun _ _ => rfl)
  refine go_cl (k := 20) (st' := [.int (-1000001)]) (cs' := 109) (ss' := 12668) rfl rfl rfl rfl rfl rfl rfl (ro_436 (sz a0 a1 a2 a3 a4 a5) a1 a2 a3 a4 a5 (by omega) (by omega)) ?_
  refine go_seg 8 (pc' := 1569) (ls' := [(3, .int 0), (2, .ref 90), (1, .ref 1), (0, .ref 0)]) (st' := [.int 0, .ref 0, .int a1, .ref 90, .int (-1000001)]) (w' := (wd_1000 (sz a0 a1 a2 a3 a4 a5))) (cs' := 109) (ss' := 12668) ?_ (fun _ _ => rfl)
  refine go_seg 8 (pc' := 1577) (ls' := [(3, .int 0), (2, .ref 90), (1, .ref 1), (0, .ref 0)]) (st' := [.int a3, .int a2, .int a1, .ref 90, .int (-1000001)]) (w' := (wd_1000 (sz a0 a1 a2 a3 a4 a5))) (cs' := 109) (ss' := 12668) ?_ (fun _ _ => rfl)
  refine go_seg 8 (pc' := 1585) (ls' := [(3, .int 0), (2, .ref 90), (1, .ref 1), (0, .ref 0)]) (st' := [.int 5, .int 0, .ref 0, .int a4, .int a3, .int a2, .int a1, .ref 90, .int (-1000001)]) (w' := (wd_1000 (sz a0 a1 a2 a3 a4 a5))) (cs' := 109) (ss' := 12668) ?_ (fun _ _ => rfl)
  refine go_seg 2 (pc' := 1587) (ls' := [(3, .int 0), (2, .ref 90), (1, .ref 1), (0, .ref 0)]) (st' := [.int a5, .int a4, .int a3, .int a2, .int a1, .ref 90, .int (-1000001)]) (w' := (wd_1000 (sz a0 a1 a2 a3 a4 a5))) (cs' := 109) (ss' := 12668) ?_ (fun _ _ => rfl)
  refine go_cl (k := 20) (st' := [.int (-1000001), .int (-1000001)]) (cs' := 109) (ss' := 12668) rfl rfl rfl rfl rfl rfl rfl (ro_437 (sz a0 a1 a2 a3 a4 a5) a1 a2 a3 a4 a5 (by omega) (by omega)) ?_
  refine go_cmp true rfl (br_self _) ?_
  exact law_tail (f := sc a0 a1 a2 a3 a4 a5) rfl
theorem op_36 (a0 a1 a2 a3 a4 a5 : Int32) : ∃ w', pq_Go 20 pm_law 1532 [(3, .int 0), (2, .ref 90), (1, .ref 1), (0, .ref 0)] [] (fw (sz a0 a1 a2 a3 a4 a5)) 109 12668 (some (.int 1), w') := by
  by_cases c0 : a1.toInt < 0
  · exact lf_36_411 a0 a1 a2 a3 a4 a5 (by omega)
  · by_cases c1 : a1.toInt < 4
    · by_cases c2 : a3.toInt < 0
      · exact lf_36_416 a0 a1 a2 a3 a4 a5 (by omega) (by omega) (by omega)
      · by_cases c3 : a3.toInt < 4
        · by_cases e4_0 : a1 = 0
          · subst e4_0
            exact lf_36_421 a0 a2 a3 a4 a5 (by omega) (by omega)
          replace e4_0 := ne_t (b := 0) rfl e4_0
          by_cases e4_1 : a1 = 1
          · subst e4_1
            exact lf_36_424 a0 a2 a3 a4 a5 (by omega) (by omega)
          replace e4_1 := ne_t (b := 1) rfl e4_1
          by_cases e4_2 : a1 = 2
          · subst e4_2
            exact lf_36_427 a0 a2 a3 a4 a5 (by omega) (by omega)
          replace e4_2 := ne_t (b := 2) rfl e4_2
          by_cases e4_3 : a1 = 3
          · subst e4_3
            exact lf_36_430 a0 a2 a3 a4 a5 (by omega) (by omega)
          replace e4_3 := ne_t (b := 3) rfl e4_3
          exfalso
          omega
        · exact lf_36_435 a0 a1 a2 a3 a4 a5 (by omega) (by omega) (by omega) (by omega)
    · exact lf_36_438 a0 a1 a2 a3 a4 a5 (by omega) (by omega)
