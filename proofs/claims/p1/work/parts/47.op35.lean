theorem ro_390 (z : pq_C) (a1 : Int32) (a2 : Int32) (a3 : Int32) (h0 : a1.toInt < 0) : pq_Ru 3 142 [.ref 1, .int a1, .int a2, .int a3] (fw z) (some (.int (-1000001)), (wd_1000 z)) := by
  refine ru_of (k := 2) (M := pm_142) rfl rfl ?_
  refine go_seg 1 (pc' := 1) (ls' := [(0, .ref 1), (1, .int a1), (2, .int a2), (3, .int a3)]) (st' := [.int a1]) (w' := (fw z)) (cs' := 0) (ss' := 0) ?_ (fun _ _ => rfl)
  refine go_cl (k := 2) (st' := [.int 0]) (cs' := 0) (ss' := 0) rfl rfl rfl rfl rfl rfl rfl (ro_138 z a1 (by omega)) ?_
  refine go_seg 3 (pc' := 9) (ls' := [(0, .ref 1), (1, .int a1), (2, .int a2), (3, .int a3)]) (st' := [.int 1, .ref 1]) (w' := (fw z)) (cs' := 0) (ss' := 0) ?_ (fun _ _ => rfl)
  refine go_cl (k := 2) (st' := [.int (-1000001)]) (cs' := 0) (ss' := 0) rfl rfl rfl rfl rfl rfl rfl (ro_2 z) ?_
  exact go_end 1 (fun _ _ => rfl)
theorem ro_391 (z : pq_C) (a1 : Int32) (a2 : Int32) (a3 : Int32) (h0 : a1.toInt < 0) : pq_Ru 3 243 [.ref 90, .int a1, .int a2, .int a3] (wd_1000 z) (some (.int (-1000001)), (wd_1001 z)) := by
  refine ru_of (k := 2) (M := pm_243) rfl rfl ?_
  refine go_seg 1 (pc' := 1) (ls' := [(0, .ref 90), (1, .int a1), (2, .int a2), (3, .int a3)]) (st' := [.int a1]) (w' := (wd_1000 z)) (cs' := 0) (ss' := 0) ?_ (fun _ _ => rfl)
  refine go_cl (k := 2) (st' := [.int 0]) (cs' := 0) (ss' := 0) rfl rfl rfl rfl rfl rfl rfl (ro_140 z a1 (by omega)) ?_
  refine go_seg 3 (pc' := 10) (ls' := [(0, .ref 90), (1, .int a1), (2, .int a2), (3, .int a3)]) (st' := [.int (-1000001), .ref 90]) (w' := (wd_1000 z)) (cs' := 0) (ss' := 0) ?_ (fun _ _ => rfl)
  refine go_cl (k := 2) (st' := [.int (-1000001)]) (cs' := 0) (ss' := 0) rfl rfl rfl rfl rfl rfl rfl (ro_5 z) ?_
  exact go_end 1 (fun _ _ => rfl)
theorem lf_35_392 (a0 : Int32) (a1 : Int32) (a2 : Int32) (a3 : Int32) (a4 : Int32) (a5 : Int32) (h0 : a1.toInt < 0) : ∃ w', pq_Go 20 pm_law 1489 [(3, .int 0), (2, .ref 90), (1, .ref 1), (0, .ref 0)] [] (fw (sz a0 a1 a2 a3 a4 a5)) 109 12668 (some (.int 1), w') := by
  refine ⟨(wd_1001 (sz a0 a1 a2 a3 a4 a5)), ?_⟩
  refine go_seg 8 (pc' := 1497) (ls' := [(3, .int 0), (2, .ref 90), (1, .ref 1), (0, .ref 0)]) (st' := [.int 0, .ref 0, .int a1, .ref 1]) (w' := (fw (sz a0 a1 a2 a3 a4 a5))) (cs' := 109) (ss' := 12668) ?_ (fun _ _ => rfl)
  refine go_seg 8 (pc' := 1505) (ls' := [(3, .int 0), (2, .ref 90), (1, .ref 1), (0, .ref 0)]) (st' := [.int a3, .int a2, .int a1, .ref 1]) (w' := (fw (sz a0 a1 a2 a3 a4 a5))) (cs' := 109) (ss' := 12668) ?_ (fun _ _ => rfl)
  refine go_cl (k := 20) (st' := [.int (-1000001)]) (cs' := 109) (ss' := 12668) rfl rfl rfl rfl rfl rfl rfl (ro_390 (sz a0 a1 a2 a3 a4 a5) a1 a2 a3 (by omega)) ?_
  refine go_seg 8 (pc' := 1516) (ls' := [(3, .int 0), (2, .ref 90), (1, .ref 1), (0, .ref 0)]) (st' := [.int 0, .ref 0, .int a1, .ref 90, .int (-1000001)]) (w' := (wd_1000 (sz a0 a1 a2 a3 a4 a5))) (cs' := 109) (ss' := 12668) ?_ (fun _ _ => rfl)
  refine go_seg 8 (pc' := 1524) (ls' := [(3, .int 0), (2, .ref 90), (1, .ref 1), (0, .ref 0)]) (st' := [.int a3, .int a2, .int a1, .ref 90, .int (-1000001)]) (w' := (wd_1000 (sz a0 a1 a2 a3 a4 a5))) (cs' := 109) (ss' := 12668) ?_ (fun _ _ => rfl)
  refine go_cl (k := 20) (st' := [.int (-1000001), .int (-1000001)]) (cs' := 109) (ss' := 12668) rfl rfl rfl rfl rfl rfl rfl (ro_391 (sz a0 a1 a2 a3 a4 a5) a1 a2 a3 (by omega)) ?_
  refine go_cmp true rfl (br_self _) ?_
  exact law_tail (f := sc a0 a1 a2 a3 a4 a5) rfl
theorem ro_393 (z : pq_C) (a2 : Int32) (a3 : Int32) : pq_Ru 3 142 [.ref 1, .int 0, .int a2, .int a3] (fw z) (some (.int (-1000002)), (wd_1025 z)) := by
  refine ru_of (k := 2) (M := pm_142) rfl rfl ?_
  refine go_seg 1 (pc' := 1) (ls' := [(0, .ref 1), (1, .int 0), (2, .int a2), (3, .int a3)]) (st' := [.int 0]) (w' := (fw z)) (cs' := 0) (ss' := 0) ?_ (fun _ _ => rfl)
  refine go_cl (k := 2) (st' := [.int 1]) (cs' := 0) (ss' := 0) rfl rfl rfl rfl rfl rfl rfl (ro_150 z) ?_
  refine go_seg 4 (pc' := 18) (ls' := [(0, .ref 1), (1, .int 0), (2, .int a2), (3, .int a3)]) (st' := [.int 0, .ref 85]) (w' := (fw z)) (cs' := 0) (ss' := 0) ?_ (fun _ _ => rfl)
  refine go_cl (k := 2) (st' := [.int 1]) (cs' := 0) (ss' := 0) rfl rfl rfl rfl rfl rfl rfl (ro_152 z) ?_
  refine go_seg 3 (pc' := 26) (ls' := [(0, .ref 1), (1, .int 0), (2, .int a2), (3, .int a3)]) (st' := [.int 2, .ref 1]) (w' := (fw z)) (cs' := 0) (ss' := 0) ?_ (fun _ _ => rfl)
  refine go_cl (k := 2) (st' := [.int (-1000002)]) (cs' := 0) (ss' := 0) rfl rfl rfl rfl rfl rfl rfl (ro_127 z) ?_
  exact go_end 1 (fun _ _ => rfl)
theorem ro_394 (z : pq_C) (a2 : Int32) (a3 : Int32) : pq_Ru 3 243 [.ref 90, .int 0, .int a2, .int a3] (wd_1025 z) (some (.int (-1000002)), (wd_1026 z)) := by
  refine ru_of (k := 2) (M := pm_243) rfl rfl ?_
  refine go_seg 1 (pc' := 1) (ls' := [(0, .ref 90), (1, .int 0), (2, .int a2), (3, .int a3)]) (st' := [.int 0]) (w' := (wd_1025 z)) (cs' := 0) (ss' := 0) ?_ (fun _ _ => rfl)
  refine go_cl (k := 2) (st' := [.int 1]) (cs' := 0) (ss' := 0) rfl rfl rfl rfl rfl rfl rfl (ro_155 z) ?_
  refine go_seg 8 (pc' := 26) (ls' := [(0, .ref 90), (1, .int 0), (2, .int a2), (3, .int a3)]) (st' := [.int (-1000002), .ref 90]) (w' := (wd_1025 z)) (cs' := 0) (ss' := 0) ?_ (fun _ _ => rfl)
  refine go_cl (k := 2) (st' := [.int (-1000002)]) (cs' := 0) (ss' := 0) rfl rfl rfl rfl rfl rfl rfl (ro_130 z) ?_
  exact go_end 1 (fun _ _ => rfl)
theorem lf_35_395 (a0 : Int32) (a2 : Int32) (a3 : Int32) (a4 : Int32) (a5 : Int32) : ∃ w', pq_Go 20 pm_law 1489 [(3, .int 0), (2, .ref 90), (1, .ref 1), (0, .ref 0)] [] (fw (sz a0 0 a2 a3 a4 a5)) 109 12668 (some (.int 1), w') := by
  refine ⟨(wd_1026 (sz a0 0 a2 a3 a4 a5)), ?_⟩
  refine go_seg 8 (pc' := 1497) (ls' := [(3, .int 0), (2, .ref 90), (1, .ref 1), (0, .ref 0)]) (st' := [.int 0, .ref 0, .int 0, .ref 1]) (w' := (fw (sz a0 0 a2 a3 a4 a5))) (cs' := 109) (ss' := 12668) ?_ (fun _ _ => rfl)
  refine go_seg 8 (pc' := 1505) (ls' := [(3, .int 0), (2, .ref 90), (1, .ref 1), (0, .ref 0)]) (st' := [.int a3, .int a2, .int 0, .ref 1]) (w' := (fw (sz a0 0 a2 a3 a4 a5))) (cs' := 109) (ss' := 12668) ?_ (fun _ _ => rfl)
  refine go_cl (k := 20) (st' := [.int (-1000002)]) (cs' := 109) (ss' := 12668) rfl rfl rfl rfl rfl rfl rfl (ro_393 (sz a0 0 a2 a3 a4 a5) a2 a3) ?_
  refine go_seg 8 (pc' := 1516) (ls' := [(3, .int 0), (2, .ref 90), (1, .ref 1), (0, .ref 0)]) (st' := [.int 0, .ref 0, .int 0, .ref 90, .int (-1000002)]) (w' := (wd_1025 (sz a0 0 a2 a3 a4 a5))) (cs' := 109) (ss' := 12668) ?_ (fun _ _ => rfl)
  refine go_seg 8 (pc' := 1524) (ls' := [(3, .int 0), (2, .ref 90), (1, .ref 1), (0, .ref 0)]) (st' := [.int a3, .int a2, .int 0, .ref 90, .int (-1000002)]) (w' := (wd_1025 (sz a0 0 a2 a3 a4 a5))) (cs' := 109) (ss' := 12668) ?_ (fun _ _ => rfl)
  refine go_cl (k := 20) (st' := [.int (-1000002), .int (-1000002)]) (cs' := 109) (ss' := 12668) rfl rfl rfl rfl rfl rfl rfl (ro_394 (sz a0 0 a2 a3 a4 a5) a2 a3) ?_
  refine go_cmp true rfl (br_self _) ?_
  exact law_tail (f := sc a0 0 a2 a3 a4 a5) rfl
theorem ro_396 (z : pq_C) (a2 : Int32) (a3 : Int32) : pq_Ru 3 142 [.ref 1, .int 1, .int a2, .int a3] (fw z) (some (.int (-1000002)), (wd_1025 z)) := by
  refine ru_of (k := 2) (M := pm_142) rfl rfl ?_
  refine go_seg 1 (pc' := 1) (ls' := [(0, .ref 1), (1, .int 1), (2, .int a2), (3, .int a3)]) (st' := [.int 1]) (w' := (fw z)) (cs' := 0) (ss' := 0) ?_ (fun _ _ => rfl)
  refine go_cl (k := 2) (st' := [.int 1]) (cs' := 0) (ss' := 0) rfl rfl rfl rfl rfl rfl rfl (ro_159 z) ?_
  refine go_seg 4 (pc' := 18) (ls' := [(0, .ref 1), (1, .int 1), (2, .int a2), (3, .int a3)]) (st' := [.int 1, .ref 85]) (w' := (fw z)) (cs' := 0) (ss' := 0) ?_ (fun _ _ => rfl)
  refine go_cl (k := 2) (st' := [.int 1]) (cs' := 0) (ss' := 0) rfl rfl rfl rfl rfl rfl rfl (ro_160 z) ?_
  refine go_seg 3 (pc' := 26) (ls' := [(0, .ref 1), (1, .int 1), (2, .int a2), (3, .int a3)]) (st' := [.int 2, .ref 1]) (w' := (fw z)) (cs' := 0) (ss' := 0) ?_ (fun _ _ => rfl)
  refine go_cl (k := 2) (st' := [.int (-1000002)]) (cs' := 0) (ss' := 0) rfl rfl rfl rfl rfl rfl rfl (ro_127 z) ?_
  exact go_end 1 (fun _ _ => rfl)
theorem ro_397 (z : pq_C) (a2 : Int32) (a3 : Int32) : pq_Ru 3 243 [.ref 90, .int 1, .int a2, .int a3] (wd_1025 z) (some (.int (-1000002)), (wd_1026 z)) := by
  refine ru_of (k := 2) (M := pm_243) rfl rfl ?_
  refine go_seg 1 (pc' := 1) (ls' := [(0, .ref 90), (1, .int 1), (2, .int a2), (3, .int a3)]) (st' := [.int 1]) (w' := (wd_1025 z)) (cs' := 0) (ss' := 0) ?_ (fun _ _ => rfl)
  refine go_cl (k := 2) (st' := [.int 1]) (cs' := 0) (ss' := 0) rfl rfl rfl rfl rfl rfl rfl (ro_163 z) ?_
  refine go_seg 8 (pc' := 26) (ls' := [(0, .ref 90), (1, .int 1), (2, .int a2), (3, .int a3)]) (st' := [.int (-1000002), .ref 90]) (w' := (wd_1025 z)) (cs' := 0) (ss' := 0) ?_ (fun _ _ => rfl)
  refine go_cl (k := 2) (st' := [.int (-1000002)]) (cs' := 0) (ss' := 0) rfl rfl rfl rfl rfl rfl rfl (ro_130 z) ?_
  exact go_end 1 (fun _ _ => rfl)
theorem lf_35_398 (a0 : Int32) (a2 : Int32) (a3 : Int32) (a4 : Int32) (a5 : Int32) : ∃ w', pq_Go 20 pm_law 1489 [(3, .int 0), (2, .ref 90), (1, .ref 1), (0, .ref 0)] [] (fw (sz a0 1 a2 a3 a4 a5)) 109 12668 (some (.int 1), w') := by
  refine ⟨(wd_1026 (sz a0 1 a2 a3 a4 a5)), ?_⟩
  refine go_seg 8 (pc' := 1497) (ls' := [(3, .int 0), (2, .ref 90), (1, .ref 1), (0, .ref 0)]) (st' := [.int 0, .ref 0, .int 1, .ref 1]) (w' := (fw (sz a0 1 a2 a3 a4 a5))) (cs' := 109) (ss' := 12668) ?_ (fun _ _ => rfl)
  refine go_seg 8 (pc' := 1505) (ls' := [(3, .int 0), (2, .ref 90), (1, .ref 1), (0, .ref 0)]) (st' := [.int a3, .int a2, .int 1, .ref 1]) (w' := (fw (sz a0 1 a2 a3 a4 a5))) (cs' := 109) (ss' := 12668) ?_ (fun _ _ => rfl)
  refine go_cl (k := 20) (st' := [.int (-1000002)]) (cs' := 109) (ss' := 12668) rfl rfl rfl rfl rfl rfl rfl (ro_396 (sz a0 1 a2 a3 a4 a5) a2 a3) ?_
  refine go_seg 8 (pc' := 1516) (ls' := [(3, .int 0), (2, .ref 90), (1, .ref 1), (0, .ref 0)]) (st' := [.int 0, .ref 0, .int 1, .ref 90, .int (-1000002)]) (w' := (wd_1025 (sz a0 1 a2 a3 a4 a5))) (cs' := 109) (ss' := 12668) ?_ (fun _ _ => rfl)
  refine go_seg 8 (pc' := 1524) (ls' := [(3, .int 0), (2, .ref 90), (1, .ref 1), (0, .ref 0)]) (st' := [.int a3, .int a2, .int 1, .ref 90, .int (-1000002)]) (w' := (wd_1025 (sz a0 1 a2 a3 a4 a5))) (cs' := 109) (ss' := 12668) ?_ (fun _ _ => rfl)
  refine go_cl (k := 20) (st' := [.int (-1000002), .int (-1000002)]) (cs' := 109) (ss' := 12668) rfl rfl rfl rfl rfl rfl rfl (ro_397 (sz a0 1 a2 a3 a4 a5) a2 a3) ?_
  refine go_cmp true rfl (br_self _) ?_
  exact law_tail (f := sc a0 1 a2 a3 a4 a5) rfl
theorem ro_399 (z : pq_C) (a2 : Int32) (a3 : Int32) : pq_Ru 3 142 [.ref 1, .int 2, .int a2, .int a3] (fw z) (some (.int (-1000002)), (wd_1025 z)) := by
  refine ru_of (k := 2) (M := pm_142) rfl rfl ?_
  refine go_seg 1 (pc' := 1) (ls' := [(0, .ref 1), (1, .int 2), (2, .int a2), (3, .int a3)]) (st' := [.int 2]) (w' := (fw z)) (cs' := 0) (ss' := 0) ?_ (fun _ _ => rfl)
  refine go_cl (k := 2) (st' := [.int 1]) (cs' := 0) (ss' := 0) rfl rfl rfl rfl rfl rfl rfl (ro_166 z) ?_
  refine go_seg 4 (pc' := 18) (ls' := [(0, .ref 1), (1, .int 2), (2, .int a2), (3, .int a3)]) (st' := [.int 2, .ref 85]) (w' := (fw z)) (cs' := 0) (ss' := 0) ?_ (fun _ _ => rfl)
  refine go_cl (k := 2) (st' := [.int 1]) (cs' := 0) (ss' := 0) rfl rfl rfl rfl rfl rfl rfl (ro_167 z) ?_
  refine go_seg 3 (pc' := 26) (ls' := [(0, .ref 1), (1, .int 2), (2, .int a2), (3, .int a3)]) (st' := [.int 2, .ref 1]) (w' := (fw z)) (cs' := 0) (ss' := 0) ?_ (fun _ _ => rfl)
  refine go_cl (k := 2) (st' := [.int (-1000002)]) (cs' := 0) (ss' := 0) rfl rfl rfl rfl rfl rfl rfl (ro_127 z) ?_
  exact go_end 1 (fun _ _ => rfl)
theorem ro_400 (z : pq_C) (a2 : Int32) (a3 : Int32) : pq_Ru 3 243 [.ref 90, .int 2, .int a2, .int a3] (wd_1025 z) (some (.int (-1000002)), (wd_1026 z)) := by
  refine ru_of (k := 2) (M := pm_243) rfl rfl ?_
  refine go_seg 1 (pc' := 1) (ls' := [(0, .ref 90), (1, .int 2), (2, .int a2), (3, .int a3)]) (st' := [.int 2]) (w' := (wd_1025 z)) (cs' := 0) (ss' := 0) ?_ (fun _ _ => rfl)
  refine go_cl (k := 2) (st' := [.int 1]) (cs' := 0) (ss' := 0) rfl rfl rfl rfl rfl rfl rfl (ro_170 z) ?_
  refine go_seg 8 (pc' := 26) (ls' := [(0, .ref 90), (1, .int 2), (2, .int a2), (3, .int a3)]) (st' := [.int (-1000002), .ref 90]) (w' := (wd_1025 z)) (cs' := 0) (ss' := 0) ?_ (fun _ _ => rfl)
  refine go_cl (k := 2) (st' := [.int (-1000002)]) (cs' := 0) (ss' := 0) rfl rfl rfl rfl rfl rfl rfl (ro_130 z) ?_
  exact go_end 1 (fun _ _ => rfl)
theorem lf_35_401 (a0 : Int32) (a2 : Int32) (a3 : Int32) (a4 : Int32) (a5 : Int32) : ∃ w', pq_Go 20 pm_law 1489 [(3, .int 0), (2, .ref 90), (1, .ref 1), (0, .ref 0)] [] (fw (sz a0 2 a2 a3 a4 a5)) 109 12668 (some (.int 1), w') := by
  refine ⟨(wd_1026 (sz a0 2 a2 a3 a4 a5)), ?_⟩
  refine go_seg 8 (pc' := 1497) (ls' := [(3, .int 0), (2, .ref 90), (1, .ref 1), (0, .ref 0)]) (st' := [.int 0, .ref 0, .int 2, .ref 1]) (w' := (fw (sz a0 2 a2 a3 a4 a5))) (cs' := 109) (ss' := 12668) ?_ (fun _ _ => rfl)
  refine go_seg 8 (pc' := 1505) (ls' := [(3, .int 0), (2, .ref 90), (1, .ref 1), (0, .ref 0)]) (st' := [.int a3, .int a2, .int 2, .ref 1]) (w' := (fw (sz a0 2 a2 a3 a4 a5))) (cs' := 109) (ss' := 12668) ?_ (fun _ _ => rfl)
  refine go_cl (k := 20) (st' := [.int (-1000002)]) (cs' := 109) (ss' := 12668) rfl rfl rfl rfl rfl rfl rfl (ro_399 (sz a0 2 a2 a3 a4 a5) a2 a3) ?_
  refine go_seg 8 (pc' := 1516) (ls' := [(3, .int 0), (2, .ref 90), (1, .ref 1), (0, .ref 0)]) (st' := [.int 0, .ref 0, .int 2, .ref 90, .int (-1000002)]) (w' := (wd_1025 (sz a0 2 a2 a3 a4 a5))) (cs' := 109) (ss' := 12668) ?_ (fun _ _ => rfl)
  refine go_seg 8 (pc' := 1524) (ls' := [(3, .int 0), (2, .ref 90), (1, .ref 1), (0, .ref 0)]) (st' := [.int a3, .int a2, .int 2, .ref 90, .int (-1000002)]) (w' := (wd_1025 (sz a0 2 a2 a3 a4 a5))) (cs' := 109) (ss' := 12668) ?_ (fun _ _ => rfl)
  refine go_cl (k := 20) (st' := [.int (-1000002), .int (-1000002)]) (cs' := 109) (ss' := 12668) rfl rfl rfl rfl rfl rfl rfl (ro_400 (sz a0 2 a2 a3 a4 a5) a2 a3) ?_
  refine go_cmp true rfl (br_self _) ?_
  exact law_tail (f := sc a0 2 a2 a3 a4 a5) rfl
theorem ro_402 (z : pq_C) (a2 : Int32) (a3 : Int32) : pq_Ru 3 142 [.ref 1, .int 3, .int a2, .int a3] (fw z) (some (.int (-1000002)), (wd_1025 z)) := by
  refine ru_of (k := 2) (M := pm_142) rfl rfl ?_
  refine go_seg 1 (pc' := 1) (ls' := [(0, .ref 1), (1, .int 3), (2, .int a2), (3, .int a3)]) (st' := [.int 3]) (w' := (fw z)) (cs' := 0) (ss' := 0) ?_ (fun _ _ => rfl)
  refine go_cl (k := 2) (st' := [.int 1]) (cs' := 0) (ss' := 0) rfl rfl rfl rfl rfl rfl rfl (ro_173 z) ?_
  refine go_seg 4 (pc' := 18) (ls' := [(0, .ref 1), (1, .int 3), (2, .int a2), (3, .int a3)]) (st' := [.int 3, .ref 85]) (w' := (fw z)) (cs' := 0) (ss' := 0) ?_ (fun _ _ => rfl)
  refine go_cl (k := 2) (st' := [.int 1]) (cs' := 0) (ss' := 0) rfl rfl rfl rfl rfl rfl rfl (ro_174 z) ?_
  refine go_seg 3 (pc' := 26) (ls' := [(0, .ref 1), (1, .int 3), (2, .int a2), (3, .int a3)]) (st' := [.int 2, .ref 1]) (w' := (fw z)) (cs' := 0) (ss' := 0) ?_ (fun _ _ => rfl)
  refine go_cl (k := 2) (st' := [.int (-1000002)]) (cs' := 0) (ss' := 0) rfl rfl rfl rfl rfl rfl rfl (ro_127 z) ?_
  exact go_end 1 (fun _ _ => rfl)
theorem ro_403 (z : pq_C) (a2 : Int32) (a3 : Int32) : pq_Ru 3 243 [.ref 90, .int 3, .int a2, .int a3] (wd_1025 z) (some (.int (-1000002)), (wd_1026 z)) := by
  refine ru_of (k := 2) (M := pm_243) rfl rfl ?_
  refine go_seg 1 (pc' := 1) (ls' := [(0, .ref 90), (1, .int 3), (2, .int a2), (3, .int a3)]) (st' := [.int 3]) (w' := (wd_1025 z)) (cs' := 0) (ss' := 0) ?_ (fun _ _ => rfl)
  refine go_cl (k := 2) (st' := [.int 1]) (cs' := 0) (ss' := 0) rfl rfl rfl rfl rfl rfl rfl (ro_177 z) ?_
  refine go_seg 8 (pc' := 26) (ls' := [(0, .ref 90), (1, .int 3), (2, .int a2), (3, .int a3)]) (st' := [.int (-1000002), .ref 90]) (w' := (wd_1025 z)) (cs' := 0) (ss' := 0) ?_ (fun _ _ => rfl)
  refine go_cl (k := 2) (st' := [.int (-1000002)]) (cs' := 0) (ss' := 0) rfl rfl rfl rfl rfl rfl rfl (ro_130 z) ?_
  exact go_end 1 (fun _ _ => rfl)
theorem lf_35_404 (a0 : Int32) (a2 : Int32) (a3 : Int32) (a4 : Int32) (a5 : Int32) : ∃ w', pq_Go 20 pm_law 1489 [(3, .int 0), (2, .ref 90), (1, .ref 1), (0, .ref 0)] [] (fw (sz a0 3 a2 a3 a4 a5)) 109 12668 (some (.int 1), w') := by
  refine ⟨(wd_1026 (sz a0 3 a2 a3 a4 a5)), ?_⟩
  refine go_seg 8 (pc' := 1497) (ls' := [(3, .int 0), (2, .ref 90), (1, .ref 1), (0, .ref 0)]) (st' := [.int 0, .ref 0, .int 3, .ref 1]) (w' := (fw (sz a0 3 a2 a3 a4 a5))) (cs' := 109) (ss' := 12668) ?_ (fun _ _ => rfl)
  refine go_seg 8 (pc' := 1505) (ls' := [(3, .int 0), (2, .ref 90), (1, .ref 1), (0, .ref 0)]) (st' := [.int a3, .int a2, .int 3, .ref 1]) (w' := (fw (sz a0 3 a2 a3 a4 a5))) (cs' := 109) (ss' := 12668) ?_ (fun _ _ => rfl)
  refine go_cl (k := 20) (st' := [.int (-1000002)]) (cs' := 109) (ss' := 12668) rfl rfl rfl rfl rfl rfl rfl (ro_402 (sz a0 3 a2 a3 a4 a5) a2 a3) ?_
  refine go_seg 8 (pc' := 1516) (ls' := [(3, .int 0), (2, .ref 90), (1, .ref 1), (0, .ref 0)]) (st' := [.int 0, .ref 0, .int 3, .ref 90, .int (-1000002)]) (w' := (wd_1025 (sz a0 3 a2 a3 a4 a5))) (cs' := 109) (ss' := 12668) ?_ (fun _ _ => rfl)
  refine go_seg 8 (pc' := 1524) (ls' := [(3, .int 0), (2, .ref 90), (1, .ref 1), (0, .ref 0)]) (st' := [.int a3, .int a2, .int 3, .ref 90, .int (-1000002)]) (w' := (wd_1025 (sz a0 3 a2 a3 a4 a5))) (cs' := 109) (ss' := 12668) ?_ (fun _ _ => rfl)
  refine go_cl (k := 20) (st' := [.int (-1000002), .int (-1000002)]) (cs' := 109) (ss' := 12668) rfl rfl rfl rfl rfl rfl rfl (ro_403 (sz a0 3 a2 a3 a4 a5) a2 a3) ?_
  refine go_cmp true rfl (br_self _) ?_
  exact law_tail (f := sc a0 3 a2 a3 a4 a5) rfl
theorem ro_405 (z : pq_C) (a1 : Int32) (a2 : Int32) (a3 : Int32) (h0 : 0 ≤ a1.toInt) (h1 : 4 ≤ a1.toInt) : pq_Ru 3 142 [.ref 1, .int a1, .int a2, .int a3] (fw z) (some (.int (-1000001)), (wd_1000 z)) := by
  refine ru_of (k := 2) (M := pm_142) rfl rfl ?_
  refine go_seg 1 (pc' := 1) (ls' := [(0, .ref 1), (1, .int a1), (2, .int a2), (3, .int a3)]) (st' := [.int a1]) (w' := (fw z)) (cs' := 0) (ss' := 0) ?_ (fun _ _ => rfl)
  refine go_cl (k := 2) (st' := [.int 0]) (cs' := 0) (ss' := 0) rfl rfl rfl rfl rfl rfl rfl (ro_185 z a1 (by omega) (by omega)) ?_
  refine go_seg 3 (pc' := 9) (ls' := [(0, .ref 1), (1, .int a1), (2, .int a2), (3, .int a3)]) (st' := [.int 1, .ref 1]) (w' := (fw z)) (cs' := 0) (ss' := 0) ?_ (fun _ _ => rfl)
  refine go_cl (k := 2) (st' := [.int (-1000001)]) (cs' := 0) (ss' := 0) rfl rfl rfl rfl rfl rfl rfl (ro_2 z) ?_
  exact go_end 1 (fun _ _ => rfl)
theorem ro_406 (z : pq_C) (a1 : Int32) (a2 : Int32) (a3 : Int32) (h0 : 0 ≤ a1.toInt) (h1 : 4 ≤ a1.toInt) : pq_Ru 3 243 [.ref 90, .int a1, .int a2, .int a3] (wd_1000 z) (some (.int (-1000001)), (wd_1001 z)) := by
  refine ru_of (k := 2) (M := pm_243) rfl rfl ?_
  refine go_seg 1 (pc' := 1) (ls' := [(0, .ref 90), (1, .int a1), (2, .int a2), (3, .int a3)]) (st' := [.int a1]) (w' := (wd_1000 z)) (cs' := 0) (ss' := 0) ?_ (fun _ _ => rfl)
  refine go_cl (k := 2) (st' := [.int 0]) (cs' := 0) (ss' := 0) rfl rfl rfl rfl rfl rfl rfl (ro_187 z a1 (by omega) (by omega)) ?_
  refine go_seg 3 (pc' := 10) (ls' := [(0, .ref 90), (1, .int a1), (2, .int a2), (3, .int a3)]) (st' := [.int (-1000001), .ref 90]) (w' := (wd_1000 z)) (cs' := 0) (ss' := 0) ?_ (fun _ _ => rfl)
  refine go_cl (k := 2) (st' := [.int (-1000001)]) (cs' := 0) (ss' := 0) rfl rfl rfl rfl rfl rfl rfl (ro_5 z) ?_
  exact go_end 1 (fun _ _ => rfl)
theorem lf_35_407 (a0 : Int32) (a1 : Int32) (a2 : Int32) (a3 : Int32) (a4 : Int32) (a5 : Int32) (h0 : 0 ≤ a1.toInt) (h1 : 4 ≤ a1.toInt) : ∃ w', pq_Go 20 pm_law 1489 [(3, .int 0), (2, .ref 90), (1, .ref 1), (0, .ref 0)] [] (fw (sz a0 a1 a2 a3 a4 a5)) 109 12668 (some (.int 1), w') := by
  refine ⟨(wd_1001 (sz a0 a1 a2 a3 a4 a5)), ?_⟩
  refine go_seg 8 (pc' := 1497) (ls' := [(3, .int 0), (2, .ref 90), (1, .ref 1), (0, .ref 0)]) (st' := [.int 0, .ref 0, .int a1, .ref 1]) (w' := (fw (sz a0 a1 a2 a3 a4 a5))) (cs' := 109) (ss' := 12668) ?_ (fun _ _ => rfl)
  refine go_seg 8 (pc' := 1505) (ls' := [(3, .int 0), (2, .ref 90), (1, .ref 1), (0, .ref 0)]) (st' := [.int a3, .int a2, .int a1, .ref 1]) (w' := (fw (sz a0 a1 a2 a3 a4 a5))) (cs' := 109) (ss' := 12668) ?_ (fun _ _ => rfl)
  refine go_cl (k := 20) (st' := [.int (-1000001)]) (cs' := 109) (ss' := 12668) rfl rfl rfl rfl rfl rfl rfl (ro_405 (sz a0 a1 a2 a3 a4 a5) a1 a2 a3 (by omega) (by omega)) ?_
  refine go_seg 8 (pc' := 1516) (ls' := [(3, .int 0), (2, .ref 90), (1, .ref 1), (0, .ref 0)]) (st' := [.int 0, .ref 0, .int a1, .ref 90, .int (-1000001)]) (w' := (wd_1000 (sz a0 a1 a2 a3 a4 a5))) (cs' := 109) (ss' := 12668) ?_ (fun _ _ => rfl)
  refine go_seg 8 (pc' := 1524) (ls' := [(3, .int 0), (2, .ref 90), (1, .ref 1), (0, .ref 0)]) (st' := [.int a3, .int a2, .int a1, .ref 90, .int (-1000001)]) (w' := (wd_1000 (sz a0 a1 a2 a3 a4 a5))) (cs' := 109) (ss' := 12668) ?_ (fun _ _ => rfl)
  refine go_cl (k := 20) (st' := [.int (-1000001), .int (-1000001)]) (cs' := 109) (ss' := 12668) rfl rfl rfl rfl rfl rfl rfl (ro_406 (sz a0 a1 a2 a3 a4 a5) a1 a2 a3 (by omega) (by omega)) ?_
  refine go_cmp true rfl (br_self _) ?_
  exact law_tail (f := sc a0 a1 a2 a3 a4 a5) rfl
theorem op_35 (a0 a1 a2 a3 a4 a5 : Int32) : ∃ w', pq_Go 20 pm_law 1489 [(3, .int 0), (2, .ref 90), (1, .ref 1), (0, .ref 0)] [] (fw (sz a0 a1 a2 a3 a4 a5)) 109 12668 (some (.int 1), w') := by
  by_cases c0 : a1.toInt < 0
  · exact lf_35_392 a0 a1 a2 a3 a4 a5 (by omega)
  · by_cases c1 : a1.toInt < 4
    · by_cases e2_0 : a1 = 0
      · subst e2_0
        exact lf_35_395 a0 a2 a3 a4 a5
      replace e2_0 := ne_t (b := 0) rfl e2_0
      by_cases e2_1 : a1 = 1
      · subst e2_1
        exact lf_35_398 a0 a2 a3 a4 a5
      replace e2_1 := ne_t (b := 1) rfl e2_1
      by_cases e2_2 : a1 = 2
      · subst e2_2
        exact lf_35_401 a0 a2 a3 a4 a5
      replace e2_2 := ne_t (b := 2) rfl e2_2
      by_cases e2_3 : a1 = 3
      · subst e2_3
        exact lf_35_404 a0 a2 a3 a4 a5
      replace e2_3 := ne_t (b := 3) rfl e2_3
      exfalso
      omega
    · exact lf_35_407 a0 a1 a2 a3 a4 a5 (by omega) (by omega)
