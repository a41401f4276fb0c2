theorem ro_444 (z : pq_C) : pq_Ru 1 153 [.ref 1, .int 0] (fw z) (some (.int 0), (fw z)) := by
  refine ru_of (k := 0) (M := pm_153) rfl rfl ?_
  exact go_end 6 (fun _ _ => rfl)
theorem ro_445 (z : pq_C) : pq_Ru 1 247 [.ref 90, .int 0] (fw z) (some (.int 0), (fw z)) := by
  refine ru_of (k := 0) (M := pm_247) rfl rfl ?_
  refine go_seg 8 (pc' := 74) (ls' := [(2, .int 0), (0, .ref 90), (1, .int 0)]) (st' := [.int 0]) (w' := (fw z)) (cs' := 0) (ss' := 0) ?_ (fun _ _ => rfl)
  exact go_end 1 (fun _ _ => rfl)
theorem lf_39_446 (a0 : Int32) (a2 : Int32) (a3 : Int32) (a4 : Int32) (a5 : Int32) : ∃ w', pq_Go 20 pm_law 1621 [(3, .int 0), (2, .ref 90), (1, .ref 1), (0, .ref 0)] [] (fw (sz a0 0 a2 a3 a4 a5)) 109 12668 (some (.int 1), w') := by
  refine ⟨(fw (sz a0 0 a2 a3 a4 a5)), ?_⟩
  refine go_seg 6 (pc' := 1627) (ls' := [(3, .int 0), (2, .ref 90), (1, .ref 1), (0, .ref 0)]) (st' := [.int 0, .ref 1]) (w' := (fw (sz a0 0 a2 a3 a4 a5))) (cs' := 109) (ss' := 12668) ?_ (fun _ _ => rfl)
  refine go_cl (k := 20) (st' := [.int 0]) (cs' := 109) (ss' := 12668) rfl rfl rfl rfl rfl rfl rfl (ro_444 (sz a0 0 a2 a3 a4 a5)) ?_
  refine go_seg 6 (pc' := 1636) (ls' := [(3, .int 0), (2, .ref 90), (1, .ref 1), (0, .ref 0)]) (st' := [.int 0, .ref 90, .int 0]) (w' := (fw (sz a0 0 a2 a3 a4 a5))) (cs' := 109) (ss' := 12668) ?_ (fun _ _ => rfl)
  refine go_cl (k := 20) (st' := [.int 0, .int 0]) (cs' := 109) (ss' := 12668) rfl rfl rfl rfl rfl rfl rfl (ro_445 (sz a0 0 a2 a3 a4 a5)) ?_
  refine go_cmp true rfl (br_self _) ?_
  exact law_tail (f := sc a0 0 a2 a3 a4 a5) rfl
theorem ro_447 (z : pq_C) : pq_Ru 1 154 [.ref 11] (fw z) (some (.int 0), (fw z)) := by
  refine ru_of (k := 0) (M := pm_154) rfl rfl ?_
  refine go_seg 8 (pc' := 36) (ls' := [(2, .int 0), (1, .int 0), (0, .ref 11)]) (st' := []) (w' := (fw z)) (cs' := 0) (ss' := 0) ?_ (fun _ _ => rfl)
  exact go_end 2 (fun _ _ => rfl)
theorem ro_448 (z : pq_C) : pq_Ru 2 153 [.ref 1, .int 1] (fw z) (some (.int 0), (fw z)) := by
  refine ru_of (k := 1) (M := pm_153) rfl rfl ?_
  refine go_seg 4 (pc' := 80) (ls' := [(0, .ref 1), (1, .int 1)]) (st' := [.ref 11]) (w' := (fw z)) (cs' := 0) (ss' := 0) ?_ (fun _ _ => rfl)
  refine go_cl (k := 1) (st' := [.int 0]) (cs' := 0) (ss' := 0) rfl rfl rfl rfl rfl rfl rfl (ro_447 z) ?_
  exact go_end 1 (fun _ _ => rfl)
theorem ro_449 (z : pq_C) : pq_Ru 1 247 [.ref 90, .int 1] (fw z) (some (.int 0), (fw z)) := by
  refine ru_of (k := 0) (M := pm_247) rfl rfl ?_
  refine go_seg 8 (pc' := 79) (ls' := [(3, .int 0), (2, .int 0), (0, .ref 90), (1, .int 1)]) (st' := [.ref 90, .int 0]) (w' := (fw z)) (cs' := 0) (ss' := 0) ?_ (fun _ _ => rfl)
  exact go_end 6 (fun _ _ => rfl)
theorem lf_39_450 (a0 : Int32) (a2 : Int32) (a3 : Int32) (a4 : Int32) (a5 : Int32) : ∃ w', pq_Go 20 pm_law 1621 [(3, .int 0), (2, .ref 90), (1, .ref 1), (0, .ref 0)] [] (fw (sz a0 1 a2 a3 a4 a5)) 109 12668 (some (.int 1), w') := by
  refine ⟨(fw (sz a0 1 a2 a3 a4 a5)), ?_⟩
  refine go_seg 6 (pc' := 1627) (ls' := [(3, .int 0), (2, .ref 90), (1, .ref 1), (0, .ref 0)]) (st' := [.int 1, .ref 1]) (w' := (fw (sz a0 1 a2 a3 a4 a5))) (cs' := 109) (ss' := 12668) ?_ (fun _ _ => rfl)
  refine go_cl (k := 20) (st' := [.int 0]) (cs' := 109) (ss' := 12668) rfl rfl rfl rfl rfl rfl rfl (ro_448 (sz a0 1 a2 a3 a4 a5)) ?_
  refine go_seg 6 (pc' := 1636) (ls' := [(3, .int 0), (2, .ref 90), (1, .ref 1), (0, .ref 0)]) (st' := [.int 1, .ref 90, .int 0]) (w' := (fw (sz a0 1 a2 a3 a4 a5))) (cs' := 109) (ss' := 12668) ?_ (fun _ _ => rfl)
  refine go_cl (k := 20) (st' := [.int 0, .int 0]) (cs' := 109) (ss' := 12668) rfl rfl rfl rfl rfl rfl rfl (ro_449 (sz a0 1 a2 a3 a4 a5)) ?_
  refine go_cmp true rfl (br_self _) ?_
  exact law_tail (f := sc a0 1 a2 a3 a4 a5) rfl
theorem ro_451 (z : pq_C) : pq_Ru 1 153 [.ref 1, .int 2] (fw z) (some (.int 0), (fw z)) := by
  refine ru_of (k := 0) (M := pm_153) rfl rfl ?_
  exact go_end 6 (fun _ _ => rfl)
theorem ro_452 (z : pq_C) : pq_Ru 1 247 [.ref 90, .int 2] (fw z) (some (.int 0), (fw z)) := by
  refine ru_of (k := 0) (M := pm_247) rfl rfl ?_
  refine go_seg 8 (pc' := 114) (ls' := [(2, .int 0), (0, .ref 90), (1, .int 2)]) (st' := [.int 0]) (w' := (fw z)) (cs' := 0) (ss' := 0) ?_ (fun _ _ => rfl)
  exact go_end 1 (fun _ _ => rfl)
theorem lf_39_453 (a0 : Int32) (a2 : Int32) (a3 : Int32) (a4 : Int32) (a5 : Int32) : ∃ w', pq_Go 20 pm_law 1621 [(3, .int 0), (2, .ref 90), (1, .ref 1), (0, .ref 0)] [] (fw (sz a0 2 a2 a3 a4 a5)) 109 12668 (some (.int 1), w') := by
  refine ⟨(fw (sz a0 2 a2 a3 a4 a5)), ?_⟩
  refine go_seg 6 (pc' := 1627) (ls' := [(3, .int 0), (2, .ref 90), (1, .ref 1), (0, .ref 0)]) (st' := [.int 2, .ref 1]) (w' := (fw (sz a0 2 a2 a3 a4 a5))) (cs' := 109) (ss' := 12668) ?_ (fun _ _ => rfl)
  refine go_cl (k := 20) (st' := [.int 0]) (cs' := 109) (ss' := 12668) rfl rfl rfl rfl rfl rfl rfl (ro_451 (sz a0 2 a2 a3 a4 a5)) ?_
  refine go_seg 6 (pc' := 1636) (ls' := [(3, .int 0), (2, .ref 90), (1, .ref 1), (0, .ref 0)]) (st' := [.int 2, .ref 90, .int 0]) (w' := (fw (sz a0 2 a2 a3 a4 a5))) (cs' := 109) (ss' := 12668) ?_ (fun _ _ => rfl)
  refine go_cl (k := 20) (st' := [.int 0, .int 0]) (cs' := 109) (ss' := 12668) rfl rfl rfl rfl rfl rfl rfl (ro_452 (sz a0 2 a2 a3 a4 a5)) ?_
  refine go_cmp true rfl (br_self _) ?_
  exact law_tail (f := sc a0 2 a2 a3 a4 a5) rfl
theorem ro_454 (z : pq_C) : pq_Ru 1 153 [.ref 1, .int 3] (fw z) (some (.int 0), (fw z)) := by
  refine ru_of (k := 0) (M := pm_153) rfl rfl ?_
  exact go_end 6 (fun _ _ => rfl)
theorem ro_455 (z : pq_C) : pq_Ru 1 247 [.ref 90, .int 3] (fw z) (some (.int 0), (fw z)) := by
  refine ru_of (k := 0) (M := pm_247) rfl rfl ?_
  refine go_seg 8 (pc' := 121) (ls' := [(2, .int 0), (0, .ref 90), (1, .int 3)]) (st' := [.int 0]) (w' := (fw z)) (cs' := 0) (ss' := 0) ?_ (fun _ _ => rfl)
  exact go_end 1 (fun _ _ => rfl)
theorem lf_39_456 (a0 : Int32) (a2 : Int32) (a3 : Int32) (a4 : Int32) (a5 : Int32) : ∃ w', pq_Go 20 pm_law 1621 [(3, .int 0), (2, .ref 90), (1, .ref 1), (0, .ref 0)] [] (fw (sz a0 3 a2 a3 a4 a5)) 109 12668 (some (.int 1), w') := by
  refine ⟨(fw (sz a0 3 a2 a3 a4 a5)), ?_⟩
  refine go_seg 6 (pc' := 1627) (ls' := [(3, .int 0), (2, .ref 90), (1, .ref 1), (0, .ref 0)]) (st' := [.int 3, .ref 1]) (w' := (fw (sz a0 3 a2 a3 a4 a5))) (cs' := 109) (ss' := 12668) ?_ (fun _ _ => rfl)
  refine go_cl (k := 20) (st' := [.int 0]) (cs' := 109) (ss' := 12668) rfl rfl rfl rfl rfl rfl rfl (ro_454 (sz a0 3 a2 a3 a4 a5)) ?_
  refine go_seg 6 (pc' := 1636) (ls' := [(3, .int 0), (2, .ref 90), (1, .ref 1), (0, .ref 0)]) (st' := [.int 3, .ref 90, .int 0]) (w' := (fw (sz a0 3 a2 a3 a4 a5))) (cs' := 109) (ss' := 12668) ?_ (fun _ _ => rfl)
  refine go_cl (k := 20) (st' := [.int 0, .int 0]) (cs' := 109) (ss' := 12668) rfl rfl rfl rfl rfl rfl rfl (ro_455 (sz a0 3 a2 a3 a4 a5)) ?_
  refine go_cmp true rfl (br_self _) ?_
  exact law_tail (f := sc a0 3 a2 a3 a4 a5) rfl
theorem ro_457 (z : pq_C) : pq_Ru 1 153 [.ref 1, .int 4] (fw z) (some (.int 0), (fw z)) := by
  refine ru_of (k := 0) (M := pm_153) rfl rfl ?_
  exact go_end 6 (fun _ _ => rfl)
theorem ro_458 (z : pq_C) : pq_Ru 1 247 [.ref 90, .int 4] (fw z) (some (.int 0), (fw z)) := by
  refine ru_of (k := 0) (M := pm_247) rfl rfl ?_
  refine go_seg 8 (pc' := 128) (ls' := [(2, .int 0), (0, .ref 90), (1, .int 4)]) (st' := [.int 0]) (w' := (fw z)) (cs' := 0) (ss' := 0) ?_ (fun _ _ => rfl)
  exact go_end 1 (fun _ _ => rfl)
theorem lf_39_459 (a0 : Int32) (a2 : Int32) (a3 : Int32) (a4 : Int32) (a5 : Int32) : ∃ w', pq_Go 20 pm_law 1621 [(3, .int 0), (2, .ref 90), (1, .ref 1), (0, .ref 0)] [] (fw (sz a0 4 a2 a3 a4 a5)) 109 12668 (some (.int 1), w') := by
  refine ⟨(fw (sz a0 4 a2 a3 a4 a5)), ?_⟩
  refine go_seg 6 (pc' := 1627) (ls' := [(3, .int 0), (2, .ref 90), (1, .ref 1), (0, .ref 0)]) (st' := [.int 4, .ref 1]) (w' := (fw (sz a0 4 a2 a3 a4 a5))) (cs' := 109) (ss' := 12668) ?_ (fun _ _ => rfl)
  refine go_cl (k := 20) (st' := [.int 0]) (cs' := 109) (ss' := 12668) rfl rfl rfl rfl rfl rfl rfl (ro_457 (sz a0 4 a2 a3 a4 a5)) ?_
  refine go_seg 6 (pc' := 1636) (ls' := [(3, .int 0), (2, .ref 90), (1, .ref 1), (0, .ref 0)]) (st' := [.int 4, .ref 90, .int 0]) (w' := (fw (sz a0 4 a2 a3 a4 a5))) (cs' := 109) (ss' := 12668) ?_ (fun _ _ => rfl)
  refine go_cl (k := 20) (st' := [.int 0, .int 0]) (cs' := 109) (ss' := 12668) rfl rfl rfl rfl rfl rfl rfl (ro_458 (sz a0 4 a2 a3 a4 a5)) ?_
  refine go_cmp true rfl (br_self _) ?_
  exact law_tail (f := sc a0 4 a2 a3 a4 a5) rfl
theorem ro_460 (z : pq_C) : pq_Ru 1 155 [.ref 25] (fw z) (some (.int 0), (fw z)) := by
  refine ru_of (k := 0) (M := pm_155) rfl rfl ?_
  refine go_seg 8 (pc' := 36) (ls' := [(2, .int 0), (1, .int 0), (0, .ref 25)]) (st' := []) (w' := (fw z)) (cs' := 0) (ss' := 0) ?_ (fun _ _ => rfl)
  exact go_end 2 (fun _ _ => rfl)
theorem ro_461 (z : pq_C) : pq_Ru 2 153 [.ref 1, .int 5] (fw z) (some (.int 0), (fw z)) := by
  refine ru_of (k := 1) (M := pm_153) rfl rfl ?_
  refine go_seg 4 (pc' := 112) (ls' := [(0, .ref 1), (1, .int 5)]) (st' := [.ref 25]) (w' := (fw z)) (cs' := 0) (ss' := 0) ?_ (fun _ _ => rfl)
  refine go_cl (k := 1) (st' := [.int 0]) (cs' := 0) (ss' := 0) rfl rfl rfl rfl rfl rfl rfl (ro_460 z) ?_
  exact go_end 1 (fun _ _ => rfl)
theorem ro_462 (z : pq_C) : pq_Ru 1 247 [.ref 90, .int 5] (fw z) (some (.int 0), (fw z)) := by
  refine ru_of (k := 0) (M := pm_247) rfl rfl ?_
  refine go_seg 8 (pc' := 133) (ls' := [(3, .int 0), (2, .int 0), (0, .ref 90), (1, .int 5)]) (st' := [.ref 90, .int 0]) (w' := (fw z)) (cs' := 0) (ss' := 0) ?_ (fun _ _ => rfl)
  exact go_end 6 (fun _ _ => rfl)
theorem lf_39_463 (a0 : Int32) (a2 : Int32) (a3 : Int32) (a4 : Int32) (a5 : Int32) : ∃ w', pq_Go 20 pm_law 1621 [(3, .int 0), (2, .ref 90), (1, .ref 1), (0, .ref 0)] [] (fw (sz a0 5 a2 a3 a4 a5)) 109 12668 (some (.int 1), w') := by
  refine ⟨(fw (sz a0 5 a2 a3 a4 a5)), ?_⟩
  refine go_seg 6 (pc' := 1627) (ls' := [(3, .int 0), (2, .ref 90), (1, .ref 1), (0, .ref 0)]) (st' := [.int 5, .ref 1]) (w' := (fw (sz a0 5 a2 a3 a4 a5))) (cs' := 109) (ss' := 12668) ?_ (fun _ _ => rfl)
  refine go_cl (k := 20) (st' := [.int 0]) (cs' := 109) (ss' := 12668) rfl rfl rfl rfl rfl rfl rfl (ro_461 (sz a0 5 a2 a3 a4 a5)) ?_
  refine go_seg 6 (pc' := 1636) (ls' := [(3, .int 0), (2, .ref 90), (1, .ref 1), (0, .ref 0)]) (st' := [.int 5, .ref 90, .int 0]) (w' := (fw (sz a0 5 a2 a3 a4 a5))) (cs' := 109) (ss' := 12668) ?_ (fun _ _ => rfl)
  refine go_cl (k := 20) (st' := [.int 0, .int 0]) (cs' := 109) (ss' := 12668) rfl rfl rfl rfl rfl rfl rfl (ro_462 (sz a0 5 a2 a3 a4 a5)) ?_
  refine go_cmp true rfl (br_self _) ?_
  exact law_tail (f := sc a0 5 a2 a3 a4 a5) rfl
theorem ro_464 (z : pq_C) : pq_Ru 1 153 [.ref 1, .int 6] (fw z) (some (.int 0), (fw z)) := by
  refine ru_of (k := 0) (M := pm_153) rfl rfl ?_
  exact go_end 6 (fun _ _ => rfl)
theorem ro_465 (z : pq_C) : pq_Ru 1 247 [.ref 90, .int 6] (fw z) (some (.int 0), (fw z)) := by
  refine ru_of (k := 0) (M := pm_247) rfl rfl ?_
  refine go_seg 8 (pc' := 172) (ls' := [(2, .int 0), (0, .ref 90), (1, .int 6)]) (st' := [.int 0]) (w' := (fw z)) (cs' := 0) (ss' := 0) ?_ (fun _ _ => rfl)
  exact go_end 1 (fun _ _ => rfl)
theorem lf_39_466 (a0 : Int32) (a2 : Int32) (a3 : Int32) (a4 : Int32) (a5 : Int32) : ∃ w', pq_Go 20 pm_law 1621 [(3, .int 0), (2, .ref 90), (1, .ref 1), (0, .ref 0)] [] (fw (sz a0 6 a2 a3 a4 a5)) 109 12668 (some (.int 1), w') := by
  refine ⟨(fw (sz a0 6 a2 a3 a4 a5)), ?_⟩
  refine go_seg 6 (pc' := 1627) (ls' := [(3, .int 0), (2, .ref 90), (1, .ref 1), (0, .ref 0)]) (st' := [.int 6, .ref 1]) (w' := (fw (sz a0 6 a2 a3 a4 a5))) (cs' := 109) (ss' := 12668) ?_ (fun _ _ => rfl)
  refine go_cl (k := 20) (st' := [.int 0]) (cs' := 109) (ss' := 12668) rfl rfl rfl rfl rfl rfl rfl (ro_464 (sz a0 6 a2 a3 a4 a5)) ?_
  refine go_seg 6 (pc' := 1636) (ls' := [(3, .int 0), (2, .ref 90), (1, .ref 1), (0, .ref 0)]) (st' := [.int 6, .ref 90, .int 0]) (w' := (fw (sz a0 6 a2 a3 a4 a5))) (cs' := 109) (ss' := 12668) ?_ (fun _ _ => rfl)
  refine go_cl (k := 20) (st' := [.int 0, .int 0]) (cs' := 109) (ss' := 12668) rfl rfl rfl rfl rfl rfl rfl (ro_465 (sz a0 6 a2 a3 a4 a5)) ?_
  refine go_cmp true rfl (br_self _) ?_
  exact law_tail (f := sc a0 6 a2 a3 a4 a5) rfl
theorem ro_467 (z : pq_C) : pq_Ru 1 153 [.ref 1, .int 7] (fw z) (some (.int 0), (fw z)) := by
  refine ru_of (k := 0) (M := pm_153) rfl rfl ?_
  exact go_end 6 (fun _ _ => rfl)
theorem ro_468 (z : pq_C) : pq_Ru 1 247 [.ref 90, .int 7] (fw z) (some (.int 0), (fw z)) := by
  refine ru_of (k := 0) (M := pm_247) rfl rfl ?_
  refine go_seg 8 (pc' := 179) (ls' := [(2, .int 0), (0, .ref 90), (1, .int 7)]) (st' := [.int 0]) (w' := (fw z)) (cs' := 0) (ss' := 0) ?_ (fun _ _ => rfl)
  exact go_end 1 (fun _ _ => rfl)
theorem lf_39_469 (a0 : Int32) (a2 : Int32) (a3 : Int32) (a4 : Int32) (a5 : Int32) : ∃ w', pq_Go 20 pm_law 1621 [(3, .int 0), (2, .ref 90), (1, .ref 1), (0, .ref 0)] [] (fw (sz a0 7 a2 a3 a4 a5)) 109 12668 (some (.int 1), w') := by
  refine ⟨(fw (sz a0 7 a2 a3 a4 a5)), ?_⟩
  refine go_seg 6 (pc' := 1627) (ls' := [(3, .int 0), (2, .ref 90), (1, .ref 1), (0, .ref 0)]) (st' := [.int 7, .ref 1]) (w' := (fw (sz a0 7 a2 a3 a4 a5))) (cs' := 109) (ss' := 12668) ?_ (fun _ _ => rfl)
  refine go_cl (k := 20) (st' := [.int 0]) (cs' := 109) (ss' := 12668) rfl rfl rfl rfl rfl rfl rfl (ro_467 (sz a0 7 a2 a3 a4 a5)) ?_
  refine go_seg 6 (pc' := 1636) (ls' := [(3, .int 0), (2, .ref 90), (1, .ref 1), (0, .ref 0)]) (st' := [.int 7, .ref 90, .int 0]) (w' := (fw (sz a0 7 a2 a3 a4 a5))) (cs' := 109) (ss' := 12668) ?_ (fun _ _ => rfl)
  refine go_cl (k := 20) (st' := [.int 0, .int 0]) (cs' := 109) (ss' := 12668) rfl rfl rfl rfl rfl rfl rfl (ro_468 (sz a0 7 a2 a3 a4 a5)) ?_
  refine go_cmp true rfl (br_self _) ?_
  exact law_tail (f := sc a0 7 a2 a3 a4 a5) rfl
theorem ro_470 (z : pq_C) : pq_Ru 1 153 [.ref 1, .int 8] (fw z) (some (.int 0), (fw z)) := by
  refine ru_of (k := 0) (M := pm_153) rfl rfl ?_
  exact go_end 6 (fun _ _ => rfl)
theorem ro_471 (z : pq_C) : pq_Ru 1 247 [.ref 90, .int 8] (fw z) (some (.int 0), (fw z)) := by
  refine ru_of (k := 0) (M := pm_247) rfl rfl ?_
  refine go_seg 8 (pc' := 187) (ls' := [(2, .int 0), (0, .ref 90), (1, .int 8)]) (st' := [.int 0]) (w' := (fw z)) (cs' := 0) (ss' := 0) ?_ (fun _ _ => rfl)
  exact go_end 1 (fun _ _ => rfl)
theorem lf_39_472 (a0 : Int32) (a2 : Int32) (a3 : Int32) (a4 : Int32) (a5 : Int32) : ∃ w', pq_Go 20 pm_law 1621 [(3, .int 0), (2, .ref 90), (1, .ref 1), (0, .ref 0)] [] (fw (sz a0 8 a2 a3 a4 a5)) 109 12668 (some (.int 1), w') := by
  refine ⟨(fw (sz a0 8 a2 a3 a4 a5)), ?_⟩
  refine go_seg 6 (pc' := 1627) (ls' := [(3, .int 0), (2, .ref 90), (1, .ref 1), (0, .ref 0)]) (st' := [.int 8, .ref 1]) (w' := (fw (sz a0 8 a2 a3 a4 a5))) (cs' := 109) (ss' := 12668) ?_ (fun _ _ => rfl)
  refine go_cl (k := 20) (st' := [.int 0]) (cs' := 109) (ss' := 12668) rfl rfl rfl rfl rfl rfl rfl (ro_470 (sz a0 8 a2 a3 a4 a5)) ?_
  refine go_seg 6 (pc' := 1636) (ls' := [(3, .int 0), (2, .ref 90), (1, .ref 1), (0, .ref 0)]) (st' := [.int 8, .ref 90, .int 0]) (w' := (fw (sz a0 8 a2 a3 a4 a5))) (cs' := 109) (ss' := 12668) ?_ (fun _ _ => rfl)
  refine go_cl (k := 20) (st' := [.int 0, .int 0]) (cs' := 109) (ss' := 12668) rfl rfl rfl rfl rfl rfl rfl (ro_471 (sz a0 8 a2 a3 a4 a5)) ?_
  refine go_cmp true rfl (br_self _) ?_
  exact law_tail (f := sc a0 8 a2 a3 a4 a5) rfl
theorem ro_473 (z : pq_C) : pq_Ru 1 156 [.ref 14] (fw z) (some (.int 0), (fw z)) := by
  refine ru_of (k := 0) (M := pm_156) rfl rfl ?_
  refine go_seg 8 (pc' := 10) (ls' := [(2, .int 0), (1, .int 0), (0, .ref 14)]) (st' := []) (w' := (fw z)) (cs' := 0) (ss' := 0) ?_ (fun _ _ => rfl)
  refine go_seg 8 (pc' := 4) (ls' := [(2, .int 1), (1, .int 0), (0, .ref 14)]) (st' := []) (w' := (fw z)) (cs' := 0) (ss' := 0) ?_ (fun _ _ => rfl)
  refine go_seg 8 (pc' := 14) (ls' := [(2, .int 1), (1, .int 0), (0, .ref 14)]) (st' := [.int 0, .int 0]) (w' := (fw z)) (cs' := 0) (ss' := 0) ?_ (fun _ _ => rfl)
  refine go_seg 8 (pc' := 10) (ls' := [(2, .int 2), (1, .int 0), (0, .ref 14)]) (st' := []) (w' := (fw z)) (cs' := 0) (ss' := 0) ?_ (fun _ _ => rfl)
  refine go_seg 8 (pc' := 4) (ls' := [(2, .int 3), (1, .int 0), (0, .ref 14)]) (st' := []) (w' := (fw z)) (cs' := 0) (ss' := 0) ?_ (fun _ _ => rfl)
  refine go_seg 8 (pc' := 14) (ls' := [(2, .int 3), (1, .int 0), (0, .ref 14)]) (st' := [.int 0, .int 0]) (w' := (fw z)) (cs' := 0) (ss' := 0) ?_ (fun _ _ => rfl)
  refine go_seg 8 (pc' := 10) (ls' := [(2, .int 4), (1, .int 0), (0, .ref 14)]) (st' := []) (w' := (fw z)) (cs' := 0) (ss' := 0) ?_ (fun _ _ => rfl)
  refine go_seg 8 (pc' := 4) (ls' := [(2, .int 5), (1, .int 0), (0, .ref 14)]) (st' := []) (w' := (fw z)) (cs' := 0) (ss' := 0) ?_ (fun _ _ => rfl)
  refine go_seg 8 (pc' := 14) (ls' := [(2, .int 5), (1, .int 0), (0, .ref 14)]) (st' := [.int 0, .int 0]) (w' := (fw z)) (cs' := 0) (ss' := 0) ?_ (fun _ _ => rfl)
  refine go_seg 8 (pc' := 10) (ls' := [(2, .int 6), (1, .int 0), (0, .ref 14)]) (st' := []) (w' := (fw z)) (cs' := 0) (ss' := 0) ?_ (fun _ _ => rfl)
  refine go_seg 8 (pc' := 4) (ls' := [(2, .int 7), (1, .int 0), (0, .ref 14)]) (st' := []) (w' := (fw z)) (cs' := 0) (ss' := 0) ?_ (fun _ _ => rfl)
  refine go_seg 8 (pc' := 14) (ls' := [(2, .int 7), (1, .int 0), (0, .ref 14)]) (st' := [.int 0, .int 0]) (w' := (fw z)) (cs' := 0) (ss' := 0) ?_ (fun _ _ => rfl)
  refine go_seg 8 (pc' := 10) (ls' := [(2, .int 8), (1, .int 0), (0, .ref 14)]) (st' := []) (w' := (fw z)) (cs' := 0) (ss' := 0) ?_ (fun _ _ => rfl)
  refine go_seg 8 (pc' := 4) (ls' := [(2, .int 9), (1, .int 0), (0, .ref 14)]) (st' := []) (w' := (fw z)) (cs' := 0) (ss' := 0) ?_ (fun _ _ => rfl)
  refine go_seg 8 (pc' := 14) (ls' := [(2, .int 9), (1, .int 0), (0, .ref 14)]) (st' := [.int 0, .int 0]) (w' := (fw z)) (cs' := 0) (ss' := 0) ?_ (fun _ _ => rfl)
  refine go_seg 8 (pc' := 10) (ls' := [(2, .int 10), (1, .int 0), (0, .ref 14)]) (st' := []) (w' := (fw z)) (cs' := 0) (ss' := 0) ?_ (fun _ _ => rfl)
  refine go_seg 8 (pc' := 4) (ls' := [(2, .int 11), (1, .int 0), (0, .ref 14)]) (st' := []) (w' := (fw z)) (cs' := 0) (ss' := 0) ?_ (fun _ _ => rfl)
  refine go_seg 8 (pc' := 14) (ls' := [(2, .int 11), (1, .int 0), (0, .ref 14)]) (st' := [.int 0, .int 0]) (w' := (fw z)) (cs' := 0) (ss' := 0) ?_ (fun _ _ => rfl)
  refine go_seg 8 (pc' := 10) (ls' := [(2, .int 12), (1, .int 0), (0, .ref 14)]) (st' := []) (w' := (fw z)) (cs' := 0) (ss' := 0) ?_ (fun _ _ => rfl)
  refine go_seg 8 (pc' := 4) (ls' := [(2, .int 13), (1, .int 0), (0, .ref 14)]) (st' := []) (w' := (fw z)) (cs' := 0) (ss' := 0) ?_ (fun _ _ => rfl)
  refine go_seg 8 (pc' := 14) (ls' := [(2, .int 13), (1, .int 0), (0, .ref 14)]) (st' := [.int 0, .int 0]) (w' := (fw z)) (cs' := 0) (ss' := 0) ?_ (fun _ _ => rfl)
  refine go_seg 8 (pc' := 10) (ls' := [(2, .int 14), (1, .int 0), (0, .ref 14)]) (st' := []) (w' := (fw z)) (cs' := 0) (ss' := 0) ?_ (fun _ _ => rfl)
  refine go_seg 8 (pc' := 4) (ls' := [(2, .int 15), (1, .int 0), (0, .ref 14)]) (st' := []) (w' := (fw z)) (cs' := 0) (ss' := 0) ?_ (fun _ _ => rfl)
  refine go_seg 8 (pc' := 14) (ls' := [(2, .int 15), (1, .int 0), (0, .ref 14)]) (st' := [.int 0, .int 0]) (w' := (fw z)) (cs' := 0) (ss' := 0) ?_ (fun _ _ => rfl)
  refine go_seg 8 (pc' := 10) (ls' := [(2, .int 16), (1, .int 0), (0, .ref 14)]) (st' := []) (w' := (fw z)) (cs' := 0) (ss' := 0) ?_ (fun _ _ => rfl)
  refine go_seg 8 (pc' := 4) (ls' := [(2, .int 17), (1, .int 0), (0, .ref 14)]) (st' := []) (w' := (fw z)) (cs' := 0) (ss' := 0) ?_ (fun _ _ => rfl)
  refine go_seg 8 (pc' := 14) (ls' := [(2, .int 17), (1, .int 0), (0, .ref 14)]) (st' := [.int 0, .int 0]) (w' := (fw z)) (cs' := 0) (ss' := 0) ?_ (fun _ _ => rfl)
  refine go_seg 8 (pc' := 10) (ls' := [(2, .int 18), (1, .int 0), (0, .ref 14)]) (st' := []) (w' := (fw z)) (cs' := 0) (ss' := 0) ?_ (fun _ _ => rfl)
  refine go_seg 8 (pc' := 4) (ls' := [(2, .int 19), (1, .int 0), (0, .ref 14)]) (st' := []) (w' := (fw z)) (cs' := 0) (ss' := 0) ?_ (fun _ _ => rfl)
  refine go_seg 8 (pc' := 14) (ls' := [(2, .int 19), (1, .int 0), (0, .ref 14)]) (st' := [.int 0, .int 0]) (w' := (fw z)) (cs' := 0) (ss' := 0) ?_ (fun _ _ => rfl)
  refine go_seg 8 (pc' := 10) (ls' := [(2, .int 20), (1, .int 0), (0, .ref 14)]) (st' := []) (w' := (fw z)) (cs' := 0) (ss' := 0) ?_ (fun _ _ => rfl)
  refine go_seg 8 (pc' := 4) (ls' := [(2, .int 21), (1, .int 0), (0, .ref 14)]) (st' := []) (w' := (fw z)) (cs' := 0) (ss' := 0) ?_ (fun _ _ => rfl)
  refine go_seg 8 (pc' := 14) (ls' := [(2, .int 21), (1, .int 0), (0, .ref 14)]) (st' := [.int 0, .int 0]) (w' := (fw z)) (cs' := 0) (ss' := 0) ?_ (fun _ _ => rfl)
  refine go_seg 8 (pc' := 10) (ls' := [(2, .int 22), (1, .int 0), (0, .ref 14)]) (st' := []) (w' := (fw z)) (cs' := 0) (ss' := 0) ?_ (fun _ _ => rfl)
  refine go_seg 8 (pc' := 4) (ls' := [(2, .int 23), (1, .int 0), (0, .ref 14)]) (st' := []) (w' := (fw z)) (cs' := 0) (ss' := 0) ?_ (fun _ _ => rfl)
  refine go_seg 8 (pc' := 14) (ls' := [(2, .int 23), (1, .int 0), (0, .ref 14)]) (st' := [.int 0, .int 0]) (w' := (fw z)) (cs' := 0) (ss' := 0) ?_ (fun _ _ => rfl)
  refine go_seg 8 (pc' := 10) (ls' := [(2, .int 24), (1, .int 0), (0, .ref 14)]) (st' := []) (w' := (fw z)) (cs' := 0) (ss' := 0) ?_ (fun _ _ => rfl)
  refine go_seg 8 (pc' := 4) (ls' := [(2, .int 25), (1, .int 0), (0, .ref 14)]) (st' := []) (w' := (fw z)) (cs' := 0) (ss' := 0) ?_ (fun _ _ => rfl)
  refine go_seg 8 (pc' := 14) (ls' := [(2, .int 25), (1, .int 0), (0, .ref 14)]) (st' := [.int 0, .int 0]) (w' := (fw z)) (cs' := 0) (ss' := 0) ?_ (fun _ _ => rfl)
  refine go_seg 8 (pc' := 10) (ls' := [(2, .int 26), (1, .int 0), (0, .ref 14)]) (st' := []) (w' := (fw z)) (cs' := 0) (ss' := 0) ?_ (fun _ _ => rfl)
  refine go_seg 8 (pc' := 4) (ls' := [(2, .int 27), (1, .int 0), (0, .ref 14)]) (st' := []) (w' := (fw z)) (cs' := 0) (ss' := 0) ?_ (fun _ _ => rfl)
  refine go_seg 8 (pc' := 14) (ls' := [(2, .int 27), (1, .int 0), (0, .ref 14)]) (st' := [.int 0, .int 0]) (w' := (fw z)) (cs' := 0) (ss' := 0) ?_ (fun _ _ => rfl)
  refine go_seg 8 (pc' := 10) (ls' := [(2, .int 28), (1, .int 0), (0, .ref 14)]) (st' := []) (w' := (fw z)) (cs' := 0) (ss' := 0) ?_ (fun _ _ => rfl)
  refine go_seg 8 (pc' := 4) (ls' := [(2, .int 29), (1, .int 0), (0, .ref 14)]) (st' := []) (w' := (fw z)) (cs' := 0) (ss' := 0) ?_ (fun _ _ => rfl)
  refine go_seg 8 (pc' := 14) (ls' := [(2, .int 29), (1, .int 0), (0, .ref 14)]) (st' := [.int 0, .int 0]) (w' := (fw z)) (cs' := 0) (ss' := 0) ?_ (fun _ _ => rfl)
  refine go_seg 8 (pc' := 10) (ls' := [(2, .int 30), (1, .int 0), (0, .ref 14)]) (st' := []) (w' := (fw z)) (cs' := 0) (ss' := 0) ?_ (fun _ _ => rfl)
  refine go_seg 8 (pc' := 4) (ls' := [(2, .int 31), (1, .int 0), (0, .ref 14)]) (st' := []) (w' := (fw z)) (cs' := 0) (ss' := 0) ?_ (fun _ _ => rfl)
  refine go_seg 8 (pc' := 14) (ls' := [(2, .int 31), (1, .int 0), (0, .ref 14)]) (st' := [.int 0, .int 0]) (w' := (fw z)) (cs' := 0) (ss' := 0) ?_ (fun _ _ => rfl)
  refine go_seg 8 (pc' := 10) (ls' := [(2, .int 32), (1, .int 0), (0, .ref 14)]) (st' := []) (w' := (fw z)) (cs' := 0) (ss' := 0) ?_ (fun _ _ => rfl)
  refine go_seg 8 (pc' := 4) (ls' := [(2, .int 33), (1, .int 0), (0, .ref 14)]) (st' := []) (w' := (fw z)) (cs' := 0) (ss' := 0) ?_ (fun _ _ => rfl)
  refine go_seg 8 (pc' := 14) (ls' := [(2, .int 33), (1, .int 0), (0, .ref 14)]) (st' := [.int 0, .int 0]) (w' := (fw z)) (cs' := 0) (ss' := 0) ?_ (fun _ _ => rfl)
  refine go_seg 8 (pc' := 10) (ls' := [(2, .int 34), (1, .int 0), (0, .ref 14)]) (st' := []) (w' := (fw z)) (cs' := 0) (ss' := 0) ?_ (fun _ _ => rfl)
  refine go_seg 8 (pc' := 4) (ls' := [(2, .int 35), (1, .int 0), (0, .ref 14)]) (st' := []) (w' := (fw z)) (cs' := 0) (ss' := 0) ?_ (fun _ _ => rfl)
  refine go_seg 8 (pc' := 14) (ls' := [(2, .int 35), (1, .int 0), (0, .ref 14)]) (st' := [.int 0, .int 0]) (w' := (fw z)) (cs' := 0) (ss' := 0) ?_ (fun _ _ => rfl)
  refine go_seg 8 (pc' := 10) (ls' := [(2, .int 36), (1, .int 0), (0, .ref 14)]) (st' := []) (w' := (fw z)) (cs' := 0) (ss' := 0) ?_ (fun _ _ => rfl)
  refine go_seg 8 (pc' := 4) (ls' := [(2, .int 37), (1, .int 0), (0, .ref 14)]) (st' := []) (w' := (fw z)) (cs' := 0) (ss' := 0) ?_ (fun _ _ => rfl)
  refine go_seg 8 (pc' := 14) (ls' := [(2, .int 37), (1, .int 0), (0, .ref 14)]) (st' := [.int 0, .int 0]) (w' := (fw z)) (cs' := 0) (ss' := 0) ?_ (fun _ _ => rfl)
  refine go_seg 8 (pc' := 10) (ls' := [(2, .int 38), (1, .int 0), (0, .ref 14)]) (st' := []) (w' := (fw z)) (cs' := 0) (ss' := 0) ?_ (fun _ _ => rfl)
  refine go_seg 8 (pc' := 4) (ls' := [(2, .int 39), (1, .int 0), (0, .ref 14)]) (st' := []) (w' := (fw z)) (cs' := 0) (ss' := 0) ?_ (fun _ _ => rfl)
  refine go_seg 8 (pc' := 14) (ls' := [(2, .int 39), (1, .int 0), (0, .ref 14)]) (st' := [.int 0, .int 0]) (w' := (fw z)) (cs' := 0) (ss' := 0) ?_ (fun _ _ => rfl)
  refine go_seg 8 (pc' := 10) (ls' := [(2, .int 40), (1, .int 0), (0, .ref 14)]) (st' := []) (w' := (fw z)) (cs' := 0) (ss' := 0) ?_ (fun _ _ => rfl)
  refine go_seg 8 (pc' := 4) (ls' := [(2, .int 41), (1, .int 0), (0, .ref 14)]) (st' := []) (w' := (fw z)) (cs' := 0) (ss' := 0) ?_ (fun _ _ => rfl)
  refine go_seg 8 (pc' := 14) (ls' := [(2, .int 41), (1, .int 0), (0, .ref 14)]) (st' := [.int 0, .int 0]) (w' := (fw z)) (cs' := 0) (ss' := 0) ?_ (fun _ _ => rfl)
  refine go_seg 8 (pc' := 10) (ls' := [(2, .int 42), (1, .int 0), (0, .ref 14)]) (st' := []) (w' := (fw z)) (cs' := 0) (ss' := 0) ?_ (fun _ _ => rfl)
  refine go_seg 8 (pc' := 4) (ls' := [(2, .int 43), (1, .int 0), (0, .ref 14)]) (st' := []) (w' := (fw z)) (cs' := 0) (ss' := 0) ?_ (fun _ _ => rfl)
  refine go_seg 8 (pc' := 14) (ls' := [(2, .int 43), (1, .int 0), (0, .ref 14)]) (st' := [.int 0, .int 0]) (w' := (fw z)) (cs' := 0) (ss' := 0) ?_ (fun _ _ => rfl)
  refine go_seg 8 (pc' := 10) (ls' := [(2, .int 44), (1, .int 0), (0, .ref 14)]) (st' := []) (w' := (fw z)) (cs' := 0) (ss' := 0) ?_ (fun _ _ => rfl)
  refine go_seg 8 (pc' := 4) (ls' := [(2, .int 45), (1, .int 0), (0, .ref 14)]) (st' := []) (w' := (fw z)) (cs' := 0) (ss' := 0) ?_ (fun _ _ => rfl)
  refine go_seg 8 (pc' := 14) (ls' := [(2, .int 45), (1, .int 0), (0, .ref 14)]) (st' := [.int 0, .int 0]) (w' := (fw z)) (cs' := 0) (ss' := 0) ?_ (fun _ _ => rfl)
  refine go_seg 8 (pc' := 10) (ls' := [(2, .int 46), (1, .int 0), (0, .ref 14)]) (st' := []) (w' := (fw z)) (cs' := 0) (ss' := 0) ?_ (fun _ _ => rfl)
  refine go_seg 8 (pc' := 4) (ls' := [(2, .int 47), (1, .int 0), (0, .ref 14)]) (st' := []) (w' := (fw z)) (cs' := 0) (ss' := 0) ?_ (fun _ _ => rfl)
  refine go_seg 8 (pc' := 14) (ls' := [(2, .int 47), (1, .int 0), (0, .ref 14)]) (st' := [.int 0, .int 0]) (w' := (fw z)) (cs' := 0) (ss' := 0) ?_ (fun _ _ => rfl)
  refine go_seg 8 (pc' := 10) (ls' := [(2, .int 48), (1, .int 0), (0, .ref 14)]) (st' := []) (w' := (fw z)) (cs' := 0) (ss' := 0) ?_ (fun _ _ => rfl)
  refine go_seg 8 (pc' := 4) (ls' := [(2, .int 49), (1, .int 0), (0, .ref 14)]) (st' := []) (w' := (fw z)) (cs' := 0) (ss' := 0) ?_ (fun _ _ => rfl)
  refine go_seg 8 (pc' := 14) (ls' := [(2, .int 49), (1, .int 0), (0, .ref 14)]) (st' := [.int 0, .int 0]) (w' := (fw z)) (cs' := 0) (ss' := 0) ?_ (fun _ _ => rfl)
  refine go_seg 8 (pc' := 10) (ls' := [(2, .int 50), (1, .int 0), (0, .ref 14)]) (st' := []) (w' := (fw z)) (cs' := 0) (ss' := 0) ?_ (fun _ _ => rfl)
  refine go_seg 8 (pc' := 4) (ls' := [(2, .int 51), (1, .int 0), (0, .ref 14)]) (st' := []) (w' := (fw z)) (cs' := 0) (ss' := 0) ?_ (fun _ _ => rfl)
  refine go_seg 8 (pc' := 14) (ls' := [(2, .int 51), (1, .int 0), (0, .ref 14)]) (st' := [.int 0, .int 0]) (w' := (fw z)) (cs' := 0) (ss' := 0) ?_ (fun _ _ => rfl)
  refine go_seg 8 (pc' := 10) (ls' := [(2, .int 52), (1, .int 0), (0, .ref 14)]) (st' := []) (w' := (fw z)) (cs' := 0) (ss' := 0) ?_ (fun _ _ => rfl)
  refine go_seg 8 (pc' := 4) (ls' := [(2, .int 53), (1, .int 0), (0, .ref 14)]) (st' := []) (w' := (fw z)) (cs' := 0) (ss' := 0) ?_ (fun _ _ => rfl)
  refine go_seg 8 (pc' := 14) (ls' := [(2, .int 53), (1, .int 0), (0, .ref 14)]) (st' := [.int 0, .int 0]) (w' := (fw z)) (cs' := 0) (ss' := 0) ?_ (fun _ _ => rfl)
  refine go_seg 8 (pc' := 10) (ls' := [(2, .int 54), (1, .int 0), (0, .ref 14)]) (st' := []) (w' := (fw z)) (cs' := 0) (ss' := 0) ?_ (fun _ _ => rfl)
  refine go_seg 8 (pc' := 4) (ls' := [(2, .int 55), (1, .int 0), (0, .ref 14)]) (st' := []) (w' := (fw z)) (cs' := 0) (ss' := 0) ?_ (fun _ _ => rfl)
  refine go_seg 8 (pc' := 14) (ls' := [(2, .int 55), (1, .int 0), (0, .ref 14)]) (st' := [.int 0, .int 0]) (w' := (fw z)) (cs' := 0) (ss' := 0) ?_ (fun _ _ => rfl)
  refine go_seg 8 (pc' := 10) (ls' := [(2, .int 56), (1, .int 0), (0, .ref 14)]) (st' := []) (w' := (fw z)) (cs' := 0) (ss' := 0) ?_ (fun _ _ => rfl)
  refine go_seg 8 (pc' := 4) (ls' := [(2, .int 57), (1, .int 0), (0, .ref 14)]) (st' := []) (w' := (fw z)) (cs' := 0) (ss' := 0) ?_ (fun _ _ => rfl)
  refine go_seg 8 (pc' := 14) (ls' := [(2, .int 57), (1, .int 0), (0, .ref 14)]) (st' := [.int 0, .int 0]) (w' := (fw z)) (cs' := 0) (ss' := 0) ?_ (fun _ _ => rfl)
  refine go_seg 8 (pc' := 10) (ls' := [(2, .int 58), (1, .int 0), (0, .ref 14)]) (st' := []) (w' := (fw z)) (cs' := 0) (ss' := 0) ?_ (fun _ _ => rfl)
  refine go_seg 8 (pc' := 4) (ls' := [(2, .int 59), (1, .int 0), (0, .ref 14)]) (st' := []) (w' := (fw z)) (cs' := 0) (ss' := 0) ?_ (fun _ _ => rfl)
  refine go_seg 8 (pc' := 14) (ls' := [(2, .int 59), (1, .int 0), (0, .ref 14)]) (st' := [.int 0, .int 0]) (w' := (fw z)) (cs' := 0) (ss' := 0) ?_ (fun _ _ => rfl)
  refine go_seg 8 (pc' := 10) (ls' := [(2, .int 60), (1, .int 0), (0, .ref 14)]) (st' := []) (w' := (fw z)) (cs' := 0) (ss' := 0) ?_ (fun _ _ => rfl)
  refine go_seg 8 (pc' := 4) (ls' := [(2, .int 61), (1, .int 0), (0, .ref 14)]) (st' := []) (w' := (fw z)) (cs' := 0) (ss' := 0) ?_ (fun _ _ => rfl)
  refine go_seg 8 (pc' := 14) (ls' := [(2, .int 61), (1, .int 0), (0, .ref 14)]) (st' := [.int 0, .int 0]) (w' := (fw z)) (cs' := 0) (ss' := 0) ?_ (fun _ _ => rfl)
  refine go_seg 8 (pc' := 10) (ls' := [(2, .int 62), (1, .int 0), (0, .ref 14)]) (st' := []) (w' := (fw z)) (cs' := 0) (ss' := 0) ?_ (fun _ _ => rfl)
  refine go_seg 8 (pc' := 4) (ls' := [(2, .int 63), (1, .int 0), (0, .ref 14)]) (st' := []) (w' := (fw z)) (cs' := 0) (ss' := 0) ?_ (fun _ _ => rfl)
  refine go_seg 8 (pc' := 14) (ls' := [(2, .int 63), (1, .int 0), (0, .ref 14)]) (st' := [.int 0, .int 0]) (w' := (fw z)) (cs' := 0) (ss' := 0) ?_ (fun _ _ => rfl)
  refine go_seg 8 (pc' := 22) (ls' := [(2, .int 64), (1, .int 0), (0, .ref 14)]) (st' := []) (w' := (fw z)) (cs' := 0) (ss' := 0) ?_ (fun _ _ => rfl)
  exact go_end 2 (fun _ _ => rfl)
theorem ro_474 (z : pq_C) : pq_Ru 2 153 [.ref 1, .int 9] (fw z) (some (.int 0), (fw z)) := by
  refine ru_of (k := 1) (M := pm_153) rfl rfl ?_
  refine go_seg 5 (pc' := 147) (ls' := [(0, .ref 1), (1, .int 9)]) (st' := [.ref 14]) (w' := (fw z)) (cs' := 0) (ss' := 0) ?_ (fun _ _ => rfl)
  refine go_cl (k := 1) (st' := [.int 0]) (cs' := 0) (ss' := 0) rfl rfl rfl rfl rfl rfl rfl (ro_473 z) ?_
  exact go_end 1 (fun _ _ => rfl)
theorem ro_475 (z : pq_C) : pq_Ru 1 170 [.ref 90, .int 0] (fw z) (some (.int 0), (fw z)) := by
  refine ru_of (k := 0) (M := pm_170) rfl rfl ?_
  refine go_seg 8 (pc' := 10) (ls' := [(3, .int 0), (2, .int 0), (0, .ref 90), (1, .int 0)]) (st' := [.int 2, .ref 91, .int 0]) (w' := (fw z)) (cs' := 0) (ss' := 0) ?_ (fun _ _ => rfl)
  exact go_end 4 (fun _ _ => rfl)
theorem ro_476 (z : pq_C) : pq_Ru 1 170 [.ref 90, .int 1] (fw z) (some (.int 0), (fw z)) := by
  refine ru_of (k := 0) (M := pm_170) rfl rfl ?_
  refine go_seg 8 (pc' := 10) (ls' := [(3, .int 0), (2, .int 0), (0, .ref 90), (1, .int 1)]) (st' := [.int 2, .ref 91, .int 0]) (w' := (fw z)) (cs' := 0) (ss' := 0) ?_ (fun _ _ => rfl)
  exact go_end 4 (fun _ _ => rfl)
theorem ro_477 (z : pq_C) : pq_Ru 1 170 [.ref 90, .int 2] (fw z) (some (.int 0), (fw z)) := by
  refine ru_of (k := 0) (M := pm_170) rfl rfl ?_
  refine go_seg 8 (pc' := 10) (ls' := [(3, .int 0), (2, .int 0), (0, .ref 90), (1, .int 2)]) (st' := [.int 2, .ref 91, .int 0]) (w' := (fw z)) (cs' := 0) (ss' := 0) ?_ (fun _ _ => rfl)
  exact go_end 4 (fun _ _ => rfl)
theorem ro_478 (z : pq_C) : pq_Ru 1 170 [.ref 90, .int 3] (fw z) (some (.int 0), (fw z)) := by
  refine ru_of (k := 0) (M := pm_170) rfl rfl ?_
  refine go_seg 8 (pc' := 10) (ls' := [(3, .int 0), (2, .int 0), (0, .ref 90), (1, .int 3)]) (st' := [.int 2, .ref 91, .int 0]) (w' := (fw z)) (cs' := 0) (ss' := 0) ?_ (fun _ _ => rfl)
  exact go_end 4 (fun _ _ => rfl)
theorem ro_479 (z : pq_C) : pq_Ru 1 170 [.ref 90, .int 4] (fw z) (some (.int 0), (fw z)) := by
  refine ru_of (k := 0) (M := pm_170) rfl rfl ?_
  refine go_seg 8 (pc' := 10) (ls' := [(3, .int 0), (2, .int 0), (0, .ref 90), (1, .int 4)]) (st' := [.int 2, .ref 91, .int 0]) (w' := (fw z)) (cs' := 0) (ss' := 0) ?_ (fun _ _ => rfl)
  exact go_end 4 (fun _ _ => rfl)
theorem ro_480 (z : pq_C) : pq_Ru 1 170 [.ref 90, .int 5] (fw z) (some (.int 0), (fw z)) := by
  refine ru_of (k := 0) (M := pm_170) rfl rfl ?_
  refine go_seg 8 (pc' := 10) (ls' := [(3, .int 0), (2, .int 0), (0, .ref 90), (1, .int 5)]) (st' := [.int 2, .ref 91, .int 0]) (w' := (fw z)) (cs' := 0) (ss' := 0) ?_ (fun _ _ => rfl)
  exact go_end 4 (fun _ _ => rfl)
theorem ro_481 (z : pq_C) : pq_Ru 1 170 [.ref 90, .int 6] (fw z) (some (.int 0), (fw z)) := by
  refine ru_of (k := 0) (M := pm_170) rfl rfl ?_
  refine go_seg 8 (pc' := 10) (ls' := [(3, .int 0), (2, .int 0), (0, .ref 90), (1, .int 6)]) (st' := [.int 2, .ref 91, .int 0]) (w' := (fw z)) (cs' := 0) (ss' := 0) ?_ (fun _ _ => rfl)
  exact go_end 4 (fun _ _ => rfl)
theorem ro_482 (z : pq_C) : pq_Ru 1 170 [.ref 90, .int 7] (fw z) (some (.int 0), (fw z)) := by
  refine ru_of (k := 0) (M := pm_170) rfl rfl ?_
  refine go_seg 8 (pc' := 10) (ls' := [(3, .int 0), (2, .int 0), (0, .ref 90), (1, .int 7)]) (st' := [.int 2, .ref 91, .int 0]) (w' := (fw z)) (cs' := 0) (ss' := 0) ?_ (fun _ _ => rfl)
  exact go_end 4 (fun _ _ => rfl)
theorem ro_483 (z : pq_C) : pq_Ru 2 247 [.ref 90, .int 9] (fw z) (some (.int 0), (fw z)) := by
  refine ru_of (k := 1) (M := pm_247) rfl rfl ?_
  refine go_seg 8 (pc' := 193) (ls' := [(3, .int 0), (2, .int 0), (0, .ref 90), (1, .int 9)]) (st' := [.int 8, .int 0]) (w' := (fw z)) (cs' := 0) (ss' := 0) ?_ (fun _ _ => rfl)
  refine go_seg 4 (pc' := 199) (ls' := [(3, .int 0), (2, .int 0), (0, .ref 90), (1, .int 9)]) (st' := [.int 0, .ref 90, .int 0]) (w' := (fw z)) (cs' := 0) (ss' := 0) ?_ (fun _ _ => rfl)
  refine go_cl (k := 1) (st' := [.int 0, .int 0]) (cs' := 0) (ss' := 0) rfl rfl rfl rfl rfl rfl rfl (ro_475 z) ?_
  refine go_seg 8 (pc' := 197) (ls' := [(3, .int 1), (2, .int 0), (0, .ref 90), (1, .int 9)]) (st' := [.int 0]) (w' := (fw z)) (cs' := 0) (ss' := 0) ?_ (fun _ _ => rfl)
  refine go_seg 2 (pc' := 199) (ls' := [(3, .int 1), (2, .int 0), (0, .ref 90), (1, .int 9)]) (st' := [.int 1, .ref 90, .int 0]) (w' := (fw z)) (cs' := 0) (ss' := 0) ?_ (fun _ _ => rfl)
  refine go_cl (k := 1) (st' := [.int 0, .int 0]) (cs' := 0) (ss' := 0) rfl rfl rfl rfl rfl rfl rfl (ro_476 z) ?_
  refine go_seg 8 (pc' := 197) (ls' := [(3, .int 2), (2, .int 0), (0, .ref 90), (1, .int 9)]) (st' := [.int 0]) (w' := (fw z)) (cs' := 0) (ss' := 0) ?_ (fun _ _ => rfl)
  refine go_seg 2 (pc' := 199) (ls' := [(3, .int 2), (2, .int 0), (0, .ref 90), (1, .int 9)]) (st' := [.int 2, .ref 90, .int 0]) (w' := (fw z)) (cs' := 0) (ss' := 0) ?_ (fun _ _ => rfl)
  refine go_cl (k := 1) (st' := [.int 0, .int 0]) (cs' := 0) (ss' := 0) rfl rfl rfl rfl rfl rfl rfl (ro_477 z) ?_
  refine go_seg 8 (pc' := 197) (ls' := [(3, .int 3), (2, .int 0), (0, .ref 90), (1, .int 9)]) (st' := [.int 0]) (w' := (fw z)) (cs' := 0) (ss' := 0) ?_ (fun _ _ => rfl)
  refine go_seg 2 (pc' := 199) (ls' := [(3, .int 3), (2, .int 0), (0, .ref 90), (1, .int 9)]) (st' := [.int 3, .ref 90, .int 0]) (w' := (fw z)) (cs' := 0) (ss' := 0) ?_ (fun _ _ => rfl)
  refine go_cl (k := 1) (st' := [.int 0, .int 0]) (cs' := 0) (ss' := 0) rfl rfl rfl rfl rfl rfl rfl (ro_478 z) ?_
  refine go_seg 8 (pc' := 197) (ls' := [(3, .int 4), (2, .int 0), (0, .ref 90), (1, .int 9)]) (st' := [.int 0]) (w' := (fw z)) (cs' := 0) (ss' := 0) ?_ (fun _ _ => rfl)
  refine go_seg 2 (pc' := 199) (ls' := [(3, .int 4), (2, .int 0), (0, .ref 90), (1, .int 9)]) (st' := [.int 4, .ref 90, .int 0]) (w' := (fw z)) (cs' := 0) (ss' := 0) ?_ (fun _ _ => rfl)
  refine go_cl (k := 1) (st' := [.int 0, .int 0]) (cs' := 0) (ss' := 0) rfl rfl rfl rfl rfl rfl rfl (ro_479 z) ?_
  refine go_seg 8 (pc' := 197) (ls' := [(3, .int 5), (2, .int 0), (0, .ref 90), (1, .int 9)]) (st' := [.int 0]) (w' := (fw z)) (cs' := 0) (ss' := 0) ?_ (fun _ _ => rfl)
  refine go_seg 2 (pc' := 199) (ls' := [(3, .int 5), (2, .int 0), (0, .ref 90), (1, .int 9)]) (st' := [.int 5, .ref 90, .int 0]) (w' := (fw z)) (cs' := 0) (ss' := 0) ?_ (fun _ _ => rfl)
  refine go_cl (k := 1) (st' := [.int 0, .int 0]) (cs' := 0) (ss' := 0) rfl rfl rfl rfl rfl rfl rfl (ro_480 z) ?_
  refine go_seg 8 (pc' := 197) (ls' := [(3, .int 6), (2, .int 0), (0, .ref 90), (1, .int 9)]) (st' := [.int 0]) (w' := (fw z)) (cs' := 0) (ss' := 0) ?_ (fun _ _ => rfl)
  refine go_seg 2 (pc' := 199) (ls' := [(3, .int 6), (2, .int 0), (0, .ref 90), (1, .int 9)]) (st' := [.int 6, .ref 90, .int 0]) (w' := (fw z)) (cs' := 0) (ss' := 0) ?_ (fun _ _ => rfl)
  refine go_cl (k := 1) (st' := [.int 0, .int 0]) (cs' := 0) (ss' := 0) rfl rfl rfl rfl rfl rfl rfl (ro_481 z) ?_
  refine go_seg 8 (pc' := 197) (ls' := [(3, .int 7), (2, .int 0), (0, .ref 90), (1, .int 9)]) (st' := [.int 0]) (w' := (fw z)) (cs' := 0) (ss' := 0) ?_ (fun _ _ => rfl)
  refine go_seg 2 (pc' := 199) (ls' := [(3, .int 7), (2, .int 0), (0, .ref 90), (1, .int 9)]) (st' := [.int 7, .ref 90, .int 0]) (w' := (fw z)) (cs' := 0) (ss' := 0) ?_ (fun _ _ => rfl)
  refine go_cl (k := 1) (st' := [.int 0, .int 0]) (cs' := 0) (ss' := 0) rfl rfl rfl rfl rfl rfl rfl (ro_482 z) ?_
  refine go_seg 8 (pc' := 211) (ls' := [(3, .int 8), (2, .int 0), (0, .ref 90), (1, .int 9)]) (st' := [.int 0]) (w' := (fw z)) (cs' := 0) (ss' := 0) ?_ (fun _ _ => rfl)
  exact go_end 1 (fun _ _ => rfl)
theorem lf_39_484 (a0 : Int32) (a2 : Int32) (a3 : Int32) (a4 : Int32) (a5 : Int32) : ∃ w', pq_Go 20 pm_law 1621 [(3, .int 0), (2, .ref 90), (1, .ref 1), (0, .ref 0)] [] (fw (sz a0 9 a2 a3 a4 a5)) 109 12668 (some (.int 1), w') := by
  refine ⟨(fw (sz a0 9 a2 a3 a4 a5)), ?_⟩
  refine go_seg 6 (pc' := 1627) (ls' := [(3, .int 0), (2, .ref 90), (1, .ref 1), (0, .ref 0)]) (st' := [.int 9, .ref 1]) (w' := (fw (sz a0 9 a2 a3 a4 a5))) (cs' := 109) (ss' := 12668) ?_ (fun _ _ => rfl)
  refine go_cl (k := 20) (st' := [.int 0]) (cs' := 109) (ss' := 12668) rfl rfl rfl rfl rfl rfl rfl (ro_474 (sz a0 9 a2 a3 a4 a5)) ?_
  refine go_seg 6 (pc' := 1636) (ls' := [(3, .int 0), (2, .ref 90), (1, .ref 1), (0, .ref 0)]) (st' := [.int 9, .ref 90, .int 0]) (w' := (fw (sz a0 9 a2 a3 a4 a5))) (cs' := 109) (ss' := 12668) ?_ (fun _ _ => rfl)
  refine go_cl (k := 20) (st' := [.int 0, .int 0]) (cs' := 109) (ss' := 12668) rfl rfl rfl rfl rfl rfl rfl (ro_483 (sz a0 9 a2 a3 a4 a5)) ?_
  refine go_cmp true rfl (br_self _) ?_
  exact law_tail (f := sc a0 9 a2 a3 a4 a5) rfl
theorem ro_485 (z : pq_C) : pq_Ru 1 156 [.ref 10] (fw z) (some (.int 0), (fw z)) := by
  refine ru_of (k := 0) (M := pm_156) rfl rfl ?_
  refine go_seg 8 (pc' := 10) (ls' := [(2, .int 0), (1, .int 0), (0, .ref 10)]) (st' := []) (w' := (fw z)) (cs' := 0) (ss' := 0) ?_ (fun _ _ => rfl)
  refine go_seg 8 (pc' := 4) (ls' := [(2, .int 1), (1, .int 0), (0, .ref 10)]) (st' := []) (w' := (fw z)) (cs' := 0) (ss' := 0) ?_ (fun _ _ => rfl)
  refine go_seg 8 (pc' := 14) (ls' := [(2, .int 1), (1, .int 0), (0, .ref 10)]) (st' := [.int 0, .int 0]) (w' := (fw z)) (cs' := 0) (ss' := 0) ?_ (fun _ _ => rfl)
  refine go_seg 8 (pc' := 10) (ls' := [(2, .int 2), (1, .int 0), (0, .ref 10)]) (st' := []) (w' := (fw z)) (cs' := 0) (ss' := 0) ?_ (fun _ _ => rfl)
  refine go_seg 8 (pc' := 4) (ls' := [(2, .int 3), (1, .int 0), (0, .ref 10)]) (st' := []) (w' := (fw z)) (cs' := 0) (ss' := 0) ?_ (fun _ _ => rfl)
  refine go_seg 8 (pc' := 14) (ls' := [(2, .int 3), (1, .int 0), (0, .ref 10)]) (st' := [.int 0, .int 0]) (w' := (fw z)) (cs' := 0) (ss' := 0) ?_ (fun _ _ => rfl)
  refine go_seg 8 (pc' := 10) (ls' := [(2, .int 4), (1, .int 0), (0, .ref 10)]) (st' := []) (w' := (fw z)) (cs' := 0) (ss' := 0) ?_ (fun _ _ => rfl)
  refine go_seg 8 (pc' := 4) (ls' := [(2, .int 5), (1, .int 0), (0, .ref 10)]) (st' := []) (w' := (fw z)) (cs' := 0) (ss' := 0) ?_ (fun _ _ => rfl)
  refine go_seg 8 (pc' := 14) (ls' := [(2, .int 5), (1, .int 0), (0, .ref 10)]) (st' := [.int 0, .int 0]) (w' := (fw z)) (cs' := 0) (ss' := 0) ?_ (fun _ _ => rfl)
  refine go_seg 8 (pc' := 10) (ls' := [(2, .int 6), (1, .int 0), (0, .ref 10)]) (st' := []) (w' := (fw z)) (cs' := 0) (ss' := 0) ?_ (fun _ _ => rfl)
  refine go_seg 8 (pc' := 4) (ls' := [(2, .int 7), (1, .int 0), (0, .ref 10)]) (st' := []) (w' := (fw z)) (cs' := 0) (ss' := 0) ?_ (fun _ _ => rfl)
  refine go_seg 8 (pc' := 14) (ls' := [(2, .int 7), (1, .int 0), (0, .ref 10)]) (st' := [.int 0, .int 0]) (w' := (fw z)) (cs' := 0) (ss' := 0) ?_ (fun _ _ => rfl)
  refine go_seg 8 (pc' := 22) (ls' := [(2, .int 8), (1, .int 0), (0, .ref 10)]) (st' := []) (w' := (fw z)) (cs' := 0) (ss' := 0) ?_ (fun _ _ => rfl)
  exact go_end 2 (fun _ _ => rfl)
theorem ro_486 (z : pq_C) : pq_Ru 2 153 [.ref 1, .int 10] (fw z) (some (.int 0), (fw z)) := by
  refine ru_of (k := 1) (M := pm_153) rfl rfl ?_
  refine go_seg 5 (pc' := 158) (ls' := [(0, .ref 1), (1, .int 10)]) (st' := [.ref 10]) (w' := (fw z)) (cs' := 0) (ss' := 0) ?_ (fun _ _ => rfl)
  refine go_cl (k := 1) (st' := [.int 0]) (cs' := 0) (ss' := 0) rfl rfl rfl rfl rfl rfl rfl (ro_485 z) ?_
  exact go_end 1 (fun _ _ => rfl)
theorem ro_487 (z : pq_C) : pq_Ru 1 168 [.int 0, .int 5] (fw z) (some (.int 143), (fw z)) := by
  refine ru_of (k := 0) (M := pm_168) rfl rfl ?_
  exact go_end 8 (fun _ _ => rfl)
theorem ro_488 (z : pq_C) : pq_Ru 1 168 [.int 1, .int 5] (fw z) (some (.int 149), (fw z)) := by
  refine ru_of (k := 0) (M := pm_168) rfl rfl ?_
  exact go_end 8 (fun _ _ => rfl)
theorem ro_489 (z : pq_C) : pq_Ru 1 168 [.int 2, .int 5] (fw z) (some (.int 155), (fw z)) := by
  refine ru_of (k := 0) (M := pm_168) rfl rfl ?_
  exact go_end 8 (fun _ _ => rfl)
theorem ro_490 (z : pq_C) : pq_Ru 1 168 [.int 3, .int 5] (fw z) (some (.int 161), (fw z)) := by
  refine ru_of (k := 0) (M := pm_168) rfl rfl ?_
  exact go_end 8 (fun _ _ => rfl)
theorem ro_491 (z : pq_C) : pq_Ru 1 168 [.int 4, .int 5] (fw z) (some (.int 167), (fw z)) := by
  refine ru_of (k := 0) (M := pm_168) rfl rfl ?_
  exact go_end 8 (fun _ _ => rfl)
theorem ro_492 (z : pq_C) : pq_Ru 1 168 [.int 5, .int 5] (fw z) (some (.int 173), (fw z)) := by
  refine ru_of (k := 0) (M := pm_168) rfl rfl ?_
  exact go_end 8 (fun _ _ => rfl)
theorem ro_493 (z : pq_C) : pq_Ru 1 168 [.int 6, .int 5] (fw z) (some (.int 179), (fw z)) := by
  refine ru_of (k := 0) (M := pm_168) rfl rfl ?_
  exact go_end 8 (fun _ _ => rfl)
theorem ro_494 (z : pq_C) : pq_Ru 1 168 [.int 7, .int 5] (fw z) (some (.int 185), (fw z)) := by
  refine ru_of (k := 0) (M := pm_168) rfl rfl ?_
  exact go_end 8 (fun _ _ => rfl)
theorem ro_495 (z : pq_C) : pq_Ru 2 247 [.ref 90, .int 10] (fw z) (some (.int 0), (fw z)) := by
  refine ru_of (k := 1) (M := pm_247) rfl rfl ?_
  refine go_seg 8 (pc' := 217) (ls' := [(3, .int 0), (2, .int 0), (0, .ref 90), (1, .int 10)]) (st' := [.int 8, .int 0]) (w' := (fw z)) (cs' := 0) (ss' := 0) ?_ (fun _ _ => rfl)
  refine go_seg 6 (pc' := 227) (ls' := [(3, .int 0), (2, .int 0), (0, .ref 90), (1, .int 10)]) (st' := [.int 5, .int 0, .ref 91, .int 0]) (w' := (fw z)) (cs' := 0) (ss' := 0) ?_ (fun _ _ => rfl)
  refine go_cl (k := 1) (st' := [.int 143, .ref 91, .int 0]) (cs' := 0) (ss' := 0) rfl rfl rfl rfl rfl rfl rfl (ro_487 z) ?_
  refine go_seg 8 (pc' := 220) (ls' := [(3, .int 1), (2, .int 0), (0, .ref 90), (1, .int 10)]) (st' := []) (w' := (fw z)) (cs' := 0) (ss' := 0) ?_ (fun _ _ => rfl)
  refine go_seg 5 (pc' := 227) (ls' := [(3, .int 1), (2, .int 0), (0, .ref 90), (1, .int 10)]) (st' := [.int 5, .int 1, .ref 91, .int 0]) (w' := (fw z)) (cs' := 0) (ss' := 0) ?_ (fun _ _ => rfl)
  refine go_cl (k := 1) (st' := [.int 149, .ref 91, .int 0]) (cs' := 0) (ss' := 0) rfl rfl rfl rfl rfl rfl rfl (ro_488 z) ?_
  refine go_seg 8 (pc' := 220) (ls' := [(3, .int 2), (2, .int 0), (0, .ref 90), (1, .int 10)]) (st' := []) (w' := (fw z)) (cs' := 0) (ss' := 0) ?_ (fun _ _ => rfl)
  refine go_seg 5 (pc' := 227) (ls' := [(3, .int 2), (2, .int 0), (0, .ref 90), (1, .int 10)]) (st' := [.int 5, .int 2, .ref 91, .int 0]) (w' := (fw z)) (cs' := 0) (ss' := 0) ?_ (fun _ _ => rfl)
  refine go_cl (k := 1) (st' := [.int 155, .ref 91, .int 0]) (cs' := 0) (ss' := 0) rfl rfl rfl rfl rfl rfl rfl (ro_489 z) ?_
  refine go_seg 8 (pc' := 220) (ls' := [(3, .int 3), (2, .int 0), (0, .ref 90), (1, .int 10)]) (st' := []) (w' := (fw z)) (cs' := 0) (ss' := 0) ?_ (fun _ _ => rfl)
  refine go_seg 5 (pc' := 227) (ls' := [(3, .int 3), (2, .int 0), (0, .ref 90), (1, .int 10)]) (st' := [.int 5, .int 3, .ref 91, .int 0]) (w' := (fw z)) (cs' := 0) (ss' := 0) ?_ (fun _ _ => rfl)
  refine go_cl (k := 1) (st' := [.int 161, .ref 91, .int 0]) (cs' := 0) (ss' := 0) rfl rfl rfl rfl rfl rfl rfl (ro_490 z) ?_
  refine go_seg 8 (pc' := 220) (ls' := [(3, .int 4), (2, .int 0), (0, .ref 90), (1, .int 10)]) (st' := []) (w' := (fw z)) (cs' := 0) (ss' := 0) ?_ (fun _ _ => rfl)
  refine go_seg 5 (pc' := 227) (ls' := [(3, .int 4), (2, .int 0), (0, .ref 90), (1, .int 10)]) (st' := [.int 5, .int 4, .ref 91, .int 0]) (w' := (fw z)) (cs' := 0) (ss' := 0) ?_ (fun _ _ => rfl)
  refine go_cl (k := 1) (st' := [.int 167, .ref 91, .int 0]) (cs' := 0) (ss' := 0) rfl rfl rfl rfl rfl rfl rfl (ro_491 z) ?_
  refine go_seg 8 (pc' := 220) (ls' := [(3, .int 5), (2, .int 0), (0, .ref 90), (1, .int 10)]) (st' := []) (w' := (fw z)) (cs' := 0) (ss' := 0) ?_ (fun _ _ => rfl)
  refine go_seg 5 (pc' := 227) (ls' := [(3, .int 5), (2, .int 0), (0, .ref 90), (1, .int 10)]) (st' := [.int 5, .int 5, .ref 91, .int 0]) (w' := (fw z)) (cs' := 0) (ss' := 0) ?_ (fun _ _ => rfl)
  refine go_cl (k := 1) (st' := [.int 173, .ref 91, .int 0]) (cs' := 0) (ss' := 0) rfl rfl rfl rfl rfl rfl rfl (ro_492 z) ?_
  refine go_seg 8 (pc' := 220) (ls' := [(3, .int 6), (2, .int 0), (0, .ref 90), (1, .int 10)]) (st' := []) (w' := (fw z)) (cs' := 0) (ss' := 0) ?_ (fun _ _ => rfl)
  refine go_seg 5 (pc' := 227) (ls' := [(3, .int 6), (2, .int 0), (0, .ref 90), (1, .int 10)]) (st' := [.int 5, .int 6, .ref 91, .int 0]) (w' := (fw z)) (cs' := 0) (ss' := 0) ?_ (fun _ _ => rfl)
  refine go_cl (k := 1) (st' := [.int 179, .ref 91, .int 0]) (cs' := 0) (ss' := 0) rfl rfl rfl rfl rfl rfl rfl (ro_493 z) ?_
  refine go_seg 8 (pc' := 220) (ls' := [(3, .int 7), (2, .int 0), (0, .ref 90), (1, .int 10)]) (st' := []) (w' := (fw z)) (cs' := 0) (ss' := 0) ?_ (fun _ _ => rfl)
  refine go_seg 5 (pc' := 227) (ls' := [(3, .int 7), (2, .int 0), (0, .ref 90), (1, .int 10)]) (st' := [.int 5, .int 7, .ref 91, .int 0]) (w' := (fw z)) (cs' := 0) (ss' := 0) ?_ (fun _ _ => rfl)
  refine go_cl (k := 1) (st' := [.int 185, .ref 91, .int 0]) (cs' := 0) (ss' := 0) rfl rfl rfl rfl rfl rfl rfl (ro_494 z) ?_
  refine go_seg 8 (pc' := 239) (ls' := [(3, .int 8), (2, .int 0), (0, .ref 90), (1, .int 10)]) (st' := []) (w' := (fw z)) (cs' := 0) (ss' := 0) ?_ (fun _ _ => rfl)
  exact go_end 2 (fun _ _ => rfl)
theorem lf_39_496 (a0 : Int32) (a2 : Int32) (a3 : Int32) (a4 : Int32) (a5 : Int32) : ∃ w', pq_Go 20 pm_law 1621 [(3, .int 0), (2, .ref 90), (1, .ref 1), (0, .ref 0)] [] (fw (sz a0 10 a2 a3 a4 a5)) 109 12668 (some (.int 1), w') := by
  refine ⟨(fw (sz a0 10 a2 a3 a4 a5)), ?_⟩
  refine go_seg 6 (pc' := 1627) (ls' := [(3, .int 0), (2, .ref 90), (1, .ref 1), (0, .ref 0)]) (st' := [.int 10, .ref 1]) (w' := (fw (sz a0 10 a2 a3 a4 a5))) (cs' := 109) (ss' := 12668) ?_ (fun _ _ => rfl)
  refine go_cl (k := 20) (st' := [.int 0]) (cs' := 109) (ss' := 12668) rfl rfl rfl rfl rfl rfl rfl (ro_486 (sz a0 10 a2 a3 a4 a5)) ?_
  refine go_seg 6 (pc' := 1636) (ls' := [(3, .int 0), (2, .ref 90), (1, .ref 1), (0, .ref 0)]) (st' := [.int 10, .ref 90, .int 0]) (w' := (fw (sz a0 10 a2 a3 a4 a5))) (cs' := 109) (ss' := 12668) ?_ (fun _ _ => rfl)
  refine go_cl (k := 20) (st' := [.int 0, .int 0]) (cs' := 109) (ss' := 12668) rfl rfl rfl rfl rfl rfl rfl (ro_495 (sz a0 10 a2 a3 a4 a5)) ?_
  refine go_cmp true rfl (br_self _) ?_
  exact law_tail (f := sc a0 10 a2 a3 a4 a5) rfl
theorem ro_497 (z : pq_C) : pq_Ru 1 156 [.ref 12] (fw z) (some (.int 0), (fw z)) := by
  refine ru_of (k := 0) (M := pm_156) rfl rfl ?_
  refine go_seg 8 (pc' := 10) (ls' := [(2, .int 0), (1, .int 0), (0, .ref 12)]) (st' := []) (w' := (fw z)) (cs' := 0) (ss' := 0) ?_ (fun _ _ => rfl)
  refine go_seg 8 (pc' := 4) (ls' := [(2, .int 1), (1, .int 0), (0, .ref 12)]) (st' := []) (w' := (fw z)) (cs' := 0) (ss' := 0) ?_ (fun _ _ => rfl)
  refine go_seg 8 (pc' := 14) (ls' := [(2, .int 1), (1, .int 0), (0, .ref 12)]) (st' := [.int 0, .int 0]) (w' := (fw z)) (cs' := 0) (ss' := 0) ?_ (fun _ _ => rfl)
  refine go_seg 8 (pc' := 10) (ls' := [(2, .int 2), (1, .int 0), (0, .ref 12)]) (st' := []) (w' := (fw z)) (cs' := 0) (ss' := 0) ?_ (fun _ _ => rfl)
  refine go_seg 8 (pc' := 4) (ls' := [(2, .int 3), (1, .int 0), (0, .ref 12)]) (st' := []) (w' := (fw z)) (cs' := 0) (ss' := 0) ?_ (fun _ _ => rfl)
  refine go_seg 8 (pc' := 14) (ls' := [(2, .int 3), (1, .int 0), (0, .ref 12)]) (st' := [.int 0, .int 0]) (w' := (fw z)) (cs' := 0) (ss' := 0) ?_ (fun _ _ => rfl)
  refine go_seg 8 (pc' := 10) (ls' := [(2, .int 4), (1, .int 0), (0, .ref 12)]) (st' := []) (w' := (fw z)) (cs' := 0) (ss' := 0) ?_ (fun _ _ => rfl)
  refine go_seg 8 (pc' := 4) (ls' := [(2, .int 5), (1, .int 0), (0, .ref 12)]) (st' := []) (w' := (fw z)) (cs' := 0) (ss' := 0) ?_ (fun _ _ => rfl)
  refine go_seg 8 (pc' := 14) (ls' := [(2, .int 5), (1, .int 0), (0, .ref 12)]) (st' := [.int 0, .int 0]) (w' := (fw z)) (cs' := 0) (ss' := 0) ?_ (fun _ _ => rfl)
  refine go_seg 8 (pc' := 10) (ls' := [(2, .int 6), (1, .int 0), (0, .ref 12)]) (st' := []) (w' := (fw z)) (cs' := 0) (ss' := 0) ?_ (fun _ _ => rfl)
  refine go_seg 8 (pc' := 4) (ls' := [(2, .int 7), (1, .int 0), (0, .ref 12)]) (st' := []) (w' := (fw z)) (cs' := 0) (ss' := 0) ?_ (fun _ _ => rfl)
  refine go_seg 8 (pc' := 14) (ls' := [(2, .int 7), (1, .int 0), (0, .ref 12)]) (st' := [.int 0, .int 0]) (w' := (fw z)) (cs' := 0) (ss' := 0) ?_ (fun _ _ => rfl)
  refine go_seg 8 (pc' := 22) (ls' := [(2, .int 8), (1, .int 0), (0, .ref 12)]) (st' := []) (w' := (fw z)) (cs' := 0) (ss' := 0) ?_ (fun _ _ => rfl)
  exact go_end 2 (fun _ _ => rfl)
theorem ro_498 (z : pq_C) : pq_Ru 2 153 [.ref 1, .int 11] (fw z) (some (.int 0), (fw z)) := by
  refine ru_of (k := 1) (M := pm_153) rfl rfl ?_
  refine go_seg 5 (pc' := 169) (ls' := [(0, .ref 1), (1, .int 11)]) (st' := [.ref 12]) (w' := (fw z)) (cs' := 0) (ss' := 0) ?_ (fun _ _ => rfl)
  refine go_cl (k := 1) (st' := [.int 0]) (cs' := 0) (ss' := 0) rfl rfl rfl rfl rfl rfl rfl (ro_497 z) ?_
  exact go_end 1 (fun _ _ => rfl)
theorem ro_499 (z : pq_C) : pq_Ru 1 247 [.ref 90, .int 11] (fw z) (some (.int 0), (fw z)) := by
  refine ru_of (k := 0) (M := pm_247) rfl rfl ?_
  refine go_seg 8 (pc' := 245) (ls' := [(3, .int 0), (2, .int 0), (0, .ref 90), (1, .int 11)]) (st' := [.ref 90, .int 0]) (w' := (fw z)) (cs' := 0) (ss' := 0) ?_ (fun _ _ => rfl)
  exact go_end 6 (fun _ _ => rfl)
theorem lf_39_500 (a0 : Int32) (a2 : Int32) (a3 : Int32) (a4 : Int32) (a5 : Int32) : ∃ w', pq_Go 20 pm_law 1621 [(3, .int 0), (2, .ref 90), (1, .ref 1), (0, .ref 0)] [] (fw (sz a0 11 a2 a3 a4 a5)) 109 12668 (some (.int 1), w') := by
  refine ⟨(fw (sz a0 11 a2 a3 a4 a5)), ?_⟩
  refine go_seg 6 (pc' := 1627) (ls' := [(3, .int 0), (2, .ref 90), (1, .ref 1), (0, .ref 0)]) (st' := [.int 11, .ref 1]) (w' := (fw (sz a0 11 a2 a3 a4 a5))) (cs' := 109) (ss' := 12668) ?_ (fun _ _ => rfl)
  refine go_cl (k := 20) (st' := [.int 0]) (cs' := 109) (ss' := 12668) rfl rfl rfl rfl rfl rfl rfl (ro_498 (sz a0 11 a2 a3 a4 a5)) ?_
  refine go_seg 6 (pc' := 1636) (ls' := [(3, .int 0), (2, .ref 90), (1, .ref 1), (0, .ref 0)]) (st' := [.int 11, .ref 90, .int 0]) (w' := (fw (sz a0 11 a2 a3 a4 a5))) (cs' := 109) (ss' := 12668) ?_ (fun _ _ => rfl)
  refine go_cl (k := 20) (st' := [.int 0, .int 0]) (cs' := 109) (ss' := 12668) rfl rfl rfl rfl rfl rfl rfl (ro_499 (sz a0 11 a2 a3 a4 a5)) ?_
  refine go_cmp true rfl (br_self _) ?_
  exact law_tail (f := sc a0 11 a2 a3 a4 a5) rfl
theorem ro_501 (z : pq_C) : pq_Ru 1 153 [.ref 1, .int 12] (fw z) (some (.int 0), (fw z)) := by
  refine ru_of (k := 0) (M := pm_153) rfl rfl ?_
  exact go_end 6 (fun _ _ => rfl)
theorem ro_502 (z : pq_C) : pq_Ru 1 247 [.ref 90, .int 12] (fw z) (some (.int 0), (fw z)) := by
  refine ru_of (k := 0) (M := pm_247) rfl rfl ?_
  exact go_end 7 (fun _ _ => rfl)
theorem lf_39_503 (a0 : Int32) (a2 : Int32) (a3 : Int32) (a4 : Int32) (a5 : Int32) : ∃ w', pq_Go 20 pm_law 1621 [(3, .int 0), (2, .ref 90), (1, .ref 1), (0, .ref 0)] [] (fw (sz a0 12 a2 a3 a4 a5)) 109 12668 (some (.int 1), w') := by
  refine ⟨(fw (sz a0 12 a2 a3 a4 a5)), ?_⟩
  refine go_seg 6 (pc' := 1627) (ls' := [(3, .int 0), (2, .ref 90), (1, .ref 1), (0, .ref 0)]) (st' := [.int 12, .ref 1]) (w' := (fw (sz a0 12 a2 a3 a4 a5))) (cs' := 109) (ss' := 12668) ?_ (fun _ _ => rfl)
  refine go_cl (k := 20) (st' := [.int 0]) (cs' := 109) (ss' := 12668) rfl rfl rfl rfl rfl rfl rfl (ro_501 (sz a0 12 a2 a3 a4 a5)) ?_
  refine go_seg 6 (pc' := 1636) (ls' := [(3, .int 0), (2, .ref 90), (1, .ref 1), (0, .ref 0)]) (st' := [.int 12, .ref 90, .int 0]) (w' := (fw (sz a0 12 a2 a3 a4 a5))) (cs' := 109) (ss' := 12668) ?_ (fun _ _ => rfl)
  refine go_cl (k := 20) (st' := [.int 0, .int 0]) (cs' := 109) (ss' := 12668) rfl rfl rfl rfl rfl rfl rfl (ro_502 (sz a0 12 a2 a3 a4 a5)) ?_
  refine go_cmp true rfl (br_self _) ?_
  exact law_tail (f := sc a0 12 a2 a3 a4 a5) rfl
theorem ro_504 (z : pq_C) (a1 : Int32) (h0 : ¬ (0 ≤ a1.toInt ∧ a1.toInt ≤ 12)) : pq_Ru 3 153 [.ref 1, .int a1] (fw z) (some (.int (-1000001)), (wd_1000 z)) := by
  refine ru_of (k := 2) (M := pm_153) rfl rfl ?_
  refine go_seg 1 (pc' := 1) (ls' := [(0, .ref 1), (1, .int a1)]) (st' := [.int a1]) (w' := (fw z)) (cs' := 0) (ss' := 0) ?_ (fun _ _ => rfl)
  refine go_sw rfl (sw_out (by omega)) ?_
  refine go_seg 2 (pc' := 183) (ls' := [(0, .ref 1), (1, .int a1)]) (st' := [.int 1, .ref 1]) (w' := (fw z)) (cs' := 0) (ss' := 0) ?_ (fun _ _ => rfl)
  refine go_cl (k := 2) (st' := [.int (-1000001)]) (cs' := 0) (ss' := 0) rfl rfl rfl rfl rfl rfl rfl (ro_2 z) ?_
  exact go_end 1 (fun _ _ => rfl)
theorem ro_505 (z : pq_C) (a1 : Int32) (h0 : ¬ (0 ≤ a1.toInt ∧ a1.toInt ≤ 12)) : pq_Ru 2 247 [.ref 90, .int a1] (wd_1000 z) (some (.int (-1000001)), (wd_1001 z)) := by
  refine ru_of (k := 1) (M := pm_247) rfl rfl ?_
  refine go_seg 3 (pc' := 3) (ls' := [(2, .int 0), (0, .ref 90), (1, .int a1)]) (st' := [.int a1]) (w' := (wd_1000 z)) (cs' := 0) (ss' := 0) ?_ (fun _ _ => rfl)
  refine go_sw rfl (sw_out (by omega)) ?_
  refine go_seg 2 (pc' := 282) (ls' := [(2, .int 0), (0, .ref 90), (1, .int a1)]) (st' := [.int (-1000001), .ref 90]) (w' := (wd_1000 z)) (cs' := 0) (ss' := 0) ?_ (fun _ _ => rfl)
  refine go_cl (k := 1) (st' := [.int (-1000001)]) (cs' := 0) (ss' := 0) rfl rfl rfl rfl rfl rfl rfl (ro_5 z) ?_
  exact go_end 1 (fun _ _ => rfl)
theorem lf_39_506 (a0 : Int32) (a1 : Int32) (a2 : Int32) (a3 : Int32) (a4 : Int32) (a5 : Int32) (h0 : ¬ (0 ≤ a1.toInt ∧ a1.toInt ≤ 12)) : ∃ w', pq_Go 20 pm_law 1621 [(3, .int 0), (2, .ref 90), (1, .ref 1), (0, .ref 0)] [] (fw (sz a0 a1 a2 a3 a4 a5)) 109 12668 (some (.int 1), w') := by
  refine ⟨(wd_1001 (sz a0 a1 a2 a3 a4 a5)), ?_⟩
  refine go_seg 6 (pc' := 1627) (ls' := [(3, .int 0), (2, .ref 90), (1, .ref 1), (0, .ref 0)]) (st' := [.int a1, .ref 1]) (w' := (fw (sz a0 a1 a2 a3 a4 a5))) (cs' := 109) (ss' := 12668) ?_ (fun _ _ => rfl)
  refine go_cl (k := 20) (st' := [.int (-1000001)]) (cs' := 109) (ss' := 12668) rfl rfl rfl rfl rfl rfl rfl (ro_504 (sz a0 a1 a2 a3 a4 a5) a1 (by omega)) ?_
  refine go_seg 6 (pc' := 1636) (ls' := [(3, .int 0), (2, .ref 90), (1, .ref 1), (0, .ref 0)]) (st' := [.int a1, .ref 90, .int (-1000001)]) (w' := (wd_1000 (sz a0 a1 a2 a3 a4 a5))) (cs' := 109) (ss' := 12668) ?_ (fun _ _ => rfl)
  refine go_cl (k := 20) (st' := [.int (-1000001), .int (-1000001)]) (cs' := 109) (ss' := 12668) rfl rfl rfl rfl rfl rfl rfl (ro_505 (sz a0 a1 a2 a3 a4 a5) a1 (by omega)) ?_
  refine go_cmp true rfl (br_self _) ?_
  exact law_tail (f := sc a0 a1 a2 a3 a4 a5) rfl
theorem op_39 (a0 a1 a2 a3 a4 a5 : Int32) : ∃ w', pq_Go 20 pm_law 1621 [(3, .int 0), (2, .ref 90), (1, .ref 1), (0, .ref 0)] [] (fw (sz a0 a1 a2 a3 a4 a5)) 109 12668 (some (.int 1), w') := by
  by_cases c0 : 0 ≤ a1.toInt ∧ a1.toInt ≤ 12
  · by_cases e1_0 : a1 = 0
    · subst e1_0
      exact lf_39_446 a0 a2 a3 a4 a5
    replace e1_0 := ne_t (b := 0) rfl e1_0
    by_cases e1_1 : a1 = 1
    · subst e1_1
      exact lf_39_450 a0 a2 a3 a4 a5
    replace e1_1 := ne_t (b := 1) rfl e1_1
    by_cases e1_2 : a1 = 2
    · subst e1_2
      exact lf_39_453 a0 a2 a3 a4 a5
    replace e1_2 := ne_t (b := 2) rfl e1_2
    by_cases e1_3 : a1 = 3
    · subst e1_3
      exact lf_39_456 a0 a2 a3 a4 a5
    replace e1_3 := ne_t (b := 3) rfl e1_3
    by_cases e1_4 : a1 = 4
    · subst e1_4
      exact lf_39_459 a0 a2 a3 a4 a5
    replace e1_4 := ne_t (b := 4) rfl e1_4
    by_cases e1_5 : a1 = 5
    · subst e1_5
      exact lf_39_463 a0 a2 a3 a4 a5
    replace e1_5 := ne_t (b := 5) rfl e1_5
    by_cases e1_6 : a1 = 6
    · subst e1_6
      exact lf_39_466 a0 a2 a3 a4 a5
    replace e1_6 := ne_t (b := 6) rfl e1_6
    by_cases e1_7 : a1 = 7
    · subst e1_7
      exact lf_39_469 a0 a2 a3 a4 a5
    replace e1_7 := ne_t (b := 7) rfl e1_7
    by_cases e1_8 : a1 = 8
    · subst e1_8
      exact lf_39_472 a0 a2 a3 a4 a5
    replace e1_8 := ne_t (b := 8) rfl e1_8
    by_cases e1_9 : a1 = 9
    · subst e1_9
      exact lf_39_484 a0 a2 a3 a4 a5
    replace e1_9 := ne_t (b := 9) rfl e1_9
    by_cases e1_10 : a1 = 10
    · subst e1_10
      exact lf_39_496 a0 a2 a3 a4 a5
    replace e1_10 := ne_t (b := 10) rfl e1_10
    by_cases e1_11 : a1 = 11
    · subst e1_11
      exact lf_39_500 a0 a2 a3 a4 a5
    replace e1_11 := ne_t (b := 11) rfl e1_11
    by_cases e1_12 : a1 = 12
    · subst e1_12
      exact lf_39_503 a0 a2 a3 a4 a5
    replace e1_12 := ne_t (b := 12) rfl e1_12
    exfalso
    omega
  · exact lf_39_506 a0 a1 a2 a3 a4 a5 (by omega)
