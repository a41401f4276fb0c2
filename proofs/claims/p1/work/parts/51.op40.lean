theorem ro_508 (z : pq_C) (a1 : Int32) (h0 : a1.toInt < 1) : pq_Ru 1 16 [.int a1, .int 1, .int 5] (fw z) (some (.int 0), (fw z)) := by
  refine ru_of (k := 0) (M := pm_16) rfl rfl ?_
  refine go_seg 2 (pc' := 2) (ls' := [(0, .int a1), (1, .int 1), (2, .int 5)]) (st' := [.int 1, .int a1]) (w' := (fw z)) (cs' := 0) (ss' := 0) ?_ (fun _ _ => rfl)
  refine go_cmp true rfl (br_lt_t (b := 1) rfl (by omega)) ?_
  exact go_end 2 (fun _ _ => rfl)
theorem ro_509 (z : pq_C) (a1 : Int32) (h0 : a1.toInt < 1) : pq_Ru 3 157 [.ref 1, .int a1] (fw z) (some (.int (-1000001)), (wd_1000 z)) := by
  refine ru_of (k := 2) (M := pm_157) rfl rfl ?_
  refine go_seg 3 (pc' := 3) (ls' := [(0, .ref 1), (1, .int a1)]) (st' := [.int 5, .int 1, .int a1]) (w' := (fw z)) (cs' := 0) (ss' := 0) ?_ (fun _ _ => rfl)
  refine go_cl (k := 2) (st' := [.int 0]) (cs' := 0) (ss' := 0) rfl rfl rfl rfl rfl rfl rfl (ro_508 z a1 (by omega)) ?_
  refine go_seg 3 (pc' := 11) (ls' := [(0, .ref 1), (1, .int a1)]) (st' := [.int 1, .ref 1]) (w' := (fw z)) (cs' := 0) (ss' := 0) ?_ (fun _ _ => rfl)
  refine go_cl (k := 2) (st' := [.int (-1000001)]) (cs' := 0) (ss' := 0) rfl rfl rfl rfl rfl rfl rfl (ro_2 z) ?_
  exact go_end 1 (fun _ _ => rfl)
theorem ro_510 (z : pq_C) (a1 : Int32) (h0 : a1.toInt < 1) : pq_Ru 2 248 [.ref 90, .int a1] (wd_1000 z) (some (.int (-1000001)), (wd_1001 z)) := by
  refine ru_of (k := 1) (M := pm_248) rfl rfl ?_
  refine go_seg 4 (pc' := 6) (ls' := [(0, .ref 90), (1, .int a1)]) (st' := [.long 5, .long 1, .long a1.toInt64]) (w' := (wd_1000 z)) (cs' := 0) (ss' := 0) ?_ (fun _ _ => rfl)
  refine go_cl (k := 1) (st' := [.int 0]) (cs' := 0) (ss' := 0) rfl rfl rfl rfl rfl rfl rfl (wi_f _ a1 1 5 1 5 rfl rfl (by omega)) ?_
  refine go_seg 3 (pc' := 24) (ls' := [(0, .ref 90), (1, .int a1)]) (st' := [.int (-1000001), .ref 90]) (w' := (wd_1000 z)) (cs' := 0) (ss' := 0) ?_ (fun _ _ => rfl)
  refine go_cl (k := 1) (st' := [.int (-1000001)]) (cs' := 0) (ss' := 0) rfl rfl rfl rfl rfl rfl rfl (ro_5 z) ?_
  exact go_end 1 (fun _ _ => rfl)
theorem lf_40_511 (a0 : Int32) (a1 : Int32) (a2 : Int32) (a3 : Int32) (a4 : Int32) (a5 : Int32) (h0 : a1.toInt < 1) : ∃ w', pq_Go 20 pm_law 1644 [(3, .int 0), (2, .ref 90), (1, .ref 1), (0, .ref 0)] [] (fw (sz a0 a1 a2 a3 a4 a5)) 109 12668 (some (.int 1), w') := by
  refine ⟨(wd_1001 (sz a0 a1 a2 a3 a4 a5)), ?_⟩
  refine go_seg 6 (pc' := 1650) (ls' := [(3, .int 0), (2, .ref 90), (1, .ref 1), (0, .ref 0)]) (st' := [.int a1, .ref 1]) (w' := (fw (sz a0 a1 a2 a3 a4 a5))) (cs' := 109) (ss' := 12668) ?_ (fun _ _ => rfl)
  refine go_cl (k := 20) (st' := [.int (-1000001)]) (cs' := 109) (ss' := 12668) rfl rfl rfl rfl rfl rfl rfl (ro_509 (sz a0 a1 a2 a3 a4 a5) a1 (by omega)) ?_
  refine go_seg 6 (pc' := 1659) (ls' := [(3, .int 0), (2, .ref 90), (1, .ref 1), (0, .ref 0)]) (st' := [.int a1, .ref 90, .int (-1000001)]) (w' := (wd_1000 (sz a0 a1 a2 a3 a4 a5))) (cs' := 109) (ss' := 12668) ?_ (fun _ _ => rfl)
  refine go_cl (k := 20) (st' := [.int (-1000001), .int (-1000001)]) (cs' := 109) (ss' := 12668) rfl rfl rfl rfl rfl rfl rfl (ro_510 (sz a0 a1 a2 a3 a4 a5) a1 (by omega)) ?_
  refine go_cmp true rfl (br_self _) ?_
  exact law_tail (f := sc a0 a1 a2 a3 a4 a5) rfl
theorem ro_512 (z : pq_C) : pq_Ru 2 157 [.ref 1, .int 1] (fw z) (some (.int 0), (fw z)) := by
  refine ru_of (k := 1) (M := pm_157) rfl rfl ?_
  refine go_seg 3 (pc' := 3) (ls' := [(0, .ref 1), (1, .int 1)]) (st' := [.int 5, .int 1, .int 1]) (w' := (fw z)) (cs' := 0) (ss' := 0) ?_ (fun _ _ => rfl)
  refine go_cl (k := 1) (st' := [.int 1]) (cs' := 0) (ss' := 0) rfl rfl rfl rfl rfl rfl rfl (ro_1 z) ?_
  exact go_end 6 (fun _ _ => rfl)
theorem ro_513 (z : pq_C) : pq_Ru 1 161 [.long 1, .long 1, .long 5] (fw z) (some (.int 1), (fw z)) := by
  refine ru_of (k := 0) (M := pm_161) rfl rfl ?_
  refine go_seg 8 (pc' := 13) (ls' := [(0, .long 1), (2, .long 1), (4, .long 5)]) (st' := []) (w' := (fw z)) (cs' := 0) (ss' := 0) ?_ (fun _ _ => rfl)
  exact go_end 3 (fun _ _ => rfl)
theorem ro_514 (z : pq_C) : pq_Ru 2 248 [.ref 90, .int 1] (fw z) (some (.int 0), (fw z)) := by
  refine ru_of (k := 1) (M := pm_248) rfl rfl ?_
  refine go_seg 4 (pc' := 6) (ls' := [(0, .ref 90), (1, .int 1)]) (st' := [.long 5, .long 1, .long 1]) (w' := (fw z)) (cs' := 0) (ss' := 0) ?_ (fun _ _ => rfl)
  refine go_cl (k := 1) (st' := [.int 1]) (cs' := 0) (ss' := 0) rfl rfl rfl rfl rfl rfl rfl (ro_513 z) ?_
  exact go_end 7 (fun _ _ => rfl)
theorem lf_40_515 (a0 : Int32) (a2 : Int32) (a3 : Int32) (a4 : Int32) (a5 : Int32) : ∃ w', pq_Go 20 pm_law 1644 [(3, .int 0), (2, .ref 90), (1, .ref 1), (0, .ref 0)] [] (fw (sz a0 1 a2 a3 a4 a5)) 109 12668 (some (.int 1), w') := by
  refine ⟨(fw (sz a0 1 a2 a3 a4 a5)), ?_⟩
  refine go_seg 6 (pc' := 1650) (ls' := [(3, .int 0), (2, .ref 90), (1, .ref 1), (0, .ref 0)]) (st' := [.int 1, .ref 1]) (w' := (fw (sz a0 1 a2 a3 a4 a5))) (cs' := 109) (ss' := 12668) ?_ (fun _ _ => rfl)
  refine go_cl (k := 20) (st' := [.int 0]) (cs' := 109) (ss' := 12668) rfl rfl rfl rfl rfl rfl rfl (ro_512 (sz a0 1 a2 a3 a4 a5)) ?_
  refine go_seg 6 (pc' := 1659) (ls' := [(3, .int 0), (2, .ref 90), (1, .ref 1), (0, .ref 0)]) (st' := [.int 1, .ref 90, .int 0]) (w' := (fw (sz a0 1 a2 a3 a4 a5))) (cs' := 109) (ss' := 12668) ?_ (fun _ _ => rfl)
  refine go_cl (k := 20) (st' := [.int 0, .int 0]) (cs' := 109) (ss' := 12668) rfl rfl rfl rfl rfl rfl rfl (ro_514 (sz a0 1 a2 a3 a4 a5)) ?_
  refine go_cmp true rfl (br_self _) ?_
  exact law_tail (f := sc a0 1 a2 a3 a4 a5) rfl
theorem ro_516 (z : pq_C) : pq_Ru 2 157 [.ref 1, .int 2] (fw z) (some (.int 0), (fw z)) := by
  refine ru_of (k := 1) (M := pm_157) rfl rfl ?_
  refine go_seg 3 (pc' := 3) (ls' := [(0, .ref 1), (1, .int 2)]) (st' := [.int 5, .int 1, .int 2]) (w' := (fw z)) (cs' := 0) (ss' := 0) ?_ (fun _ _ => rfl)
  refine go_cl (k := 1) (st' := [.int 1]) (cs' := 0) (ss' := 0) rfl rfl rfl rfl rfl rfl rfl (ro_126 z) ?_
  exact go_end 6 (fun _ _ => rfl)
theorem ro_517 (z : pq_C) : pq_Ru 1 161 [.long 2, .long 1, .long 5] (fw z) (some (.int 1), (fw z)) := by
  refine ru_of (k := 0) (M := pm_161) rfl rfl ?_
  refine go_seg 8 (pc' := 13) (ls' := [(0, .long 2), (2, .long 1), (4, .long 5)]) (st' := []) (w' := (fw z)) (cs' := 0) (ss' := 0) ?_ (fun _ _ => rfl)
  exact go_end 3 (fun _ _ => rfl)
theorem ro_518 (z : pq_C) : pq_Ru 2 248 [.ref 90, .int 2] (fw z) (some (.int 0), (fw z)) := by
  refine ru_of (k := 1) (M := pm_248) rfl rfl ?_
  refine go_seg 4 (pc' := 6) (ls' := [(0, .ref 90), (1, .int 2)]) (st' := [.long 5, .long 1, .long 2]) (w' := (fw z)) (cs' := 0) (ss' := 0) ?_ (fun _ _ => rfl)
  refine go_cl (k := 1) (st' := [.int 1]) (cs' := 0) (ss' := 0) rfl rfl rfl rfl rfl rfl rfl (ro_517 z) ?_
  exact go_end 7 (fun _ _ => rfl)
theorem lf_40_519 (a0 : Int32) (a2 : Int32) (a3 : Int32) (a4 : Int32) (a5 : Int32) : ∃ w', pq_Go 20 pm_law 1644 [(3, .int 0), (2, .ref 90), (1, .ref 1), (0, .ref 0)] [] (fw (sz a0 2 a2 a3 a4 a5)) 109 12668 (some (.int 1), w') := by
  refine ⟨(fw (sz a0 2 a2 a3 a4 a5)), ?_⟩
  refine go_seg 6 (pc' := 1650) (ls' := [(3, .int 0), (2, .ref 90), (1, .ref 1), (0, .ref 0)]) (st' := [.int 2, .ref 1]) (w' := (fw (sz a0 2 a2 a3 a4 a5))) (cs' := 109) (ss' := 12668) ?_ (fun _ _ => rfl)
  refine go_cl (k := 20) (st' := [.int 0]) (cs' := 109) (ss' := 12668) rfl rfl rfl rfl rfl rfl rfl (ro_516 (sz a0 2 a2 a3 a4 a5)) ?_
  refine go_seg 6 (pc' := 1659) (ls' := [(3, .int 0), (2, .ref 90), (1, .ref 1), (0, .ref 0)]) (st' := [.int 2, .ref 90, .int 0]) (w' := (fw (sz a0 2 a2 a3 a4 a5))) (cs' := 109) (ss' := 12668) ?_ (fun _ _ => rfl)
  refine go_cl (k := 20) (st' := [.int 0, .int 0]) (cs' := 109) (ss' := 12668) rfl rfl rfl rfl rfl rfl rfl (ro_518 (sz a0 2 a2 a3 a4 a5)) ?_
  refine go_cmp true rfl (br_self _) ?_
  exact law_tail (f := sc a0 2 a2 a3 a4 a5) rfl
theorem ro_520 (z : pq_C) : pq_Ru 1 16 [.int 3, .int 1, .int 5] (fw z) (some (.int 1), (fw z)) := by
  refine ru_of (k := 0) (M := pm_16) rfl rfl ?_
  refine go_seg 8 (pc' := 15) (ls' := [(0, .int 3), (1, .int 1), (2, .int 5)]) (st' := [.int 1]) (w' := (fw z)) (cs' := 0) (ss' := 0) ?_ (fun _ _ => rfl)
  exact go_end 1 (fun _ _ => rfl)
theorem ro_521 (z : pq_C) : pq_Ru 2 157 [.ref 1, .int 3] (fw z) (some (.int 0), (fw z)) := by
  refine ru_of (k := 1) (M := pm_157) rfl rfl ?_
  refine go_seg 3 (pc' := 3) (ls' := [(0, .ref 1), (1, .int 3)]) (st' := [.int 5, .int 1, .int 3]) (w' := (fw z)) (cs' := 0) (ss' := 0) ?_ (fun _ _ => rfl)
  refine go_cl (k := 1) (st' := [.int 1]) (cs' := 0) (ss' := 0) rfl rfl rfl rfl rfl rfl rfl (ro_520 z) ?_
  exact go_end 6 (fun _ _ => rfl)
theorem ro_522 (z : pq_C) : pq_Ru 1 161 [.long 3, .long 1, .long 5] (fw z) (some (.int 1), (fw z)) := by
  refine ru_of (k := 0) (M := pm_161) rfl rfl ?_
  refine go_seg 8 (pc' := 13) (ls' := [(0, .long 3), (2, .long 1), (4, .long 5)]) (st' := []) (w' := (fw z)) (cs' := 0) (ss' := 0) ?_ (fun _ _ => rfl)
  exact go_end 3 (fun _ _ => rfl)
theorem ro_523 (z : pq_C) : pq_Ru 2 248 [.ref 90, .int 3] (fw z) (some (.int 0), (fw z)) := by
  refine ru_of (k := 1) (M := pm_248) rfl rfl ?_
  refine go_seg 4 (pc' := 6) (ls' := [(0, .ref 90), (1, .int 3)]) (st' := [.long 5, .long 1, .long 3]) (w' := (fw z)) (cs' := 0) (ss' := 0) ?_ (fun _ _ => rfl)
  refine go_cl (k := 1) (st' := [.int 1]) (cs' := 0) (ss' := 0) rfl rfl rfl rfl rfl rfl rfl (ro_522 z) ?_
  exact go_end 7 (fun _ _ => rfl)
theorem lf_40_524 (a0 : Int32) (a2 : Int32) (a3 : Int32) (a4 : Int32) (a5 : Int32) : ∃ w', pq_Go 20 pm_law 1644 [(3, .int 0), (2, .ref 90), (1, .ref 1), (0, .ref 0)] [] (fw (sz a0 3 a2 a3 a4 a5)) 109 12668 (some (.int 1), w') := by
  refine ⟨(fw (sz a0 3 a2 a3 a4 a5)), ?_⟩
  refine go_seg 6 (pc' := 1650) (ls' := [(3, .int 0), (2, .ref 90), (1, .ref 1), (0, .ref 0)]) (st' := [.int 3, .ref 1]) (w' := (fw (sz a0 3 a2 a3 a4 a5))) (cs' := 109) (ss' := 12668) ?_ (fun _ _ => rfl)
  refine go_cl (k := 20) (st' := [.int 0]) (cs' := 109) (ss' := 12668) rfl rfl rfl rfl rfl rfl rfl (ro_521 (sz a0 3 a2 a3 a4 a5)) ?_
  refine go_seg 6 (pc' := 1659) (ls' := [(3, .int 0), (2, .ref 90), (1, .ref 1), (0, .ref 0)]) (st' := [.int 3, .ref 90, .int 0]) (w' := (fw (sz a0 3 a2 a3 a4 a5))) (cs' := 109) (ss' := 12668) ?_ (fun _ _ => rfl)
  refine go_cl (k := 20) (st' := [.int 0, .int 0]) (cs' := 109) (ss' := 12668) rfl rfl rfl rfl rfl rfl rfl (ro_523 (sz a0 3 a2 a3 a4 a5)) ?_
  refine go_cmp true rfl (br_self _) ?_
  exact law_tail (f := sc a0 3 a2 a3 a4 a5) rfl
theorem ro_525 (z : pq_C) : pq_Ru 1 16 [.int 4, .int 1, .int 5] (fw z) (some (.int 1), (fw z)) := by
  refine ru_of (k := 0) (M := pm_16) rfl rfl ?_
  refine go_seg 8 (pc' := 15) (ls' := [(0, .int 4), (1, .int 1), (2, .int 5)]) (st' := [.int 1]) (w' := (fw z)) (cs' := 0) (ss' := 0) ?_ (fun _ _ => rfl)
  exact go_end 1 (fun _ _ => rfl)
theorem ro_526 (z : pq_C) : pq_Ru 2 157 [.ref 1, .int 4] (fw z) (some (.int 0), (fw z)) := by
  refine ru_of (k := 1) (M := pm_157) rfl rfl ?_
  refine go_seg 3 (pc' := 3) (ls' := [(0, .ref 1), (1, .int 4)]) (st' := [.int 5, .int 1, .int 4]) (w' := (fw z)) (cs' := 0) (ss' := 0) ?_ (fun _ _ => rfl)
  refine go_cl (k := 1) (st' := [.int 1]) (cs' := 0) (ss' := 0) rfl rfl rfl rfl rfl rfl rfl (ro_525 z) ?_
  exact go_end 6 (fun _ _ => rfl)
theorem ro_527 (z : pq_C) : pq_Ru 1 161 [.long 4, .long 1, .long 5] (fw z) (some (.int 1), (fw z)) := by
  refine ru_of (k := 0) (M := pm_161) rfl rfl ?_
  refine go_seg 8 (pc' := 13) (ls' := [(0, .long 4), (2, .long 1), (4, .long 5)]) (st' := []) (w' := (fw z)) (cs' := 0) (ss' := 0) ?_ (fun _ _ => rfl)
  exact go_end 3 (fun _ _ => rfl)
theorem ro_528 (z : pq_C) : pq_Ru 2 248 [.ref 90, .int 4] (fw z) (some (.int 0), (fw z)) := by
  refine ru_of (k := 1) (M := pm_248) rfl rfl ?_
  refine go_seg 4 (pc' := 6) (ls' := [(0, .ref 90), (1, .int 4)]) (st' := [.long 5, .long 1, .long 4]) (w' := (fw z)) (cs' := 0) (ss' := 0) ?_ (fun _ _ => rfl)
  refine go_cl (k := 1) (st' := [.int 1]) (cs' := 0) (ss' := 0) rfl rfl rfl rfl rfl rfl rfl (ro_527 z) ?_
  exact go_end 7 (fun _ _ => rfl)
theorem lf_40_529 (a0 : Int32) (a2 : Int32) (a3 : Int32) (a4 : Int32) (a5 : Int32) : ∃ w', pq_Go 20 pm_law 1644 [(3, .int 0), (2, .ref 90), (1, .ref 1), (0, .ref 0)] [] (fw (sz a0 4 a2 a3 a4 a5)) 109 12668 (some (.int 1), w') := by
  refine ⟨(fw (sz a0 4 a2 a3 a4 a5)), ?_⟩
  refine go_seg 6 (pc' := 1650) (ls' := [(3, .int 0), (2, .ref 90), (1, .ref 1), (0, .ref 0)]) (st' := [.int 4, .ref 1]) (w' := (fw (sz a0 4 a2 a3 a4 a5))) (cs' := 109) (ss' := 12668) ?_ (fun _ _ => rfl)
  refine go_cl (k := 20) (st' := [.int 0]) (cs' := 109) (ss' := 12668) rfl rfl rfl rfl rfl rfl rfl (ro_526 (sz a0 4 a2 a3 a4 a5)) ?_
  refine go_seg 6 (pc' := 1659) (ls' := [(3, .int 0), (2, .ref 90), (1, .ref 1), (0, .ref 0)]) (st' := [.int 4, .ref 90, .int 0]) (w' := (fw (sz a0 4 a2 a3 a4 a5))) (cs' := 109) (ss' := 12668) ?_ (fun _ _ => rfl)
  refine go_cl (k := 20) (st' := [.int 0, .int 0]) (cs' := 109) (ss' := 12668) rfl rfl rfl rfl rfl rfl rfl (ro_528 (sz a0 4 a2 a3 a4 a5)) ?_
  refine go_cmp true rfl (br_self _) ?_
  exact law_tail (f := sc a0 4 a2 a3 a4 a5) rfl
theorem ro_530 (z : pq_C) : pq_Ru 1 16 [.int 5, .int 1, .int 5] (fw z) (some (.int 1), (fw z)) := by
  refine ru_of (k := 0) (M := pm_16) rfl rfl ?_
  refine go_seg 8 (pc' := 15) (ls' := [(0, .int 5), (1, .int 1), (2, .int 5)]) (st' := [.int 1]) (w' := (fw z)) (cs' := 0) (ss' := 0) ?_ (fun _ _ => rfl)
  exact go_end 1 (fun _ _ => rfl)
theorem ro_531 (z : pq_C) : pq_Ru 2 157 [.ref 1, .int 5] (fw z) (some (.int 0), (fw z)) := by
  refine ru_of (k := 1) (M := pm_157) rfl rfl ?_
  refine go_seg 3 (pc' := 3) (ls' := [(0, .ref 1), (1, .int 5)]) (st' := [.int 5, .int 1, .int 5]) (w' := (fw z)) (cs' := 0) (ss' := 0) ?_ (fun _ _ => rfl)
  refine go_cl (k := 1) (st' := [.int 1]) (cs' := 0) (ss' := 0) rfl rfl rfl rfl rfl rfl rfl (ro_530 z) ?_
  exact go_end 6 (fun _ _ => rfl)
theorem ro_532 (z : pq_C) : pq_Ru 1 161 [.long 5, .long 1, .long 5] (fw z) (some (.int 1), (fw z)) := by
  refine ru_of (k := 0) (M := pm_161) rfl rfl ?_
  refine go_seg 8 (pc' := 13) (ls' := [(0, .long 5), (2, .long 1), (4, .long 5)]) (st' := []) (w' := (fw z)) (cs' := 0) (ss' := 0) ?_ (fun _ _ => rfl)
  exact go_end 3 (fun _ _ => rfl)
theorem ro_533 (z : pq_C) : pq_Ru 2 248 [.ref 90, .int 5] (fw z) (some (.int 0), (fw z)) := by
  refine ru_of (k := 1) (M := pm_248) rfl rfl ?_
  refine go_seg 4 (pc' := 6) (ls' := [(0, .ref 90), (1, .int 5)]) (st' := [.long 5, .long 1, .long 5]) (w' := (fw z)) (cs' := 0) (ss' := 0) ?_ (fun _ _ => rfl)
  refine go_cl (k := 1) (st' := [.int 1]) (cs' := 0) (ss' := 0) rfl rfl rfl rfl rfl rfl rfl (ro_532 z) ?_
  exact go_end 7 (fun _ _ => rfl)
theorem lf_40_534 (a0 : Int32) (a2 : Int32) (a3 : Int32) (a4 : Int32) (a5 : Int32) : ∃ w', pq_Go 20 pm_law 1644 [(3, .int 0), (2, .ref 90), (1, .ref 1), (0, .ref 0)] [] (fw (sz a0 5 a2 a3 a4 a5)) 109 12668 (some (.int 1), w') := by
  refine ⟨(fw (sz a0 5 a2 a3 a4 a5)), ?_⟩
  refine go_seg 6 (pc' := 1650) (ls' := [(3, .int 0), (2, .ref 90), (1, .ref 1), (0, .ref 0)]) (st' := [.int 5, .ref 1]) (w' := (fw (sz a0 5 a2 a3 a4 a5))) (cs' := 109) (ss' := 12668) ?_ (fun _ _ => rfl)
  refine go_cl (k := 20) (st' := [.int 0]) (cs' := 109) (ss' := 12668) rfl rfl rfl rfl rfl rfl rfl (ro_531 (sz a0 5 a2 a3 a4 a5)) ?_
  refine go_seg 6 (pc' := 1659) (ls' := [(3, .int 0), (2, .ref 90), (1, .ref 1), (0, .ref 0)]) (st' := [.int 5, .ref 90, .int 0]) (w' := (fw (sz a0 5 a2 a3 a4 a5))) (cs' := 109) (ss' := 12668) ?_ (fun _ _ => rfl)
  refine go_cl (k := 20) (st' := [.int 0, .int 0]) (cs' := 109) (ss' := 12668) rfl rfl rfl rfl rfl rfl rfl (ro_533 (sz a0 5 a2 a3 a4 a5)) ?_
  refine go_cmp true rfl (br_self _) ?_
  exact law_tail (f := sc a0 5 a2 a3 a4 a5) rfl
theorem ro_535 (z : pq_C) (a1 : Int32) (h0 : 1 ≤ a1.toInt) (h1 : 6 ≤ a1.toInt) : pq_Ru 1 16 [.int a1, .int 1, .int 5] (fw z) (some (.int 0), (fw z)) := by
  refine ru_of (k := 0) (M := pm_16) rfl rfl ?_
  refine go_seg 2 (pc' := 2) (ls' := [(0, .int a1), (1, .int 1), (2, .int 5)]) (st' := [.int 1, .int a1]) (w' := (fw z)) (cs' := 0) (ss' := 0) ?_ (fun _ _ => rfl)
  refine go_cmp false rfl (br_lt_f (b := 1) rfl (by omega)) ?_
  refine go_seg 2 (pc' := 7) (ls' := [(0, .int a1), (1, .int 1), (2, .int 5)]) (st' := [.int 5, .int a1]) (w' := (fw z)) (cs' := 0) (ss' := 0) ?_ (fun _ _ => rfl)
  refine go_cmp true rfl (br_gt_t (b := 5) rfl (by omega)) ?_
  exact go_end 2 (fun _ _ => rfl)
theorem ro_536 (z : pq_C) (a1 : Int32) (h0 : 1 ≤ a1.toInt) (h1 : 6 ≤ a1.toInt) : pq_Ru 3 157 [.ref 1, .int a1] (fw z) (some (.int (-1000001)), (wd_1000 z)) := by
  refine ru_of (k := 2) (M := pm_157) rfl rfl ?_
  refine go_seg 3 (pc' := 3) (ls' := [(0, .ref 1), (1, .int a1)]) (st' := [.int 5, .int 1, .int a1]) (w' := (fw z)) (cs' := 0) (ss' := 0) ?_ (fun _ _ => rfl)
  refine go_cl (k := 2) (st' := [.int 0]) (cs' := 0) (ss' := 0) rfl rfl rfl rfl rfl rfl rfl (ro_535 z a1 (by omega) (by omega)) ?_
  refine go_seg 3 (pc' := 11) (ls' := [(0, .ref 1), (1, .int a1)]) (st' := [.int 1, .ref 1]) (w' := (fw z)) (cs' := 0) (ss' := 0) ?_ (fun _ _ => rfl)
  refine go_cl (k := 2) (st' := [.int (-1000001)]) (cs' := 0) (ss' := 0) rfl rfl rfl rfl rfl rfl rfl (ro_2 z) ?_
  exact go_end 1 (fun _ _ => rfl)
theorem ro_537 (z : pq_C) (a1 : Int32) (h0 : 1 ≤ a1.toInt) (h1 : 6 ≤ a1.toInt) : pq_Ru 2 248 [.ref 90, .int a1] (wd_1000 z) (some (.int (-1000001)), (wd_1001 z)) := by
  refine ru_of (k := 1) (M := pm_248) rfl rfl ?_
  refine go_seg 4 (pc' := 6) (ls' := [(0, .ref 90), (1, .int a1)]) (st' := [.long 5, .long 1, .long a1.toInt64]) (w' := (wd_1000 z)) (cs' := 0) (ss' := 0) ?_ (fun _ _ => rfl)
  refine go_cl (k := 1) (st' := [.int 0]) (cs' := 0) (ss' := 0) rfl rfl rfl rfl rfl rfl rfl (wi_f _ a1 1 5 1 5 rfl rfl (by omega)) ?_
  refine go_seg 3 (pc' := 24) (ls' := [(0, .ref 90), (1, .int a1)]) (st' := [.int (-1000001), .ref 90]) (w' := (wd_1000 z)) (cs' := 0) (ss' := 0) ?_ (fun _ _ => rfl)
  refine go_cl (k := 1) (st' := [.int (-1000001)]) (cs' := 0) (ss' := 0) rfl rfl rfl rfl rfl rfl rfl (ro_5 z) ?_
  exact go_end 1 (fun _ _ => rfl)
theorem lf_40_538 (a0 : Int32) (a1 : Int32) (a2 : Int32) (a3 : Int32) (a4 : Int32) (a5 : Int32) (h0 : 1 ≤ a1.toInt) (h1 : 6 ≤ a1.toInt) : ∃ w', pq_Go 20 pm_law 1644 [(3, .int 0), (2, .ref 90), (1, .ref 1), (0, .ref 0)] [] (fw (sz a0 a1 a2 a3 a4 a5)) 109 12668 (some (.int 1), w') := by
  refine ⟨(wd_1001 (sz a0 a1 a2 a3 a4 a5)), ?_⟩
  refine go_seg 6 (pc' := 1650) (ls' := [(3, .int 0), (2, .ref 90), (1, .ref 1), (0, .ref 0)]) (st' := [.int a1, .ref 1]) (w' := (fw (sz a0 a1 a2 a3 a4 a5))) (cs' := 109) (ss' := 12668) ?_ (fun _ _ => rfl)
  refine go_cl (k := 20) (st' := [.int (-1000001)]) (cs' := 109) (ss' := 12668) rfl rfl rfl rfl rfl rfl rfl (ro_536 (sz a0 a1 a2 a3 a4 a5) a1 (by omega) (by omega)) ?_
  refine go_seg 6 (pc' := 1659) (ls' := [(3, .int 0), (2, .ref 90), (1, .ref 1), (0, .ref 0)]) (st' := [.int a1, .ref 90, .int (-1000001)]) (w' := (wd_1000 (sz a0 a1 a2 a3 a4 a5))) (cs' := 109) (ss' := 12668) ?_ (fun _ _ => rfl)
  refine go_cl (k := 20) (st' := [.int (-1000001), .int (-1000001)]) (cs' := 109) (ss' := 12668) rfl rfl rfl rfl rfl rfl rfl (ro_537 (sz a0 a1 a2 a3 a4 a5) a1 (by omega) (by omega)) ?_
  refine go_cmp true rfl (br_self _) ?_
  exact law_tail (f := sc a0 a1 a2 a3 a4 a5) rfl
theorem op_40 (a0 a1 a2 a3 a4 a5 : Int32) : ∃ w', pq_Go 20 pm_law 1644 [(3, .int 0), (2, .ref 90), (1, .ref 1), (0, .ref 0)] [] (fw (sz a0 a1 a2 a3 a4 a5)) 109 12668 (some (.int 1), w') := by
  by_cases c0 : a1.toInt < 1
  · exact lf_40_511 a0 a1 a2 a3 a4 a5 (by omega)
  · by_cases c1 : a1.toInt < 6
    · by_cases e2_1 : a1 = 1
      · subst e2_1
        exact lf_40_515 a0 a2 a3 a4 a5
      replace e2_1 := ne_t (b := 1) rfl e2_1
      by_cases e2_2 : a1 = 2
      · subst e2_2
        exact lf_40_519 a0 a2 a3 a4 a5
      replace e2_2 := ne_t (b := 2) rfl e2_2
      by_cases e2_3 : a1 = 3
      · subst e2_3
        exact lf_40_524 a0 a2 a3 a4 a5
      replace e2_3 := ne_t (b := 3) rfl e2_3
      by_cases e2_4 : a1 = 4
      · subst e2_4
        exact lf_40_529 a0 a2 a3 a4 a5
      replace e2_4 := ne_t (b := 4) rfl e2_4
      by_cases e2_5 : a1 = 5
      · subst e2_5
        exact lf_40_534 a0 a2 a3 a4 a5
      replace e2_5 := ne_t (b := 5) rfl e2_5
      exfalso
      omega
    · exact lf_40_538 a0 a1 a2 a3 a4 a5 (by omega) (by omega)
