theorem ro_440 (z : pq_C) : pq_Ru 3 152 [.ref 1] (fw z) (some (.int (-1000002)), (wd_1025 z)) := by
  refine ru_of (k := 2) (M := pm_152) rfl rfl ?_
  refine go_seg 5 (pc' := 9) (ls' := [(0, .ref 1)]) (st' := [.int 2, .ref 1]) (w' := (fw z)) (cs' := 0) (ss' := 0) ?_ (fun _ _ => rfl)
  refine go_cl (k := 2) (st' := [.int (-1000002)]) (cs' := 0) (ss' := 0) rfl rfl rfl rfl rfl rfl rfl (ro_127 z) ?_
  exact go_end 1 (fun _ _ => rfl)
theorem ro_441 (z : pq_C) : pq_Ru 2 246 [.ref 90] (wd_1025 z) (some (.int (-1000002)), (wd_1026 z)) := by
  refine ru_of (k := 1) (M := pm_246) rfl rfl ?_
  refine go_seg 5 (pc' := 10) (ls' := [(0, .ref 90)]) (st' := [.int (-1000002), .ref 90]) (w' := (wd_1025 z)) (cs' := 0) (ss' := 0) ?_ (fun _ _ => rfl)
  refine go_cl (k := 1) (st' := [.int (-1000002)]) (cs' := 0) (ss' := 0) rfl rfl rfl rfl rfl rfl rfl (ro_130 z) ?_
  exact go_end 1 (fun _ _ => rfl)
theorem lf_38_442 (a0 : Int32) (a1 : Int32) (a2 : Int32) (a3 : Int32) (a4 : Int32) (a5 : Int32) : ∃ w', pq_Go 20 pm_law 1608 [(3, .int 0), (2, .ref 90), (1, .ref 1), (0, .ref 0)] [] (fw (sz a0 a1 a2 a3 a4 a5)) 109 12668 (some (.int 1), w') := by
  refine ⟨(wd_1026 (sz a0 a1 a2 a3 a4 a5)), ?_⟩
  refine go_seg 1 (pc' := 1609) (ls' := [(3, .int 0), (2, .ref 90), (1, .ref 1), (0, .ref 0)]) (st' := [.ref 1]) (w' := (fw (sz a0 a1 a2 a3 a4 a5))) (cs' := 109) (ss' := 12668) ?_ (fun _ _ => rfl)
  refine go_cl (k := 20) (st' := [.int (-1000002)]) (cs' := 109) (ss' := 12668) rfl rfl rfl rfl rfl rfl rfl (ro_440 (sz a0 a1 a2 a3 a4 a5)) ?_
  refine go_seg 1 (pc' := 1613) (ls' := [(3, .int 0), (2, .ref 90), (1, .ref 1), (0, .ref 0)]) (st' := [.ref 90, .int (-1000002)]) (w' := (wd_1025 (sz a0 a1 a2 a3 a4 a5))) (cs' := 109) (ss' := 12668) ?_ (fun _ _ => rfl)
  refine go_cl (k := 20) (st' := [.int (-1000002), .int (-1000002)]) (cs' := 109) (ss' := 12668) rfl rfl rfl rfl rfl rfl rfl (ro_441 (sz a0 a1 a2 a3 a4 a5)) ?_
  refine go_cmp true rfl (br_self _) ?_
  exact law_tail (f := sc a0 a1 a2 a3 a4 a5) rfl
theorem op_38 (a0 a1 a2 a3 a4 a5 : Int32) : ∃ w', pq_Go 20 pm_law 1608 [(3, .int 0), (2, .ref 90), (1, .ref 1), (0, .ref 0)] [] (fw (sz a0 a1 a2 a3 a4 a5)) 109 12668 (some (.int 1), w') := by
  exact lf_38_442 a0 a1 a2 a3 a4 a5
