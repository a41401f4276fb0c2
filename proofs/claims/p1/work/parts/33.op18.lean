theorem ro_255 (z : pq_C) (a1 : Int32) (h0 : a1.toInt < 0) : pq_Ru 1 45 [.ref 19, .int a1] (fw z) (some (.int 0), (fw z)) := by
  refine ru_of (k := 0) (M := pm_45) rfl rfl ?_
  refine go_seg 1 (pc' := 1) (ls' := [(0, .ref 19), (1, .int a1)]) (st' := [.int a1]) (w' := (fw z)) (cs' := 0) (ss' := 0) ?_ (fun _ _ => rfl)
  refine go_if true rfl (br_lt_t (b := 0) rfl (by omega)) ?_
  exact go_end 2 (fun _ _ => rfl)
theorem ro_256 (z : pq_C) (a1 : Int32) (a2 : Int32) (a3 : Int32) (a4 : Int32) (h0 : a1.toInt < 0) : pq_Ru 3 81 [.ref 1, .int a1, .int a2, .int a3, .int a4] (fw z) (some (.int (-1000001)), (wd_1000 z)) := by
  refine ru_of (k := 2) (M := pm_81) rfl rfl ?_
  refine go_seg 3 (pc' := 5) (ls' := [(0, .ref 1), (1, .int a1), (2, .int a2), (3, .int a3), (4, .int a4)]) (st' := [.int a1, .ref 19]) (w' := (fw z)) (cs' := 0) (ss' := 0) ?_ (fun _ _ => rfl)
  refine go_cl (k := 2) (st' := [.int 0]) (cs' := 0) (ss' := 0) rfl rfl rfl rfl rfl rfl rfl (ro_255 z a1 (by omega)) ?_
  refine go_seg 3 (pc' := 32) (ls' := [(0, .ref 1), (1, .int a1), (2, .int a2), (3, .int a3), (4, .int a4)]) (st' := [.int 1, .ref 1]) (w' := (fw z)) (cs' := 0) (ss' := 0) ?_ (fun _ _ => rfl)
  refine go_cl (k := 2) (st' := [.int (-1000001)]) (cs' := 0) (ss' := 0) rfl rfl rfl rfl rfl rfl rfl (ro_2 z) ?_
  exact go_end 1 (fun _ _ => rfl)
theorem ro_257 (z : pq_C) (a1 : Int32) (h0 : a1.toInt < 0) : pq_Ru 2 175 [.ref 90, .int a1, .int 4] (wd_1000 z) (some (.int 0), (wd_1000 z)) := by
  refine ru_of (k := 1) (M := pm_175) rfl rfl ?_
  refine go_seg 8 (pc' := 10) (ls' := [(0, .ref 90), (1, .int a1), (2, .int 4)]) (st' := [.int 1, .int 0, .long 0, .long a1.toInt64]) (w' := (wd_1000 z)) (cs' := 0) (ss' := 0) ?_ (fun _ _ => rfl)
  refine go_seg 2 (pc' := 12) (ls' := [(0, .ref 90), (1, .int a1), (2, .int 4)]) (st' := [.long (-1), .long 0, .long a1.toInt64]) (w' := (wd_1000 z)) (cs' := 0) (ss' := 0) ?_ (fun _ _ => rfl)
  refine go_cl (k := 1) (st' := [.int 0]) (cs' := 0) (ss' := 0) rfl rfl rfl rfl rfl rfl rfl (wi_f _ a1 0 (-1) 0 (-1) rfl rfl (by omega)) ?_
  exact go_end 1 (fun _ _ => rfl)
theorem ro_258 (z : pq_C) (a1 : Int32) (a2 : Int32) (a3 : Int32) (a4 : Int32) (h0 : a1.toInt < 0) : pq_Ru 3 207 [.ref 90, .int a1, .int a2, .int a3, .int a4] (wd_1000 z) (some (.int (-1000001)), (wd_1001 z)) := by
  refine ru_of (k := 2) (M := pm_207) rfl rfl ?_
  refine go_seg 3 (pc' := 3) (ls' := [(0, .ref 90), (1, .int a1), (2, .int a2), (3, .int a3), (4, .int a4)]) (st' := [.int 4, .int a1, .ref 90]) (w' := (wd_1000 z)) (cs' := 0) (ss' := 0) ?_ (fun _ _ => rfl)
  refine go_cl (k := 2) (st' := [.int 0]) (cs' := 0) (ss' := 0) rfl rfl rfl rfl rfl rfl rfl (ro_257 z a1 (by omega)) ?_
  refine go_seg 7 (pc' := 80) (ls' := [(5, .int 0), (0, .ref 90), (1, .int a1), (2, .int a2), (3, .int a3), (4, .int a4)]) (st' := [.int (-1000001), .ref 90]) (w' := (wd_1000 z)) (cs' := 0) (ss' := 0) ?_ (fun _ _ => rfl)
  refine go_cl (k := 2) (st' := [.int (-1000001)]) (cs' := 0) (ss' := 0) rfl rfl rfl rfl rfl rfl rfl (ro_5 z) ?_
  exact go_end 1 (fun _ _ => rfl)
theorem lf_18_259 (a0 : Int32) (a1 : Int32) (a2 : Int32) (a3 : Int32) (a4 : Int32) (a5 : Int32) (h0 : a1.toInt < 0) : ∃ w', pq_Go 20 pm_law 852 [(3, .int 0), (2, .ref 90), (1, .ref 1), (0, .ref 0)] [] (fw (sz a0 a1 a2 a3 a4 a5)) 109 12668 (some (.int 1), w') := by
  refine ⟨(wd_1001 (sz a0 a1 a2 a3 a4 a5)), ?_⟩
  refine go_seg 8 (pc' := 860) (ls' := [(3, .int 0), (2, .ref 90), (1, .ref 1), (0, .ref 0)]) (st' := [.int 0, .ref 0, .int a1, .ref 1]) (w' := (fw (sz a0 a1 a2 a3 a4 a5))) (cs' := 109) (ss' := 12668) ?_ (fun _ _ => rfl)
  refine go_seg 8 (pc' := 868) (ls' := [(3, .int 0), (2, .ref 90), (1, .ref 1), (0, .ref 0)]) (st' := [.int a3, .int a2, .int a1, .ref 1]) (w' := (fw (sz a0 a1 a2 a3 a4 a5))) (cs' := 109) (ss' := 12668) ?_ (fun _ _ => rfl)
  refine go_seg 5 (pc' := 873) (ls' := [(3, .int 0), (2, .ref 90), (1, .ref 1), (0, .ref 0)]) (st' := [.int a4, .int a3, .int a2, .int a1, .ref 1]) (w' := (fw (sz a0 a1 a2 a3 a4 a5))) (cs' := 109) (ss' := 12668) ?_ (fun _ _ => rfl)
  refine go_cl (k := 20) (st' := [.int (-1000001)]) (cs' := 109) (ss' := 12668) rfl rfl rfl rfl rfl rfl rfl (ro_256 (sz a0 a1 a2 a3 a4 a5) a1 a2 a3 a4 (by omega)) ?_
  refine go_seg 8 (pc' := 884) (ls' := [(3, .int 0), (2, .ref 90), (1, .ref 1), (0, .ref 0)]) (st' := [.int 0, .ref 0, .int a1, .ref 90, .int (-1000001)]) (w' := (wd_1000 (sz a0 a1 a2 a3 a4 a5))) (cs' := 109) (ss' := 12668) ?_ (fun _ _ => rfl)
  refine go_seg 8 (pc' := 892) (ls' := [(3, .int 0), (2, .ref 90), (1, .ref 1), (0, .ref 0)]) (st' := [.int a3, .int a2, .int a1, .ref 90, .int (-1000001)]) (w' := (wd_1000 (sz a0 a1 a2 a3 a4 a5))) (cs' := 109) (ss' := 12668) ?_ (fun _ _ => rfl)
  refine go_seg 5 (pc' := 897) (ls' := [(3, .int 0), (2, .ref 90), (1, .ref 1), (0, .ref 0)]) (st' := [.int a4, .int a3, .int a2, .int a1, .ref 90, .int (-1000001)]) (w' := (wd_1000 (sz a0 a1 a2 a3 a4 a5))) (cs' := 109) (ss' := 12668) ?_ (fun _ _ => rfl)
  refine go_cl (k := 20) (st' := [.int (-1000001), .int (-1000001)]) (cs' := 109) (ss' := 12668) rfl rfl rfl rfl rfl rfl rfl (ro_258 (sz a0 a1 a2 a3 a4 a5) a1 a2 a3 a4 (by omega)) ?_
  refine go_cmp true rfl (br_self _) ?_
  exact law_tail (f := sc a0 a1 a2 a3 a4 a5) rfl
theorem ro_260 (z : pq_C) (a1 : Int32) (h0 : 0 ≤ a1.toInt) : pq_Ru 1 45 [.ref 19, .int a1] (fw z) (some (.int 0), (fw z)) := by
  refine ru_of (k := 0) (M := pm_45) rfl rfl ?_
  refine go_seg 1 (pc' := 1) (ls' := [(0, .ref 19), (1, .int a1)]) (st' := [.int a1]) (w' := (fw z)) (cs' := 0) (ss' := 0) ?_ (fun _ _ => rfl)
  refine go_if false rfl (br_lt_f (b := 0) rfl (by omega)) ?_
  refine go_seg 3 (pc' := 9) (ls' := [(0, .ref 19), (1, .int a1)]) (st' := [.int 0, .int a1]) (w' := (fw z)) (cs' := 0) (ss' := 0) ?_ (fun _ _ => rfl)
  refine go_cmp true rfl (br_ge_t (b := 0) rfl (by omega)) ?_
  exact go_end 2 (fun _ _ => rfl)
theorem ro_261 (z : pq_C) (a1 : Int32) (a2 : Int32) (a3 : Int32) (a4 : Int32) (h0 : 0 ≤ a1.toInt) : pq_Ru 3 81 [.ref 1, .int a1, .int a2, .int a3, .int a4] (fw z) (some (.int (-1000001)), (wd_1000 z)) := by
  refine ru_of (k := 2) (M := pm_81) rfl rfl ?_
  refine go_seg 3 (pc' := 5) (ls' := [(0, .ref 1), (1, .int a1), (2, .int a2), (3, .int a3), (4, .int a4)]) (st' := [.int a1, .ref 19]) (w' := (fw z)) (cs' := 0) (ss' := 0) ?_ (fun _ _ => rfl)
  refine go_cl (k := 2) (st' := [.int 0]) (cs' := 0) (ss' := 0) rfl rfl rfl rfl rfl rfl rfl (ro_260 z a1 (by omega)) ?_
  refine go_seg 3 (pc' := 32) (ls' := [(0, .ref 1), (1, .int a1), (2, .int a2), (3, .int a3), (4, .int a4)]) (st' := [.int 1, .ref 1]) (w' := (fw z)) (cs' := 0) (ss' := 0) ?_ (fun _ _ => rfl)
  refine go_cl (k := 2) (st' := [.int (-1000001)]) (cs' := 0) (ss' := 0) rfl rfl rfl rfl rfl rfl rfl (ro_2 z) ?_
  exact go_end 1 (fun _ _ => rfl)
theorem ro_262 (z : pq_C) (a1 : Int32) (h0 : 0 ≤ a1.toInt) : pq_Ru 2 175 [.ref 90, .int a1, .int 4] (wd_1000 z) (some (.int 0), (wd_1000 z)) := by
  refine ru_of (k := 1) (M := pm_175) rfl rfl ?_
  refine go_seg 8 (pc' := 10) (ls' := [(0, .ref 90), (1, .int a1), (2, .int 4)]) (st' := [.int 1, .int 0, .long 0, .long a1.toInt64]) (w' := (wd_1000 z)) (cs' := 0) (ss' := 0) ?_ (fun _ _ => rfl)
  refine go_seg 2 (pc' := 12) (ls' := [(0, .ref 90), (1, .int a1), (2, .int 4)]) (st' := [.long (-1), .long 0, .long a1.toInt64]) (w' := (wd_1000 z)) (cs' := 0) (ss' := 0) ?_ (fun _ _ => rfl)
  refine go_cl (k := 1) (st' := [.int 0]) (cs' := 0) (ss' := 0) rfl rfl rfl rfl rfl rfl rfl (wi_f _ a1 0 (-1) 0 (-1) rfl rfl (by omega)) ?_
  exact go_end 1 (fun _ _ => rfl)
theorem ro_263 (z : pq_C) (a1 : Int32) (a2 : Int32) (a3 : Int32) (a4 : Int32) (h0 : 0 ≤ a1.toInt) : pq_Ru 3 207 [.ref 90, .int a1, .int a2, .int a3, .int a4] (wd_1000 z) (some (.int (-1000001)), (wd_1001 z)) := by
  refine ru_of (k := 2) (M := pm_207) rfl rfl ?_
  refine go_seg 3 (pc' := 3) (ls' := [(0, .ref 90), (1, .int a1), (2, .int a2), (3, .int a3), (4, .int a4)]) (st' := [.int 4, .int a1, .ref 90]) (w' := (wd_1000 z)) (cs' := 0) (ss' := 0) ?_ (fun _ _ => rfl)
  refine go_cl (k := 2) (st' := [.int 0]) (cs' := 0) (ss' := 0) rfl rfl rfl rfl rfl rfl rfl (ro_262 z a1 (by omega)) ?_
  refine go_seg 7 (pc' := 80) (ls' := [(5, .int 0), (0, .ref 90), (1, .int a1), (2, .int a2), (3, .int a3), (4, .int a4)]) (st' := [.int (-1000001), .ref 90]) (w' := (wd_1000 z)) (cs' := 0) (ss' := 0) ?_ (fun _ _ => rfl)
  refine go_cl (k := 2) (st' := [.int (-1000001)]) (cs' := 0) (ss' := 0) rfl rfl rfl rfl rfl rfl rfl (ro_5 z) ?_
  exact go_end 1 (fun _ _ => rfl)
theorem lf_18_264 (a0 : Int32) (a1 : Int32) (a2 : Int32) (a3 : Int32) (a4 : Int32) (a5 : Int32) (h0 : 0 ≤ a1.toInt) : ∃ w', pq_Go 20 pm_law 852 [(3, .int 0), (2, .ref 90), (1, .ref 1), (0, .ref 0)] [] (fw (sz a0 a1 a2 a3 a4 a5)) 109 12668 (some (.int 1), w') := by
  refine ⟨(wd_1001 (sz a0 a1 a2 a3 a4 a5)), ?_⟩
  refine go_seg 8 (pc' := 860) (ls' := [(3, .int 0), (2, .ref 90), (1, .ref 1), (0, .ref 0)]) (st' := [.int 0, .ref 0, .int a1, .ref 1]) (w' := (fw (sz a0 a1 a2 a3 a4 a5))) (cs' := 109) (ss' := 12668) ?_ (fun _ _ => rfl)
  refine go_seg 8 (pc' := 868) (ls' := [(3, .int 0), (2, .ref 90), (1, .ref 1), (0, .ref 0)]) (st' := [.int a3, .int a2, .int a1, .ref 1]) (w' := (fw (sz a0 a1 a2 a3 a4 a5))) (cs' := 109) (ss' := 12668) ?_ (fun _ _ => rfl)
  refine go_seg 5 (pc' := 873) (ls' := [(3, .int 0), (2, .ref 90), (1, .ref 1), (0, .ref 0)]) (st' := [.int a4, .int a3, .int a2, .int a1, .ref 1]) (w' := (fw (sz a0 a1 a2 a3 a4 a5))) (cs' := 109) (ss' := 12668) ?_ (fun _ _ => rfl)
  refine go_cl (k := 20) (st' := [.int (-1000001)]) (cs' := 109) (ss' := 12668) rfl rfl rfl rfl rfl rfl rfl (ro_261 (sz a0 a1 a2 a3 a4 a5) a1 a2 a3 a4 (by omega)) ?_
  refine go_seg 8 (pc' := 884) (ls' := [(3, .int 0), (2, .ref 90), (1, .ref 1), (0, .ref 0)]) (st' := [.int 0, .ref 0, .int a1, .ref 90, .int (-1000001)]) (w' := (wd_1000 (sz a0 a1 a2 a3 a4 a5))) (cs' := 109) (ss' := 12668) ?_ (fun _ _ => rfl)
  refine go_seg 8 (pc' := 892) (ls' := [(3, .int 0), (2, .ref 90), (1, .ref 1), (0, .ref 0)]) (st' := [.int a3, .int a2, .int a1, .ref 90, .int (-1000001)]) (w' := (wd_1000 (sz a0 a1 a2 a3 a4 a5))) (cs' := 109) (ss' := 12668) ?_ (fun _ _ => rfl)
  refine go_seg 5 (pc' := 897) (ls' := [(3, .int 0), (2, .ref 90), (1, .ref 1), (0, .ref 0)]) (st' := [.int a4, .int a3, .int a2, .int a1, .ref 90, .int (-1000001)]) (w' := (wd_1000 (sz a0 a1 a2 a3 a4 a5))) (cs' := 109) (ss' := 12668) ?_ (fun _ _ => rfl)
  refine go_cl (k := 20) (st' := [.int (-1000001), .int (-1000001)]) (cs' := 109) (ss' := 12668) rfl rfl rfl rfl rfl rfl rfl (ro_263 (sz a0 a1 a2 a3 a4 a5) a1 a2 a3 a4 (by omega)) ?_
  refine go_cmp true rfl (br_self _) ?_
  exact law_tail (f := sc a0 a1 a2 a3 a4 a5) rfl
theorem op_18 (a0 a1 a2 a3 a4 a5 : Int32) : ∃ w', pq_Go 20 pm_law 852 [(3, .int 0), (2, .ref 90), (1, .ref 1), (0, .ref 0)] [] (fw (sz a0 a1 a2 a3 a4 a5)) 109 12668 (some (.int 1), w') := by
  by_cases c0 : a1.toInt < 0
  · exact lf_18_259 a0 a1 a2 a3 a4 a5 (by omega)
  · exact lf_18_264 a0 a1 a2 a3 a4 a5 (by omega)
