theorem ro_237 (z : pq_C) (a1 : Int32) (a2 : Int32) (h0 : a1.toInt < 0) : pq_Ru 3 80 [.ref 1, .int a1, .int a2] (fw z) (some (.int (-1000001)), (wd_1000 z)) := by
  refine ru_of (k := 2) (M := pm_80) rfl rfl ?_
  refine go_seg 1 (pc' := 1) (ls' := [(0, .ref 1), (1, .int a1), (2, .int a2)]) (st' := [.int a1]) (w' := (fw z)) (cs' := 0) (ss' := 0) ?_ (fun _ _ => rfl)
  refine go_cl (k := 2) (st' := [.int 0]) (cs' := 0) (ss' := 0) rfl rfl rfl rfl rfl rfl rfl (ro_73 z a1 (by omega)) ?_
  refine go_seg 3 (pc' := 16) (ls' := [(0, .ref 1), (1, .int a1), (2, .int a2)]) (st' := [.int 1, .ref 1]) (w' := (fw z)) (cs' := 0) (ss' := 0) ?_ (fun _ _ => rfl)
  refine go_cl (k := 2) (st' := [.int (-1000001)]) (cs' := 0) (ss' := 0) rfl rfl rfl rfl rfl rfl rfl (ro_2 z) ?_
  exact go_end 1 (fun _ _ => rfl)
theorem ro_238 (z : pq_C) (a1 : Int32) (a2 : Int32) (h0 : a1.toInt < 0) : pq_Ru 2 206 [.ref 90, .int a1, .int a2] (wd_1000 z) (some (.int (-1000001)), (wd_1001 z)) := by
  refine ru_of (k := 1) (M := pm_206) rfl rfl ?_
  refine go_seg 4 (pc' := 6) (ls' := [(0, .ref 90), (1, .int a1), (2, .int a2)]) (st' := [.long 3, .long 0, .long a1.toInt64]) (w' := (wd_1000 z)) (cs' := 0) (ss' := 0) ?_ (fun _ _ => rfl)
  refine go_cl (k := 1) (st' := [.int 0]) (cs' := 0) (ss' := 0) rfl rfl rfl rfl rfl rfl rfl (wi_f _ a1 0 3 0 3 rfl rfl (by omega)) ?_
  refine go_seg 3 (pc' := 27) (ls' := [(0, .ref 90), (1, .int a1), (2, .int a2)]) (st' := [.int (-1000001), .ref 90]) (w' := (wd_1000 z)) (cs' := 0) (ss' := 0) ?_ (fun _ _ => rfl)
  refine go_cl (k := 1) (st' := [.int (-1000001)]) (cs' := 0) (ss' := 0) rfl rfl rfl rfl rfl rfl rfl (ro_5 z) ?_
  exact go_end 1 (fun _ _ => rfl)
theorem lf_17_239 (a0 : Int32) (a1 : Int32) (a2 : Int32) (a3 : Int32) (a4 : Int32) (a5 : Int32) (h0 : a1.toInt < 0) : ∃ w', pq_Go 20 pm_law 819 [(3, .int 0), (2, .ref 90), (1, .ref 1), (0, .ref 0)] [] (fw (sz a0 a1 a2 a3 a4 a5)) 109 12668 (some (.int 1), w') := by
  refine ⟨(wd_1001 (sz a0 a1 a2 a3 a4 a5)), ?_⟩
  refine go_seg 8 (pc' := 827) (ls' := [(3, .int 0), (2, .ref 90), (1, .ref 1), (0, .ref 0)]) (st' := [.int 0, .ref 0, .int a1, .ref 1]) (w' := (fw (sz a0 a1 a2 a3 a4 a5))) (cs' := 109) (ss' := 12668) ?_ (fun _ _ => rfl)
  refine go_seg 3 (pc' := 830) (ls' := [(3, .int 0), (2, .ref 90), (1, .ref 1), (0, .ref 0)]) (st' := [.int a2, .int a1, .ref 1]) (w' := (fw (sz a0 a1 a2 a3 a4 a5))) (cs' := 109) (ss' := 12668) ?_ (fun _ _ => rfl)
  refine go_cl (k := 20) (st' := [.int (-1000001)]) (cs' := 109) (ss' := 12668) rfl rfl rfl rfl rfl rfl rfl (ro_237 (sz a0 a1 a2 a3 a4 a5) a1 a2 (by omega)) ?_
  refine go_seg 8 (pc' := 841) (ls' := [(3, .int 0), (2, .ref 90), (1, .ref 1), (0, .ref 0)]) (st' := [.int 0, .ref 0, .int a1, .ref 90, .int (-1000001)]) (w' := (wd_1000 (sz a0 a1 a2 a3 a4 a5))) (cs' := 109) (ss' := 12668) ?_ (fun _ _ => rfl)
  refine go_seg 3 (pc' := 844) (ls' := [(3, .int 0), (2, .ref 90), (1, .ref 1), (0, .ref 0)]) (st' := [.int a2, .int a1, .ref 90, .int (-1000001)]) (w' := (wd_1000 (sz a0 a1 a2 a3 a4 a5))) (cs' := 109) (ss' := 12668) ?_ (fun _ _ => rfl)
  refine go_cl (k := 20) (st' := [.int (-1000001), .int (-1000001)]) (cs' := 109) (ss' := 12668) rfl rfl rfl rfl rfl rfl rfl (ro_238 (sz a0 a1 a2 a3 a4 a5) a1 a2 (by omega)) ?_
  refine go_cmp true rfl (br_self _) ?_
  exact law_tail (f := sc a0 a1 a2 a3 a4 a5) rfl
theorem ro_240 (z : pq_C) (a1 : Int32) (a2 : Int32) (h0 : 0 ≤ a1.toInt) (h1 : a1.toInt < 4) (h2 : a2.toInt < 0) : pq_Ru 3 80 [.ref 1, .int a1, .int a2] (fw z) (some (.int (-1000001)), (wd_1000 z)) := by
  refine ru_of (k := 2) (M := pm_80) rfl rfl ?_
  refine go_seg 1 (pc' := 1) (ls' := [(0, .ref 1), (1, .int a1), (2, .int a2)]) (st' := [.int a1]) (w' := (fw z)) (cs' := 0) (ss' := 0) ?_ (fun _ _ => rfl)
  refine go_cl (k := 2) (st' := [.int 1]) (cs' := 0) (ss' := 0) rfl rfl rfl rfl rfl rfl rfl (ro_77 z a1 (by omega) (by omega)) ?_
  refine go_seg 2 (pc' := 8) (ls' := [(0, .ref 1), (1, .int a1), (2, .int a2)]) (st' := [.int a2]) (w' := (fw z)) (cs' := 0) (ss' := 0) ?_ (fun _ _ => rfl)
  refine go_cl (k := 2) (st' := [.int 0]) (cs' := 0) (ss' := 0) rfl rfl rfl rfl rfl rfl rfl (ro_78 z a2 (by omega)) ?_
  refine go_seg 3 (pc' := 16) (ls' := [(0, .ref 1), (1, .int a1), (2, .int a2)]) (st' := [.int 1, .ref 1]) (w' := (fw z)) (cs' := 0) (ss' := 0) ?_ (fun _ _ => rfl)
  refine go_cl (k := 2) (st' := [.int (-1000001)]) (cs' := 0) (ss' := 0) rfl rfl rfl rfl rfl rfl rfl (ro_2 z) ?_
  exact go_end 1 (fun _ _ => rfl)
theorem ro_241 (z : pq_C) (a1 : Int32) (a2 : Int32) (h0 : 0 ≤ a1.toInt) (h1 : a1.toInt < 4) (h2 : a2.toInt < 0) : pq_Ru 2 206 [.ref 90, .int a1, .int a2] (wd_1000 z) (some (.int (-1000001)), (wd_1001 z)) := by
  refine ru_of (k := 1) (M := pm_206) rfl rfl ?_
  refine go_seg 4 (pc' := 6) (ls' := [(0, .ref 90), (1, .int a1), (2, .int a2)]) (st' := [.long 3, .long 0, .long a1.toInt64]) (w' := (wd_1000 z)) (cs' := 0) (ss' := 0) ?_ (fun _ _ => rfl)
  refine go_cl (k := 1) (st' := [.int 1]) (cs' := 0) (ss' := 0) rfl rfl rfl rfl rfl rfl rfl (wi_t _ a1 0 3 0 3 rfl rfl (by omega)) ?_
  refine go_seg 5 (pc' := 18) (ls' := [(0, .ref 90), (1, .int a1), (2, .int a2)]) (st' := [.long 3000, .long 0, .long a2.toInt64]) (w' := (wd_1000 z)) (cs' := 0) (ss' := 0) ?_ (fun _ _ => rfl)
  refine go_cl (k := 1) (st' := [.int 0]) (cs' := 0) (ss' := 0) rfl rfl rfl rfl rfl rfl rfl (wi_f _ a2 0 3000 0 3000 rfl rfl (by omega)) ?_
  refine go_seg 3 (pc' := 27) (ls' := [(0, .ref 90), (1, .int a1), (2, .int a2)]) (st' := [.int (-1000001), .ref 90]) (w' := (wd_1000 z)) (cs' := 0) (ss' := 0) ?_ (fun _ _ => rfl)
  refine go_cl (k := 1) (st' := [.int (-1000001)]) (cs' := 0) (ss' := 0) rfl rfl rfl rfl rfl rfl rfl (ro_5 z) ?_
  exact go_end 1 (fun _ _ => rfl)
theorem lf_17_242 (a0 : Int32) (a1 : Int32) (a2 : Int32) (a3 : Int32) (a4 : Int32) (a5 : Int32) (h0 : 0 ≤ a1.toInt) (h1 : a1.toInt < 4) (h2 : a2.toInt < 0) : ∃ w', pq_Go 20 pm_law 819 [(3, .int 0), (2, .ref 90), (1, .ref 1), (0, .ref 0)] [] (fw (sz a0 a1 a2 a3 a4 a5)) 109 12668 (some (.int 1), w') := by
  refine ⟨(wd_1001 (sz a0 a1 a2 a3 a4 a5)), ?_⟩
  refine go_seg 8 (pc' := 827) (ls' := [(3, .int 0), (2, .ref 90), (1, .ref 1), (0, .ref 0)]) (st' := [.int 0, .ref 0, .int a1, .ref 1]) (w' := (fw (sz a0 a1 a2 a3 a4 a5))) (cs' := 109) (ss' := 12668) ?_ (fun _ _ => rfl)
  refine go_seg 3 (pc' := 830) (ls' := [(3, .int 0), (2, .ref 90), (1, .ref 1), (0, .ref 0)]) (st' := [.int a2, .int a1, .ref 1]) (w' := (fw (sz a0 a1 a2 a3 a4 a5))) (cs' := 109) (ss' := 12668) ?_ (fun _ _ => rfl)
  refine go_cl (k := 20) (st' := [.int (-1000001)]) (cs' := 109) (ss' := 12668) rfl rfl rfl rfl rfl rfl rfl (ro_240 (sz a0 a1 a2 a3 a4 a5) a1 a2 (by omega) (by omega) (by omega)) ?_
  refine go_seg 8 (pc' := 841) (ls' := [(3, .int 0), (2, .ref 90), (1, .ref 1), (0, .ref 0)]) (st' := [.int 0, .ref 0, .int a1, .ref 90, .int (-1000001)]) (w' := (wd_1000 (sz a0 a1 a2 a3 a4 a5))) (cs' := 109) (ss' := 12668) ?_ (fun _ _ => rfl)
  refine go_seg 3 (pc' := 844) (ls' := [(3, .int 0), (2, .ref 90), (1, .ref 1), (0, .ref 0)]) (st' := [.int a2, .int a1, .ref 90, .int (-1000001)]) (w' := (wd_1000 (sz a0 a1 a2 a3 a4 a5))) (cs' := 109) (ss' := 12668) ?_ (fun _ _ => rfl)
  refine go_cl (k := 20) (st' := [.int (-1000001), .int (-1000001)]) (cs' := 109) (ss' := 12668) rfl rfl rfl rfl rfl rfl rfl (ro_241 (sz a0 a1 a2 a3 a4 a5) a1 a2 (by omega) (by omega) (by omega)) ?_
  refine go_cmp true rfl (br_self _) ?_
  exact law_tail (f := sc a0 a1 a2 a3 a4 a5) rfl
theorem ro_243 (z : pq_C) (a1 : Int32) (a2 : Int32) (h0 : 0 ≤ a1.toInt) (h1 : a1.toInt < 4) (h2 : 0 ≤ a2.toInt) (h3 : a2.toInt < 3001) : pq_Ru 1 42 [.ref 19, .int a1, .int a2] (fw z) (some (.int (-1)), (fw z)) := by
  refine ru_of (k := 0) (M := pm_42) rfl rfl ?_
  refine go_seg 8 (pc' := 37) (ls' := [(3, .int 11), (0, .ref 19), (1, .int a1), (2, .int a2)]) (st' := []) (w' := (fw z)) (cs' := 0) (ss' := 0) ?_ (fun _ _ => rfl)
  refine go_seg 8 (pc' := 37) (ls' := [(3, .int 10), (0, .ref 19), (1, .int a1), (2, .int a2)]) (st' := []) (w' := (fw z)) (cs' := 0) (ss' := 0) ?_ (fun _ _ => rfl)
  refine go_seg 8 (pc' := 37) (ls' := [(3, .int 9), (0, .ref 19), (1, .int a1), (2, .int a2)]) (st' := []) (w' := (fw z)) (cs' := 0) (ss' := 0) ?_ (fun _ _ => rfl)
  refine go_seg 8 (pc' := 37) (ls' := [(3, .int 8), (0, .ref 19), (1, .int a1), (2, .int a2)]) (st' := []) (w' := (fw z)) (cs' := 0) (ss' := 0) ?_ (fun _ _ => rfl)
  refine go_seg 8 (pc' := 37) (ls' := [(3, .int 7), (0, .ref 19), (1, .int a1), (2, .int a2)]) (st' := []) (w' := (fw z)) (cs' := 0) (ss' := 0) ?_ (fun _ _ => rfl)
  refine go_seg 8 (pc' := 37) (ls' := [(3, .int 6), (0, .ref 19), (1, .int a1), (2, .int a2)]) (st' := []) (w' := (fw z)) (cs' := 0) (ss' := 0) ?_ (fun _ _ => rfl)
  refine go_seg 8 (pc' := 37) (ls' := [(3, .int 5), (0, .ref 19), (1, .int a1), (2, .int a2)]) (st' := []) (w' := (fw z)) (cs' := 0) (ss' := 0) ?_ (fun _ _ => rfl)
  refine go_seg 8 (pc' := 37) (ls' := [(3, .int 4), (0, .ref 19), (1, .int a1), (2, .int a2)]) (st' := []) (w' := (fw z)) (cs' := 0) (ss' := 0) ?_ (fun _ _ => rfl)
  refine go_seg 8 (pc' := 37) (ls' := [(3, .int 3), (0, .ref 19), (1, .int a1), (2, .int a2)]) (st' := []) (w' := (fw z)) (cs' := 0) (ss' := 0) ?_ (fun _ _ => rfl)
  refine go_seg 8 (pc' := 37) (ls' := [(3, .int 2), (0, .ref 19), (1, .int a1), (2, .int a2)]) (st' := []) (w' := (fw z)) (cs' := 0) (ss' := 0) ?_ (fun _ _ => rfl)
  refine go_seg 8 (pc' := 37) (ls' := [(3, .int 1), (0, .ref 19), (1, .int a1), (2, .int a2)]) (st' := []) (w' := (fw z)) (cs' := 0) (ss' := 0) ?_ (fun _ _ => rfl)
  refine go_seg 8 (pc' := 37) (ls' := [(3, .int 0), (0, .ref 19), (1, .int a1), (2, .int a2)]) (st' := []) (w' := (fw z)) (cs' := 0) (ss' := 0) ?_ (fun _ _ => rfl)
  exact go_end 6 (fun _ _ => rfl)
theorem ro_244 (z : pq_C) (a1 : Int32) (a2 : Int32) (h0 : 0 ≤ a1.toInt) (h1 : a1.toInt < 4) (h2 : 0 ≤ a2.toInt) (h3 : a2.toInt < 3001) : pq_Ru 3 80 [.ref 1, .int a1, .int a2] (fw z) (some (.int (-1000002)), (wd_1025 z)) := by
  refine ru_of (k := 2) (M := pm_80) rfl rfl ?_
  refine go_seg 1 (pc' := 1) (ls' := [(0, .ref 1), (1, .int a1), (2, .int a2)]) (st' := [.int a1]) (w' := (fw z)) (cs' := 0) (ss' := 0) ?_ (fun _ _ => rfl)
  refine go_cl (k := 2) (st' := [.int 1]) (cs' := 0) (ss' := 0) rfl rfl rfl rfl rfl rfl rfl (ro_77 z a1 (by omega) (by omega)) ?_
  refine go_seg 2 (pc' := 8) (ls' := [(0, .ref 1), (1, .int a1), (2, .int a2)]) (st' := [.int a2]) (w' := (fw z)) (cs' := 0) (ss' := 0) ?_ (fun _ _ => rfl)
  refine go_cl (k := 2) (st' := [.int 1]) (cs' := 0) (ss' := 0) rfl rfl rfl rfl rfl rfl rfl (ro_82 z a2 (by omega) (by omega)) ?_
  refine go_seg 5 (pc' := 26) (ls' := [(0, .ref 1), (1, .int a1), (2, .int a2)]) (st' := [.int a2, .int a1, .ref 19]) (w' := (fw z)) (cs' := 0) (ss' := 0) ?_ (fun _ _ => rfl)
  refine go_cl (k := 2) (st' := [.int (-1)]) (cs' := 0) (ss' := 0) rfl rfl rfl rfl rfl rfl rfl (ro_243 z a1 a2 (by omega) (by omega) (by omega) (by omega)) ?_
  refine go_seg 5 (pc' := 36) (ls' := [(3, .int (-1)), (0, .ref 1), (1, .int a1), (2, .int a2)]) (st' := [.int 2, .ref 1]) (w' := (fw z)) (cs' := 0) (ss' := 0) ?_ (fun _ _ => rfl)
  refine go_cl (k := 2) (st' := [.int (-1000002)]) (cs' := 0) (ss' := 0) rfl rfl rfl rfl rfl rfl rfl (ro_127 z) ?_
  exact go_end 2 (fun _ _ => rfl)
theorem ro_245 (z : pq_C) (a1 : Int32) (a2 : Int32) (h0 : 0 ≤ a1.toInt) (h1 : a1.toInt < 4) (h2 : 0 ≤ a2.toInt) (h3 : a2.toInt < 3001) : pq_Ru 1 183 [.ref 90, .int a1, .int a2] (wd_1025 z) (some (.int (-1)), (wd_1025 z)) := by
  refine ru_of (k := 0) (M := pm_183) rfl rfl ?_
  refine go_seg 8 (pc' := 12) (ls' := [(4, .int 0), (3, .int (-1)), (0, .ref 90), (1, .int a1), (2, .int a2)]) (st' := [.int 4, .ref 91, .int 0]) (w' := (wd_1025 z)) (cs' := 0) (ss' := 0) ?_ (fun _ _ => rfl)
  exact go_end 4 (fun _ _ => rfl)
theorem ro_246 (z : pq_C) (a1 : Int32) (a2 : Int32) (h0 : 0 ≤ a1.toInt) (h1 : a1.toInt < 4) (h2 : 0 ≤ a2.toInt) (h3 : a2.toInt < 3001) : pq_Ru 2 206 [.ref 90, .int a1, .int a2] (wd_1025 z) (some (.int (-1000002)), (wd_1026 z)) := by
  refine ru_of (k := 1) (M := pm_206) rfl rfl ?_
  refine go_seg 4 (pc' := 6) (ls' := [(0, .ref 90), (1, .int a1), (2, .int a2)]) (st' := [.long 3, .long 0, .long a1.toInt64]) (w' := (wd_1025 z)) (cs' := 0) (ss' := 0) ?_ (fun _ _ => rfl)
  refine go_cl (k := 1) (st' := [.int 1]) (cs' := 0) (ss' := 0) rfl rfl rfl rfl rfl rfl rfl (wi_t _ a1 0 3 0 3 rfl rfl (by omega)) ?_
  refine go_seg 5 (pc' := 18) (ls' := [(0, .ref 90), (1, .int a1), (2, .int a2)]) (st' := [.long 3000, .long 0, .long a2.toInt64]) (w' := (wd_1025 z)) (cs' := 0) (ss' := 0) ?_ (fun _ _ => rfl)
  refine go_cl (k := 1) (st' := [.int 1]) (cs' := 0) (ss' := 0) rfl rfl rfl rfl rfl rfl rfl (wi_t _ a2 0 3000 0 3000 rfl rfl (by omega)) ?_
  refine go_seg 4 (pc' := 34) (ls' := [(0, .ref 90), (1, .int a1), (2, .int a2)]) (st' := [.int a2, .int a1, .ref 90]) (w' := (wd_1025 z)) (cs' := 0) (ss' := 0) ?_ (fun _ _ => rfl)
  refine go_cl (k := 1) (st' := [.int (-1)]) (cs' := 0) (ss' := 0) rfl rfl rfl rfl rfl rfl rfl (ro_245 z a1 a2 (by omega) (by omega) (by omega) (by omega)) ?_
  refine go_seg 5 (pc' := 45) (ls' := [(3, .int (-1)), (0, .ref 90), (1, .int a1), (2, .int a2)]) (st' := [.int (-1000002), .ref 90]) (w' := (wd_1025 z)) (cs' := 0) (ss' := 0) ?_ (fun _ _ => rfl)
  refine go_cl (k := 1) (st' := [.int (-1000002)]) (cs' := 0) (ss' := 0) rfl rfl rfl rfl rfl rfl rfl (ro_130 z) ?_
  exact go_end 2 (fun _ _ => rfl)
theorem lf_17_247 (a0 : Int32) (a1 : Int32) (a2 : Int32) (a3 : Int32) (a4 : Int32) (a5 : Int32) (h0 : 0 ≤ a1.toInt) (h1 : a1.toInt < 4) (h2 : 0 ≤ a2.toInt) (h3 : a2.toInt < 3001) : ∃ w', pq_Go 20 pm_law 819 [(3, .int 0), (2, .ref 90), (1, .ref 1), (0, .ref 0)] [] (fw (sz a0 a1 a2 a3 a4 a5)) 109 12668 (some (.int 1), w') := by
  refine ⟨(wd_1026 (sz a0 a1 a2 a3 a4 a5)), ?_⟩
  refine go_seg 8 (pc' := 827) (ls' := [(3, .int 0), (2, .ref 90), (1, .ref 1), (0, .ref 0)]) (st' := [.int 0, .ref 0, .int a1, .ref 1]) (w' := (fw (sz a0 a1 a2 a3 a4 a5))) (cs' := 109) (ss' := 12668) ?_ (fun _ _ => rfl)
  refine go_seg 3 (pc' := 830) (ls' := [(3, .int 0), (2, .ref 90), (1, .ref 1), (0, .ref 0)]) (st' := [.int a2, .int a1, .ref 1]) (w' := (fw (sz a0 a1 a2 a3 a4 a5))) (cs' := 109) (ss' := 12668) ?_ (fun _ _ => rfl)
  refine go_cl (k := 20) (st' := [.int (-1000002)]) (cs' := 109) (ss' := 12668) rfl rfl rfl rfl rfl rfl rfl (ro_244 (sz a0 a1 a2 a3 a4 a5) a1 a2 (by omega) (by omega) (by omega) (by omega)) ?_
  refine go_seg 8 (pc' := 841) (ls' := [(3, .int 0), (2, .ref 90), (1, .ref 1), (0, .ref 0)]) (st' := [.int 0, .ref 0, .int a1, .ref 90, .int (-1000002)]) (w' := (wd_1025 (sz a0 a1 a2 a3 a4 a5))) (cs' := 109) (ss' := 12668) ?_ (fun _ _ => rfl)
  refine go_seg 3 (pc' := 844) (ls' := [(3, .int 0), (2, .ref 90), (1, .ref 1), (0, .ref 0)]) (st' := [.int a2, .int a1, .ref 90, .int (-1000002)]) (w' := (wd_1025 (sz a0 a1 a2 a3 a4 a5))) (cs' := 109) (ss' := 12668) ?_ (fun _ _ => rfl)
  refine go_cl (k := 20) (st' := [.int (-1000002), .int (-1000002)]) (cs' := 109) (ss' := 12668) rfl rfl rfl rfl rfl rfl rfl (ro_246 (sz a0 a1 a2 a3 a4 a5) a1 a2 (by omega) (by omega) (by omega) (by omega)) ?_
  refine go_cmp true rfl (br_self _) ?_
  exact law_tail (f := sc a0 a1 a2 a3 a4 a5) rfl
theorem ro_248 (z : pq_C) (a1 : Int32) (a2 : Int32) (h0 : 0 ≤ a1.toInt) (h1 : a1.toInt < 4) (h2 : 0 ≤ a2.toInt) (h3 : 3001 ≤ a2.toInt) : pq_Ru 3 80 [.ref 1, .int a1, .int a2] (fw z) (some (.int (-1000001)), (wd_1000 z)) := by
  refine ru_of (k := 2) (M := pm_80) rfl rfl ?_
  refine go_seg 1 (pc' := 1) (ls' := [(0, .ref 1), (1, .int a1), (2, .int a2)]) (st' := [.int a1]) (w' := (fw z)) (cs' := 0) (ss' := 0) ?_ (fun _ _ => rfl)
  refine go_cl (k := 2) (st' := [.int 1]) (cs' := 0) (ss' := 0) rfl rfl rfl rfl rfl rfl rfl (ro_77 z a1 (by omega) (by omega)) ?_
  refine go_seg 2 (pc' := 8) (ls' := [(0, .ref 1), (1, .int a1), (2, .int a2)]) (st' := [.int a2]) (w' := (fw z)) (cs' := 0) (ss' := 0) ?_ (fun _ _ => rfl)
  refine go_cl (k := 2) (st' := [.int 0]) (cs' := 0) (ss' := 0) rfl rfl rfl rfl rfl rfl rfl (ro_117 z a2 (by omega) (by omega)) ?_
  refine go_seg 3 (pc' := 16) (ls' := [(0, .ref 1), (1, .int a1), (2, .int a2)]) (st' := [.int 1, .ref 1]) (w' := (fw z)) (cs' := 0) (ss' := 0) ?_ (fun _ _ => rfl)
  refine go_cl (k := 2) (st' := [.int (-1000001)]) (cs' := 0) (ss' := 0) rfl rfl rfl rfl rfl rfl rfl (ro_2 z) ?_
  exact go_end 1 (fun _ _ => rfl)
theorem ro_249 (z : pq_C) (a1 : Int32) (a2 : Int32) (h0 : 0 ≤ a1.toInt) (h1 : a1.toInt < 4) (h2 : 0 ≤ a2.toInt) (h3 : 3001 ≤ a2.toInt) : pq_Ru 2 206 [.ref 90, .int a1, .int a2] (wd_1000 z) (some (.int (-1000001)), (wd_1001 z)) := by
  refine ru_of (k := 1) (M := pm_206) rfl rfl ?_
  refine go_seg 4 (pc' := 6) (ls' := [(0, .ref 90), (1, .int a1), (2, .int a2)]) (st' := [.long 3, .long 0, .long a1.toInt64]) (w' := (wd_1000 z)) (cs' := 0) (ss' := 0) ?_ (fun _ _ => rfl)
  refine go_cl (k := 1) (st' := [.int 1]) (cs' := 0) (ss' := 0) rfl rfl rfl rfl rfl rfl rfl (wi_t _ a1 0 3 0 3 rfl rfl (by omega)) ?_
  refine go_seg 5 (pc' := 18) (ls' := [(0, .ref 90), (1, .int a1), (2, .int a2)]) (st' := [.long 3000, .long 0, .long a2.toInt64]) (w' := (wd_1000 z)) (cs' := 0) (ss' := 0) ?_ (fun _ _ => rfl)
  refine go_cl (k := 1) (st' := [.int 0]) (cs' := 0) (ss' := 0) rfl rfl rfl rfl rfl rfl rfl (wi_f _ a2 0 3000 0 3000 rfl rfl (by omega)) ?_
  refine go_seg 3 (pc' := 27) (ls' := [(0, .ref 90), (1, .int a1), (2, .int a2)]) (st' := [.int (-1000001), .ref 90]) (w' := (wd_1000 z)) (cs' := 0) (ss' := 0) ?_ (fun _ _ => rfl)
  refine go_cl (k := 1) (st' := [.int (-1000001)]) (cs' := 0) (ss' := 0) rfl rfl rfl rfl rfl rfl rfl (ro_5 z) ?_
  exact go_end 1 (fun _ _ => rfl)
theorem lf_17_250 (a0 : Int32) (a1 : Int32) (a2 : Int32) (a3 : Int32) (a4 : Int32) (a5 : Int32) (h0 : 0 ≤ a1.toInt) (h1 : a1.toInt < 4) (h2 : 0 ≤ a2.toInt) (h3 : 3001 ≤ a2.toInt) : ∃ w', pq_Go 20 pm_law 819 [(3, .int 0), (2, .ref 90), (1, .ref 1), (0, .ref 0)] [] (fw (sz a0 a1 a2 a3 a4 a5)) 109 12668 (some (.int 1), w') := by
  refine ⟨(wd_1001 (sz a0 a1 a2 a3 a4 a5)), ?_⟩
  refine go_seg 8 (pc' := 827) (ls' := [(3, .int 0), (2, .ref 90), (1, .ref 1), (0, .ref 0)]) (st' := [.int 0, .ref 0, .int a1, .ref 1]) (w' := (fw (sz a0 a1 a2 a3 a4 a5))) (cs' := 109) (ss' := 12668) ?_ (fun _ _ => rfl)
  refine go_seg 3 (pc' := 830) (ls' := [(3, .int 0), (2, .ref 90), (1, .ref 1), (0, .ref 0)]) (st' := [.int a2, .int a1, .ref 1]) (w' := (fw (sz a0 a1 a2 a3 a4 a5))) (cs' := 109) (ss' := 12668) ?_ (fun _ _ => rfl)
  refine go_cl (k := 20) (st' := [.int (-1000001)]) (cs' := 109) (ss' := 12668) rfl rfl rfl rfl rfl rfl rfl (ro_248 (sz a0 a1 a2 a3 a4 a5) a1 a2 (by omega) (by omega) (by omega) (by omega)) ?_
  refine go_seg 8 (pc' := 841) (ls' := [(3, .int 0), (2, .ref 90), (1, .ref 1), (0, .ref 0)]) (st' := [.int 0, .ref 0, .int a1, .ref 90, .int (-1000001)]) (w' := (wd_1000 (sz a0 a1 a2 a3 a4 a5))) (cs' := 109) (ss' := 12668) ?_ (fun _ _ => rfl)
  refine go_seg 3 (pc' := 844) (ls' := [(3, .int 0), (2, .ref 90), (1, .ref 1), (0, .ref 0)]) (st' := [.int a2, .int a1, .ref 90, .int (-1000001)]) (w' := (wd_1000 (sz a0 a1 a2 a3 a4 a5))) (cs' := 109) (ss' := 12668) ?_ (fun _ _ => rfl)
  refine go_cl (k := 20) (st' := [.int (-1000001), .int (-1000001)]) (cs' := 109) (ss' := 12668) rfl rfl rfl rfl rfl rfl rfl (ro_249 (sz a0 a1 a2 a3 a4 a5) a1 a2 (by omega) (by omega) (by omega) (by omega)) ?_
  refine go_cmp true rfl (br_self _) ?_
  exact law_tail (f := sc a0 a1 a2 a3 a4 a5) rfl
theorem ro_251 (z : pq_C) (a1 : Int32) (a2 : Int32) (h0 : 0 ≤ a1.toInt) (h1 : 4 ≤ a1.toInt) : pq_Ru 3 80 [.ref 1, .int a1, .int a2] (fw z) (some (.int (-1000001)), (wd_1000 z)) := by
  refine ru_of (k := 2) (M := pm_80) rfl rfl ?_
  refine go_seg 1 (pc' := 1) (ls' := [(0, .ref 1), (1, .int a1), (2, .int a2)]) (st' := [.int a1]) (w' := (fw z)) (cs' := 0) (ss' := 0) ?_ (fun _ _ => rfl)
  refine go_cl (k := 2) (st' := [.int 0]) (cs' := 0) (ss' := 0) rfl rfl rfl rfl rfl rfl rfl (ro_121 z a1 (by omega) (by omega)) ?_
  refine go_seg 3 (pc' := 16) (ls' := [(0, .ref 1), (1, .int a1), (2, .int a2)]) (st' := [.int 1, .ref 1]) (w' := (fw z)) (cs' := 0) (ss' := 0) ?_ (fun _ _ => rfl)
  refine go_cl (k := 2) (st' := [.int (-1000001)]) (cs' := 0) (ss' := 0) rfl rfl rfl rfl rfl rfl rfl (ro_2 z) ?_
  exact go_end 1 (fun _ _ => rfl)
theorem ro_252 (z : pq_C) (a1 : Int32) (a2 : Int32) (h0 : 0 ≤ a1.toInt) (h1 : 4 ≤ a1.toInt) : pq_Ru 2 206 [.ref 90, .int a1, .int a2] (wd_1000 z) (some (.int (-1000001)), (wd_1001 z)) := by
  refine ru_of (k := 1) (M := pm_206) rfl rfl ?_
  refine go_seg 4 (pc' := 6) (ls' := [(0, .ref 90), (1, .int a1), (2, .int a2)]) (st' := [.long 3, .long 0, .long a1.toInt64]) (w' := (wd_1000 z)) (cs' := 0) (ss' := 0) ?_ (fun _ _ => rfl)
  refine go_cl (k := 1) (st' := [.int 0]) (cs' := 0) (ss' := 0) rfl rfl rfl rfl rfl rfl rfl (wi_f _ a1 0 3 0 3 rfl rfl (by omega)) ?_
  refine go_seg 3 (pc' := 27) (ls' := [(0, .ref 90), (1, .int a1), (2, .int a2)]) (st' := [.int (-1000001), .ref 90]) (w' := (wd_1000 z)) (cs' := 0) (ss' := 0) ?_ (fun _ _ => rfl)
  refine go_cl (k := 1) (st' := [.int (-1000001)]) (cs' := 0) (ss' := 0) rfl rfl rfl rfl rfl rfl rfl (ro_5 z) ?_
  exact go_end 1 (fun _ _ => rfl)
theorem lf_17_253 (a0 : Int32) (a1 : Int32) (a2 : Int32) (a3 : Int32) (a4 : Int32) (a5 : Int32) (h0 : 0 ≤ a1.toInt) (h1 : 4 ≤ a1.toInt) : ∃ w', pq_Go 20 pm_law 819 [(3, .int 0), (2, .ref 90), (1, .ref 1), (0, .ref 0)] [] (fw (sz a0 a1 a2 a3 a4 a5)) 109 12668 (some (.int 1), w') := by
  refine ⟨(wd_1001 (sz a0 a1 a2 a3 a4 a5)), ?_⟩
  refine go_seg 8 (pc' := 827) (ls' := [(3, .int 0), (2, .ref 90), (1, .ref 1), (0, .ref 0)]) (st' := [.int 0, .ref 0, .int a1, .ref 1]) (w' := (fw (sz a0 a1 a2 a3 a4 a5))) (cs' := 109) (ss' := 12668) ?_ (fun _ _ => rfl)
  refine go_seg 3 (pc' := 830) (ls' := [(3, .int 0), (2, .ref 90), (1, .ref 1), (0, .ref 0)]) (st' := [.int a2, .int a1, .ref 1]) (w' := (fw (sz a0 a1 a2 a3 a4 a5))) (cs' := 109) (ss' := 12668) ?_ (fun _ _ => rfl)
  refine go_cl (k := 20) (st' := [.int (-1000001)]) (cs' := 109) (ss' := 12668) rfl rfl rfl rfl rfl rfl rfl (ro_251 (sz a0 a1 a2 a3 a4 a5) a1 a2 (by omega) (by omega)) ?_
  refine go_seg 8 (pc' := 841) (ls' := [(3, .int 0), (2, .ref 90), (1, .ref 1), (0, .ref 0)]) (st' := [.int 0, .ref 0, .int a1, .ref 90, .int (-1000001)]) (w' := (wd_1000 (sz a0 a1 a2 a3 a4 a5))) (cs' := 109) (ss' := 12668) ?_ (fun _ _ => rfl)
  refine go_seg 3 (pc' := 844) (ls' := [(3, .int 0), (2, .ref 90), (1, .ref 1), (0, .ref 0)]) (st' := [.int a2, .int a1, .ref 90, .int (-1000001)]) (w' := (wd_1000 (sz a0 a1 a2 a3 a4 a5))) (cs' := 109) (ss' := 12668) ?_ (fun _ _ => rfl)
  refine go_cl (k := 20) (st' := [.int (-1000001), .int (-1000001)]) (cs' := 109) (ss' := 12668) rfl rfl rfl rfl rfl rfl rfl (ro_252 (sz a0 a1 a2 a3 a4 a5) a1 a2 (by omega) (by omega)) ?_
  refine go_cmp true rfl (br_self _) ?_
  exact law_tail (f := sc a0 a1 a2 a3 a4 a5) rfl
theorem op_17 (a0 a1 a2 a3 a4 a5 : Int32) : ∃ w', pq_Go 20 pm_law 819 [(3, .int 0), (2, .ref 90), (1, .ref 1), (0, .ref 0)] [] (fw (sz a0 a1 a2 a3 a4 a5)) 109 12668 (some (.int 1), w') := by
  by_cases c0 : a1.toInt < 0
  · exact lf_17_239 a0 a1 a2 a3 a4 a5 (by omega)
  · by_cases c1 : a1.toInt < 4
    · by_cases c2 : a2.toInt < 0
      · exact lf_17_242 a0 a1 a2 a3 a4 a5 (by omega) (by omega) (by omega)
      · by_cases c3 : a2.toInt < 3001
        · exact lf_17_247 a0 a1 a2 a3 a4 a5 (by omega) (by omega) (by omega) (by omega)
        · exact lf_17_250 a0 a1 a2 a3 a4 a5 (by omega) (by omega) (by omega) (by omega)
    · exact lf_17_253 a0 a1 a2 a3 a4 a5 (by omega) (by omega)
