theorem ro_326 (z : pq_C) (a1 : Int32) (h0 : a1.toInt < 0) : pq_Ru 1 24 [.int a1] (fw z) (some (.int 0), (fw z)) := by
  refine ru_of (k := 0) (M := pm_24) rfl rfl ?_
  refine go_seg 1 (pc' := 1) (ls' := [(0, .int a1)]) (st' := [.int a1]) (w' := (fw z)) (cs' := 0) (ss' := 0) ?_ (fun _ _ => rfl)
  refine go_if true rfl (br_lt_t (b := 0) rfl (by omega)) ?_
  exact go_end 2 (fun _ _ => rfl)
theorem ro_327 (z : pq_C) (a1 : Int32) (h0 : a1.toInt < 0) : pq_Ru 3 115 [.ref 1, .int a1, .int 0] (fw z) (some (.int (-1000001)), (wd_1000 z)) := by
  refine ru_of (k := 2) (M := pm_115) rfl rfl ?_
  refine go_seg 1 (pc' := 1) (ls' := [(0, .ref 1), (1, .int a1), (2, .int 0)]) (st' := [.int a1]) (w' := (fw z)) (cs' := 0) (ss' := 0) ?_ (fun _ _ => rfl)
  refine go_cl (k := 2) (st' := [.int 0]) (cs' := 0) (ss' := 0) rfl rfl rfl rfl rfl rfl rfl (ro_326 z a1 (by omega)) ?_
  refine go_seg 3 (pc' := 9) (ls' := [(0, .ref 1), (1, .int a1), (2, .int 0)]) (st' := [.int 1, .ref 1]) (w' := (fw z)) (cs' := 0) (ss' := 0) ?_ (fun _ _ => rfl)
  refine go_cl (k := 2) (st' := [.int (-1000001)]) (cs' := 0) (ss' := 0) rfl rfl rfl rfl rfl rfl rfl (ro_2 z) ?_
  exact go_end 1 (fun _ _ => rfl)
theorem ro_328 (z : pq_C) (a1 : Int32) (h0 : a1.toInt < 0) : pq_Ru 2 167 [.int a1] (wd_1000 z) (some (.int 0), (wd_1000 z)) := by
  refine ru_of (k := 1) (M := pm_167) rfl rfl ?_
  refine go_seg 4 (pc' := 6) (ls' := [(0, .int a1)]) (st' := [.long 7, .long 0, .long a1.toInt64]) (w' := (wd_1000 z)) (cs' := 0) (ss' := 0) ?_ (fun _ _ => rfl)
  refine go_cl (k := 1) (st' := [.int 0]) (cs' := 0) (ss' := 0) rfl rfl rfl rfl rfl rfl rfl (wi_f _ a1 0 7 0 7 rfl rfl (by omega)) ?_
  exact go_end 1 (fun _ _ => rfl)
theorem ro_329 (z : pq_C) (a1 : Int32) (h0 : a1.toInt < 0) : pq_Ru 3 227 [.ref 90, .int a1, .int 0] (wd_1000 z) (some (.int (-1000001)), (wd_1001 z)) := by
  refine ru_of (k := 2) (M := pm_227) rfl rfl ?_
  refine go_seg 1 (pc' := 1) (ls' := [(0, .ref 90), (1, .int a1), (2, .int 0)]) (st' := [.int a1]) (w' := (wd_1000 z)) (cs' := 0) (ss' := 0) ?_ (fun _ _ => rfl)
  refine go_cl (k := 2) (st' := [.int 0]) (cs' := 0) (ss' := 0) rfl rfl rfl rfl rfl rfl rfl (ro_328 z a1 (by omega)) ?_
  refine go_seg 3 (pc' := 10) (ls' := [(0, .ref 90), (1, .int a1), (2, .int 0)]) (st' := [.int (-1000001), .ref 90]) (w' := (wd_1000 z)) (cs' := 0) (ss' := 0) ?_ (fun _ _ => rfl)
  refine go_cl (k := 2) (st' := [.int (-1000001)]) (cs' := 0) (ss' := 0) rfl rfl rfl rfl rfl rfl rfl (ro_5 z) ?_
  exact go_end 1 (fun _ _ => rfl)
theorem lf_27_330 (a0 : Int32) (a1 : Int32) (a3 : Int32) (a4 : Int32) (a5 : Int32) (h0 : a1.toInt < 0) : ∃ w', pq_Go 20 pm_law 1179 [(3, .int 0), (2, .ref 90), (1, .ref 1), (0, .ref 0)] [] (fw (sz a0 a1 0 a3 a4 a5)) 109 12668 (some (.int 1), w') := by
  refine ⟨(wd_1001 (sz a0 a1 0 a3 a4 a5)), ?_⟩
  refine go_seg 8 (pc' := 1187) (ls' := [(3, .int 0), (2, .ref 90), (1, .ref 1), (0, .ref 0)]) (st' := [.int 0, .ref 0, .int a1, .ref 1]) (w' := (fw (sz a0 a1 0 a3 a4 a5))) (cs' := 109) (ss' := 12668) ?_ (fun _ _ => rfl)
  refine go_seg 5 (pc' := 1198) (ls' := [(3, .int 0), (2, .ref 90), (1, .ref 1), (0, .ref 0)]) (st' := [.int 0, .int a1, .ref 1]) (w' := (fw (sz a0 a1 0 a3 a4 a5))) (cs' := 109) (ss' := 12668) ?_ (fun _ _ => rfl)
  refine go_cl (k := 20) (st' := [.int (-1000001)]) (cs' := 109) (ss' := 12668) rfl rfl rfl rfl rfl rfl rfl (ro_327 (sz a0 a1 0 a3 a4 a5) a1 (by omega)) ?_
  refine go_seg 8 (pc' := 1209) (ls' := [(3, .int 0), (2, .ref 90), (1, .ref 1), (0, .ref 0)]) (st' := [.int 0, .ref 0, .int a1, .ref 90, .int (-1000001)]) (w' := (wd_1000 (sz a0 a1 0 a3 a4 a5))) (cs' := 109) (ss' := 12668) ?_ (fun _ _ => rfl)
  refine go_seg 5 (pc' := 1220) (ls' := [(3, .int 0), (2, .ref 90), (1, .ref 1), (0, .ref 0)]) (st' := [.int 0, .int a1, .ref 90, .int (-1000001)]) (w' := (wd_1000 (sz a0 a1 0 a3 a4 a5))) (cs' := 109) (ss' := 12668) ?_ (fun _ _ => rfl)
  refine go_cl (k := 20) (st' := [.int (-1000001), .int (-1000001)]) (cs' := 109) (ss' := 12668) rfl rfl rfl rfl rfl rfl rfl (ro_329 (sz a0 a1 0 a3 a4 a5) a1 (by omega)) ?_
  refine go_cmp true rfl (br_self _) ?_
  exact law_tail (f := sc a0 a1 0 a3 a4 a5) rfl
theorem ro_331 (z : pq_C) (a1 : Int32) (h0 : 0 ≤ a1.toInt) (h1 : a1.toInt < 8) : pq_Ru 1 24 [.int a1] (fw z) (some (.int 1), (fw z)) := by
  refine ru_of (k := 0) (M := pm_24) rfl rfl ?_
  refine go_seg 1 (pc' := 1) (ls' := [(0, .int a1)]) (st' := [.int a1]) (w' := (fw z)) (cs' := 0) (ss' := 0) ?_ (fun _ _ => rfl)
  refine go_if false rfl (br_lt_f (b := 0) rfl (by omega)) ?_
  refine go_seg 2 (pc' := 7) (ls' := [(0, .int a1)]) (st' := [.int 8, .int a1]) (w' := (fw z)) (cs' := 0) (ss' := 0) ?_ (fun _ _ => rfl)
  refine go_cmp false rfl (br_ge_f (b := 8) rfl (by omega)) ?_
  exact go_end 3 (fun _ _ => rfl)
theorem ro_332 (z : pq_C) : pq_Ru 1 41 [.ref 25, .int 0] (fw z) (some (.int 0), (fw z)) := by
  refine ru_of (k := 0) (M := pm_41) rfl rfl ?_
  exact go_end 8 (fun _ _ => rfl)
theorem ro_333 (z : pq_C) (a1 : Int32) (h0 : 0 ≤ a1.toInt) (h1 : a1.toInt < 8) : pq_Ru 2 116 [.ref 76, .int a1, .int 0] (fw z) (some (.int 0), (fw z)) := by
  refine ru_of (k := 1) (M := pm_116) rfl rfl ?_
  refine go_seg 8 (pc' := 13) (ls' := [(4, .int 0), (3, .int 0), (0, .ref 76), (1, .int a1), (2, .int 0)]) (st' := [.ref 76]) (w' := (fw z)) (cs' := 0) (ss' := 0) ?_ (fun _ _ => rfl)
  refine go_seg 2 (pc' := 18) (ls' := [(4, .int 0), (3, .int 0), (0, .ref 76), (1, .int a1), (2, .int 0)]) (st' := [.int 0, .ref 25]) (w' := (fw z)) (cs' := 0) (ss' := 0) ?_ (fun _ _ => rfl)
  refine go_cl (k := 1) (st' := [.int 0]) (cs' := 0) (ss' := 0) rfl rfl rfl rfl rfl rfl rfl (ro_332 z) ?_
  exact go_end 3 (fun _ _ => rfl)
theorem ro_334 (z : pq_C) (a1 : Int32) (h0 : 0 ≤ a1.toInt) (h1 : a1.toInt < 8) : pq_Ru 3 115 [.ref 1, .int a1, .int 0] (fw z) (some (.int 0), (fw z)) := by
  refine ru_of (k := 2) (M := pm_115) rfl rfl ?_
  refine go_seg 1 (pc' := 1) (ls' := [(0, .ref 1), (1, .int a1), (2, .int 0)]) (st' := [.int a1]) (w' := (fw z)) (cs' := 0) (ss' := 0) ?_ (fun _ _ => rfl)
  refine go_cl (k := 2) (st' := [.int 1]) (cs' := 0) (ss' := 0) rfl rfl rfl rfl rfl rfl rfl (ro_331 z a1 (by omega) (by omega)) ?_
  refine go_seg 5 (pc' := 19) (ls' := [(0, .ref 1), (1, .int a1), (2, .int 0)]) (st' := [.int 0, .int a1, .ref 76]) (w' := (fw z)) (cs' := 0) (ss' := 0) ?_ (fun _ _ => rfl)
  refine go_cl (k := 2) (st' := [.int 0]) (cs' := 0) (ss' := 0) rfl rfl rfl rfl rfl rfl rfl (ro_333 z a1 (by omega) (by omega)) ?_
  exact go_end 1 (fun _ _ => rfl)
theorem ro_335 (z : pq_C) (a1 : Int32) (h0 : 0 ≤ a1.toInt) (h1 : a1.toInt < 8) : pq_Ru 2 167 [.int a1] (fw z) (some (.int 1), (fw z)) := by
  refine ru_of (k := 1) (M := pm_167) rfl rfl ?_
  refine go_seg 4 (pc' := 6) (ls' := [(0, .int a1)]) (st' := [.long 7, .long 0, .long a1.toInt64]) (w' := (fw z)) (cs' := 0) (ss' := 0) ?_ (fun _ _ => rfl)
  refine go_cl (k := 1) (st' := [.int 1]) (cs' := 0) (ss' := 0) rfl rfl rfl rfl rfl rfl rfl (wi_t _ a1 0 7 0 7 rfl rfl (by omega)) ?_
  exact go_end 1 (fun _ _ => rfl)
theorem ro_336 (z : pq_C) (a1 : Int32) (h0 : 0 ≤ a1.toInt) (h1 : a1.toInt < 8) : pq_Ru 3 227 [.ref 90, .int a1, .int 0] (fw z) (some (.int 0), (fw z)) := by
  refine ru_of (k := 2) (M := pm_227) rfl rfl ?_
  refine go_seg 1 (pc' := 1) (ls' := [(0, .ref 90), (1, .int a1), (2, .int 0)]) (st' := [.int a1]) (w' := (fw z)) (cs' := 0) (ss' := 0) ?_ (fun _ _ => rfl)
  refine go_cl (k := 2) (st' := [.int 1]) (cs' := 0) (ss' := 0) rfl rfl rfl rfl rfl rfl rfl (ro_335 z a1 (by omega) (by omega)) ?_
  refine go_seg 8 (pc' := 25) (ls' := [(4, .int 0), (3, .int 0), (0, .ref 90), (1, .int a1), (2, .int 0)]) (st' := [.ref 91, .int 0]) (w' := (fw z)) (cs' := 0) (ss' := 0) ?_ (fun _ _ => rfl)
  exact go_end 5 (fun _ _ => rfl)
theorem lf_27_337 (a0 : Int32) (a1 : Int32) (a3 : Int32) (a4 : Int32) (a5 : Int32) (h0 : 0 ≤ a1.toInt) (h1 : a1.toInt < 8) : ∃ w', pq_Go 20 pm_law 1179 [(3, .int 0), (2, .ref 90), (1, .ref 1), (0, .ref 0)] [] (fw (sz a0 a1 0 a3 a4 a5)) 109 12668 (some (.int 1), w') := by
  refine ⟨(fw (sz a0 a1 0 a3 a4 a5)), ?_⟩
  refine go_seg 8 (pc' := 1187) (ls' := [(3, .int 0), (2, .ref 90), (1, .ref 1), (0, .ref 0)]) (st' := [.int 0, .ref 0, .int a1, .ref 1]) (w' := (fw (sz a0 a1 0 a3 a4 a5))) (cs' := 109) (ss' := 12668) ?_ (fun _ _ => rfl)
  refine go_seg 5 (pc' := 1198) (ls' := [(3, .int 0), (2, .ref 90), (1, .ref 1), (0, .ref 0)]) (st' := [.int 0, .int a1, .ref 1]) (w' := (fw (sz a0 a1 0 a3 a4 a5))) (cs' := 109) (ss' := 12668) ?_ (fun _ _ => rfl)
  refine go_cl (k := 20) (st' := [.int 0]) (cs' := 109) (ss' := 12668) rfl rfl rfl rfl rfl rfl rfl (ro_334 (sz a0 a1 0 a3 a4 a5) a1 (by omega) (by omega)) ?_
  refine go_seg 8 (pc' := 1209) (ls' := [(3, .int 0), (2, .ref 90), (1, .ref 1), (0, .ref 0)]) (st' := [.int 0, .ref 0, .int a1, .ref 90, .int 0]) (w' := (fw (sz a0 a1 0 a3 a4 a5))) (cs' := 109) (ss' := 12668) ?_ (fun _ _ => rfl)
  refine go_seg 5 (pc' := 1220) (ls' := [(3, .int 0), (2, .ref 90), (1, .ref 1), (0, .ref 0)]) (st' := [.int 0, .int a1, .ref 90, .int 0]) (w' := (fw (sz a0 a1 0 a3 a4 a5))) (cs' := 109) (ss' := 12668) ?_ (fun _ _ => rfl)
  refine go_cl (k := 20) (st' := [.int 0, .int 0]) (cs' := 109) (ss' := 12668) rfl rfl rfl rfl rfl rfl rfl (ro_336 (sz a0 a1 0 a3 a4 a5) a1 (by omega) (by omega)) ?_
  refine go_cmp true rfl (br_self _) ?_
  exact law_tail (f := sc a0 a1 0 a3 a4 a5) rfl
theorem ro_338 (z : pq_C) (a1 : Int32) (h0 : 0 ≤ a1.toInt) (h1 : 8 ≤ a1.toInt) : pq_Ru 1 24 [.int a1] (fw z) (some (.int 0), (fw z)) := by
  refine ru_of (k := 0) (M := pm_24) rfl rfl ?_
  refine go_seg 1 (pc' := 1) (ls' := [(0, .int a1)]) (st' := [.int a1]) (w' := (fw z)) (cs' := 0) (ss' := 0) ?_ (fun _ _ => rfl)
  refine go_if false rfl (br_lt_f (b := 0) rfl (by omega)) ?_
  refine go_seg 2 (pc' := 7) (ls' := [(0, .int a1)]) (st' := [.int 8, .int a1]) (w' := (fw z)) (cs' := 0) (ss' := 0) ?_ (fun _ _ => rfl)
  refine go_cmp true rfl (br_ge_t (b := 8) rfl (by omega)) ?_
  exact go_end 2 (fun _ _ => rfl)
theorem ro_339 (z : pq_C) (a1 : Int32) (h0 : 0 ≤ a1.toInt) (h1 : 8 ≤ a1.toInt) : pq_Ru 3 115 [.ref 1, .int a1, .int 0] (fw z) (some (.int (-1000001)), (wd_1000 z)) := by
  refine ru_of (k := 2) (M := pm_115) rfl rfl ?_
  refine go_seg 1 (pc' := 1) (ls' := [(0, .ref 1), (1, .int a1), (2, .int 0)]) (st' := [.int a1]) (w' := (fw z)) (cs' := 0) (ss' := 0) ?_ (fun _ _ => rfl)
  refine go_cl (k := 2) (st' := [.int 0]) (cs' := 0) (ss' := 0) rfl rfl rfl rfl rfl rfl rfl (ro_338 z a1 (by omega) (by omega)) ?_
  refine go_seg 3 (pc' := 9) (ls' := [(0, .ref 1), (1, .int a1), (2, .int 0)]) (st' := [.int 1, .ref 1]) (w' := (fw z)) (cs' := 0) (ss' := 0) ?_ (fun _ _ => rfl)
  refine go_cl (k := 2) (st' := [.int (-1000001)]) (cs' := 0) (ss' := 0) rfl rfl rfl rfl rfl rfl rfl (ro_2 z) ?_
  exact go_end 1 (fun _ _ => rfl)
theorem ro_340 (z : pq_C) (a1 : Int32) (h0 : 0 ≤ a1.toInt) (h1 : 8 ≤ a1.toInt) : pq_Ru 2 167 [.int a1] (wd_1000 z) (some (.int 0), (wd_1000 z)) := by
  refine ru_of (k := 1) (M := pm_167) rfl rfl ?_
  refine go_seg 4 (pc' := 6) (ls' := [(0, .int a1)]) (st' := [.long 7, .long 0, .long a1.toInt64]) (w' := (wd_1000 z)) (cs' := 0) (ss' := 0) ?_ (fun _ _ => rfl)
  refine go_cl (k := 1) (st' := [.int 0]) (cs' := 0) (ss' := 0) rfl rfl rfl rfl rfl rfl rfl (wi_f _ a1 0 7 0 7 rfl rfl (by omega)) ?_
  exact go_end 1 (fun _ _ => rfl)
theorem ro_341 (z : pq_C) (a1 : Int32) (h0 : 0 ≤ a1.toInt) (h1 : 8 ≤ a1.toInt) : pq_Ru 3 227 [.ref 90, .int a1, .int 0] (wd_1000 z) (some (.int (-1000001)), (wd_1001 z)) := by
  refine ru_of (k := 2) (M := pm_227) rfl rfl ?_
  refine go_seg 1 (pc' := 1) (ls' := [(0, .ref 90), (1, .int a1), (2, .int 0)]) (st' := [.int a1]) (w' := (wd_1000 z)) (cs' := 0) (ss' := 0) ?_ (fun _ _ => rfl)
  refine go_cl (k := 2) (st' := [.int 0]) (cs' := 0) (ss' := 0) rfl rfl rfl rfl rfl rfl rfl (ro_340 z a1 (by omega) (by omega)) ?_
  refine go_seg 3 (pc' := 10) (ls' := [(0, .ref 90), (1, .int a1), (2, .int 0)]) (st' := [.int (-1000001), .ref 90]) (w' := (wd_1000 z)) (cs' := 0) (ss' := 0) ?_ (fun _ _ => rfl)
  refine go_cl (k := 2) (st' := [.int (-1000001)]) (cs' := 0) (ss' := 0) rfl rfl rfl rfl rfl rfl rfl (ro_5 z) ?_
  exact go_end 1 (fun _ _ => rfl)
theorem lf_27_342 (a0 : Int32) (a1 : Int32) (a3 : Int32) (a4 : Int32) (a5 : Int32) (h0 : 0 ≤ a1.toInt) (h1 : 8 ≤ a1.toInt) : ∃ w', pq_Go 20 pm_law 1179 [(3, .int 0), (2, .ref 90), (1, .ref 1), (0, .ref 0)] [] (fw (sz a0 a1 0 a3 a4 a5)) 109 12668 (some (.int 1), w') := by
  refine ⟨(wd_1001 (sz a0 a1 0 a3 a4 a5)), ?_⟩
  refine go_seg 8 (pc' := 1187) (ls' := [(3, .int 0), (2, .ref 90), (1, .ref 1), (0, .ref 0)]) (st' := [.int 0, .ref 0, .int a1, .ref 1]) (w' := (fw (sz a0 a1 0 a3 a4 a5))) (cs' := 109) (ss' := 12668) ?_ (fun _ _ => rfl)
  refine go_seg 5 (pc' := 1198) (ls' := [(3, .int 0), (2, .ref 90), (1, .ref 1), (0, .ref 0)]) (st' := [.int 0, .int a1, .ref 1]) (w' := (fw (sz a0 a1 0 a3 a4 a5))) (cs' := 109) (ss' := 12668) ?_ (fun _ _ => rfl)
  refine go_cl (k := 20) (st' := [.int (-1000001)]) (cs' := 109) (ss' := 12668) rfl rfl rfl rfl rfl rfl rfl (ro_339 (sz a0 a1 0 a3 a4 a5) a1 (by omega) (by omega)) ?_
  refine go_seg 8 (pc' := 1209) (ls' := [(3, .int 0), (2, .ref 90), (1, .ref 1), (0, .ref 0)]) (st' := [.int 0, .ref 0, .int a1, .ref 90, .int (-1000001)]) (w' := (wd_1000 (sz a0 a1 0 a3 a4 a5))) (cs' := 109) (ss' := 12668) ?_ (fun _ _ => rfl)
  refine go_seg 5 (pc' := 1220) (ls' := [(3, .int 0), (2, .ref 90), (1, .ref 1), (0, .ref 0)]) (st' := [.int 0, .int a1, .ref 90, .int (-1000001)]) (w' := (wd_1000 (sz a0 a1 0 a3 a4 a5))) (cs' := 109) (ss' := 12668) ?_ (fun _ _ => rfl)
  refine go_cl (k := 20) (st' := [.int (-1000001), .int (-1000001)]) (cs' := 109) (ss' := 12668) rfl rfl rfl rfl rfl rfl rfl (ro_341 (sz a0 a1 0 a3 a4 a5) a1 (by omega) (by omega)) ?_
  refine go_cmp true rfl (br_self _) ?_
  exact law_tail (f := sc a0 a1 0 a3 a4 a5) rfl
theorem ro_343 (z : pq_C) (a1 : Int32) (h0 : a1.toInt < 0) : pq_Ru 3 115 [.ref 1, .int a1, .int 1] (fw z) (some (.int (-1000001)), (wd_1000 z)) := by
  refine ru_of (k := 2) (M := pm_115) rfl rfl ?_
  refine go_seg 1 (pc' := 1) (ls' := [(0, .ref 1), (1, .int a1), (2, .int 1)]) (st' := [.int a1]) (w' := (fw z)) (cs' := 0) (ss' := 0) ?_ (fun _ _ => rfl)
  refine go_cl (k := 2) (st' := [.int 0]) (cs' := 0) (ss' := 0) rfl rfl rfl rfl rfl rfl rfl (ro_326 z a1 (by omega)) ?_
  refine go_seg 3 (pc' := 9) (ls' := [(0, .ref 1), (1, .int a1), (2, .int 1)]) (st' := [.int 1, .ref 1]) (w' := (fw z)) (cs' := 0) (ss' := 0) ?_ (fun _ _ => rfl)
  refine go_cl (k := 2) (st' := [.int (-1000001)]) (cs' := 0) (ss' := 0) rfl rfl rfl rfl rfl rfl rfl (ro_2 z) ?_
  exact go_end 1 (fun _ _ => rfl)
theorem ro_344 (z : pq_C) (a1 : Int32) (h0 : a1.toInt < 0) : pq_Ru 3 227 [.ref 90, .int a1, .int 1] (wd_1000 z) (some (.int (-1000001)), (wd_1001 z)) := by
  refine ru_of (k := 2) (M := pm_227) rfl rfl ?_
  refine go_seg 1 (pc' := 1) (ls' := [(0, .ref 90), (1, .int a1), (2, .int 1)]) (st' := [.int a1]) (w' := (wd_1000 z)) (cs' := 0) (ss' := 0) ?_ (fun _ _ => rfl)
  refine go_cl (k := 2) (st' := [.int 0]) (cs' := 0) (ss' := 0) rfl rfl rfl rfl rfl rfl rfl (ro_328 z a1 (by omega)) ?_
  refine go_seg 3 (pc' := 10) (ls' := [(0, .ref 90), (1, .int a1), (2, .int 1)]) (st' := [.int (-1000001), .ref 90]) (w' := (wd_1000 z)) (cs' := 0) (ss' := 0) ?_ (fun _ _ => rfl)
  refine go_cl (k := 2) (st' := [.int (-1000001)]) (cs' := 0) (ss' := 0) rfl rfl rfl rfl rfl rfl rfl (ro_5 z) ?_
  exact go_end 1 (fun _ _ => rfl)
theorem lf_27_345 (a0 : Int32) (a1 : Int32) (a2 : Int32) (a3 : Int32) (a4 : Int32) (a5 : Int32) (h0 : ¬ a2.toInt = 0) (h1 : a1.toInt < 0) : ∃ w', pq_Go 20 pm_law 1179 [(3, .int 0), (2, .ref 90), (1, .ref 1), (0, .ref 0)] [] (fw (sz a0 a1 a2 a3 a4 a5)) 109 12668 (some (.int 1), w') := by
  refine ⟨(wd_1001 (sz a0 a1 a2 a3 a4 a5)), ?_⟩
  refine go_seg 8 (pc' := 1187) (ls' := [(3, .int 0), (2, .ref 90), (1, .ref 1), (0, .ref 0)]) (st' := [.int 0, .ref 0, .int a1, .ref 1]) (w' := (fw (sz a0 a1 a2 a3 a4 a5))) (cs' := 109) (ss' := 12668) ?_ (fun _ _ => rfl)
  refine go_seg 3 (pc' := 1190) (ls' := [(3, .int 0), (2, .ref 90), (1, .ref 1), (0, .ref 0)]) (st' := [.int a2, .int a1, .ref 1]) (w' := (fw (sz a0 a1 a2 a3 a4 a5))) (cs' := 109) (ss' := 12668) ?_ (fun _ _ => rfl)
  refine go_if false rfl (br_eq_f (b := 0) rfl (by omega)) ?_
  refine go_seg 2 (pc' := 1198) (ls' := [(3, .int 0), (2, .ref 90), (1, .ref 1), (0, .ref 0)]) (st' := [.int 1, .int a1, .ref 1]) (w' := (fw (sz a0 a1 a2 a3 a4 a5))) (cs' := 109) (ss' := 12668) ?_ (fun _ _ => rfl)
  refine go_cl (k := 20) (st' := [.int (-1000001)]) (cs' := 109) (ss' := 12668) rfl rfl rfl rfl rfl rfl rfl (ro_343 (sz a0 a1 a2 a3 a4 a5) a1 (by omega)) ?_
  refine go_seg 8 (pc' := 1209) (ls' := [(3, .int 0), (2, .ref 90), (1, .ref 1), (0, .ref 0)]) (st' := [.int 0, .ref 0, .int a1, .ref 90, .int (-1000001)]) (w' := (wd_1000 (sz a0 a1 a2 a3 a4 a5))) (cs' := 109) (ss' := 12668) ?_ (fun _ _ => rfl)
  refine go_seg 3 (pc' := 1212) (ls' := [(3, .int 0), (2, .ref 90), (1, .ref 1), (0, .ref 0)]) (st' := [.int a2, .int a1, .ref 90, .int (-1000001)]) (w' := (wd_1000 (sz a0 a1 a2 a3 a4 a5))) (cs' := 109) (ss' := 12668) ?_ (fun _ _ => rfl)
  refine go_if false rfl (br_eq_f (b := 0) rfl (by omega)) ?_
  refine go_seg 2 (pc' := 1220) (ls' := [(3, .int 0), (2, .ref 90), (1, .ref 1), (0, .ref 0)]) (st' := [.int 1, .int a1, .ref 90, .int (-1000001)]) (w' := (wd_1000 (sz a0 a1 a2 a3 a4 a5))) (cs' := 109) (ss' := 12668) ?_ (fun _ _ => rfl)
  refine go_cl (k := 20) (st' := [.int (-1000001), .int (-1000001)]) (cs' := 109) (ss' := 12668) rfl rfl rfl rfl rfl rfl rfl (ro_344 (sz a0 a1 a2 a3 a4 a5) a1 (by omega)) ?_
  refine go_cmp true rfl (br_self _) ?_
  exact law_tail (f := sc a0 a1 a2 a3 a4 a5) rfl
theorem ro_346 (z : pq_C) (a1 : Int32) (h0 : 0 ≤ a1.toInt) (h1 : a1.toInt < 8) : pq_Ru 2 116 [.ref 76, .int a1, .int 1] (fw z) (some (.int 0), (fw z)) := by
  refine ru_of (k := 1) (M := pm_116) rfl rfl ?_
  refine go_seg 8 (pc' := 13) (ls' := [(4, .int 0), (3, .int 0), (0, .ref 76), (1, .int a1), (2, .int 1)]) (st' := [.ref 76]) (w' := (fw z)) (cs' := 0) (ss' := 0) ?_ (fun _ _ => rfl)
  refine go_seg 2 (pc' := 18) (ls' := [(4, .int 0), (3, .int 0), (0, .ref 76), (1, .int a1), (2, .int 1)]) (st' := [.int 0, .ref 25]) (w' := (fw z)) (cs' := 0) (ss' := 0) ?_ (fun _ _ => rfl)
  refine go_cl (k := 1) (st' := [.int 0]) (cs' := 0) (ss' := 0) rfl rfl rfl rfl rfl rfl rfl (ro_332 z) ?_
  exact go_end 3 (fun _ _ => rfl)
theorem ro_347 (z : pq_C) (a1 : Int32) (h0 : 0 ≤ a1.toInt) (h1 : a1.toInt < 8) : pq_Ru 3 115 [.ref 1, .int a1, .int 1] (fw z) (some (.int 0), (fw z)) := by
  refine ru_of (k := 2) (M := pm_115) rfl rfl ?_
  refine go_seg 1 (pc' := 1) (ls' := [(0, .ref 1), (1, .int a1), (2, .int 1)]) (st' := [.int a1]) (w' := (fw z)) (cs' := 0) (ss' := 0) ?_ (fun _ _ => rfl)
  refine go_cl (k := 2) (st' := [.int 1]) (cs' := 0) (ss' := 0) rfl rfl rfl rfl rfl rfl rfl (ro_331 z a1 (by omega) (by omega)) ?_
  refine go_seg 5 (pc' := 19) (ls' := [(0, .ref 1), (1, .int a1), (2, .int 1)]) (st' := [.int 1, .int a1, .ref 76]) (w' := (fw z)) (cs' := 0) (ss' := 0) ?_ (fun _ _ => rfl)
  refine go_cl (k := 2) (st' := [.int 0]) (cs' := 0) (ss' := 0) rfl rfl rfl rfl rfl rfl rfl (ro_346 z a1 (by omega) (by omega)) ?_
  exact go_end 1 (fun _ _ => rfl)
theorem ro_348 (z : pq_C) (a1 : Int32) (h0 : 0 ≤ a1.toInt) (h1 : a1.toInt < 8) : pq_Ru 3 227 [.ref 90, .int a1, .int 1] (fw z) (some (.int 0), (fw z)) := by
  refine ru_of (k := 2) (M := pm_227) rfl rfl ?_
  refine go_seg 1 (pc' := 1) (ls' := [(0, .ref 90), (1, .int a1), (2, .int 1)]) (st' := [.int a1]) (w' := (fw z)) (cs' := 0) (ss' := 0) ?_ (fun _ _ => rfl)
  refine go_cl (k := 2) (st' := [.int 1]) (cs' := 0) (ss' := 0) rfl rfl rfl rfl rfl rfl rfl (ro_335 z a1 (by omega) (by omega)) ?_
  refine go_seg 8 (pc' := 25) (ls' := [(4, .int 0), (3, .int 0), (0, .ref 90), (1, .int a1), (2, .int 1)]) (st' := [.ref 91, .int 0]) (w' := (fw z)) (cs' := 0) (ss' := 0) ?_ (fun _ _ => rfl)
  exact go_end 5 (fun _ _ => rfl)
theorem lf_27_349 (a0 : Int32) (a1 : Int32) (a2 : Int32) (a3 : Int32) (a4 : Int32) (a5 : Int32) (h0 : ¬ a2.toInt = 0) (h1 : 0 ≤ a1.toInt) (h2 : a1.toInt < 8) : ∃ w', pq_Go 20 pm_law 1179 [(3, .int 0), (2, .ref 90), (1, .ref 1), (0, .ref 0)] [] (fw (sz a0 a1 a2 a3 a4 a5)) 109 12668 (some (.int 1), w') := by
  refine ⟨(fw (sz a0 a1 a2 a3 a4 a5)), ?_⟩
  refine go_seg 8 (pc' := 1187) (ls' := [(3, .int 0), (2, .ref 90), (1, .ref 1), (0, .ref 0)]) (st' := [.int 0, .ref 0, .int a1, .ref 1]) (w' := (fw (sz a0 a1 a2 a3 a4 a5))) (cs' := 109) (ss' := 12668) ?_ (fun _ _ => rfl)
  refine go_seg 3 (pc' := 1190) (ls' := [(3, .int 0), (2, .ref 90), (1, .ref 1), (0, .ref 0)]) (st' := [.int a2, .int a1, .ref 1]) (w' := (fw (sz a0 a1 a2 a3 a4 a5))) (cs' := 109) (ss' := 12668) ?_ (fun _ _ => rfl)
  refine go_if false rfl (br_eq_f (b := 0) rfl (by omega)) ?_
  refine go_seg 2 (pc' := 1198) (ls' := [(3, .int 0), (2, .ref 90), (1, .ref 1), (0, .ref 0)]) (st' := [.int 1, .int a1, .ref 1]) (w' := (fw (sz a0 a1 a2 a3 a4 a5))) (cs' := 109) (ss' := 12668) ?_ (fun _ _ => rfl)
  refine go_cl (k := 20) (st' := [.int 0]) (cs' := 109) (ss' := 12668) rfl rfl rfl rfl rfl rfl rfl (ro_347 (sz a0 a1 a2 a3 a4 a5) a1 (by omega) (by omega)) ?_
  refine go_seg 8 (pc' := 1209) (ls' := [(3, .int 0), (2, .ref 90), (1, .ref 1), (0, .ref 0)]) (st' := [.int 0, .ref 0, .int a1, .ref 90, .int 0]) (w' := (fw (sz a0 a1 a2 a3 a4 a5))) (cs' := 109) (ss' := 12668) ?_ (fun _ _ => rfl)
  refine go_seg 3 (pc' := 1212) (ls' := [(3, .int 0), (2, .ref 90), (1, .ref 1), (0, .ref 0)]) (st' := [.int a2, .int a1, .ref 90, .int 0]) (w' := (fw (sz a0 a1 a2 a3 a4 a5))) (cs' := 109) (ss' := 12668) ?_ (fun _ _ => rfl)
  refine go_if false rfl (br_eq_f (b := 0) rfl (by omega)) ?_
  refine go_seg 2 (pc' := 1220) (ls' := [(3, .int 0), (2, .ref 90), (1, .ref 1), (0, .ref 0)]) (st' := [.int 1, .int a1, .ref 90, .int 0]) (w' := (fw (sz a0 a1 a2 a3 a4 a5))) (cs' := 109) (ss' := 12668) ?_ (fun _ _ => rfl)
  refine go_cl (k := 20) (st' := [.int 0, .int 0]) (cs' := 109) (ss' := 12668) rfl rfl rfl rfl rfl rfl rfl (ro_348 (sz a0 a1 a2 a3 a4 a5) a1 (by omega) (by omega)) ?_
  refine go_cmp true rfl (br_self _) ?_
  exact law_tail (f := sc a0 a1 a2 a3 a4 a5) rfl
theorem ro_350 (z : pq_C) (a1 : Int32) (h0 : 0 ≤ a1.toInt) (h1 : 8 ≤ a1.toInt) : pq_Ru 3 115 [.ref 1, .int a1, .int 1] (fw z) (some (.int (-1000001)), (wd_1000 z)) := by
  refine ru_of (k := 2) (M := pm_115) rfl rfl ?_
  refine go_seg 1 (pc' := 1) (ls' := [(0, .ref 1), (1, .int a1), (2, .int 1)]) (st' := [.int a1]) (w' := (fw z)) (cs' := 0) (ss' := 0) ?_ (fun _ _ => rfl)
  refine go_cl (k := 2) (st' := [.int 0]) (cs' := 0) (ss' := 0) rfl rfl rfl rfl rfl rfl rfl (ro_338 z a1 (by omega) (by omega)) ?_
  refine go_seg 3 (pc' := 9) (ls' := [(0, .ref 1), (1, .int a1), (2, .int 1)]) (st' := [.int 1, .ref 1]) (w' := (fw z)) (cs' := 0) (ss' := 0) ?_ (fun _ _ => rfl)
  refine go_cl (k := 2) (st' := [.int (-1000001)]) (cs' := 0) (ss' := 0) rfl rfl rfl rfl rfl rfl rfl (ro_2 z) ?_
  exact go_end 1 (fun _ _ => rfl)
theorem ro_351 (z : pq_C) (a1 : Int32) (h0 : 0 ≤ a1.toInt) (h1 : 8 ≤ a1.toInt) : pq_Ru 3 227 [.ref 90, .int a1, .int 1] (wd_1000 z) (some (.int (-1000001)), (wd_1001 z)) := by
  refine ru_of (k := 2) (M := pm_227) rfl rfl ?_
  refine go_seg 1 (pc' := 1) (ls' := [(0, .ref 90), (1, .int a1), (2, .int 1)]) (st' := [.int a1]) (w' := (wd_1000 z)) (cs' := 0) (ss' := 0) ?_ (fun _ _ => rfl)
  refine go_cl (k := 2) (st' := [.int 0]) (cs' := 0) (ss' := 0) rfl rfl rfl rfl rfl rfl rfl (ro_340 z a1 (by omega) (by omega)) ?_
  refine go_seg 3 (pc' := 10) (ls' := [(0, .ref 90), (1, .int a1), (2, .int 1)]) (st' := [.int (-1000001), .ref 90]) (w' := (wd_1000 z)) (cs' := 0) (ss' := 0) ?_ (fun _ _ => rfl)
  refine go_cl (k := 2) (st' := [.int (-1000001)]) (cs' := 0) (ss' := 0) rfl rfl rfl rfl rfl rfl rfl (ro_5 z) ?_
  exact go_end 1 (fun _ _ => rfl)
theorem lf_27_352 (a0 : Int32) (a1 : Int32) (a2 : Int32) (a3 : Int32) (a4 : Int32) (a5 : Int32) (h0 : ¬ a2.toInt = 0) (h1 : 0 ≤ a1.toInt) (h2 : 8 ≤ a1.toInt) : ∃ w', pq_Go 20 pm_law 1179 [(3, .int 0), (2, .ref 90), (1, .ref 1), (0, .ref 0)] [] (fw (sz a0 a1 a2 a3 a4 a5)) 109 12668 (some (.int 1), w') := by
  refine ⟨(wd_1001 (sz a0 a1 a2 a3 a4 a5)), ?_⟩
  refine go_seg 8 (pc' := 1187) (ls' := [(3, .int 0), (2, .ref 90), (1, .ref 1), (0, .ref 0)]) (st' := [.int 0, .ref 0, .int a1, .ref 1]) (w' := (fw (sz a0 a1 a2 a3 a4 a5))) (cs' := 109) (ss' := 12668) ?_ (fun _ _ => rfl)
  refine go_seg 3 (pc' := 1190) (ls' := [(3, .int 0), (2, .ref 90), (1, .ref 1), (0, .ref 0)]) (st' := [.int a2, .int a1, .ref 1]) (w' := (fw (sz a0 a1 a2 a3 a4 a5))) (cs' := 109) (ss' := 12668) ?_ (fun _ _ => rfl)
  refine go_if false rfl (br_eq_f (b := 0) rfl (by omega)) ?_
  refine go_seg 2 (pc' := 1198) (ls' := [(3, .int 0), (2, .ref 90), (1, .ref 1), (0, .ref 0)]) (st' := [.int 1, .int a1, .ref 1]) (w' := (fw (sz a0 a1 a2 a3 a4 a5))) (cs' := 109) (ss' := 12668) ?_ (fun _ _ => rfl)
  refine go_cl (k := 20) (st' := [.int (-1000001)]) (cs' := 109) (ss' := 12668) rfl rfl rfl rfl rfl rfl rfl (ro_350 (sz a0 a1 a2 a3 a4 a5) a1 (by omega) (by omega)) ?_
  refine go_seg 8 (pc' := 1209) (ls' := [(3, .int 0), (2, .ref 90), (1, .ref 1), (0, .ref 0)]) (st' := [.int 0, .ref 0, .int a1, .ref 90, .int (-1000001)]) (w' := (wd_1000 (sz a0 a1 a2 a3 a4 a5))) (cs' := 109) (ss' := 12668) ?_ (fun _ _ => rfl)
  refine go_seg 3 (pc' := 1212) (ls' := [(3, .int 0), (2, .ref 90), (1, .ref 1), (0, .ref 0)]) (st' := [.int a2, .int a1, .ref 90, .int (-1000001)]) (w' := (wd_1000 (sz a0 a1 a2 a3 a4 a5))) (cs' := 109) (ss' := 12668) ?_ (fun _ _ => rfl)
  refine go_if false rfl (br_eq_f (b := 0) rfl (by omega)) ?_
  refine go_seg 2 (pc' := 1220) (ls' := [(3, .int 0), (2, .ref 90), (1, .ref 1), (0, .ref 0)]) (st' := [.int 1, .int a1, .ref 90, .int (-1000001)]) (w' := (wd_1000 (sz a0 a1 a2 a3 a4 a5))) (cs' := 109) (ss' := 12668) ?_ (fun _ _ => rfl)
  refine go_cl (k := 20) (st' := [.int (-1000001), .int (-1000001)]) (cs' := 109) (ss' := 12668) rfl rfl rfl rfl rfl rfl rfl (ro_351 (sz a0 a1 a2 a3 a4 a5) a1 (by omega) (by omega)) ?_
  refine go_cmp true rfl (br_self _) ?_
  exact law_tail (f := sc a0 a1 a2 a3 a4 a5) rfl
theorem op_27 (a0 a1 a2 a3 a4 a5 : Int32) : ∃ w', pq_Go 20 pm_law 1179 [(3, .int 0), (2, .ref 90), (1, .ref 1), (0, .ref 0)] [] (fw (sz a0 a1 a2 a3 a4 a5)) 109 12668 (some (.int 1), w') := by
  by_cases c0 : a2 = 0
  · subst c0
    by_cases c1 : a1.toInt < 0
    · exact lf_27_330 a0 a1 a3 a4 a5 (by omega)
    · by_cases c2 : a1.toInt < 8
      · exact lf_27_337 a0 a1 a3 a4 a5 (by omega) (by omega)
      · exact lf_27_342 a0 a1 a3 a4 a5 (by omega) (by omega)
  · have c0 := ne_t (b := 0) rfl c0
    by_cases c1 : a1.toInt < 0
    · exact lf_27_345 a0 a1 a2 a3 a4 a5 (by omega) (by omega)
    · by_cases c2 : a1.toInt < 8
      · exact lf_27_349 a0 a1 a2 a3 a4 a5 (by omega) (by omega) (by omega)
      · exact lf_27_352 a0 a1 a2 a3 a4 a5 (by omega) (by omega) (by omega)
