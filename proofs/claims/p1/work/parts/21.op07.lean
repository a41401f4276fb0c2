theorem ro_42 (z : pq_C) (a1 : Int32) (h0 : a1.toInt < 0) : pq_Ru 1 32 [.int a1] (fw z) (some (.int 0), (fw z)) := by
  refine ru_of (k := 0) (M := pm_32) rfl rfl ?_
  refine go_seg 1 (pc' := 1) (ls' := [(0, .int a1)]) (st' := [.int a1]) (w' := (fw z)) (cs' := 0) (ss' := 0) ?_ (fun _ _ => rfl)
  refine go_if true rfl (br_lt_t (b := 0) rfl (by omega)) ?_
  exact go_end 2 (fun _ _ => rfl)
theorem ro_43 (z : pq_C) (a1 : Int32) (a2 : Int32) (a3 : Int32) (h0 : a1.toInt < 0) : pq_Ru 3 31 [.ref 1, .int a1, .int a2, .int a3] (fw z) (some (.int (-1000001)), (wd_1000 z)) := by
  refine ru_of (k := 2) (M := pm_31) rfl rfl ?_
  refine go_seg 1 (pc' := 1) (ls' := [(0, .ref 1), (1, .int a1), (2, .int a2), (3, .int a3)]) (st' := [.int a1]) (w' := (fw z)) (cs' := 0) (ss' := 0) ?_ (fun _ _ => rfl)
  refine go_cl (k := 2) (st' := [.int 0]) (cs' := 0) (ss' := 0) rfl rfl rfl rfl rfl rfl rfl (ro_42 z a1 (by omega)) ?_
  refine go_seg 3 (pc' := 31) (ls' := [(0, .ref 1), (1, .int a1), (2, .int a2), (3, .int a3)]) (st' := [.int 1, .ref 1]) (w' := (fw z)) (cs' := 0) (ss' := 0) ?_ (fun _ _ => rfl)
  refine go_cl (k := 2) (st' := [.int (-1000001)]) (cs' := 0) (ss' := 0) rfl rfl rfl rfl rfl rfl rfl (ro_2 z) ?_
  exact go_end 1 (fun _ _ => rfl)
theorem ro_44 (z : pq_C) (a1 : Int32) (a2 : Int32) (a3 : Int32) (h0 : a1.toInt < 0) : pq_Ru 2 174 [.ref 90, .int a1, .int a2, .int a3] (wd_1000 z) (some (.int (-1000001)), (wd_1001 z)) := by
  refine ru_of (k := 1) (M := pm_174) rfl rfl ?_
  refine go_seg 4 (pc' := 6) (ls' := [(0, .ref 90), (1, .int a1), (2, .int a2), (3, .int a3)]) (st' := [.long 5, .long 0, .long a1.toInt64]) (w' := (wd_1000 z)) (cs' := 0) (ss' := 0) ?_ (fun _ _ => rfl)
  refine go_cl (k := 1) (st' := [.int 0]) (cs' := 0) (ss' := 0) rfl rfl rfl rfl rfl rfl rfl (wi_f _ a1 0 5 0 5 rfl rfl (by omega)) ?_
  refine go_seg 3 (pc' := 36) (ls' := [(0, .ref 90), (1, .int a1), (2, .int a2), (3, .int a3)]) (st' := [.int (-1000001), .ref 90]) (w' := (wd_1000 z)) (cs' := 0) (ss' := 0) ?_ (fun _ _ => rfl)
  refine go_cl (k := 1) (st' := [.int (-1000001)]) (cs' := 0) (ss' := 0) rfl rfl rfl rfl rfl rfl rfl (ro_5 z) ?_
  exact go_end 1 (fun _ _ => rfl)
theorem lf_7_45 (a0 : Int32) (a1 : Int32) (a2 : Int32) (a3 : Int32) (a4 : Int32) (a5 : Int32) (h0 : a1.toInt < 0) : ∃ w', pq_Go 20 pm_law 459 [(3, .int 0), (2, .ref 90), (1, .ref 1), (0, .ref 0)] [] (fw (sz a0 a1 a2 a3 a4 a5)) 109 12668 (some (.int 1), w') := by
  refine ⟨(wd_1001 (sz a0 a1 a2 a3 a4 a5)), ?_⟩
  refine go_seg 8 (pc' := 467) (ls' := [(3, .int 0), (2, .ref 90), (1, .ref 1), (0, .ref 0)]) (st' := [.int 0, .ref 0, .int a1, .ref 1]) (w' := (fw (sz a0 a1 a2 a3 a4 a5))) (cs' := 109) (ss' := 12668) ?_ (fun _ _ => rfl)
  refine go_seg 8 (pc' := 475) (ls' := [(3, .int 0), (2, .ref 90), (1, .ref 1), (0, .ref 0)]) (st' := [.int a3, .int a2, .int a1, .ref 1]) (w' := (fw (sz a0 a1 a2 a3 a4 a5))) (cs' := 109) (ss' := 12668) ?_ (fun _ _ => rfl)
  refine go_cl (k := 20) (st' := [.int (-1000001)]) (cs' := 109) (ss' := 12668) rfl rfl rfl rfl rfl rfl rfl (ro_43 (sz a0 a1 a2 a3 a4 a5) a1 a2 a3 (by omega)) ?_
  refine go_seg 8 (pc' := 486) (ls' := [(3, .int 0), (2, .ref 90), (1, .ref 1), (0, .ref 0)]) (st' := [.int 0, .ref 0, .int a1, .ref 90, .int (-1000001)]) (w' := (wd_1000 (sz a0 a1 a2 a3 a4 a5))) (cs' := 109) (ss' := 12668) ?_ (fun _ _ => rfl)
  refine go_seg 8 (pc' := 494) (ls' := [(3, .int 0), (2, .ref 90), (1, .ref 1), (0, .ref 0)]) (st' := [.int a3, .int a2, .int a1, .ref 90, .int (-1000001)]) (w' := (wd_1000 (sz a0 a1 a2 a3 a4 a5))) (cs' := 109) (ss' := 12668) ?_ (fun _ _ => rfl)
  refine go_cl (k := 20) (st' := [.int (-1000001), .int (-1000001)]) (cs' := 109) (ss' := 12668) rfl rfl rfl rfl rfl rfl rfl (ro_44 (sz a0 a1 a2 a3 a4 a5) a1 a2 a3 (by omega)) ?_
  refine go_cmp true rfl (br_self _) ?_
  exact law_tail (f := sc a0 a1 a2 a3 a4 a5) rfl
theorem ro_46 (z : pq_C) (a1 : Int32) (h0 : 0 ≤ a1.toInt) (h1 : a1.toInt < 6) : pq_Ru 1 32 [.int a1] (fw z) (some (.int 1), (fw z)) := by
  refine ru_of (k := 0) (M := pm_32) rfl rfl ?_
  refine go_seg 1 (pc' := 1) (ls' := [(0, .int a1)]) (st' := [.int a1]) (w' := (fw z)) (cs' := 0) (ss' := 0) ?_ (fun _ _ => rfl)
  refine go_if false rfl (br_lt_f (b := 0) rfl (by omega)) ?_
  refine go_seg 2 (pc' := 7) (ls' := [(0, .int a1)]) (st' := [.int 6, .int a1]) (w' := (fw z)) (cs' := 0) (ss' := 0) ?_ (fun _ _ => rfl)
  refine go_cmp false rfl (br_ge_f (b := 6) rfl (by omega)) ?_
  exact go_end 3 (fun _ _ => rfl)
theorem ro_47 (z : pq_C) (a2 : Int32) (h0 : a2.toInt < 0) : pq_Ru 1 33 [.ref 11, .int a2] (fw z) (some (.int 0), (fw z)) := by
  refine ru_of (k := 0) (M := pm_33) rfl rfl ?_
  refine go_seg 1 (pc' := 1) (ls' := [(0, .ref 11), (1, .int a2)]) (st' := [.int a2]) (w' := (fw z)) (cs' := 0) (ss' := 0) ?_ (fun _ _ => rfl)
  refine go_if true rfl (br_lt_t (b := 0) rfl (by omega)) ?_
  exact go_end 2 (fun _ _ => rfl)
theorem ro_48 (z : pq_C) (a1 : Int32) (a2 : Int32) (a3 : Int32) (h0 : 0 ≤ a1.toInt) (h1 : a1.toInt < 6) (h2 : a2.toInt < 0) : pq_Ru 3 31 [.ref 1, .int a1, .int a2, .int a3] (fw z) (some (.int (-1000001)), (wd_1000 z)) := by
  refine ru_of (k := 2) (M := pm_31) rfl rfl ?_
  refine go_seg 1 (pc' := 1) (ls' := [(0, .ref 1), (1, .int a1), (2, .int a2), (3, .int a3)]) (st' := [.int a1]) (w' := (fw z)) (cs' := 0) (ss' := 0) ?_ (fun _ _ => rfl)
  refine go_cl (k := 2) (st' := [.int 1]) (cs' := 0) (ss' := 0) rfl rfl rfl rfl rfl rfl rfl (ro_46 z a1 (by omega) (by omega)) ?_
  refine go_seg 4 (pc' := 12) (ls' := [(0, .ref 1), (1, .int a1), (2, .int a2), (3, .int a3)]) (st' := [.int a2, .ref 11]) (w' := (fw z)) (cs' := 0) (ss' := 0) ?_ (fun _ _ => rfl)
  refine go_cl (k := 2) (st' := [.int 0]) (cs' := 0) (ss' := 0) rfl rfl rfl rfl rfl rfl rfl (ro_47 z a2 (by omega)) ?_
  refine go_seg 3 (pc' := 31) (ls' := [(0, .ref 1), (1, .int a1), (2, .int a2), (3, .int a3)]) (st' := [.int 1, .ref 1]) (w' := (fw z)) (cs' := 0) (ss' := 0) ?_ (fun _ _ => rfl)
  refine go_cl (k := 2) (st' := [.int (-1000001)]) (cs' := 0) (ss' := 0) rfl rfl rfl rfl rfl rfl rfl (ro_2 z) ?_
  exact go_end 1 (fun _ _ => rfl)
theorem ro_49 (z : pq_C) (a2 : Int32) (h0 : a2.toInt < 0) : pq_Ru 2 175 [.ref 90, .int a2, .int 2] (wd_1000 z) (some (.int 0), (wd_1000 z)) := by
  refine ru_of (k := 1) (M := pm_175) rfl rfl ?_
  refine go_seg 8 (pc' := 10) (ls' := [(0, .ref 90), (1, .int a2), (2, .int 2)]) (st' := [.int 1, .int 0, .long 0, .long a2.toInt64]) (w' := (wd_1000 z)) (cs' := 0) (ss' := 0) ?_ (fun _ _ => rfl)
  refine go_seg 2 (pc' := 12) (ls' := [(0, .ref 90), (1, .int a2), (2, .int 2)]) (st' := [.long (-1), .long 0, .long a2.toInt64]) (w' := (wd_1000 z)) (cs' := 0) (ss' := 0) ?_ (fun _ _ => rfl)
  refine go_cl (k := 1) (st' := [.int 0]) (cs' := 0) (ss' := 0) rfl rfl rfl rfl rfl rfl rfl (wi_f _ a2 0 (-1) 0 (-1) rfl rfl (by omega)) ?_
  exact go_end 1 (fun _ _ => rfl)
theorem ro_50 (z : pq_C) (a1 : Int32) (a2 : Int32) (a3 : Int32) (h0 : 0 ≤ a1.toInt) (h1 : a1.toInt < 6) (h2 : a2.toInt < 0) : pq_Ru 3 174 [.ref 90, .int a1, .int a2, .int a3] (wd_1000 z) (some (.int (-1000001)), (wd_1001 z)) := by
  refine ru_of (k := 2) (M := pm_174) rfl rfl ?_
  refine go_seg 4 (pc' := 6) (ls' := [(0, .ref 90), (1, .int a1), (2, .int a2), (3, .int a3)]) (st' := [.long 5, .long 0, .long a1.toInt64]) (w' := (wd_1000 z)) (cs' := 0) (ss' := 0) ?_ (fun _ _ => rfl)
  refine go_cl (k := 2) (st' := [.int 1]) (cs' := 0) (ss' := 0) rfl rfl rfl rfl rfl rfl rfl (wi_t _ a1 0 5 0 5 rfl rfl (by omega)) ?_
  refine go_seg 4 (pc' := 15) (ls' := [(0, .ref 90), (1, .int a1), (2, .int a2), (3, .int a3)]) (st' := [.int 2, .int a2, .ref 90]) (w' := (wd_1000 z)) (cs' := 0) (ss' := 0) ?_ (fun _ _ => rfl)
  refine go_cl (k := 2) (st' := [.int 0]) (cs' := 0) (ss' := 0) rfl rfl rfl rfl rfl rfl rfl (ro_49 z a2 (by omega)) ?_
  refine go_seg 3 (pc' := 36) (ls' := [(0, .ref 90), (1, .int a1), (2, .int a2), (3, .int a3)]) (st' := [.int (-1000001), .ref 90]) (w' := (wd_1000 z)) (cs' := 0) (ss' := 0) ?_ (fun _ _ => rfl)
  refine go_cl (k := 2) (st' := [.int (-1000001)]) (cs' := 0) (ss' := 0) rfl rfl rfl rfl rfl rfl rfl (ro_5 z) ?_
  exact go_end 1 (fun _ _ => rfl)
theorem lf_7_51 (a0 : Int32) (a1 : Int32) (a2 : Int32) (a3 : Int32) (a4 : Int32) (a5 : Int32) (h0 : 0 ≤ a1.toInt) (h1 : a1.toInt < 6) (h2 : a2.toInt < 0) : ∃ w', pq_Go 20 pm_law 459 [(3, .int 0), (2, .ref 90), (1, .ref 1), (0, .ref 0)] [] (fw (sz a0 a1 a2 a3 a4 a5)) 109 12668 (some (.int 1), w') := by
  refine ⟨(wd_1001 (sz a0 a1 a2 a3 a4 a5)), ?_⟩
  refine go_seg 8 (pc' := 467) (ls' := [(3, .int 0), (2, .ref 90), (1, .ref 1), (0, .ref 0)]) (st' := [.int 0, .ref 0, .int a1, .ref 1]) (w' := (fw (sz a0 a1 a2 a3 a4 a5))) (cs' := 109) (ss' := 12668) ?_ (fun _ _ => rfl)
  refine go_seg 8 (pc' := 475) (ls' := [(3, .int 0), (2, .ref 90), (1, .ref 1), (0, .ref 0)]) (st' := [.int a3, .int a2, .int a1, .ref 1]) (w' := (fw (sz a0 a1 a2 a3 a4 a5))) (cs' := 109) (ss' := 12668) ?_ (fun _ _ => rfl)
  refine go_cl (k := 20) (st' := [.int (-1000001)]) (cs' := 109) (ss' := 12668) rfl rfl rfl rfl rfl rfl rfl (ro_48 (sz a0 a1 a2 a3 a4 a5) a1 a2 a3 (by omega) (by omega) (by omega)) ?_
  refine go_seg 8 (pc' := 486) (ls' := [(3, .int 0), (2, .ref 90), (1, .ref 1), (0, .ref 0)]) (st' := [.int 0, .ref 0, .int a1, .ref 90, .int (-1000001)]) (w' := (wd_1000 (sz a0 a1 a2 a3 a4 a5))) (cs' := 109) (ss' := 12668) ?_ (fun _ _ => rfl)
  refine go_seg 8 (pc' := 494) (ls' := [(3, .int 0), (2, .ref 90), (1, .ref 1), (0, .ref 0)]) (st' := [.int a3, .int a2, .int a1, .ref 90, .int (-1000001)]) (w' := (wd_1000 (sz a0 a1 a2 a3 a4 a5))) (cs' := 109) (ss' := 12668) ?_ (fun _ _ => rfl)
  refine go_cl (k := 20) (st' := [.int (-1000001), .int (-1000001)]) (cs' := 109) (ss' := 12668) rfl rfl rfl rfl rfl rfl rfl (ro_50 (sz a0 a1 a2 a3 a4 a5) a1 a2 a3 (by omega) (by omega) (by omega)) ?_
  refine go_cmp true rfl (br_self _) ?_
  exact law_tail (f := sc a0 a1 a2 a3 a4 a5) rfl
theorem ro_52 (z : pq_C) (a2 : Int32) (h0 : 0 ≤ a2.toInt) : pq_Ru 1 33 [.ref 11, .int a2] (fw z) (some (.int 0), (fw z)) := by
  refine ru_of (k := 0) (M := pm_33) rfl rfl ?_
  refine go_seg 1 (pc' := 1) (ls' := [(0, .ref 11), (1, .int a2)]) (st' := [.int a2]) (w' := (fw z)) (cs' := 0) (ss' := 0) ?_ (fun _ _ => rfl)
  refine go_if false rfl (br_lt_f (b := 0) rfl (by omega)) ?_
  refine go_seg 3 (pc' := 9) (ls' := [(0, .ref 11), (1, .int a2)]) (st' := [.int 0, .int a2]) (w' := (fw z)) (cs' := 0) (ss' := 0) ?_ (fun _ _ => rfl)
  refine go_cmp true rfl (br_ge_t (b := 0) rfl (by omega)) ?_
  exact go_end 2 (fun _ _ => rfl)
theorem ro_53 (z : pq_C) (a1 : Int32) (a2 : Int32) (a3 : Int32) (h0 : 0 ≤ a1.toInt) (h1 : a1.toInt < 6) (h2 : 0 ≤ a2.toInt) : pq_Ru 3 31 [.ref 1, .int a1, .int a2, .int a3] (fw z) (some (.int (-1000001)), (wd_1000 z)) := by
  refine ru_of (k := 2) (M := pm_31) rfl rfl ?_
  refine go_seg 1 (pc' := 1) (ls' := [(0, .ref 1), (1, .int a1), (2, .int a2), (3, .int a3)]) (st' := [.int a1]) (w' := (fw z)) (cs' := 0) (ss' := 0) ?_ (fun _ _ => rfl)
  refine go_cl (k := 2) (st' := [.int 1]) (cs' := 0) (ss' := 0) rfl rfl rfl rfl rfl rfl rfl (ro_46 z a1 (by omega) (by omega)) ?_
  refine go_seg 4 (pc' := 12) (ls' := [(0, .ref 1), (1, .int a1), (2, .int a2), (3, .int a3)]) (st' := [.int a2, .ref 11]) (w' := (fw z)) (cs' := 0) (ss' := 0) ?_ (fun _ _ => rfl)
  refine go_cl (k := 2) (st' := [.int 0]) (cs' := 0) (ss' := 0) rfl rfl rfl rfl rfl rfl rfl (ro_52 z a2 (by omega)) ?_
  refine go_seg 3 (pc' := 31) (ls' := [(0, .ref 1), (1, .int a1), (2, .int a2), (3, .int a3)]) (st' := [.int 1, .ref 1]) (w' := (fw z)) (cs' := 0) (ss' := 0) ?_ (fun _ _ => rfl)
  refine go_cl (k := 2) (st' := [.int (-1000001)]) (cs' := 0) (ss' := 0) rfl rfl rfl rfl rfl rfl rfl (ro_2 z) ?_
  exact go_end 1 (fun _ _ => rfl)
theorem ro_54 (z : pq_C) (a2 : Int32) (h0 : 0 ≤ a2.toInt) : pq_Ru 2 175 [.ref 90, .int a2, .int 2] (wd_1000 z) (some (.int 0), (wd_1000 z)) := by
  refine ru_of (k := 1) (M := pm_175) rfl rfl ?_
  refine go_seg 8 (pc' := 10) (ls' := [(0, .ref 90), (1, .int a2), (2, .int 2)]) (st' := [.int 1, .int 0, .long 0, .long a2.toInt64]) (w' := (wd_1000 z)) (cs' := 0) (ss' := 0) ?_ (fun _ _ => rfl)
  refine go_seg 2 (pc' := 12) (ls' := [(0, .ref 90), (1, .int a2), (2, .int 2)]) (st' := [.long (-1), .long 0, .long a2.toInt64]) (w' := (wd_1000 z)) (cs' := 0) (ss' := 0) ?_ (fun _ _ => rfl)
  refine go_cl (k := 1) (st' := [.int 0]) (cs' := 0) (ss' := 0) rfl rfl rfl rfl rfl rfl rfl (wi_f _ a2 0 (-1) 0 (-1) rfl rfl (by omega)) ?_
  exact go_end 1 (fun _ _ => rfl)
theorem ro_55 (z : pq_C) (a1 : Int32) (a2 : Int32) (a3 : Int32) (h0 : 0 ≤ a1.toInt) (h1 : a1.toInt < 6) (h2 : 0 ≤ a2.toInt) : pq_Ru 3 174 [.ref 90, .int a1, .int a2, .int a3] (wd_1000 z) (some (.int (-1000001)), (wd_1001 z)) := by
  refine ru_of (k := 2) (M := pm_174) rfl rfl ?_
  refine go_seg 4 (pc' := 6) (ls' := [(0, .ref 90), (1, .int a1), (2, .int a2), (3, .int a3)]) (st' := [.long 5, .long 0, .long a1.toInt64]) (w' := (wd_1000 z)) (cs' := 0) (ss' := 0) ?_ (fun _ _ => rfl)
  refine go_cl (k := 2) (st' := [.int 1]) (cs' := 0) (ss' := 0) rfl rfl rfl rfl rfl rfl rfl (wi_t _ a1 0 5 0 5 rfl rfl (by omega)) ?_
  refine go_seg 4 (pc' := 15) (ls' := [(0, .ref 90), (1, .int a1), (2, .int a2), (3, .int a3)]) (st' := [.int 2, .int a2, .ref 90]) (w' := (wd_1000 z)) (cs' := 0) (ss' := 0) ?_ (fun _ _ => rfl)
  refine go_cl (k := 2) (st' := [.int 0]) (cs' := 0) (ss' := 0) rfl rfl rfl rfl rfl rfl rfl (ro_54 z a2 (by omega)) ?_
  refine go_seg 3 (pc' := 36) (ls' := [(0, .ref 90), (1, .int a1), (2, .int a2), (3, .int a3)]) (st' := [.int (-1000001), .ref 90]) (w' := (wd_1000 z)) (cs' := 0) (ss' := 0) ?_ (fun _ _ => rfl)
  refine go_cl (k := 2) (st' := [.int (-1000001)]) (cs' := 0) (ss' := 0) rfl rfl rfl rfl rfl rfl rfl (ro_5 z) ?_
  exact go_end 1 (fun _ _ => rfl)
theorem lf_7_56 (a0 : Int32) (a1 : Int32) (a2 : Int32) (a3 : Int32) (a4 : Int32) (a5 : Int32) (h0 : 0 ≤ a1.toInt) (h1 : a1.toInt < 6) (h2 : 0 ≤ a2.toInt) : ∃ w', pq_Go 20 pm_law 459 [(3, .int 0), (2, .ref 90), (1, .ref 1), (0, .ref 0)] [] (fw (sz a0 a1 a2 a3 a4 a5)) 109 12668 (some (.int 1), w') := by
  refine ⟨(wd_1001 (sz a0 a1 a2 a3 a4 a5)), ?_⟩
  refine go_seg 8 (pc' := 467) (ls' := [(3, .int 0), (2, .ref 90), (1, .ref 1), (0, .ref 0)]) (st' := [.int 0, .ref 0, .int a1, .ref 1]) (w' := (fw (sz a0 a1 a2 a3 a4 a5))) (cs' := 109) (ss' := 12668) ?_ (fun _ _ => rfl)
  refine go_seg 8 (pc' := 475) (ls' := [(3, .int 0), (2, .ref 90), (1, .ref 1), (0, .ref 0)]) (st' := [.int a3, .int a2, .int a1, .ref 1]) (w' := (fw (sz a0 a1 a2 a3 a4 a5))) (cs' := 109) (ss' := 12668) ?_ (fun _ _ => rfl)
  refine go_cl (k := 20) (st' := [.int (-1000001)]) (cs' := 109) (ss' := 12668) rfl rfl rfl rfl rfl rfl rfl (ro_53 (sz a0 a1 a2 a3 a4 a5) a1 a2 a3 (by omega) (by omega) (by omega)) ?_
  refine go_seg 8 (pc' := 486) (ls' := [(3, .int 0), (2, .ref 90), (1, .ref 1), (0, .ref 0)]) (st' := [.int 0, .ref 0, .int a1, .ref 90, .int (-1000001)]) (w' := (wd_1000 (sz a0 a1 a2 a3 a4 a5))) (cs' := 109) (ss' := 12668) ?_ (fun _ _ => rfl)
  refine go_seg 8 (pc' := 494) (ls' := [(3, .int 0), (2, .ref 90), (1, .ref 1), (0, .ref 0)]) (st' := [.int a3, .int a2, .int a1, .ref 90, .int (-1000001)]) (w' := (wd_1000 (sz a0 a1 a2 a3 a4 a5))) (cs' := 109) (ss' := 12668) ?_ (fun _ _ => rfl)
  refine go_cl (k := 20) (st' := [.int (-1000001), .int (-1000001)]) (cs' := 109) (ss' := 12668) rfl rfl rfl rfl rfl rfl rfl (ro_55 (sz a0 a1 a2 a3 a4 a5) a1 a2 a3 (by omega) (by omega) (by omega)) ?_
  refine go_cmp true rfl (br_self _) ?_
  exact law_tail (f := sc a0 a1 a2 a3 a4 a5) rfl
theorem ro_57 (z : pq_C) (a1 : Int32) (h0 : 0 ≤ a1.toInt) (h1 : 6 ≤ a1.toInt) : pq_Ru 1 32 [.int a1] (fw z) (some (.int 0), (fw z)) := by
  refine ru_of (k := 0) (M := pm_32) rfl rfl ?_
  refine go_seg 1 (pc' := 1) (ls' := [(0, .int a1)]) (st' := [.int a1]) (w' := (fw z)) (cs' := 0) (ss' := 0) ?_ (fun _ _ => rfl)
  refine go_if false rfl (br_lt_f (b := 0) rfl (by omega)) ?_
  refine go_seg 2 (pc' := 7) (ls' := [(0, .int a1)]) (st' := [.int 6, .int a1]) (w' := (fw z)) (cs' := 0) (ss' := 0) ?_ (fun _ _ => rfl)
  refine go_cmp true rfl (br_ge_t (b := 6) rfl (by omega)) ?_
  exact go_end 2 (fun _ _ => rfl)
theorem ro_58 (z : pq_C) (a1 : Int32) (a2 : Int32) (a3 : Int32) (h0 : 0 ≤ a1.toInt) (h1 : 6 ≤ a1.toInt) : pq_Ru 3 31 [.ref 1, .int a1, .int a2, .int a3] (fw z) (some (.int (-1000001)), (wd_1000 z)) := by
  refine ru_of (k := 2) (M := pm_31) rfl rfl ?_
  refine go_seg 1 (pc' := 1) (ls' := [(0, .ref 1), (1, .int a1), (2, .int a2), (3, .int a3)]) (st' := [.int a1]) (w' := (fw z)) (cs' := 0) (ss' := 0) ?_ (fun _ _ => rfl)
  refine go_cl (k := 2) (st' := [.int 0]) (cs' := 0) (ss' := 0) rfl rfl rfl rfl rfl rfl rfl (ro_57 z a1 (by omega) (by omega)) ?_
  refine go_seg 3 (pc' := 31) (ls' := [(0, .ref 1), (1, .int a1), (2, .int a2), (3, .int a3)]) (st' := [.int 1, .ref 1]) (w' := (fw z)) (cs' := 0) (ss' := 0) ?_ (fun _ _ => rfl)
  refine go_cl (k := 2) (st' := [.int (-1000001)]) (cs' := 0) (ss' := 0) rfl rfl rfl rfl rfl rfl rfl (ro_2 z) ?_
  exact go_end 1 (fun _ _ => rfl)
theorem ro_59 (z : pq_C) (a1 : Int32) (a2 : Int32) (a3 : Int32) (h0 : 0 ≤ a1.toInt) (h1 : 6 ≤ a1.toInt) : pq_Ru 2 174 [.ref 90, .int a1, .int a2, .int a3] (wd_1000 z) (some (.int (-1000001)), (wd_1001 z)) := by
  refine ru_of (k := 1) (M := pm_174) rfl rfl ?_
  refine go_seg 4 (pc' := 6) (ls' := [(0, .ref 90), (1, .int a1), (2, .int a2), (3, .int a3)]) (st' := [.long 5, .long 0, .long a1.toInt64]) (w' := (wd_1000 z)) (cs' := 0) (ss' := 0) ?_ (fun _ _ => rfl)
  refine go_cl (k := 1) (st' := [.int 0]) (cs' := 0) (ss' := 0) rfl rfl rfl rfl rfl rfl rfl (wi_f _ a1 0 5 0 5 rfl rfl (by omega)) ?_
  refine go_seg 3 (pc' := 36) (ls' := [(0, .ref 90), (1, .int a1), (2, .int a2), (3, .int a3)]) (st' := [.int (-1000001), .ref 90]) (w' := (wd_1000 z)) (cs' := 0) (ss' := 0) ?_ (fun _ _ => rfl)
  refine go_cl (k := 1) (st' := [.int (-1000001)]) (cs' := 0) (ss' := 0) rfl rfl rfl rfl rfl rfl rfl (ro_5 z) ?_
  exact go_end 1 (fun _ _ => rfl)
theorem lf_7_60 (a0 : Int32) (a1 : Int32) (a2 : Int32) (a3 : Int32) (a4 : Int32) (a5 : Int32) (h0 : 0 ≤ a1.toInt) (h1 : 6 ≤ a1.toInt) : ∃ w', pq_Go 20 pm_law 459 [(3, .int 0), (2, .ref 90), (1, .ref 1), (0, .ref 0)] [] (fw (sz a0 a1 a2 a3 a4 a5)) 109 12668 (some (.int 1), w') := by
  refine ⟨(wd_1001 (sz a0 a1 a2 a3 a4 a5)), ?_⟩
  refine go_seg 8 (pc' := 467) (ls' := [(3, .int 0), (2, .ref 90), (1, .ref 1), (0, .ref 0)]) (st' := [.int 0, .ref 0, .int a1, .ref 1]) (w' := (fw (sz a0 a1 a2 a3 a4 a5))) (cs' := 109) (ss' := 12668) ?_ (fun _ _ => rfl)
  refine go_seg 8 (pc' := 475) (ls' := [(3, .int 0), (2, .ref 90), (1, .ref 1), (0, .ref 0)]) (st' := [.int a3, .int a2, .int a1, .ref 1]) (w' := (fw (sz a0 a1 a2 a3 a4 a5))) (cs' := 109) (ss' := 12668) ?_ (fun _ _ => rfl)
  refine go_cl (k := 20) (st' := [.int (-1000001)]) (cs' := 109) (ss' := 12668) rfl rfl rfl rfl rfl rfl rfl (ro_58 (sz a0 a1 a2 a3 a4 a5) a1 a2 a3 (by omega) (by omega)) ?_
  refine go_seg 8 (pc' := 486) (ls' := [(3, .int 0), (2, .ref 90), (1, .ref 1), (0, .ref 0)]) (st' := [.int 0, .ref 0, .int a1, .ref 90, .int (-1000001)]) (w' := (wd_1000 (sz a0 a1 a2 a3 a4 a5))) (cs' := 109) (ss' := 12668) ?_ (fun _ _ => rfl)
  refine go_seg 8 (pc' := 494) (ls' := [(3, .int 0), (2, .ref 90), (1, .ref 1), (0, .ref 0)]) (st' := [.int a3, .int a2, .int a1, .ref 90, .int (-1000001)]) (w' := (wd_1000 (sz a0 a1 a2 a3 a4 a5))) (cs' := 109) (ss' := 12668) ?_ (fun _ _ => rfl)
  refine go_cl (k := 20) (st' := [.int (-1000001), .int (-1000001)]) (cs' := 109) (ss' := 12668) rfl rfl rfl rfl rfl rfl rfl (ro_59 (sz a0 a1 a2 a3 a4 a5) a1 a2 a3 (by omega) (by omega)) ?_
  refine go_cmp true rfl (br_self _) ?_
  exact law_tail (f := sc a0 a1 a2 a3 a4 a5) rfl
theorem op_7 (a0 a1 a2 a3 a4 a5 : Int32) : ∃ w', pq_Go 20 pm_law 459 [(3, .int 0), (2, .ref 90), (1, .ref 1), (0, .ref 0)] [] (fw (sz a0 a1 a2 a3 a4 a5)) 109 12668 (some (.int 1), w') := by
  by_cases c0 : a1.toInt < 0
  · exact lf_7_45 a0 a1 a2 a3 a4 a5 (by omega)
  · by_cases c1 : a1.toInt < 6
    · by_cases c2 : a2.toInt < 0
      · exact lf_7_51 a0 a1 a2 a3 a4 a5 (by omega) (by omega) (by omega)
      · exact lf_7_56 a0 a1 a2 a3 a4 a5 (by omega) (by omega) (by omega)
    · exact lf_7_60 a0 a1 a2 a3 a4 a5 (by omega) (by omega)
