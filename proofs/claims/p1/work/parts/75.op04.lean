theorem ro_935 (z : pq_C) (a1 : Int32) (a2 : Int32) (h0 : a1.toInt < 0) : pq_Ru 3 25 [.ref 1, .int a1, .int a2] (fw z) (some (.int (-1000001)), (wd_1000 z)) := by
  refine ru_of (k := 2) (M := pm_25) rfl rfl ?_
  refine go_seg 1 (pc' := 1) (ls' := [(0, .ref 1), (1, .int a1), (2, .int a2)]) (st' := [.int a1]) (w' := (fw z)) (cs' := 0) (ss' := 0) ?_ (fun _ _ => rfl)
  refine go_cl (k := 2) (st' := [.int 0]) (cs' := 0) (ss' := 0) rfl rfl rfl rfl rfl rfl rfl (ro_326 z a1 (by omega)) ?_
  refine go_seg 3 (pc' := 9) (ls' := [(0, .ref 1), (1, .int a1), (2, .int a2)]) (st' := [.int 1, .ref 1]) (w' := (fw z)) (cs' := 0) (ss' := 0) ?_ (fun _ _ => rfl)
  refine go_cl (k := 2) (st' := [.int (-1000001)]) (cs' := 0) (ss' := 0) rfl rfl rfl rfl rfl rfl rfl (ro_2 z) ?_
  exact go_end 1 (fun _ _ => rfl)
theorem ro_936 (z : pq_C) (a1 : Int32) (a2 : Int32) (h0 : a1.toInt < 0) : pq_Ru 3 169 [.ref 90, .int a1, .int a2] (wd_1000 z) (some (.int (-1000001)), (wd_1001 z)) := by
  refine ru_of (k := 2) (M := pm_169) rfl rfl ?_
  refine go_seg 1 (pc' := 1) (ls' := [(0, .ref 90), (1, .int a1), (2, .int a2)]) (st' := [.int a1]) (w' := (wd_1000 z)) (cs' := 0) (ss' := 0) ?_ (fun _ _ => rfl)
  refine go_cl (k := 2) (st' := [.int 0]) (cs' := 0) (ss' := 0) rfl rfl rfl rfl rfl rfl rfl (ro_328 z a1 (by omega)) ?_
  refine go_seg 3 (pc' := 22) (ls' := [(0, .ref 90), (1, .int a1), (2, .int a2)]) (st' := [.int (-1000001), .ref 90]) (w' := (wd_1000 z)) (cs' := 0) (ss' := 0) ?_ (fun _ _ => rfl)
  refine go_cl (k := 2) (st' := [.int (-1000001)]) (cs' := 0) (ss' := 0) rfl rfl rfl rfl rfl rfl rfl (ro_5 z) ?_
  exact go_end 1 (fun _ _ => rfl)
theorem lf_4_937 (a0 : Int32) (a1 : Int32) (a2 : Int32) (a3 : Int32) (a4 : Int32) (a5 : Int32) (h0 : a1.toInt < 0) : ∃ w', pq_Go 20 pm_law 370 [(3, .int 0), (2, .ref 90), (1, .ref 1), (0, .ref 0)] [] (fw (sz a0 a1 a2 a3 a4 a5)) 109 12668 (some (.int 1), w') := by
  refine ⟨(wd_1001 (sz a0 a1 a2 a3 a4 a5)), ?_⟩
  refine go_seg 8 (pc' := 378) (ls' := [(3, .int 0), (2, .ref 90), (1, .ref 1), (0, .ref 0)]) (st' := [.int 0, .ref 0, .int a1, .ref 1]) (w' := (fw (sz a0 a1 a2 a3 a4 a5))) (cs' := 109) (ss' := 12668) ?_ (fun _ _ => rfl)
  refine go_seg 3 (pc' := 381) (ls' := [(3, .int 0), (2, .ref 90), (1, .ref 1), (0, .ref 0)]) (st' := [.int a2, .int a1, .ref 1]) (w' := (fw (sz a0 a1 a2 a3 a4 a5))) (cs' := 109) (ss' := 12668) ?_ (fun _ _ => rfl)
  refine go_cl (k := 20) (st' := [.int (-1000001)]) (cs' := 109) (ss' := 12668) rfl rfl rfl rfl rfl rfl rfl (ro_935 (sz a0 a1 a2 a3 a4 a5) a1 a2 (by omega)) ?_
  refine go_seg 8 (pc' := 392) (ls' := [(3, .int 0), (2, .ref 90), (1, .ref 1), (0, .ref 0)]) (st' := [.int 0, .ref 0, .int a1, .ref 90, .int (-1000001)]) (w' := (wd_1000 (sz a0 a1 a2 a3 a4 a5))) (cs' := 109) (ss' := 12668) ?_ (fun _ _ => rfl)
  refine go_seg 3 (pc' := 395) (ls' := [(3, .int 0), (2, .ref 90), (1, .ref 1), (0, .ref 0)]) (st' := [.int a2, .int a1, .ref 90, .int (-1000001)]) (w' := (wd_1000 (sz a0 a1 a2 a3 a4 a5))) (cs' := 109) (ss' := 12668) ?_ (fun _ _ => rfl)
  refine go_cl (k := 20) (st' := [.int (-1000001), .int (-1000001)]) (cs' := 109) (ss' := 12668) rfl rfl rfl rfl rfl rfl rfl (ro_936 (sz a0 a1 a2 a3 a4 a5) a1 a2 (by omega)) ?_
  refine go_cmp true rfl (br_self _) ?_
  exact law_tail (f := sc a0 a1 a2 a3 a4 a5) rfl
theorem ro_938 (z : pq_C) : pq_Ru 2 25 [.ref 1, .int 0, .int 0] (fw z) (some (.int 0), (fw z)) := by
  refine ru_of (k := 1) (M := pm_25) rfl rfl ?_
  refine go_seg 1 (pc' := 1) (ls' := [(0, .ref 1), (1, .int 0), (2, .int 0)]) (st' := [.int 0]) (w' := (fw z)) (cs' := 0) (ss' := 0) ?_ (fun _ _ => rfl)
  refine go_cl (k := 1) (st' := [.int 1]) (cs' := 0) (ss' := 0) rfl rfl rfl rfl rfl rfl rfl (ro_548 z) ?_
  refine go_seg 8 (pc' := 69) (ls' := [(0, .ref 1), (1, .int 0), (2, .int 0)]) (st' := [.int 0]) (w' := (fw z)) (cs' := 0) (ss' := 0) ?_ (fun _ _ => rfl)
  exact go_end 1 (fun _ _ => rfl)
theorem ro_939 (z : pq_C) : pq_Ru 1 161 [.long 0, .long 0, .long 7] (fw z) (some (.int 1), (fw z)) := by
  refine ru_of (k := 0) (M := pm_161) rfl rfl ?_
  refine go_seg 8 (pc' := 13) (ls' := [(0, .long 0), (2, .long 0), (4, .long 7)]) (st' := []) (w' := (fw z)) (cs' := 0) (ss' := 0) ?_ (fun _ _ => rfl)
  exact go_end 3 (fun _ _ => rfl)
theorem ro_940 (z : pq_C) : pq_Ru 2 167 [.int 0] (fw z) (some (.int 1), (fw z)) := by
  refine ru_of (k := 1) (M := pm_167) rfl rfl ?_
  refine go_seg 4 (pc' := 6) (ls' := [(0, .int 0)]) (st' := [.long 7, .long 0, .long 0]) (w' := (fw z)) (cs' := 0) (ss' := 0) ?_ (fun _ _ => rfl)
  refine go_cl (k := 1) (st' := [.int 1]) (cs' := 0) (ss' := 0) rfl rfl rfl rfl rfl rfl rfl (ro_939 z) ?_
  exact go_end 1 (fun _ _ => rfl)
theorem ro_941 (z : pq_C) : pq_Ru 1 168 [.int 0, .int 0] (fw z) (some (.int 138), (fw z)) := by
  refine ru_of (k := 0) (M := pm_168) rfl rfl ?_
  exact go_end 8 (fun _ _ => rfl)
theorem ro_942 (z : pq_C) : pq_Ru 3 169 [.ref 90, .int 0, .int 0] (fw z) (some (.int 0), (fw z)) := by
  refine ru_of (k := 2) (M := pm_169) rfl rfl ?_
  refine go_seg 1 (pc' := 1) (ls' := [(0, .ref 90), (1, .int 0), (2, .int 0)]) (st' := [.int 0]) (w' := (fw z)) (cs' := 0) (ss' := 0) ?_ (fun _ _ => rfl)
  refine go_cl (k := 2) (st' := [.int 1]) (cs' := 0) (ss' := 0) rfl rfl rfl rfl rfl rfl rfl (ro_940 z) ?_
  refine go_seg 5 (pc' := 13) (ls' := [(0, .ref 90), (1, .int 0), (2, .int 0)]) (st' := [.long 7, .long 0, .long 0]) (w' := (fw z)) (cs' := 0) (ss' := 0) ?_ (fun _ _ => rfl)
  refine go_cl (k := 2) (st' := [.int 1]) (cs' := 0) (ss' := 0) rfl rfl rfl rfl rfl rfl rfl (ro_939 z) ?_
  refine go_seg 8 (pc' := 37) (ls' := [(0, .ref 90), (1, .int 0), (2, .int 0)]) (st' := [.int 0, .int 0, .ref 91]) (w' := (fw z)) (cs' := 0) (ss' := 0) ?_ (fun _ _ => rfl)
  refine go_cl (k := 2) (st' := [.int 138, .ref 91]) (cs' := 0) (ss' := 0) rfl rfl rfl rfl rfl rfl rfl (ro_941 z) ?_
  exact go_end 2 (fun _ _ => rfl)
theorem lf_4_943 (a0 : Int32) (a3 : Int32) (a4 : Int32) (a5 : Int32) : ∃ w', pq_Go 20 pm_law 370 [(3, .int 0), (2, .ref 90), (1, .ref 1), (0, .ref 0)] [] (fw (sz a0 0 0 a3 a4 a5)) 109 12668 (some (.int 1), w') := by
  refine ⟨(fw (sz a0 0 0 a3 a4 a5)), ?_⟩
  refine go_seg 8 (pc' := 378) (ls' := [(3, .int 0), (2, .ref 90), (1, .ref 1), (0, .ref 0)]) (st' := [.int 0, .ref 0, .int 0, .ref 1]) (w' := (fw (sz a0 0 0 a3 a4 a5))) (cs' := 109) (ss' := 12668) ?_ (fun _ _ => rfl)
  refine go_seg 3 (pc' := 381) (ls' := [(3, .int 0), (2, .ref 90), (1, .ref 1), (0, .ref 0)]) (st' := [.int 0, .int 0, .ref 1]) (w' := (fw (sz a0 0 0 a3 a4 a5))) (cs' := 109) (ss' := 12668) ?_ (fun _ _ => rfl)
  refine go_cl (k := 20) (st' := [.int 0]) (cs' := 109) (ss' := 12668) rfl rfl rfl rfl rfl rfl rfl (ro_938 (sz a0 0 0 a3 a4 a5)) ?_
  refine go_seg 8 (pc' := 392) (ls' := [(3, .int 0), (2, .ref 90), (1, .ref 1), (0, .ref 0)]) (st' := [.int 0, .ref 0, .int 0, .ref 90, .int 0]) (w' := (fw (sz a0 0 0 a3 a4 a5))) (cs' := 109) (ss' := 12668) ?_ (fun _ _ => rfl)
  refine go_seg 3 (pc' := 395) (ls' := [(3, .int 0), (2, .ref 90), (1, .ref 1), (0, .ref 0)]) (st' := [.int 0, .int 0, .ref 90, .int 0]) (w' := (fw (sz a0 0 0 a3 a4 a5))) (cs' := 109) (ss' := 12668) ?_ (fun _ _ => rfl)
  refine go_cl (k := 20) (st' := [.int 0, .int 0]) (cs' := 109) (ss' := 12668) rfl rfl rfl rfl rfl rfl rfl (ro_942 (sz a0 0 0 a3 a4 a5)) ?_
  refine go_cmp true rfl (br_self _) ?_
  exact law_tail (f := sc a0 0 0 a3 a4 a5) rfl
theorem ro_944 (z : pq_C) : pq_Ru 2 25 [.ref 1, .int 1, .int 0] (fw z) (some (.int 0), (fw z)) := by
  refine ru_of (k := 1) (M := pm_25) rfl rfl ?_
  refine go_seg 1 (pc' := 1) (ls' := [(0, .ref 1), (1, .int 1), (2, .int 0)]) (st' := [.int 1]) (w' := (fw z)) (cs' := 0) (ss' := 0) ?_ (fun _ _ => rfl)
  refine go_cl (k := 1) (st' := [.int 1]) (cs' := 0) (ss' := 0) rfl rfl rfl rfl rfl rfl rfl (ro_558 z) ?_
  refine go_seg 8 (pc' := 69) (ls' := [(0, .ref 1), (1, .int 1), (2, .int 0)]) (st' := [.int 0]) (w' := (fw z)) (cs' := 0) (ss' := 0) ?_ (fun _ _ => rfl)
  exact go_end 1 (fun _ _ => rfl)
theorem ro_945 (z : pq_C) : pq_Ru 1 161 [.long 1, .long 0, .long 7] (fw z) (some (.int 1), (fw z)) := by
  refine ru_of (k := 0) (M := pm_161) rfl rfl ?_
  refine go_seg 8 (pc' := 13) (ls' := [(0, .long 1), (2, .long 0), (4, .long 7)]) (st' := []) (w' := (fw z)) (cs' := 0) (ss' := 0) ?_ (fun _ _ => rfl)
  exact go_end 3 (fun _ _ => rfl)
theorem ro_946 (z : pq_C) : pq_Ru 2 167 [.int 1] (fw z) (some (.int 1), (fw z)) := by
  refine ru_of (k := 1) (M := pm_167) rfl rfl ?_
  refine go_seg 4 (pc' := 6) (ls' := [(0, .int 1)]) (st' := [.long 7, .long 0, .long 1]) (w' := (fw z)) (cs' := 0) (ss' := 0) ?_ (fun _ _ => rfl)
  refine go_cl (k := 1) (st' := [.int 1]) (cs' := 0) (ss' := 0) rfl rfl rfl rfl rfl rfl rfl (ro_945 z) ?_
  exact go_end 1 (fun _ _ => rfl)
theorem ro_947 (z : pq_C) : pq_Ru 1 168 [.int 1, .int 0] (fw z) (some (.int 144), (fw z)) := by
  refine ru_of (k := 0) (M := pm_168) rfl rfl ?_
  exact go_end 8 (fun _ _ => rfl)
theorem ro_948 (z : pq_C) : pq_Ru 3 169 [.ref 90, .int 1, .int 0] (fw z) (some (.int 0), (fw z)) := by
  refine ru_of (k := 2) (M := pm_169) rfl rfl ?_
  refine go_seg 1 (pc' := 1) (ls' := [(0, .ref 90), (1, .int 1), (2, .int 0)]) (st' := [.int 1]) (w' := (fw z)) (cs' := 0) (ss' := 0) ?_ (fun _ _ => rfl)
  refine go_cl (k := 2) (st' := [.int 1]) (cs' := 0) (ss' := 0) rfl rfl rfl rfl rfl rfl rfl (ro_946 z) ?_
  refine go_seg 5 (pc' := 13) (ls' := [(0, .ref 90), (1, .int 1), (2, .int 0)]) (st' := [.long 7, .long 0, .long 0]) (w' := (fw z)) (cs' := 0) (ss' := 0) ?_ (fun _ _ => rfl)
  refine go_cl (k := 2) (st' := [.int 1]) (cs' := 0) (ss' := 0) rfl rfl rfl rfl rfl rfl rfl (ro_939 z) ?_
  refine go_seg 8 (pc' := 37) (ls' := [(0, .ref 90), (1, .int 1), (2, .int 0)]) (st' := [.int 0, .int 1, .ref 91]) (w' := (fw z)) (cs' := 0) (ss' := 0) ?_ (fun _ _ => rfl)
  refine go_cl (k := 2) (st' := [.int 144, .ref 91]) (cs' := 0) (ss' := 0) rfl rfl rfl rfl rfl rfl rfl (ro_947 z) ?_
  exact go_end 2 (fun _ _ => rfl)
theorem lf_4_949 (a0 : Int32) (a3 : Int32) (a4 : Int32) (a5 : Int32) : ∃ w', pq_Go 20 pm_law 370 [(3, .int 0), (2, .ref 90), (1, .ref 1), (0, .ref 0)] [] (fw (sz a0 1 0 a3 a4 a5)) 109 12668 (some (.int 1), w') := by
  refine ⟨(fw (sz a0 1 0 a3 a4 a5)), ?_⟩
  refine go_seg 8 (pc' := 378) (ls' := [(3, .int 0), (2, .ref 90), (1, .ref 1), (0, .ref 0)]) (st' := [.int 0, .ref 0, .int 1, .ref 1]) (w' := (fw (sz a0 1 0 a3 a4 a5))) (cs' := 109) (ss' := 12668) ?_ (fun _ _ => rfl)
  refine go_seg 3 (pc' := 381) (ls' := [(3, .int 0), (2, .ref 90), (1, .ref 1), (0, .ref 0)]) (st' := [.int 0, .int 1, .ref 1]) (w' := (fw (sz a0 1 0 a3 a4 a5))) (cs' := 109) (ss' := 12668) ?_ (fun _ _ => rfl)
  refine go_cl (k := 20) (st' := [.int 0]) (cs' := 109) (ss' := 12668) rfl rfl rfl rfl rfl rfl rfl (ro_944 (sz a0 1 0 a3 a4 a5)) ?_
  refine go_seg 8 (pc' := 392) (ls' := [(3, .int 0), (2, .ref 90), (1, .ref 1), (0, .ref 0)]) (st' := [.int 0, .ref 0, .int 1, .ref 90, .int 0]) (w' := (fw (sz a0 1 0 a3 a4 a5))) (cs' := 109) (ss' := 12668) ?_ (fun _ _ => rfl)
  refine go_seg 3 (pc' := 395) (ls' := [(3, .int 0), (2, .ref 90), (1, .ref 1), (0, .ref 0)]) (st' := [.int 0, .int 1, .ref 90, .int 0]) (w' := (fw (sz a0 1 0 a3 a4 a5))) (cs' := 109) (ss' := 12668) ?_ (fun _ _ => rfl)
  refine go_cl (k := 20) (st' := [.int 0, .int 0]) (cs' := 109) (ss' := 12668) rfl rfl rfl rfl rfl rfl rfl (ro_948 (sz a0 1 0 a3 a4 a5)) ?_
  refine go_cmp true rfl (br_self _) ?_
  exact law_tail (f := sc a0 1 0 a3 a4 a5) rfl
theorem ro_950 (z : pq_C) : pq_Ru 2 25 [.ref 1, .int 2, .int 0] (fw z) (some (.int 0), (fw z)) := by
  refine ru_of (k := 1) (M := pm_25) rfl rfl ?_
  refine go_seg 1 (pc' := 1) (ls' := [(0, .ref 1), (1, .int 2), (2, .int 0)]) (st' := [.int 2]) (w' := (fw z)) (cs' := 0) (ss' := 0) ?_ (fun _ _ => rfl)
  refine go_cl (k := 1) (st' := [.int 1]) (cs' := 0) (ss' := 0) rfl rfl rfl rfl rfl rfl rfl (ro_567 z) ?_
  refine go_seg 8 (pc' := 69) (ls' := [(0, .ref 1), (1, .int 2), (2, .int 0)]) (st' := [.int 0]) (w' := (fw z)) (cs' := 0) (ss' := 0) ?_ (fun _ _ => rfl)
  exact go_end 1 (fun _ _ => rfl)
theorem ro_951 (z : pq_C) : pq_Ru 1 161 [.long 2, .long 0, .long 7] (fw z) (some (.int 1), (fw z)) := by
  refine ru_of (k := 0) (M := pm_161) rfl rfl ?_
  refine go_seg 8 (pc' := 13) (ls' := [(0, .long 2), (2, .long 0), (4, .long 7)]) (st' := []) (w' := (fw z)) (cs' := 0) (ss' := 0) ?_ (fun _ _ => rfl)
  exact go_end 3 (fun _ _ => rfl)
theorem ro_952 (z : pq_C) : pq_Ru 2 167 [.int 2] (fw z) (some (.int 1), (fw z)) := by
  refine ru_of (k := 1) (M := pm_167) rfl rfl ?_
  refine go_seg 4 (pc' := 6) (ls' := [(0, .int 2)]) (st' := [.long 7, .long 0, .long 2]) (w' := (fw z)) (cs' := 0) (ss' := 0) ?_ (fun _ _ => rfl)
  refine go_cl (k := 1) (st' := [.int 1]) (cs' := 0) (ss' := 0) rfl rfl rfl rfl rfl rfl rfl (ro_951 z) ?_
  exact go_end 1 (fun _ _ => rfl)
theorem ro_953 (z : pq_C) : pq_Ru 1 168 [.int 2, .int 0] (fw z) (some (.int 150), (fw z)) := by
  refine ru_of (k := 0) (M := pm_168) rfl rfl ?_
  exact go_end 8 (fun _ _ => rfl)
theorem ro_954 (z : pq_C) : pq_Ru 3 169 [.ref 90, .int 2, .int 0] (fw z) (some (.int 0), (fw z)) := by
  refine ru_of (k := 2) (M := pm_169) rfl rfl ?_
  refine go_seg 1 (pc' := 1) (ls' := [(0, .ref 90), (1, .int 2), (2, .int 0)]) (st' := [.int 2]) (w' := (fw z)) (cs' := 0) (ss' := 0) ?_ (fun _ _ => rfl)
  refine go_cl (k := 2) (st' := [.int 1]) (cs' := 0) (ss' := 0) rfl rfl rfl rfl rfl rfl rfl (ro_952 z) ?_
  refine go_seg 5 (pc' := 13) (ls' := [(0, .ref 90), (1, .int 2), (2, .int 0)]) (st' := [.long 7, .long 0, .long 0]) (w' := (fw z)) (cs' := 0) (ss' := 0) ?_ (fun _ _ => rfl)
  refine go_cl (k := 2) (st' := [.int 1]) (cs' := 0) (ss' := 0) rfl rfl rfl rfl rfl rfl rfl (ro_939 z) ?_
  refine go_seg 8 (pc' := 37) (ls' := [(0, .ref 90), (1, .int 2), (2, .int 0)]) (st' := [.int 0, .int 2, .ref 91]) (w' := (fw z)) (cs' := 0) (ss' := 0) ?_ (fun _ _ => rfl)
  refine go_cl (k := 2) (st' := [.int 150, .ref 91]) (cs' := 0) (ss' := 0) rfl rfl rfl rfl rfl rfl rfl (ro_953 z) ?_
  exact go_end 2 (fun _ _ => rfl)
theorem lf_4_955 (a0 : Int32) (a3 : Int32) (a4 : Int32) (a5 : Int32) : ∃ w', pq_Go 20 pm_law 370 [(3, .int 0), (2, .ref 90), (1, .ref 1), (0, .ref 0)] [] (fw (sz a0 2 0 a3 a4 a5)) 109 12668 (some (.int 1), w') := by
  refine ⟨(fw (sz a0 2 0 a3 a4 a5)), ?_⟩
  refine go_seg 8 (pc' := 378) (ls' := [(3, .int 0), (2, .ref 90), (1, .ref 1), (0, .ref 0)]) (st' := [.int 0, .ref 0, .int 2, .ref 1]) (w' := (fw (sz a0 2 0 a3 a4 a5))) (cs' := 109) (ss' := 12668) ?_ (fun _ _ => rfl)
  refine go_seg 3 (pc' := 381) (ls' := [(3, .int 0), (2, .ref 90), (1, .ref 1), (0, .ref 0)]) (st' := [.int 0, .int 2, .ref 1]) (w' := (fw (sz a0 2 0 a3 a4 a5))) (cs' := 109) (ss' := 12668) ?_ (fun _ _ => rfl)
  refine go_cl (k := 20) (st' := [.int 0]) (cs' := 109) (ss' := 12668) rfl rfl rfl rfl rfl rfl rfl (ro_950 (sz a0 2 0 a3 a4 a5)) ?_
  refine go_seg 8 (pc' := 392) (ls' := [(3, .int 0), (2, .ref 90), (1, .ref 1), (0, .ref 0)]) (st' := [.int 0, .ref 0, .int 2, .ref 90, .int 0]) (w' := (fw (sz a0 2 0 a3 a4 a5))) (cs' := 109) (ss' := 12668) ?_ (fun _ _ => rfl)
  refine go_seg 3 (pc' := 395) (ls' := [(3, .int 0), (2, .ref 90), (1, .ref 1), (0, .ref 0)]) (st' := [.int 0, .int 2, .ref 90, .int 0]) (w' := (fw (sz a0 2 0 a3 a4 a5))) (cs' := 109) (ss' := 12668) ?_ (fun _ _ => rfl)
  refine go_cl (k := 20) (st' := [.int 0, .int 0]) (cs' := 109) (ss' := 12668) rfl rfl rfl rfl rfl rfl rfl (ro_954 (sz a0 2 0 a3 a4 a5)) ?_
  refine go_cmp true rfl (br_self _) ?_
  exact law_tail (f := sc a0 2 0 a3 a4 a5) rfl
theorem ro_956 (z : pq_C) : pq_Ru 2 25 [.ref 1, .int 3, .int 0] (fw z) (some (.int 0), (fw z)) := by
  refine ru_of (k := 1) (M := pm_25) rfl rfl ?_
  refine go_seg 1 (pc' := 1) (ls' := [(0, .ref 1), (1, .int 3), (2, .int 0)]) (st' := [.int 3]) (w' := (fw z)) (cs' := 0) (ss' := 0) ?_ (fun _ _ => rfl)
  refine go_cl (k := 1) (st' := [.int 1]) (cs' := 0) (ss' := 0) rfl rfl rfl rfl rfl rfl rfl (ro_576 z) ?_
  refine go_seg 8 (pc' := 69) (ls' := [(0, .ref 1), (1, .int 3), (2, .int 0)]) (st' := [.int 0]) (w' := (fw z)) (cs' := 0) (ss' := 0) ?_ (fun _ _ => rfl)
  exact go_end 1 (fun _ _ => rfl)
theorem ro_957 (z : pq_C) : pq_Ru 1 161 [.long 3, .long 0, .long 7] (fw z) (some (.int 1), (fw z)) := by
  refine ru_of (k := 0) (M := pm_161) rfl rfl ?_
  refine go_seg 8 (pc' := 13) (ls' := [(0, .long 3), (2, .long 0), (4, .long 7)]) (st' := []) (w' := (fw z)) (cs' := 0) (ss' := 0) ?_ (fun _ _ => rfl)
  exact go_end 3 (fun _ _ => rfl)
theorem ro_958 (z : pq_C) : pq_Ru 2 167 [.int 3] (fw z) (some (.int 1), (fw z)) := by
  refine ru_of (k := 1) (M := pm_167) rfl rfl ?_
  refine go_seg 4 (pc' := 6) (ls' := [(0, .int 3)]) (st' := [.long 7, .long 0, .long 3]) (w' := (fw z)) (cs' := 0) (ss' := 0) ?_ (fun _ _ => rfl)
  refine go_cl (k := 1) (st' := [.int 1]) (cs' := 0) (ss' := 0) rfl rfl rfl rfl rfl rfl rfl (ro_957 z) ?_
  exact go_end 1 (fun _ _ => rfl)
theorem ro_959 (z : pq_C) : pq_Ru 1 168 [.int 3, .int 0] (fw z) (some (.int 156), (fw z)) := by
  refine ru_of (k := 0) (M := pm_168) rfl rfl ?_
  exact go_end 8 (fun _ _ => rfl)
theorem ro_960 (z : pq_C) : pq_Ru 3 169 [.ref 90, .int 3, .int 0] (fw z) (some (.int 0), (fw z)) := by
  refine ru_of (k := 2) (M := pm_169) rfl rfl ?_
  refine go_seg 1 (pc' := 1) (ls' := [(0, .ref 90), (1, .int 3), (2, .int 0)]) (st' := [.int 3]) (w' := (fw z)) (cs' := 0) (ss' := 0) ?_ (fun _ _ => rfl)
  refine go_cl (k := 2) (st' := [.int 1]) (cs' := 0) (ss' := 0) rfl rfl rfl rfl rfl rfl rfl (ro_958 z) ?_
  refine go_seg 5 (pc' := 13) (ls' := [(0, .ref 90), (1, .int 3), (2, .int 0)]) (st' := [.long 7, .long 0, .long 0]) (w' := (fw z)) (cs' := 0) (ss' := 0) ?_ (fun _ _ => rfl)
  refine go_cl (k := 2) (st' := [.int 1]) (cs' := 0) (ss' := 0) rfl rfl rfl rfl rfl rfl rfl (ro_939 z) ?_
  refine go_seg 8 (pc' := 37) (ls' := [(0, .ref 90), (1, .int 3), (2, .int 0)]) (st' := [.int 0, .int 3, .ref 91]) (w' := (fw z)) (cs' := 0) (ss' := 0) ?_ (fun _ _ => rfl)
  refine go_cl (k := 2) (st' := [.int 156, .ref 91]) (cs' := 0) (ss' := 0) rfl rfl rfl rfl rfl rfl rfl (ro_959 z) ?_
  exact go_end 2 (fun _ _ => rfl)
theorem lf_4_961 (a0 : Int32) (a3 : Int32) (a4 : Int32) (a5 : Int32) : ∃ w', pq_Go 20 pm_law 370 [(3, .int 0), (2, .ref 90), (1, .ref 1), (0, .ref 0)] [] (fw (sz a0 3 0 a3 a4 a5)) 109 12668 (some (.int 1), w') := by
  refine ⟨(fw (sz a0 3 0 a3 a4 a5)), ?_⟩
  refine go_seg 8 (pc' := 378) (ls' := [(3, .int 0), (2, .ref 90), (1, .ref 1), (0, .ref 0)]) (st' := [.int 0, .ref 0, .int 3, .ref 1]) (w' := (fw (sz a0 3 0 a3 a4 a5))) (cs' := 109) (ss' := 12668) ?_ (fun _ _ => rfl)
  refine go_seg 3 (pc' := 381) (ls' := [(3, .int 0), (2, .ref 90), (1, .ref 1), (0, .ref 0)]) (st' := [.int 0, .int 3, .ref 1]) (w' := (fw (sz a0 3 0 a3 a4 a5))) (cs' := 109) (ss' := 12668) ?_ (fun _ _ => rfl)
  refine go_cl (k := 20) (st' := [.int 0]) (cs' := 109) (ss' := 12668) rfl rfl rfl rfl rfl rfl rfl (ro_956 (sz a0 3 0 a3 a4 a5)) ?_
  refine go_seg 8 (pc' := 392) (ls' := [(3, .int 0), (2, .ref 90), (1, .ref 1), (0, .ref 0)]) (st' := [.int 0, .ref 0, .int 3, .ref 90, .int 0]) (w' := (fw (sz a0 3 0 a3 a4 a5))) (cs' := 109) (ss' := 12668) ?_ (fun _ _ => rfl)
  refine go_seg 3 (pc' := 395) (ls' := [(3, .int 0), (2, .ref 90), (1, .ref 1), (0, .ref 0)]) (st' := [.int 0, .int 3, .ref 90, .int 0]) (w' := (fw (sz a0 3 0 a3 a4 a5))) (cs' := 109) (ss' := 12668) ?_ (fun _ _ => rfl)
  refine go_cl (k := 20) (st' := [.int 0, .int 0]) (cs' := 109) (ss' := 12668) rfl rfl rfl rfl rfl rfl rfl (ro_960 (sz a0 3 0 a3 a4 a5)) ?_
  refine go_cmp true rfl (br_self _) ?_
  exact law_tail (f := sc a0 3 0 a3 a4 a5) rfl
theorem ro_962 (z : pq_C) : pq_Ru 2 25 [.ref 1, .int 4, .int 0] (fw z) (some (.int 0), (fw z)) := by
  refine ru_of (k := 1) (M := pm_25) rfl rfl ?_
  refine go_seg 1 (pc' := 1) (ls' := [(0, .ref 1), (1, .int 4), (2, .int 0)]) (st' := [.int 4]) (w' := (fw z)) (cs' := 0) (ss' := 0) ?_ (fun _ _ => rfl)
  refine go_cl (k := 1) (st' := [.int 1]) (cs' := 0) (ss' := 0) rfl rfl rfl rfl rfl rfl rfl (ro_585 z) ?_
  refine go_seg 8 (pc' := 69) (ls' := [(0, .ref 1), (1, .int 4), (2, .int 0)]) (st' := [.int 0]) (w' := (fw z)) (cs' := 0) (ss' := 0) ?_ (fun _ _ => rfl)
  exact go_end 1 (fun _ _ => rfl)
theorem ro_963 (z : pq_C) : pq_Ru 1 161 [.long 4, .long 0, .long 7] (fw z) (some (.int 1), (fw z)) := by
  refine ru_of (k := 0) (M := pm_161) rfl rfl ?_
  refine go_seg 8 (pc' := 13) (ls' := [(0, .long 4), (2, .long 0), (4, .long 7)]) (st' := []) (w' := (fw z)) (cs' := 0) (ss' := 0) ?_ (fun _ _ => rfl)
  exact go_end 3 (fun _ _ => rfl)
theorem ro_964 (z : pq_C) : pq_Ru 2 167 [.int 4] (fw z) (some (.int 1), (fw z)) := by
  refine ru_of (k := 1) (M := pm_167) rfl rfl ?_
  refine go_seg 4 (pc' := 6) (ls' := [(0, .int 4)]) (st' := [.long 7, .long 0, .long 4]) (w' := (fw z)) (cs' := 0) (ss' := 0) ?_ (fun _ _ => rfl)
  refine go_cl (k := 1) (st' := [.int 1]) (cs' := 0) (ss' := 0) rfl rfl rfl rfl rfl rfl rfl (ro_963 z) ?_
  exact go_end 1 (fun _ _ => rfl)
theorem ro_965 (z : pq_C) : pq_Ru 1 168 [.int 4, .int 0] (fw z) (some (.int 162), (fw z)) := by
  refine ru_of (k := 0) (M := pm_168) rfl rfl ?_
  exact go_end 8 (fun _ _ => rfl)
theorem ro_966 (z : pq_C) : pq_Ru 3 169 [.ref 90, .int 4, .int 0] (fw z) (some (.int 0), (fw z)) := by
  refine ru_of (k := 2) (M := pm_169) rfl rfl ?_
  refine go_seg 1 (pc' := 1) (ls' := [(0, .ref 90), (1, .int 4), (2, .int 0)]) (st' := [.int 4]) (w' := (fw z)) (cs' := 0) (ss' := 0) ?_ (fun _ _ => rfl)
  refine go_cl (k := 2) (st' := [.int 1]) (cs' := 0) (ss' := 0) rfl rfl rfl rfl rfl rfl rfl (ro_964 z) ?_
  refine go_seg 5 (pc' := 13) (ls' := [(0, .ref 90), (1, .int 4), (2, .int 0)]) (st' := [.long 7, .long 0, .long 0]) (w' := (fw z)) (cs' := 0) (ss' := 0) ?_ (fun _ _ => rfl)
  refine go_cl (k := 2) (st' := [.int 1]) (cs' := 0) (ss' := 0) rfl rfl rfl rfl rfl rfl rfl (ro_939 z) ?_
  refine go_seg 8 (pc' := 37) (ls' := [(0, .ref 90), (1, .int 4), (2, .int 0)]) (st' := [.int 0, .int 4, .ref 91]) (w' := (fw z)) (cs' := 0) (ss' := 0) ?_ (fun _ _ => rfl)
  refine go_cl (k := 2) (st' := [.int 162, .ref 91]) (cs' := 0) (ss' := 0) rfl rfl rfl rfl rfl rfl rfl (ro_965 z) ?_
  exact go_end 2 (fun _ _ => rfl)
theorem lf_4_967 (a0 : Int32) (a3 : Int32) (a4 : Int32) (a5 : Int32) : ∃ w', pq_Go 20 pm_law 370 [(3, .int 0), (2, .ref 90), (1, .ref 1), (0, .ref 0)] [] (fw (sz a0 4 0 a3 a4 a5)) 109 12668 (some (.int 1), w') := by
  refine ⟨(fw (sz a0 4 0 a3 a4 a5)), ?_⟩
  refine go_seg 8 (pc' := 378) (ls' := [(3, .int 0), (2, .ref 90), (1, .ref 1), (0, .ref 0)]) (st' := [.int 0, .ref 0, .int 4, .ref 1]) (w' := (fw (sz a0 4 0 a3 a4 a5))) (cs' := 109) (ss' := 12668) ?_ (fun _ _ => rfl)
  refine go_seg 3 (pc' := 381) (ls' := [(3, .int 0), (2, .ref 90), (1, .ref 1), (0, .ref 0)]) (st' := [.int 0, .int 4, .ref 1]) (w' := (fw (sz a0 4 0 a3 a4 a5))) (cs' := 109) (ss' := 12668) ?_ (fun _ _ => rfl)
  refine go_cl (k := 20) (st' := [.int 0]) (cs' := 109) (ss' := 12668) rfl rfl rfl rfl rfl rfl rfl (ro_962 (sz a0 4 0 a3 a4 a5)) ?_
  refine go_seg 8 (pc' := 392) (ls' := [(3, .int 0), (2, .ref 90), (1, .ref 1), (0, .ref 0)]) (st' := [.int 0, .ref 0, .int 4, .ref 90, .int 0]) (w' := (fw (sz a0 4 0 a3 a4 a5))) (cs' := 109) (ss' := 12668) ?_ (fun _ _ => rfl)
  refine go_seg 3 (pc' := 395) (ls' := [(3, .int 0), (2, .ref 90), (1, .ref 1), (0, .ref 0)]) (st' := [.int 0, .int 4, .ref 90, .int 0]) (w' := (fw (sz a0 4 0 a3 a4 a5))) (cs' := 109) (ss' := 12668) ?_ (fun _ _ => rfl)
  refine go_cl (k := 20) (st' := [.int 0, .int 0]) (cs' := 109) (ss' := 12668) rfl rfl rfl rfl rfl rfl rfl (ro_966 (sz a0 4 0 a3 a4 a5)) ?_
  refine go_cmp true rfl (br_self _) ?_
  exact law_tail (f := sc a0 4 0 a3 a4 a5) rfl
theorem ro_968 (z : pq_C) : pq_Ru 2 25 [.ref 1, .int 5, .int 0] (fw z) (some (.int 0), (fw z)) := by
  refine ru_of (k := 1) (M := pm_25) rfl rfl ?_
  refine go_seg 1 (pc' := 1) (ls' := [(0, .ref 1), (1, .int 5), (2, .int 0)]) (st' := [.int 5]) (w' := (fw z)) (cs' := 0) (ss' := 0) ?_ (fun _ _ => rfl)
  refine go_cl (k := 1) (st' := [.int 1]) (cs' := 0) (ss' := 0) rfl rfl rfl rfl rfl rfl rfl (ro_594 z) ?_
  refine go_seg 8 (pc' := 69) (ls' := [(0, .ref 1), (1, .int 5), (2, .int 0)]) (st' := [.int 0]) (w' := (fw z)) (cs' := 0) (ss' := 0) ?_ (fun _ _ => rfl)
  exact go_end 1 (fun _ _ => rfl)
theorem ro_969 (z : pq_C) : pq_Ru 1 161 [.long 5, .long 0, .long 7] (fw z) (some (.int 1), (fw z)) := by
  refine ru_of (k := 0) (M := pm_161) rfl rfl ?_
  refine go_seg 8 (pc' := 13) (ls' := [(0, .long 5), (2, .long 0), (4, .long 7)]) (st' := []) (w' := (fw z)) (cs' := 0) (ss' := 0) ?_ (fun _ _ => rfl)
  exact go_end 3 (fun _ _ => rfl)
theorem ro_970 (z : pq_C) : pq_Ru 2 167 [.int 5] (fw z) (some (.int 1), (fw z)) := by
  refine ru_of (k := 1) (M := pm_167) rfl rfl ?_
  refine go_seg 4 (pc' := 6) (ls' := [(0, .int 5)]) (st' := [.long 7, .long 0, .long 5]) (w' := (fw z)) (cs' := 0) (ss' := 0) ?_ (fun _ _ => rfl)
  refine go_cl (k := 1) (st' := [.int 1]) (cs' := 0) (ss' := 0) rfl rfl rfl rfl rfl rfl rfl (ro_969 z) ?_
  exact go_end 1 (fun _ _ => rfl)
theorem ro_971 (z : pq_C) : pq_Ru 1 168 [.int 5, .int 0] (fw z) (some (.int 168), (fw z)) := by
  refine ru_of (k := 0) (M := pm_168) rfl rfl ?_
  exact go_end 8 (fun _ _ => rfl)
theorem ro_972 (z : pq_C) : pq_Ru 3 169 [.ref 90, .int 5, .int 0] (fw z) (some (.int 0), (fw z)) := by
  refine ru_of (k := 2) (M := pm_169) rfl rfl ?_
  refine go_seg 1 (pc' := 1) (ls' := [(0, .ref 90), (1, .int 5), (2, .int 0)]) (st' := [.int 5]) (w' := (fw z)) (cs' := 0) (ss' := 0) ?_ (fun _ _ => rfl)
  refine go_cl (k := 2) (st' := [.int 1]) (cs' := 0) (ss' := 0) rfl rfl rfl rfl rfl rfl rfl (ro_970 z) ?_
  refine go_seg 5 (pc' := 13) (ls' := [(0, .ref 90), (1, .int 5), (2, .int 0)]) (st' := [.long 7, .long 0, .long 0]) (w' := (fw z)) (cs' := 0) (ss' := 0) ?_ (fun _ _ => rfl)
  refine go_cl (k := 2) (st' := [.int 1]) (cs' := 0) (ss' := 0) rfl rfl rfl rfl rfl rfl rfl (ro_939 z) ?_
  refine go_seg 8 (pc' := 37) (ls' := [(0, .ref 90), (1, .int 5), (2, .int 0)]) (st' := [.int 0, .int 5, .ref 91]) (w' := (fw z)) (cs' := 0) (ss' := 0) ?_ (fun _ _ => rfl)
  refine go_cl (k := 2) (st' := [.int 168, .ref 91]) (cs' := 0) (ss' := 0) rfl rfl rfl rfl rfl rfl rfl (ro_971 z) ?_
  exact go_end 2 (fun _ _ => rfl)
theorem lf_4_973 (a0 : Int32) (a3 : Int32) (a4 : Int32) (a5 : Int32) : ∃ w', pq_Go 20 pm_law 370 [(3, .int 0), (2, .ref 90), (1, .ref 1), (0, .ref 0)] [] (fw (sz a0 5 0 a3 a4 a5)) 109 12668 (some (.int 1), w') := by
  refine ⟨(fw (sz a0 5 0 a3 a4 a5)), ?_⟩
  refine go_seg 8 (pc' := 378) (ls' := [(3, .int 0), (2, .ref 90), (1, .ref 1), (0, .ref 0)]) (st' := [.int 0, .ref 0, .int 5, .ref 1]) (w' := (fw (sz a0 5 0 a3 a4 a5))) (cs' := 109) (ss' := 12668) ?_ (fun _ _ => rfl)
  refine go_seg 3 (pc' := 381) (ls' := [(3, .int 0), (2, .ref 90), (1, .ref 1), (0, .ref 0)]) (st' := [.int 0, .int 5, .ref 1]) (w' := (fw (sz a0 5 0 a3 a4 a5))) (cs' := 109) (ss' := 12668) ?_ (fun _ _ => rfl)
  refine go_cl (k := 20) (st' := [.int 0]) (cs' := 109) (ss' := 12668) rfl rfl rfl rfl rfl rfl rfl (ro_968 (sz a0 5 0 a3 a4 a5)) ?_
  refine go_seg 8 (pc' := 392) (ls' := [(3, .int 0), (2, .ref 90), (1, .ref 1), (0, .ref 0)]) (st' := [.int 0, .ref 0, .int 5, .ref 90, .int 0]) (w' := (fw (sz a0 5 0 a3 a4 a5))) (cs' := 109) (ss' := 12668) ?_ (fun _ _ => rfl)
  refine go_seg 3 (pc' := 395) (ls' := [(3, .int 0), (2, .ref 90), (1, .ref 1), (0, .ref 0)]) (st' := [.int 0, .int 5, .ref 90, .int 0]) (w' := (fw (sz a0 5 0 a3 a4 a5))) (cs' := 109) (ss' := 12668) ?_ (fun _ _ => rfl)
  refine go_cl (k := 20) (st' := [.int 0, .int 0]) (cs' := 109) (ss' := 12668) rfl rfl rfl rfl rfl rfl rfl (ro_972 (sz a0 5 0 a3 a4 a5)) ?_
  refine go_cmp true rfl (br_self _) ?_
  exact law_tail (f := sc a0 5 0 a3 a4 a5) rfl
theorem ro_974 (z : pq_C) : pq_Ru 2 25 [.ref 1, .int 6, .int 0] (fw z) (some (.int 0), (fw z)) := by
  refine ru_of (k := 1) (M := pm_25) rfl rfl ?_
  refine go_seg 1 (pc' := 1) (ls' := [(0, .ref 1), (1, .int 6), (2, .int 0)]) (st' := [.int 6]) (w' := (fw z)) (cs' := 0) (ss' := 0) ?_ (fun _ _ => rfl)
  refine go_cl (k := 1) (st' := [.int 1]) (cs' := 0) (ss' := 0) rfl rfl rfl rfl rfl rfl rfl (ro_603 z) ?_
  refine go_seg 8 (pc' := 69) (ls' := [(0, .ref 1), (1, .int 6), (2, .int 0)]) (st' := [.int 0]) (w' := (fw z)) (cs' := 0) (ss' := 0) ?_ (fun _ _ => rfl)
  exact go_end 1 (fun _ _ => rfl)
theorem ro_975 (z : pq_C) : pq_Ru 1 161 [.long 6, .long 0, .long 7] (fw z) (some (.int 1), (fw z)) := by
  refine ru_of (k := 0) (M := pm_161) rfl rfl ?_
  refine go_seg 8 (pc' := 13) (ls' := [(0, .long 6), (2, .long 0), (4, .long 7)]) (st' := []) (w' := (fw z)) (cs' := 0) (ss' := 0) ?_ (fun _ _ => rfl)
  exact go_end 3 (fun _ _ => rfl)
theorem ro_976 (z : pq_C) : pq_Ru 2 167 [.int 6] (fw z) (some (.int 1), (fw z)) := by
  refine ru_of (k := 1) (M := pm_167) rfl rfl ?_
  refine go_seg 4 (pc' := 6) (ls' := [(0, .int 6)]) (st' := [.long 7, .long 0, .long 6]) (w' := (fw z)) (cs' := 0) (ss' := 0) ?_ (fun _ _ => rfl)
  refine go_cl (k := 1) (st' := [.int 1]) (cs' := 0) (ss' := 0) rfl rfl rfl rfl rfl rfl rfl (ro_975 z) ?_
  exact go_end 1 (fun _ _ => rfl)
theorem ro_977 (z : pq_C) : pq_Ru 1 168 [.int 6, .int 0] (fw z) (some (.int 174), (fw z)) := by
  refine ru_of (k := 0) (M := pm_168) rfl rfl ?_
  exact go_end 8 (fun _ _ => rfl)
theorem ro_978 (z : pq_C) : pq_Ru 3 169 [.ref 90, .int 6, .int 0] (fw z) (some (.int 0), (fw z)) := by
  refine ru_of (k := 2) (M := pm_169) rfl rfl ?_
  refine go_seg 1 (pc' := 1) (ls' := [(0, .ref 90), (1, .int 6), (2, .int 0)]) (st' := [.int 6]) (w' := (fw z)) (cs' := 0) (ss' := 0) ?_ (fun _ _ => rfl)
  refine go_cl (k := 2) (st' := [.int 1]) (cs' := 0) (ss' := 0) rfl rfl rfl rfl rfl rfl rfl (ro_976 z) ?_
  refine go_seg 5 (pc' := 13) (ls' := [(0, .ref 90), (1, .int 6), (2, .int 0)]) (st' := [.long 7, .long 0, .long 0]) (w' := (fw z)) (cs' := 0) (ss' := 0) ?_ (fun _ _ => rfl)
  refine go_cl (k := 2) (st' := [.int 1]) (cs' := 0) (ss' := 0) rfl rfl rfl rfl rfl rfl rfl (ro_939 z) ?_
  refine go_seg 8 (pc' := 37) (ls' := [(0, .ref 90), (1, .int 6), (2, .int 0)]) (st' := [.int 0, .int 6, .ref 91]) (w' := (fw z)) (cs' := 0) (ss' := 0) ?_ (fun _ _ => rfl)
  refine go_cl (k := 2) (st' := [.int 174, .ref 91]) (cs' := 0) (ss' := 0) rfl rfl rfl rfl rfl rfl rfl (ro_977 z) ?_
  exact go_end 2 (fun _ _ => rfl)
theorem lf_4_979 (a0 : Int32) (a3 : Int32) (a4 : Int32) (a5 : Int32) : ∃ w', pq_Go 20 pm_law 370 [(3, .int 0), (2, .ref 90), (1, .ref 1), (0, .ref 0)] [] (fw (sz a0 6 0 a3 a4 a5)) 109 12668 (some (.int 1), w') := by
  refine ⟨(fw (sz a0 6 0 a3 a4 a5)), ?_⟩
  refine go_seg 8 (pc' := 378) (ls' := [(3, .int 0), (2, .ref 90), (1, .ref 1), (0, .ref 0)]) (st' := [.int 0, .ref 0, .int 6, .ref 1]) (w' := (fw (sz a0 6 0 a3 a4 a5))) (cs' := 109) (ss' := 12668) ?_ (fun _ _ => rfl)
  refine go_seg 3 (pc' := 381) (ls' := [(3, .int 0), (2, .ref 90), (1, .ref 1), (0, .ref 0)]) (st' := [.int 0, .int 6, .ref 1]) (w' := (fw (sz a0 6 0 a3 a4 a5))) (cs' := 109) (ss' := 12668) ?_ (fun _ _ => rfl)
  refine go_cl (k := 20) (st' := [.int 0]) (cs' := 109) (ss' := 12668) rfl rfl rfl rfl rfl rfl rfl (ro_974 (sz a0 6 0 a3 a4 a5)) ?_
  refine go_seg 8 (pc' := 392) (ls' := [(3, .int 0), (2, .ref 90), (1, .ref 1), (0, .ref 0)]) (st' := [.int 0, .ref 0, .int 6, .ref 90, .int 0]) (w' := (fw (sz a0 6 0 a3 a4 a5))) (cs' := 109) (ss' := 12668) ?_ (fun _ _ => rfl)
  refine go_seg 3 (pc' := 395) (ls' := [(3, .int 0), (2, .ref 90), (1, .ref 1), (0, .ref 0)]) (st' := [.int 0, .int 6, .ref 90, .int 0]) (w' := (fw (sz a0 6 0 a3 a4 a5))) (cs' := 109) (ss' := 12668) ?_ (fun _ _ => rfl)
  refine go_cl (k := 20) (st' := [.int 0, .int 0]) (cs' := 109) (ss' := 12668) rfl rfl rfl rfl rfl rfl rfl (ro_978 (sz a0 6 0 a3 a4 a5)) ?_
  refine go_cmp true rfl (br_self _) ?_
  exact law_tail (f := sc a0 6 0 a3 a4 a5) rfl
theorem ro_980 (z : pq_C) : pq_Ru 2 25 [.ref 1, .int 7, .int 0] (fw z) (some (.int 0), (fw z)) := by
  refine ru_of (k := 1) (M := pm_25) rfl rfl ?_
  refine go_seg 1 (pc' := 1) (ls' := [(0, .ref 1), (1, .int 7), (2, .int 0)]) (st' := [.int 7]) (w' := (fw z)) (cs' := 0) (ss' := 0) ?_ (fun _ _ => rfl)
  refine go_cl (k := 1) (st' := [.int 1]) (cs' := 0) (ss' := 0) rfl rfl rfl rfl rfl rfl rfl (ro_612 z) ?_
  refine go_seg 8 (pc' := 69) (ls' := [(0, .ref 1), (1, .int 7), (2, .int 0)]) (st' := [.int 0]) (w' := (fw z)) (cs' := 0) (ss' := 0) ?_ (fun _ _ => rfl)
  exact go_end 1 (fun _ _ => rfl)
theorem ro_981 (z : pq_C) : pq_Ru 1 161 [.long 7, .long 0, .long 7] (fw z) (some (.int 1), (fw z)) := by
  refine ru_of (k := 0) (M := pm_161) rfl rfl ?_
  refine go_seg 8 (pc' := 13) (ls' := [(0, .long 7), (2, .long 0), (4, .long 7)]) (st' := []) (w' := (fw z)) (cs' := 0) (ss' := 0) ?_ (fun _ _ => rfl)
  exact go_end 3 (fun _ _ => rfl)
theorem ro_982 (z : pq_C) : pq_Ru 2 167 [.int 7] (fw z) (some (.int 1), (fw z)) := by
  refine ru_of (k := 1) (M := pm_167) rfl rfl ?_
  refine go_seg 4 (pc' := 6) (ls' := [(0, .int 7)]) (st' := [.long 7, .long 0, .long 7]) (w' := (fw z)) (cs' := 0) (ss' := 0) ?_ (fun _ _ => rfl)
  refine go_cl (k := 1) (st' := [.int 1]) (cs' := 0) (ss' := 0) rfl rfl rfl rfl rfl rfl rfl (ro_981 z) ?_
  exact go_end 1 (fun _ _ => rfl)
theorem ro_983 (z : pq_C) : pq_Ru 1 168 [.int 7, .int 0] (fw z) (some (.int 180), (fw z)) := by
  refine ru_of (k := 0) (M := pm_168) rfl rfl ?_
  exact go_end 8 (fun _ _ => rfl)
theorem ro_984 (z : pq_C) : pq_Ru 3 169 [.ref 90, .int 7, .int 0] (fw z) (some (.int 0), (fw z)) := by
  refine ru_of (k := 2) (M := pm_169) rfl rfl ?_
  refine go_seg 1 (pc' := 1) (ls' := [(0, .ref 90), (1, .int 7), (2, .int 0)]) (st' := [.int 7]) (w' := (fw z)) (cs' := 0) (ss' := 0) ?_ (fun _ _ => rfl)
  refine go_cl (k := 2) (st' := [.int 1]) (cs' := 0) (ss' := 0) rfl rfl rfl rfl rfl rfl rfl (ro_982 z) ?_
  refine go_seg 5 (pc' := 13) (ls' := [(0, .ref 90), (1, .int 7), (2, .int 0)]) (st' := [.long 7, .long 0, .long 0]) (w' := (fw z)) (cs' := 0) (ss' := 0) ?_ (fun _ _ => rfl)
  refine go_cl (k := 2) (st' := [.int 1]) (cs' := 0) (ss' := 0) rfl rfl rfl rfl rfl rfl rfl (ro_939 z) ?_
  refine go_seg 8 (pc' := 37) (ls' := [(0, .ref 90), (1, .int 7), (2, .int 0)]) (st' := [.int 0, .int 7, .ref 91]) (w' := (fw z)) (cs' := 0) (ss' := 0) ?_ (fun _ _ => rfl)
  refine go_cl (k := 2) (st' := [.int 180, .ref 91]) (cs' := 0) (ss' := 0) rfl rfl rfl rfl rfl rfl rfl (ro_983 z) ?_
  exact go_end 2 (fun _ _ => rfl)
theorem lf_4_985 (a0 : Int32) (a3 : Int32) (a4 : Int32) (a5 : Int32) : ∃ w', pq_Go 20 pm_law 370 [(3, .int 0), (2, .ref 90), (1, .ref 1), (0, .ref 0)] [] (fw (sz a0 7 0 a3 a4 a5)) 109 12668 (some (.int 1), w') := by
  refine ⟨(fw (sz a0 7 0 a3 a4 a5)), ?_⟩
  refine go_seg 8 (pc' := 378) (ls' := [(3, .int 0), (2, .ref 90), (1, .ref 1), (0, .ref 0)]) (st' := [.int 0, .ref 0, .int 7, .ref 1]) (w' := (fw (sz a0 7 0 a3 a4 a5))) (cs' := 109) (ss' := 12668) ?_ (fun _ _ => rfl)
  refine go_seg 3 (pc' := 381) (ls' := [(3, .int 0), (2, .ref 90), (1, .ref 1), (0, .ref 0)]) (st' := [.int 0, .int 7, .ref 1]) (w' := (fw (sz a0 7 0 a3 a4 a5))) (cs' := 109) (ss' := 12668) ?_ (fun _ _ => rfl)
  refine go_cl (k := 20) (st' := [.int 0]) (cs' := 109) (ss' := 12668) rfl rfl rfl rfl rfl rfl rfl (ro_980 (sz a0 7 0 a3 a4 a5)) ?_
  refine go_seg 8 (pc' := 392) (ls' := [(3, .int 0), (2, .ref 90), (1, .ref 1), (0, .ref 0)]) (st' := [.int 0, .ref 0, .int 7, .ref 90, .int 0]) (w' := (fw (sz a0 7 0 a3 a4 a5))) (cs' := 109) (ss' := 12668) ?_ (fun _ _ => rfl)
  refine go_seg 3 (pc' := 395) (ls' := [(3, .int 0), (2, .ref 90), (1, .ref 1), (0, .ref 0)]) (st' := [.int 0, .int 7, .ref 90, .int 0]) (w' := (fw (sz a0 7 0 a3 a4 a5))) (cs' := 109) (ss' := 12668) ?_ (fun _ _ => rfl)
  refine go_cl (k := 20) (st' := [.int 0, .int 0]) (cs' := 109) (ss' := 12668) rfl rfl rfl rfl rfl rfl rfl (ro_984 (sz a0 7 0 a3 a4 a5)) ?_
  refine go_cmp true rfl (br_self _) ?_
  exact law_tail (f := sc a0 7 0 a3 a4 a5) rfl
theorem ro_986 (z : pq_C) : pq_Ru 2 25 [.ref 1, .int 0, .int 1] (fw z) (some (.int 1000), (fw z)) := by
  refine ru_of (k := 1) (M := pm_25) rfl rfl ?_
  refine go_seg 1 (pc' := 1) (ls' := [(0, .ref 1), (1, .int 0), (2, .int 1)]) (st' := [.int 0]) (w' := (fw z)) (cs' := 0) (ss' := 0) ?_ (fun _ _ => rfl)
  refine go_cl (k := 1) (st' := [.int 1]) (cs' := 0) (ss' := 0) rfl rfl rfl rfl rfl rfl rfl (ro_548 z) ?_
  refine go_seg 8 (pc' := 79) (ls' := [(0, .ref 1), (1, .int 0), (2, .int 1)]) (st' := [.int 1000]) (w' := (fw z)) (cs' := 0) (ss' := 0) ?_ (fun _ _ => rfl)
  exact go_end 1 (fun _ _ => rfl)
theorem ro_987 (z : pq_C) : pq_Ru 1 168 [.int 0, .int 1] (fw z) (some (.int 139), (fw z)) := by
  refine ru_of (k := 0) (M := pm_168) rfl rfl ?_
  exact go_end 8 (fun _ _ => rfl)
theorem ro_988 (z : pq_C) : pq_Ru 3 169 [.ref 90, .int 0, .int 1] (fw z) (some (.int 1000), (fw z)) := by
  refine ru_of (k := 2) (M := pm_169) rfl rfl ?_
  refine go_seg 1 (pc' := 1) (ls' := [(0, .ref 90), (1, .int 0), (2, .int 1)]) (st' := [.int 0]) (w' := (fw z)) (cs' := 0) (ss' := 0) ?_ (fun _ _ => rfl)
  refine go_cl (k := 2) (st' := [.int 1]) (cs' := 0) (ss' := 0) rfl rfl rfl rfl rfl rfl rfl (ro_940 z) ?_
  refine go_seg 5 (pc' := 13) (ls' := [(0, .ref 90), (1, .int 0), (2, .int 1)]) (st' := [.long 7, .long 0, .long 1]) (w' := (fw z)) (cs' := 0) (ss' := 0) ?_ (fun _ _ => rfl)
  refine go_cl (k := 2) (st' := [.int 1]) (cs' := 0) (ss' := 0) rfl rfl rfl rfl rfl rfl rfl (ro_945 z) ?_
  refine go_seg 8 (pc' := 37) (ls' := [(0, .ref 90), (1, .int 0), (2, .int 1)]) (st' := [.int 1, .int 0, .ref 91]) (w' := (fw z)) (cs' := 0) (ss' := 0) ?_ (fun _ _ => rfl)
  refine go_cl (k := 2) (st' := [.int 139, .ref 91]) (cs' := 0) (ss' := 0) rfl rfl rfl rfl rfl rfl rfl (ro_987 z) ?_
  exact go_end 2 (fun _ _ => rfl)
theorem lf_4_989 (a0 : Int32) (a3 : Int32) (a4 : Int32) (a5 : Int32) : ∃ w', pq_Go 20 pm_law 370 [(3, .int 0), (2, .ref 90), (1, .ref 1), (0, .ref 0)] [] (fw (sz a0 0 1 a3 a4 a5)) 109 12668 (some (.int 1), w') := by
  refine ⟨(fw (sz a0 0 1 a3 a4 a5)), ?_⟩
  refine go_seg 8 (pc' := 378) (ls' := [(3, .int 0), (2, .ref 90), (1, .ref 1), (0, .ref 0)]) (st' := [.int 0, .ref 0, .int 0, .ref 1]) (w' := (fw (sz a0 0 1 a3 a4 a5))) (cs' := 109) (ss' := 12668) ?_ (fun _ _ => rfl)
  refine go_seg 3 (pc' := 381) (ls' := [(3, .int 0), (2, .ref 90), (1, .ref 1), (0, .ref 0)]) (st' := [.int 1, .int 0, .ref 1]) (w' := (fw (sz a0 0 1 a3 a4 a5))) (cs' := 109) (ss' := 12668) ?_ (fun _ _ => rfl)
  refine go_cl (k := 20) (st' := [.int 1000]) (cs' := 109) (ss' := 12668) rfl rfl rfl rfl rfl rfl rfl (ro_986 (sz a0 0 1 a3 a4 a5)) ?_
  refine go_seg 8 (pc' := 392) (ls' := [(3, .int 0), (2, .ref 90), (1, .ref 1), (0, .ref 0)]) (st' := [.int 0, .ref 0, .int 0, .ref 90, .int 1000]) (w' := (fw (sz a0 0 1 a3 a4 a5))) (cs' := 109) (ss' := 12668) ?_ (fun _ _ => rfl)
  refine go_seg 3 (pc' := 395) (ls' := [(3, .int 0), (2, .ref 90), (1, .ref 1), (0, .ref 0)]) (st' := [.int 1, .int 0, .ref 90, .int 1000]) (w' := (fw (sz a0 0 1 a3 a4 a5))) (cs' := 109) (ss' := 12668) ?_ (fun _ _ => rfl)
  refine go_cl (k := 20) (st' := [.int 1000, .int 1000]) (cs' := 109) (ss' := 12668) rfl rfl rfl rfl rfl rfl rfl (ro_988 (sz a0 0 1 a3 a4 a5)) ?_
  refine go_cmp true rfl (br_self _) ?_
  exact law_tail (f := sc a0 0 1 a3 a4 a5) rfl
theorem ro_990 (z : pq_C) : pq_Ru 2 25 [.ref 1, .int 1, .int 1] (fw z) (some (.int 1000), (fw z)) := by
  refine ru_of (k := 1) (M := pm_25) rfl rfl ?_
  refine go_seg 1 (pc' := 1) (ls' := [(0, .ref 1), (1, .int 1), (2, .int 1)]) (st' := [.int 1]) (w' := (fw z)) (cs' := 0) (ss' := 0) ?_ (fun _ _ => rfl)
  refine go_cl (k := 1) (st' := [.int 1]) (cs' := 0) (ss' := 0) rfl rfl rfl rfl rfl rfl rfl (ro_558 z) ?_
  refine go_seg 8 (pc' := 79) (ls' := [(0, .ref 1), (1, .int 1), (2, .int 1)]) (st' := [.int 1000]) (w' := (fw z)) (cs' := 0) (ss' := 0) ?_ (fun _ _ => rfl)
  exact go_end 1 (fun _ _ => rfl)
theorem ro_991 (z : pq_C) : pq_Ru 1 168 [.int 1, .int 1] (fw z) (some (.int 145), (fw z)) := by
  refine ru_of (k := 0) (M := pm_168) rfl rfl ?_
  exact go_end 8 (fun _ _ => rfl)
theorem ro_992 (z : pq_C) : pq_Ru 3 169 [.ref 90, .int 1, .int 1] (fw z) (some (.int 1000), (fw z)) := by
  refine ru_of (k := 2) (M := pm_169) rfl rfl ?_
  refine go_seg 1 (pc' := 1) (ls' := [(0, .ref 90), (1, .int 1), (2, .int 1)]) (st' := [.int 1]) (w' := (fw z)) (cs' := 0) (ss' := 0) ?_ (fun _ _ => rfl)
  refine go_cl (k := 2) (st' := [.int 1]) (cs' := 0) (ss' := 0) rfl rfl rfl rfl rfl rfl rfl (ro_946 z) ?_
  refine go_seg 5 (pc' := 13) (ls' := [(0, .ref 90), (1, .int 1), (2, .int 1)]) (st' := [.long 7, .long 0, .long 1]) (w' := (fw z)) (cs' := 0) (ss' := 0) ?_ (fun _ _ => rfl)
  refine go_cl (k := 2) (st' := [.int 1]) (cs' := 0) (ss' := 0) rfl rfl rfl rfl rfl rfl rfl (ro_945 z) ?_
  refine go_seg 8 (pc' := 37) (ls' := [(0, .ref 90), (1, .int 1), (2, .int 1)]) (st' := [.int 1, .int 1, .ref 91]) (w' := (fw z)) (cs' := 0) (ss' := 0) ?_ (fun _ _ => rfl)
  refine go_cl (k := 2) (st' := [.int 145, .ref 91]) (cs' := 0) (ss' := 0) rfl rfl rfl rfl rfl rfl rfl (ro_991 z) ?_
  exact go_end 2 (fun _ _ => rfl)
theorem lf_4_993 (a0 : Int32) (a3 : Int32) (a4 : Int32) (a5 : Int32) : ∃ w', pq_Go 20 pm_law 370 [(3, .int 0), (2, .ref 90), (1, .ref 1), (0, .ref 0)] [] (fw (sz a0 1 1 a3 a4 a5)) 109 12668 (some (.int 1), w') := by
  refine ⟨(fw (sz a0 1 1 a3 a4 a5)), ?_⟩
  refine go_seg 8 (pc' := 378) (ls' := [(3, .int 0), (2, .ref 90), (1, .ref 1), (0, .ref 0)]) (st' := [.int 0, .ref 0, .int 1, .ref 1]) (w' := (fw (sz a0 1 1 a3 a4 a5))) (cs' := 109) (ss' := 12668) ?_ (fun _ _ => rfl)
  refine go_seg 3 (pc' := 381) (ls' := [(3, .int 0), (2, .ref 90), (1, .ref 1), (0, .ref 0)]) (st' := [.int 1, .int 1, .ref 1]) (w' := (fw (sz a0 1 1 a3 a4 a5))) (cs' := 109) (ss' := 12668) ?_ (fun _ _ => rfl)
  refine go_cl (k := 20) (st' := [.int 1000]) (cs' := 109) (ss' := 12668) rfl rfl rfl rfl rfl rfl rfl (ro_990 (sz a0 1 1 a3 a4 a5)) ?_
  refine go_seg 8 (pc' := 392) (ls' := [(3, .int 0), (2, .ref 90), (1, .ref 1), (0, .ref 0)]) (st' := [.int 0, .ref 0, .int 1, .ref 90, .int 1000]) (w' := (fw (sz a0 1 1 a3 a4 a5))) (cs' := 109) (ss' := 12668) ?_ (fun _ _ => rfl)
  refine go_seg 3 (pc' := 395) (ls' := [(3, .int 0), (2, .ref 90), (1, .ref 1), (0, .ref 0)]) (st' := [.int 1, .int 1, .ref 90, .int 1000]) (w' := (fw (sz a0 1 1 a3 a4 a5))) (cs' := 109) (ss' := 12668) ?_ (fun _ _ => rfl)
  refine go_cl (k := 20) (st' := [.int 1000, .int 1000]) (cs' := 109) (ss' := 12668) rfl rfl rfl rfl rfl rfl rfl (ro_992 (sz a0 1 1 a3 a4 a5)) ?_
  refine go_cmp true rfl (br_self _) ?_
  exact law_tail (f := sc a0 1 1 a3 a4 a5) rfl
theorem ro_994 (z : pq_C) : pq_Ru 2 25 [.ref 1, .int 2, .int 1] (fw z) (some (.int 1000), (fw z)) := by
  refine ru_of (k := 1) (M := pm_25) rfl rfl ?_
  refine go_seg 1 (pc' := 1) (ls' := [(0, .ref 1), (1, .int 2), (2, .int 1)]) (st' := [.int 2]) (w' := (fw z)) (cs' := 0) (ss' := 0) ?_ (fun _ _ => rfl)
  refine go_cl (k := 1) (st' := [.int 1]) (cs' := 0) (ss' := 0) rfl rfl rfl rfl rfl rfl rfl (ro_567 z) ?_
  refine go_seg 8 (pc' := 79) (ls' := [(0, .ref 1), (1, .int 2), (2, .int 1)]) (st' := [.int 1000]) (w' := (fw z)) (cs' := 0) (ss' := 0) ?_ (fun _ _ => rfl)
  exact go_end 1 (fun _ _ => rfl)
theorem ro_995 (z : pq_C) : pq_Ru 1 168 [.int 2, .int 1] (fw z) (some (.int 151), (fw z)) := by
  refine ru_of (k := 0) (M := pm_168) rfl rfl ?_
  exact go_end 8 (fun _ _ => rfl)
theorem ro_996 (z : pq_C) : pq_Ru 3 169 [.ref 90, .int 2, .int 1] (fw z) (some (.int 1000), (fw z)) := by
  refine ru_of (k := 2) (M := pm_169) rfl rfl ?_
  refine go_seg 1 (pc' := 1) (ls' := [(0, .ref 90), (1, .int 2), (2, .int 1)]) (st' := [.int 2]) (w' := (fw z)) (cs' := 0) (ss' := 0) ?_ (fun _ _ => rfl)
  refine go_cl (k := 2) (st' := [.int 1]) (cs' := 0) (ss' := 0) rfl rfl rfl rfl rfl rfl rfl (ro_952 z) ?_
  refine go_seg 5 (pc' := 13) (ls' := [(0, .ref 90), (1, .int 2), (2, .int 1)]) (st' := [.long 7, .long 0, .long 1]) (w' := (fw z)) (cs' := 0) (ss' := 0) ?_ (fun _ _ => rfl)
  refine go_cl (k := 2) (st' := [.int 1]) (cs' := 0) (ss' := 0) rfl rfl rfl rfl rfl rfl rfl (ro_945 z) ?_
  refine go_seg 8 (pc' := 37) (ls' := [(0, .ref 90), (1, .int 2), (2, .int 1)]) (st' := [.int 1, .int 2, .ref 91]) (w' := (fw z)) (cs' := 0) (ss' := 0) ?_ (fun _ _ => rfl)
  refine go_cl (k := 2) (st' := [.int 151, .ref 91]) (cs' := 0) (ss' := 0) rfl rfl rfl rfl rfl rfl rfl (ro_995 z) ?_
  exact go_end 2 (fun _ _ => rfl)
theorem lf_4_997 (a0 : Int32) (a3 : Int32) (a4 : Int32) (a5 : Int32) : ∃ w', pq_Go 20 pm_law 370 [(3, .int 0), (2, .ref 90), (1, .ref 1), (0, .ref 0)] [] (fw (sz a0 2 1 a3 a4 a5)) 109 12668 (some (.int 1), w') := by
  refine ⟨(fw (sz a0 2 1 a3 a4 a5)), ?_⟩
  refine go_seg 8 (pc' := 378) (ls' := [(3, .int 0), (2, .ref 90), (1, .ref 1), (0, .ref 0)]) (st' := [.int 0, .ref 0, .int 2, .ref 1]) (w' := (fw (sz a0 2 1 a3 a4 a5))) (cs' := 109) (ss' := 12668) ?_ (fun _ _ => rfl)
  refine go_seg 3 (pc' := 381) (ls' := [(3, .int 0), (2, .ref 90), (1, .ref 1), (0, .ref 0)]) (st' := [.int 1, .int 2, .ref 1]) (w' := (fw (sz a0 2 1 a3 a4 a5))) (cs' := 109) (ss' := 12668) ?_ (fun _ _ => rfl)
  refine go_cl (k := 20) (st' := [.int 1000]) (cs' := 109) (ss' := 12668) rfl rfl rfl rfl rfl rfl rfl (ro_994 (sz a0 2 1 a3 a4 a5)) ?_
  refine go_seg 8 (pc' := 392) (ls' := [(3, .int 0), (2, .ref 90), (1, .ref 1), (0, .ref 0)]) (st' := [.int 0, .ref 0, .int 2, .ref 90, .int 1000]) (w' := (fw (sz a0 2 1 a3 a4 a5))) (cs' := 109) (ss' := 12668) ?_ (fun _ _ => rfl)
  refine go_seg 3 (pc' := 395) (ls' := [(3, .int 0), (2, .ref 90), (1, .ref 1), (0, .ref 0)]) (st' := [.int 1, .int 2, .ref 90, .int 1000]) (w' := (fw (sz a0 2 1 a3 a4 a5))) (cs' := 109) (ss' := 12668) ?_ (fun _ _ => rfl)
  refine go_cl (k := 20) (st' := [.int 1000, .int 1000]) (cs' := 109) (ss' := 12668) rfl rfl rfl rfl rfl rfl rfl (ro_996 (sz a0 2 1 a3 a4 a5)) ?_
  refine go_cmp true rfl (br_self _) ?_
  exact law_tail (f := sc a0 2 1 a3 a4 a5) rfl
theorem ro_998 (z : pq_C) : pq_Ru 2 25 [.ref 1, .int 3, .int 1] (fw z) (some (.int 1000), (fw z)) := by
  refine ru_of (k := 1) (M := pm_25) rfl rfl ?_
  refine go_seg 1 (pc' := 1) (ls' := [(0, .ref 1), (1, .int 3), (2, .int 1)]) (st' := [.int 3]) (w' := (fw z)) (cs' := 0) (ss' := 0) ?_ (fun _ _ => rfl)
  refine go_cl (k := 1) (st' := [.int 1]) (cs' := 0) (ss' := 0) rfl rfl rfl rfl rfl rfl rfl (ro_576 z) ?_
  refine go_seg 8 (pc' := 79) (ls' := [(0, .ref 1), (1, .int 3), (2, .int 1)]) (st' := [.int 1000]) (w' := (fw z)) (cs' := 0) (ss' := 0) ?_ (fun _ _ => rfl)
  exact go_end 1 (fun _ _ => rfl)
theorem ro_999 (z : pq_C) : pq_Ru 1 168 [.int 3, .int 1] (fw z) (some (.int 157), (fw z)) := by
  refine ru_of (k := 0) (M := pm_168) rfl rfl ?_
  exact go_end 8 (fun _ _ => rfl)
theorem ro_1000 (z : pq_C) : pq_Ru 3 169 [.ref 90, .int 3, .int 1] (fw z) (some (.int 1000), (fw z)) := by
  refine ru_of (k := 2) (M := pm_169) rfl rfl ?_
  refine go_seg 1 (pc' := 1) (ls' := [(0, .ref 90), (1, .int 3), (2, .int 1)]) (st' := [.int 3]) (w' := (fw z)) (cs' := 0) (ss' := 0) ?_ (fun _ _ => rfl)
  refine go_cl (k := 2) (st' := [.int 1]) (cs' := 0) (ss' := 0) rfl rfl rfl rfl rfl rfl rfl (ro_958 z) ?_
  refine go_seg 5 (pc' := 13) (ls' := [(0, .ref 90), (1, .int 3), (2, .int 1)]) (st' := [.long 7, .long 0, .long 1]) (w' := (fw z)) (cs' := 0) (ss' := 0) ?_ (fun _ _ => rfl)
  refine go_cl (k := 2) (st' := [.int 1]) (cs' := 0) (ss' := 0) rfl rfl rfl rfl rfl rfl rfl (ro_945 z) ?_
  refine go_seg 8 (pc' := 37) (ls' := [(0, .ref 90), (1, .int 3), (2, .int 1)]) (st' := [.int 1, .int 3, .ref 91]) (w' := (fw z)) (cs' := 0) (ss' := 0) ?_ (fun _ _ => rfl)
  refine go_cl (k := 2) (st' := [.int 157, .ref 91]) (cs' := 0) (ss' := 0) rfl rfl rfl rfl rfl rfl rfl (ro_999 z) ?_
  exact go_end 2 (fun _ _ => rfl)
theorem lf_4_1001 (a0 : Int32) (a3 : Int32) (a4 : Int32) (a5 : Int32) : ∃ w', pq_Go 20 pm_law 370 [(3, .int 0), (2, .ref 90), (1, .ref 1), (0, .ref 0)] [] (fw (sz a0 3 1 a3 a4 a5)) 109 12668 (some (.int 1), w') := by
  refine ⟨(fw (sz a0 3 1 a3 a4 a5)), ?_⟩
  refine go_seg 8 (pc' := 378) (ls' := [(3, .int 0), (2, .ref 90), (1, .ref 1), (0, .ref 0)]) (st' := [.int 0, .ref 0, .int 3, .ref 1]) (w' := (fw (sz a0 3 1 a3 a4 a5))) (cs' := 109) (ss' := 12668) ?_ (fun _ _ => rfl)
  refine go_seg 3 (pc' := 381) (ls' := [(3, .int 0), (2, .ref 90), (1, .ref 1), (0, .ref 0)]) (st' := [.int 1, .int 3, .ref 1]) (w' := (fw (sz a0 3 1 a3 a4 a5))) (cs' := 109) (ss' := 12668) ?_ (fun _ _ => rfl)
  refine go_cl (k := 20) (st' := [.int 1000]) (cs' := 109) (ss' := 12668) rfl rfl rfl rfl rfl rfl rfl (ro_998 (sz a0 3 1 a3 a4 a5)) ?_
  refine go_seg 8 (pc' := 392) (ls' := [(3, .int 0), (2, .ref 90), (1, .ref 1), (0, .ref 0)]) (st' := [.int 0, .ref 0, .int 3, .ref 90, .int 1000]) (w' := (fw (sz a0 3 1 a3 a4 a5))) (cs' := 109) (ss' := 12668) ?_ (fun _ _ => rfl)
  refine go_seg 3 (pc' := 395) (ls' := [(3, .int 0), (2, .ref 90), (1, .ref 1), (0, .ref 0)]) (st' := [.int 1, .int 3, .ref 90, .int 1000]) (w' := (fw (sz a0 3 1 a3 a4 a5))) (cs' := 109) (ss' := 12668) ?_ (fun _ _ => rfl)
  refine go_cl (k := 20) (st' := [.int 1000, .int 1000]) (cs' := 109) (ss' := 12668) rfl rfl rfl rfl rfl rfl rfl (ro_1000 (sz a0 3 1 a3 a4 a5)) ?_
  refine go_cmp true rfl (br_self _) ?_
  exact law_tail (f := sc a0 3 1 a3 a4 a5) rfl
theorem ro_1002 (z : pq_C) : pq_Ru 2 25 [.ref 1, .int 4, .int 1] (fw z) (some (.int 1000), (fw z)) := by
  refine ru_of (k := 1) (M := pm_25) rfl rfl ?_
  refine go_seg 1 (pc' := 1) (ls' := [(0, .ref 1), (1, .int 4), (2, .int 1)]) (st' := [.int 4]) (w' := (fw z)) (cs' := 0) (ss' := 0) ?_ (fun _ _ => rfl)
  refine go_cl (k := 1) (st' := [.int 1]) (cs' := 0) (ss' := 0) rfl rfl rfl rfl rfl rfl rfl (ro_585 z) ?_
  refine go_seg 8 (pc' := 79) (ls' := [(0, .ref 1), (1, .int 4), (2, .int 1)]) (st' := [.int 1000]) (w' := (fw z)) (cs' := 0) (ss' := 0) ?_ (fun _ _ => rfl)
  exact go_end 1 (fun _ _ => rfl)
theorem ro_1003 (z : pq_C) : pq_Ru 1 168 [.int 4, .int 1] (fw z) (some (.int 163), (fw z)) := by
  refine ru_of (k := 0) (M := pm_168) rfl rfl ?_
  exact go_end 8 (fun _ _ => rfl)
theorem ro_1004 (z : pq_C) : pq_Ru 3 169 [.ref 90, .int 4, .int 1] (fw z) (some (.int 1000), (fw z)) := by
  refine ru_of (k := 2) (M := pm_169) rfl rfl ?_
  refine go_seg 1 (pc' := 1) (ls' := [(0, .ref 90), (1, .int 4), (2, .int 1)]) (st' := [.int 4]) (w' := (fw z)) (cs' := 0) (ss' := 0) ?_ (fun _ _ => rfl)
  refine go_cl (k := 2) (st' := [.int 1]) (cs' := 0) (ss' := 0) rfl rfl rfl rfl rfl rfl rfl (ro_964 z) ?_
  refine go_seg 5 (pc' := 13) (ls' := [(0, .ref 90), (1, .int 4), (2, .int 1)]) (st' := [.long 7, .long 0, .long 1]) (w' := (fw z)) (cs' := 0) (ss' := 0) ?_ (fun _ _ => rfl)
  refine go_cl (k := 2) (st' := [.int 1]) (cs' := 0) (ss' := 0) rfl rfl rfl rfl rfl rfl rfl (ro_945 z) ?_
  refine go_seg 8 (pc' := 37) (ls' := [(0, .ref 90), (1, .int 4), (2, .int 1)]) (st' := [.int 1, .int 4, .ref 91]) (w' := (fw z)) (cs' := 0) (ss' := 0) ?_ (fun _ _ => rfl)
  refine go_cl (k := 2) (st' := [.int 163, .ref 91]) (cs' := 0) (ss' := 0) rfl rfl rfl rfl rfl rfl rfl (ro_1003 z) ?_
  exact go_end 2 (fun _ _ => rfl)
theorem lf_4_1005 (a0 : Int32) (a3 : Int32) (a4 : Int32) (a5 : Int32) : ∃ w', pq_Go 20 pm_law 370 [(3, .int 0), (2, .ref 90), (1, .ref 1), (0, .ref 0)] [] (fw (sz a0 4 1 a3 a4 a5)) 109 12668 (some (.int 1), w') := by
  refine ⟨(fw (sz a0 4 1 a3 a4 a5)), ?_⟩
  refine go_seg 8 (pc' := 378) (ls' := [(3, .int 0), (2, .ref 90), (1, .ref 1), (0, .ref 0)]) (st' := [.int 0, .ref 0, .int 4, .ref 1]) (w' := (fw (sz a0 4 1 a3 a4 a5))) (cs' := 109) (ss' := 12668) ?_ (fun _ _ => rfl)
  refine go_seg 3 (pc' := 381) (ls' := [(3, .int 0), (2, .ref 90), (1, .ref 1), (0, .ref 0)]) (st' := [.int 1, .int 4, .ref 1]) (w' := (fw (sz a0 4 1 a3 a4 a5))) (cs' := 109) (ss' := 12668) ?_ (fun _ _ => rfl)
  refine go_cl (k := 20) (st' := [.int 1000]) (cs' := 109) (ss' := 12668) rfl rfl rfl rfl rfl rfl rfl (ro_1002 (sz a0 4 1 a3 a4 a5)) ?_
  refine go_seg 8 (pc' := 392) (ls' := [(3, .int 0), (2, .ref 90), (1, .ref 1), (0, .ref 0)]) (st' := [.int 0, .ref 0, .int 4, .ref 90, .int 1000]) (w' := (fw (sz a0 4 1 a3 a4 a5))) (cs' := 109) (ss' := 12668) ?_ (fun _ _ => rfl)
  refine go_seg 3 (pc' := 395) (ls' := [(3, .int 0), (2, .ref 90), (1, .ref 1), (0, .ref 0)]) (st' := [.int 1, .int 4, .ref 90, .int 1000]) (w' := (fw (sz a0 4 1 a3 a4 a5))) (cs' := 109) (ss' := 12668) ?_ (fun _ _ => rfl)
  refine go_cl (k := 20) (st' := [.int 1000, .int 1000]) (cs' := 109) (ss' := 12668) rfl rfl rfl rfl rfl rfl rfl (ro_1004 (sz a0 4 1 a3 a4 a5)) ?_
  refine go_cmp true rfl (br_self _) ?_
  exact law_tail (f := sc a0 4 1 a3 a4 a5) rfl
theorem ro_1006 (z : pq_C) : pq_Ru 2 25 [.ref 1, .int 5, .int 1] (fw z) (some (.int 1000), (fw z)) := by
  refine ru_of (k := 1) (M := pm_25) rfl rfl ?_
  refine go_seg 1 (pc' := 1) (ls' := [(0, .ref 1), (1, .int 5), (2, .int 1)]) (st' := [.int 5]) (w' := (fw z)) (cs' := 0) (ss' := 0) ?_ (fun _ _ => rfl)
  refine go_cl (k := 1) (st' := [.int 1]) (cs' := 0) (ss' := 0) rfl rfl rfl rfl rfl rfl rfl (ro_594 z) ?_
  refine go_seg 8 (pc' := 79) (ls' := [(0, .ref 1), (1, .int 5), (2, .int 1)]) (st' := [.int 1000]) (w' := (fw z)) (cs' := 0) (ss' := 0) ?_ (fun _ _ => rfl)
  exact go_end 1 (fun _ _ => rfl)
theorem ro_1007 (z : pq_C) : pq_Ru 1 168 [.int 5, .int 1] (fw z) (some (.int 169), (fw z)) := by
  refine ru_of (k := 0) (M := pm_168) rfl rfl ?_
  exact go_end 8 (fun _ _ => rfl)
theorem ro_1008 (z : pq_C) : pq_Ru 3 169 [.ref 90, .int 5, .int 1] (fw z) (some (.int 1000), (fw z)) := by
  refine ru_of (k := 2) (M := pm_169) rfl rfl ?_
  refine go_seg 1 (pc' := 1) (ls' := [(0, .ref 90), (1, .int 5), (2, .int 1)]) (st' := [.int 5]) (w' := (fw z)) (cs' := 0) (ss' := 0) ?_ (fun _ _ => rfl)
  refine go_cl (k := 2) (st' := [.int 1]) (cs' := 0) (ss' := 0) rfl rfl rfl rfl rfl rfl rfl (ro_970 z) ?_
  refine go_seg 5 (pc' := 13) (ls' := [(0, .ref 90), (1, .int 5), (2, .int 1)]) (st' := [.long 7, .long 0, .long 1]) (w' := (fw z)) (cs' := 0) (ss' := 0) ?_ (fun _ _ => rfl)
  refine go_cl (k := 2) (st' := [.int 1]) (cs' := 0) (ss' := 0) rfl rfl rfl rfl rfl rfl rfl (ro_945 z) ?_
  refine go_seg 8 (pc' := 37) (ls' := [(0, .ref 90), (1, .int 5), (2, .int 1)]) (st' := [.int 1, .int 5, .ref 91]) (w' := (fw z)) (cs' := 0) (ss' := 0) ?_ (fun _ _ => rfl)
  refine go_cl (k := 2) (st' := [.int 169, .ref 91]) (cs' := 0) (ss' := 0) rfl rfl rfl rfl rfl rfl rfl (ro_1007 z) ?_
  exact go_end 2 (fun _ _ => rfl)
theorem lf_4_1009 (a0 : Int32) (a3 : Int32) (a4 : Int32) (a5 : Int32) : ∃ w', pq_Go 20 pm_law 370 [(3, .int 0), (2, .ref 90), (1, .ref 1), (0, .ref 0)] [] (fw (sz a0 5 1 a3 a4 a5)) 109 12668 (some (.int 1), w') := by
  refine ⟨(fw (sz a0 5 1 a3 a4 a5)), ?_⟩
  refine go_seg 8 (pc' := 378) (ls' := [(3, .int 0), (2, .ref 90), (1, .ref 1), (0, .ref 0)]) (st' := [.int 0, .ref 0, .int 5, .ref 1]) (w' := (fw (sz a0 5 1 a3 a4 a5))) (cs' := 109) (ss' := 12668) ?_ (fun _ _ => rfl)
  refine go_seg 3 (pc' := 381) (ls' := [(3, .int 0), (2, .ref 90), (1, .ref 1), (0, .ref 0)]) (st' := [.int 1, .int 5, .ref 1]) (w' := (fw (sz a0 5 1 a3 a4 a5))) (cs' := 109) (ss' := 12668) ?_ (fun _ _ => rfl)
  refine go_cl (k := 20) (st' := [.int 1000]) (cs' := 109) (ss' := 12668) rfl rfl rfl rfl rfl rfl rfl (ro_1006 (sz a0 5 1 a3 a4 a5)) ?_
  refine go_seg 8 (pc' := 392) (ls' := [(3, .int 0), (2, .ref 90), (1, .ref 1), (0, .ref 0)]) (st' := [.int 0, .ref 0, .int 5, .ref 90, .int 1000]) (w' := (fw (sz a0 5 1 a3 a4 a5))) (cs' := 109) (ss' := 12668) ?_ (fun _ _ => rfl)
  refine go_seg 3 (pc' := 395) (ls' := [(3, .int 0), (2, .ref 90), (1, .ref 1), (0, .ref 0)]) (st' := [.int 1, .int 5, .ref 90, .int 1000]) (w' := (fw (sz a0 5 1 a3 a4 a5))) (cs' := 109) (ss' := 12668) ?_ (fun _ _ => rfl)
  refine go_cl (k := 20) (st' := [.int 1000, .int 1000]) (cs' := 109) (ss' := 12668) rfl rfl rfl rfl rfl rfl rfl (ro_1008 (sz a0 5 1 a3 a4 a5)) ?_
  refine go_cmp true rfl (br_self _) ?_
  exact law_tail (f := sc a0 5 1 a3 a4 a5) rfl
theorem ro_1010 (z : pq_C) : pq_Ru 2 25 [.ref 1, .int 6, .int 1] (fw z) (some (.int 1000), (fw z)) := by
  refine ru_of (k := 1) (M := pm_25) rfl rfl ?_
  refine go_seg 1 (pc' := 1) (ls' := [(0, .ref 1), (1, .int 6), (2, .int 1)]) (st' := [.int 6]) (w' := (fw z)) (cs' := 0) (ss' := 0) ?_ (fun _ _ => rfl)
  refine go_cl (k := 1) (st' := [.int 1]) (cs' := 0) (ss' := 0) rfl rfl rfl rfl rfl rfl rfl (ro_603 z) ?_
  refine go_seg 8 (pc' := 79) (ls' := [(0, .ref 1), (1, .int 6), (2, .int 1)]) (st' := [.int 1000]) (w' := (fw z)) (cs' := 0) (ss' := 0) ?_ (fun _ _ => rfl)
  exact go_end 1 (fun _ _ => rfl)
theorem ro_1011 (z : pq_C) : pq_Ru 1 168 [.int 6, .int 1] (fw z) (some (.int 175), (fw z)) := by
  refine ru_of (k := 0) (M := pm_168) rfl rfl ?_
  exact go_end 8 (fun _ _ => rfl)
theorem ro_1012 (z : pq_C) : pq_Ru 3 169 [.ref 90, .int 6, .int 1] (fw z) (some (.int 1000), (fw z)) := by
  refine ru_of (k := 2) (M := pm_169) rfl rfl ?_
  refine go_seg 1 (pc' := 1) (ls' := [(0, .ref 90), (1, .int 6), (2, .int 1)]) (st' := [.int 6]) (w' := (fw z)) (cs' := 0) (ss' := 0) ?_ (fun _ _ => rfl)
  refine go_cl (k := 2) (st' := [.int 1]) (cs' := 0) (ss' := 0) rfl rfl rfl rfl rfl rfl rfl (ro_976 z) ?_
  refine go_seg 5 (pc' := 13) (ls' := [(0, .ref 90), (1, .int 6), (2, .int 1)]) (st' := [.long 7, .long 0, .long 1]) (w' := (fw z)) (cs' := 0) (ss' := 0) ?_ (fun _ _ => rfl)
  refine go_cl (k := 2) (st' := [.int 1]) (cs' := 0) (ss' := 0) rfl rfl rfl rfl rfl rfl rfl (ro_945 z) ?_
  refine go_seg 8 (pc' := 37) (ls' := [(0, .ref 90), (1, .int 6), (2, .int 1)]) (st' := [.int 1, .int 6, .ref 91]) (w' := (fw z)) (cs' := 0) (ss' := 0) ?_ (fun _ _ => rfl)
  refine go_cl (k := 2) (st' := [.int 175, .ref 91]) (cs' := 0) (ss' := 0) rfl rfl rfl rfl rfl rfl rfl (ro_1011 z) ?_
  exact go_end 2 (fun _ _ => rfl)
theorem lf_4_1013 (a0 : Int32) (a3 : Int32) (a4 : Int32) (a5 : Int32) : ∃ w', pq_Go 20 pm_law 370 [(3, .int 0), (2, .ref 90), (1, .ref 1), (0, .ref 0)] [] (fw (sz a0 6 1 a3 a4 a5)) 109 12668 (some (.int 1), w') := by
  refine ⟨(fw (sz a0 6 1 a3 a4 a5)), ?_⟩
  refine go_seg 8 (pc' := 378) (ls' := [(3, .int 0), (2, .ref 90), (1, .ref 1), (0, .ref 0)]) (st' := [.int 0, .ref 0, .int 6, .ref 1]) (w' := (fw (sz a0 6 1 a3 a4 a5))) (cs' := 109) (ss' := 12668) ?_ (fun _ _ => rfl)
  refine go_seg 3 (pc' := 381) (ls' := [(3, .int 0), (2, .ref 90), (1, .ref 1), (0, .ref 0)]) (st' := [.int 1, .int 6, .ref 1]) (w' := (fw (sz a0 6 1 a3 a4 a5))) (cs' := 109) (ss' := 12668) ?_ (fun _ _ => rfl)
  refine go_cl (k := 20) (st' := [.int 1000]) (cs' := 109) (ss' := 12668) rfl rfl rfl rfl rfl rfl rfl (ro_1010 (sz a0 6 1 a3 a4 a5)) ?_
  refine go_seg 8 (pc' := 392) (ls' := [(3, .int 0), (2, .ref 90), (1, .ref 1), (0, .ref 0)]) (st' := [.int 0, .ref 0, .int 6, .ref 90, .int 1000]) (w' := (fw (sz a0 6 1 a3 a4 a5))) (cs' := 109) (ss' := 12668) ?_ (fun _ _ => rfl)
  refine go_seg 3 (pc' := 395) (ls' := [(3, .int 0), (2, .ref 90), (1, .ref 1), (0, .ref 0)]) (st' := [.int 1, .int 6, .ref 90, .int 1000]) (w' := (fw (sz a0 6 1 a3 a4 a5))) (cs' := 109) (ss' := 12668) ?_ (fun _ _ => rfl)
  refine go_cl (k := 20) (st' := [.int 1000, .int 1000]) (cs' := 109) (ss' := 12668) rfl rfl rfl rfl rfl rfl rfl (ro_1012 (sz a0 6 1 a3 a4 a5)) ?_
  refine go_cmp true rfl (br_self _) ?_
  exact law_tail (f := sc a0 6 1 a3 a4 a5) rfl
theorem ro_1014 (z : pq_C) : pq_Ru 2 25 [.ref 1, .int 7, .int 1] (fw z) (some (.int 1000), (fw z)) := by
  refine ru_of (k := 1) (M := pm_25) rfl rfl ?_
  refine go_seg 1 (pc' := 1) (ls' := [(0, .ref 1), (1, .int 7), (2, .int 1)]) (st' := [.int 7]) (w' := (fw z)) (cs' := 0) (ss' := 0) ?_ (fun _ _ => rfl)
  refine go_cl (k := 1) (st' := [.int 1]) (cs' := 0) (ss' := 0) rfl rfl rfl rfl rfl rfl rfl (ro_612 z) ?_
  refine go_seg 8 (pc' := 79) (ls' := [(0, .ref 1), (1, .int 7), (2, .int 1)]) (st' := [.int 1000]) (w' := (fw z)) (cs' := 0) (ss' := 0) ?_ (fun _ _ => rfl)
  exact go_end 1 (fun _ _ => rfl)
theorem ro_1015 (z : pq_C) : pq_Ru 1 168 [.int 7, .int 1] (fw z) (some (.int 181), (fw z)) := by
  refine ru_of (k := 0) (M := pm_168) rfl rfl ?_
  exact go_end 8 (fun _ _ => rfl)
theorem ro_1016 (z : pq_C) : pq_Ru 3 169 [.ref 90, .int 7, .int 1] (fw z) (some (.int 1000), (fw z)) := by
  refine ru_of (k := 2) (M := pm_169) rfl rfl ?_
  refine go_seg 1 (pc' := 1) (ls' := [(0, .ref 90), (1, .int 7), (2, .int 1)]) (st' := [.int 7]) (w' := (fw z)) (cs' := 0) (ss' := 0) ?_ (fun _ _ => rfl)
  refine go_cl (k := 2) (st' := [.int 1]) (cs' := 0) (ss' := 0) rfl rfl rfl rfl rfl rfl rfl (ro_982 z) ?_
  refine go_seg 5 (pc' := 13) (ls' := [(0, .ref 90), (1, .int 7), (2, .int 1)]) (st' := [.long 7, .long 0, .long 1]) (w' := (fw z)) (cs' := 0) (ss' := 0) ?_ (fun _ _ => rfl)
  refine go_cl (k := 2) (st' := [.int 1]) (cs' := 0) (ss' := 0) rfl rfl rfl rfl rfl rfl rfl (ro_945 z) ?_
  refine go_seg 8 (pc' := 37) (ls' := [(0, .ref 90), (1, .int 7), (2, .int 1)]) (st' := [.int 1, .int 7, .ref 91]) (w' := (fw z)) (cs' := 0) (ss' := 0) ?_ (fun _ _ => rfl)
  refine go_cl (k := 2) (st' := [.int 181, .ref 91]) (cs' := 0) (ss' := 0) rfl rfl rfl rfl rfl rfl rfl (ro_1015 z) ?_
  exact go_end 2 (fun _ _ => rfl)
theorem lf_4_1017 (a0 : Int32) (a3 : Int32) (a4 : Int32) (a5 : Int32) : ∃ w', pq_Go 20 pm_law 370 [(3, .int 0), (2, .ref 90), (1, .ref 1), (0, .ref 0)] [] (fw (sz a0 7 1 a3 a4 a5)) 109 12668 (some (.int 1), w') := by
  refine ⟨(fw (sz a0 7 1 a3 a4 a5)), ?_⟩
  refine go_seg 8 (pc' := 378) (ls' := [(3, .int 0), (2, .ref 90), (1, .ref 1), (0, .ref 0)]) (st' := [.int 0, .ref 0, .int 7, .ref 1]) (w' := (fw (sz a0 7 1 a3 a4 a5))) (cs' := 109) (ss' := 12668) ?_ (fun _ _ => rfl)
  refine go_seg 3 (pc' := 381) (ls' := [(3, .int 0), (2, .ref 90), (1, .ref 1), (0, .ref 0)]) (st' := [.int 1, .int 7, .ref 1]) (w' := (fw (sz a0 7 1 a3 a4 a5))) (cs' := 109) (ss' := 12668) ?_ (fun _ _ => rfl)
  refine go_cl (k := 20) (st' := [.int 1000]) (cs' := 109) (ss' := 12668) rfl rfl rfl rfl rfl rfl rfl (ro_1014 (sz a0 7 1 a3 a4 a5)) ?_
  refine go_seg 8 (pc' := 392) (ls' := [(3, .int 0), (2, .ref 90), (1, .ref 1), (0, .ref 0)]) (st' := [.int 0, .ref 0, .int 7, .ref 90, .int 1000]) (w' := (fw (sz a0 7 1 a3 a4 a5))) (cs' := 109) (ss' := 12668) ?_ (fun _ _ => rfl)
  refine go_seg 3 (pc' := 395) (ls' := [(3, .int 0), (2, .ref 90), (1, .ref 1), (0, .ref 0)]) (st' := [.int 1, .int 7, .ref 90, .int 1000]) (w' := (fw (sz a0 7 1 a3 a4 a5))) (cs' := 109) (ss' := 12668) ?_ (fun _ _ => rfl)
  refine go_cl (k := 20) (st' := [.int 1000, .int 1000]) (cs' := 109) (ss' := 12668) rfl rfl rfl rfl rfl rfl rfl (ro_1016 (sz a0 7 1 a3 a4 a5)) ?_
  refine go_cmp true rfl (br_self _) ?_
  exact law_tail (f := sc a0 7 1 a3 a4 a5) rfl
theorem ro_1018 (z : pq_C) : pq_Ru 2 25 [.ref 1, .int 0, .int 2] (fw z) (some (.int 100), (fw z)) := by
  refine ru_of (k := 1) (M := pm_25) rfl rfl ?_
  refine go_seg 1 (pc' := 1) (ls' := [(0, .ref 1), (1, .int 0), (2, .int 2)]) (st' := [.int 0]) (w' := (fw z)) (cs' := 0) (ss' := 0) ?_ (fun _ _ => rfl)
  refine go_cl (k := 1) (st' := [.int 1]) (cs' := 0) (ss' := 0) rfl rfl rfl rfl rfl rfl rfl (ro_548 z) ?_
  refine go_seg 8 (pc' := 89) (ls' := [(0, .ref 1), (1, .int 0), (2, .int 2)]) (st' := [.int 100]) (w' := (fw z)) (cs' := 0) (ss' := 0) ?_ (fun _ _ => rfl)
  exact go_end 1 (fun _ _ => rfl)
theorem ro_1019 (z : pq_C) : pq_Ru 1 168 [.int 0, .int 2] (fw z) (some (.int 140), (fw z)) := by
  refine ru_of (k := 0) (M := pm_168) rfl rfl ?_
  exact go_end 8 (fun _ _ => rfl)
theorem ro_1020 (z : pq_C) : pq_Ru 3 169 [.ref 90, .int 0, .int 2] (fw z) (some (.int 100), (fw z)) := by
  refine ru_of (k := 2) (M := pm_169) rfl rfl ?_
  refine go_seg 1 (pc' := 1) (ls' := [(0, .ref 90), (1, .int 0), (2, .int 2)]) (st' := [.int 0]) (w' := (fw z)) (cs' := 0) (ss' := 0) ?_ (fun _ _ => rfl)
  refine go_cl (k := 2) (st' := [.int 1]) (cs' := 0) (ss' := 0) rfl rfl rfl rfl rfl rfl rfl (ro_940 z) ?_
  refine go_seg 5 (pc' := 13) (ls' := [(0, .ref 90), (1, .int 0), (2, .int 2)]) (st' := [.long 7, .long 0, .long 2]) (w' := (fw z)) (cs' := 0) (ss' := 0) ?_ (fun _ _ => rfl)
  refine go_cl (k := 2) (st' := [.int 1]) (cs' := 0) (ss' := 0) rfl rfl rfl rfl rfl rfl rfl (ro_951 z) ?_
  refine go_seg 8 (pc' := 37) (ls' := [(0, .ref 90), (1, .int 0), (2, .int 2)]) (st' := [.int 2, .int 0, .ref 91]) (w' := (fw z)) (cs' := 0) (ss' := 0) ?_ (fun _ _ => rfl)
  refine go_cl (k := 2) (st' := [.int 140, .ref 91]) (cs' := 0) (ss' := 0) rfl rfl rfl rfl rfl rfl rfl (ro_1019 z) ?_
  exact go_end 2 (fun _ _ => rfl)
theorem lf_4_1021 (a0 : Int32) (a3 : Int32) (a4 : Int32) (a5 : Int32) : ∃ w', pq_Go 20 pm_law 370 [(3, .int 0), (2, .ref 90), (1, .ref 1), (0, .ref 0)] [] (fw (sz a0 0 2 a3 a4 a5)) 109 12668 (some (.int 1), w') := by
  refine ⟨(fw (sz a0 0 2 a3 a4 a5)), ?_⟩
  refine go_seg 8 (pc' := 378) (ls' := [(3, .int 0), (2, .ref 90), (1, .ref 1), (0, .ref 0)]) (st' := [.int 0, .ref 0, .int 0, .ref 1]) (w' := (fw (sz a0 0 2 a3 a4 a5))) (cs' := 109) (ss' := 12668) ?_ (fun _ _ => rfl)
  refine go_seg 3 (pc' := 381) (ls' := [(3, .int 0), (2, .ref 90), (1, .ref 1), (0, .ref 0)]) (st' := [.int 2, .int 0, .ref 1]) (w' := (fw (sz a0 0 2 a3 a4 a5))) (cs' := 109) (ss' := 12668) ?_ (fun _ _ => rfl)
  refine go_cl (k := 20) (st' := [.int 100]) (cs' := 109) (ss' := 12668) rfl rfl rfl rfl rfl rfl rfl (ro_1018 (sz a0 0 2 a3 a4 a5)) ?_
  refine go_seg 8 (pc' := 392) (ls' := [(3, .int 0), (2, .ref 90), (1, .ref 1), (0, .ref 0)]) (st' := [.int 0, .ref 0, .int 0, .ref 90, .int 100]) (w' := (fw (sz a0 0 2 a3 a4 a5))) (cs' := 109) (ss' := 12668) ?_ (fun _ _ => rfl)
  refine go_seg 3 (pc' := 395) (ls' := [(3, .int 0), (2, .ref 90), (1, .ref 1), (0, .ref 0)]) (st' := [.int 2, .int 0, .ref 90, .int 100]) (w' := (fw (sz a0 0 2 a3 a4 a5))) (cs' := 109) (ss' := 12668) ?_ (fun _ _ => rfl)
  refine go_cl (k := 20) (st' := [.int 100, .int 100]) (cs' := 109) (ss' := 12668) rfl rfl rfl rfl rfl rfl rfl (ro_1020 (sz a0 0 2 a3 a4 a5)) ?_
  refine go_cmp true rfl (br_self _) ?_
  exact law_tail (f := sc a0 0 2 a3 a4 a5) rfl
theorem ro_1022 (z : pq_C) : pq_Ru 2 25 [.ref 1, .int 1, .int 2] (fw z) (some (.int 100), (fw z)) := by
  refine ru_of (k := 1) (M := pm_25) rfl rfl ?_
  refine go_seg 1 (pc' := 1) (ls' := [(0, .ref 1), (1, .int 1), (2, .int 2)]) (st' := [.int 1]) (w' := (fw z)) (cs' := 0) (ss' := 0) ?_ (fun _ _ => rfl)
  refine go_cl (k := 1) (st' := [.int 1]) (cs' := 0) (ss' := 0) rfl rfl rfl rfl rfl rfl rfl (ro_558 z) ?_
  refine go_seg 8 (pc' := 89) (ls' := [(0, .ref 1), (1, .int 1), (2, .int 2)]) (st' := [.int 100]) (w' := (fw z)) (cs' := 0) (ss' := 0) ?_ (fun _ _ => rfl)
  exact go_end 1 (fun _ _ => rfl)
theorem ro_1023 (z : pq_C) : pq_Ru 1 168 [.int 1, .int 2] (fw z) (some (.int 146), (fw z)) := by
  refine ru_of (k := 0) (M := pm_168) rfl rfl ?_
  exact go_end 8 (fun _ _ => rfl)
theorem ro_1024 (z : pq_C) : pq_Ru 3 169 [.ref 90, .int 1, .int 2] (fw z) (some (.int 100), (fw z)) := by
  refine ru_of (k := 2) (M := pm_169) rfl rfl ?_
  refine go_seg 1 (pc' := 1) (ls' := [(0, .ref 90), (1, .int 1), (2, .int 2)]) (st' := [.int 1]) (w' := (fw z)) (cs' := 0) (ss' := 0) ?_ (fun _ _ => rfl)
  refine go_cl (k := 2) (st' := [.int 1]) (cs' := 0) (ss' := 0) rfl rfl rfl rfl rfl rfl rfl (ro_946 z) ?_
  refine go_seg 5 (pc' := 13) (ls' := [(0, .ref 90), (1, .int 1), (2, .int 2)]) (st' := [.long 7, .long 0, .long 2]) (w' := (fw z)) (cs' := 0) (ss' := 0) ?_ (fun _ _ => rfl)
  refine go_cl (k := 2) (st' := [.int 1]) (cs' := 0) (ss' := 0) rfl rfl rfl rfl rfl rfl rfl (ro_951 z) ?_
  refine go_seg 8 (pc' := 37) (ls' := [(0, .ref 90), (1, .int 1), (2, .int 2)]) (st' := [.int 2, .int 1, .ref 91]) (w' := (fw z)) (cs' := 0) (ss' := 0) ?_ (fun _ _ => rfl)
  refine go_cl (k := 2) (st' := [.int 146, .ref 91]) (cs' := 0) (ss' := 0) rfl rfl rfl rfl rfl rfl rfl (ro_1023 z) ?_
  exact go_end 2 (fun _ _ => rfl)
theorem lf_4_1025 (a0 : Int32) (a3 : Int32) (a4 : Int32) (a5 : Int32) : ∃ w', pq_Go 20 pm_law 370 [(3, .int 0), (2, .ref 90), (1, .ref 1), (0, .ref 0)] [] (fw (sz a0 1 2 a3 a4 a5)) 109 12668 (some (.int 1), w') := by
  refine ⟨(fw (sz a0 1 2 a3 a4 a5)), ?_⟩
  refine go_seg 8 (pc' := 378) (ls' := [(3, .int 0), (2, .ref 90), (1, .ref 1), (0, .ref 0)]) (st' := [.int 0, .ref 0, .int 1, .ref 1]) (w' := (fw (sz a0 1 2 a3 a4 a5))) (cs' := 109) (ss' := 12668) ?_ (fun _ _ => rfl)
  refine go_seg 3 (pc' := 381) (ls' := [(3, .int 0), (2, .ref 90), (1, .ref 1), (0, .ref 0)]) (st' := [.int 2, .int 1, .ref 1]) (w' := (fw (sz a0 1 2 a3 a4 a5))) (cs' := 109) (ss' := 12668) ?_ (fun _ _ => rfl)
  refine go_cl (k := 20) (st' := [.int 100]) (cs' := 109) (ss' := 12668) rfl rfl rfl rfl rfl rfl rfl (ro_1022 (sz a0 1 2 a3 a4 a5)) ?_
  refine go_seg 8 (pc' := 392) (ls' := [(3, .int 0), (2, .ref 90), (1, .ref 1), (0, .ref 0)]) (st' := [.int 0, .ref 0, .int 1, .ref 90, .int 100]) (w' := (fw (sz a0 1 2 a3 a4 a5))) (cs' := 109) (ss' := 12668) ?_ (fun _ _ => rfl)
  refine go_seg 3 (pc' := 395) (ls' := [(3, .int 0), (2, .ref 90), (1, .ref 1), (0, .ref 0)]) (st' := [.int 2, .int 1, .ref 90, .int 100]) (w' := (fw (sz a0 1 2 a3 a4 a5))) (cs' := 109) (ss' := 12668) ?_ (fun _ _ => rfl)
  refine go_cl (k := 20) (st' := [.int 100, .int 100]) (cs' := 109) (ss' := 12668) rfl rfl rfl rfl rfl rfl rfl (ro_1024 (sz a0 1 2 a3 a4 a5)) ?_
  refine go_cmp true rfl (br_self _) ?_
  exact law_tail (f := sc a0 1 2 a3 a4 a5) rfl
theorem ro_1026 (z : pq_C) : pq_Ru 2 25 [.ref 1, .int 2, .int 2] (fw z) (some (.int 100), (fw z)) := by
  refine ru_of (k := 1) (M := pm_25) rfl rfl ?_
  refine go_seg 1 (pc' := 1) (ls' := [(0, .ref 1), (1, .int 2), (2, .int 2)]) (st' := [.int 2]) (w' := (fw z)) (cs' := 0) (ss' := 0) ?_ (fun _ _ => rfl)
  refine go_cl (k := 1) (st' := [.int 1]) (cs' := 0) (ss' := 0) rfl rfl rfl rfl rfl rfl rfl (ro_567 z) ?_
  refine go_seg 8 (pc' := 89) (ls' := [(0, .ref 1), (1, .int 2), (2, .int 2)]) (st' := [.int 100]) (w' := (fw z)) (cs' := 0) (ss' := 0) ?_ (fun _ _ => rfl)
  exact go_end 1 (fun _ _ => rfl)
theorem ro_1027 (z : pq_C) : pq_Ru 1 168 [.int 2, .int 2] (fw z) (some (.int 152), (fw z)) := by
  refine ru_of (k := 0) (M := pm_168) rfl rfl ?_
  exact go_end 8 (fun _ _ => rfl)
theorem ro_1028 (z : pq_C) : pq_Ru 3 169 [.ref 90, .int 2, .int 2] (fw z) (some (.int 100), (fw z)) := by
  refine ru_of (k := 2) (M := pm_169) rfl rfl ?_
  refine go_seg 1 (pc' := 1) (ls' := [(0, .ref 90), (1, .int 2), (2, .int 2)]) (st' := [.int 2]) (w' := (fw z)) (cs' := 0) (ss' := 0) ?_ (fun _ _ => rfl)
  refine go_cl (k := 2) (st' := [.int 1]) (cs' := 0) (ss' := 0) rfl rfl rfl rfl rfl rfl rfl (ro_952 z) ?_
  refine go_seg 5 (pc' := 13) (ls' := [(0, .ref 90), (1, .int 2), (2, .int 2)]) (st' := [.long 7, .long 0, .long 2]) (w' := (fw z)) (cs' := 0) (ss' := 0) ?_ (fun _ _ => rfl)
  refine go_cl (k := 2) (st' := [.int 1]) (cs' := 0) (ss' := 0) rfl rfl rfl rfl rfl rfl rfl (ro_951 z) ?_
  refine go_seg 8 (pc' := 37) (ls' := [(0, .ref 90), (1, .int 2), (2, .int 2)]) (st' := [.int 2, .int 2, .ref 91]) (w' := (fw z)) (cs' := 0) (ss' := 0) ?_ (fun _ _ => rfl)
  refine go_cl (k := 2) (st' := [.int 152, .ref 91]) (cs' := 0) (ss' := 0) rfl rfl rfl rfl rfl rfl rfl (ro_1027 z) ?_
  exact go_end 2 (fun _ _ => rfl)
theorem lf_4_1029 (a0 : Int32) (a3 : Int32) (a4 : Int32) (a5 : Int32) : ∃ w', pq_Go 20 pm_law 370 [(3, .int 0), (2, .ref 90), (1, .ref 1), (0, .ref 0)] [] (fw (sz a0 2 2 a3 a4 a5)) 109 12668 (some (.int 1), w') := by
  refine ⟨(fw (sz a0 2 2 a3 a4 a5)), ?_⟩
  refine go_seg 8 (pc' := 378) (ls' := [(3, .int 0), (2, .ref 90), (1, .ref 1), (0, .ref 0)]) (st' := [.int 0, .ref 0, .int 2, .ref 1]) (w' := (fw (sz a0 2 2 a3 a4 a5))) (cs' := 109) (ss' := 12668) ?_ (fun _ _ => rfl)
  refine go_seg 3 (pc' := 381) (ls' := [(3, .int 0), (2, .ref 90), (1, .ref 1), (0, .ref 0)]) (st' := [.int 2, .int 2, .ref 1]) (w' := (fw (sz a0 2 2 a3 a4 a5))) (cs' := 109) (ss' := 12668) ?_ (fun _ _ => rfl)
  refine go_cl (k := 20) (st' := [.int 100]) (cs' := 109) (ss' := 12668) rfl rfl rfl rfl rfl rfl rfl (ro_1026 (sz a0 2 2 a3 a4 a5)) ?_
  refine go_seg 8 (pc' := 392) (ls' := [(3, .int 0), (2, .ref 90), (1, .ref 1), (0, .ref 0)]) (st' := [.int 0, .ref 0, .int 2, .ref 90, .int 100]) (w' := (fw (sz a0 2 2 a3 a4 a5))) (cs' := 109) (ss' := 12668) ?_ (fun _ _ => rfl)
  refine go_seg 3 (pc' := 395) (ls' := [(3, .int 0), (2, .ref 90), (1, .ref 1), (0, .ref 0)]) (st' := [.int 2, .int 2, .ref 90, .int 100]) (w' := (fw (sz a0 2 2 a3 a4 a5))) (cs' := 109) (ss' := 12668) ?_ (fun _ _ => rfl)
  refine go_cl (k := 20) (st' := [.int 100, .int 100]) (cs' := 109) (ss' := 12668) rfl rfl rfl rfl rfl rfl rfl (ro_1028 (sz a0 2 2 a3 a4 a5)) ?_
  refine go_cmp true rfl (br_self _) ?_
  exact law_tail (f := sc a0 2 2 a3 a4 a5) rfl
theorem ro_1030 (z : pq_C) : pq_Ru 2 25 [.ref 1, .int 3, .int 2] (fw z) (some (.int 100), (fw z)) := by
  refine ru_of (k := 1) (M := pm_25) rfl rfl ?_
  refine go_seg 1 (pc' := 1) (ls' := [(0, .ref 1), (1, .int 3), (2, .int 2)]) (st' := [.int 3]) (w' := (fw z)) (cs' := 0) (ss' := 0) ?_ (fun _ _ => rfl)
  refine go_cl (k := 1) (st' := [.int 1]) (cs' := 0) (ss' := 0) rfl rfl rfl rfl rfl rfl rfl (ro_576 z) ?_
  refine go_seg 8 (pc' := 89) (ls' := [(0, .ref 1), (1, .int 3), (2, .int 2)]) (st' := [.int 100]) (w' := (fw z)) (cs' := 0) (ss' := 0) ?_ (fun _ _ => rfl)
  exact go_end 1 (fun _ _ => rfl)
theorem ro_1031 (z : pq_C) : pq_Ru 1 168 [.int 3, .int 2] (fw z) (some (.int 158), (fw z)) := by
  refine ru_of (k := 0) (M := pm_168) rfl rfl ?_
  exact go_end 8 (fun _ _ => rfl)
theorem ro_1032 (z : pq_C) : pq_Ru 3 169 [.ref 90, .int 3, .int 2] (fw z) (some (.int 100), (fw z)) := by
  refine ru_of (k := 2) (M := pm_169) rfl rfl ?_
  refine go_seg 1 (pc' := 1) (ls' := [(0, .ref 90), (1, .int 3), (2, .int 2)]) (st' := [.int 3]) (w' := (fw z)) (cs' := 0) (ss' := 0) ?_ (fun _ _ => rfl)
  refine go_cl (k := 2) (st' := [.int 1]) (cs' := 0) (ss' := 0) rfl rfl rfl rfl rfl rfl rfl (ro_958 z) ?_
  refine go_seg 5 (pc' := 13) (ls' := [(0, .ref 90), (1, .int 3), (2, .int 2)]) (st' := [.long 7, .long 0, .long 2]) (w' := (fw z)) (cs' := 0) (ss' := 0) ?_ (fun _ _ => rfl)
  refine go_cl (k := 2) (st' := [.int 1]) (cs' := 0) (ss' := 0) rfl rfl rfl rfl rfl rfl rfl (ro_951 z) ?_
  refine go_seg 8 (pc' := 37) (ls' := [(0, .ref 90), (1, .int 3), (2, .int 2)]) (st' := [.int 2, .int 3, .ref 91]) (w' := (fw z)) (cs' := 0) (ss' := 0) ?_ (fun _ _ => rfl)
  refine go_cl (k := 2) (st' := [.int 158, .ref 91]) (cs' := 0) (ss' := 0) rfl rfl rfl rfl rfl rfl rfl (ro_1031 z) ?_
  exact go_end 2 (fun _ _ => rfl)
theorem lf_4_1033 (a0 : Int32) (a3 : Int32) (a4 : Int32) (a5 : Int32) : ∃ w', pq_Go 20 pm_law 370 [(3, .int 0), (2, .ref 90), (1, .ref 1), (0, .ref 0)] [] (fw (sz a0 3 2 a3 a4 a5)) 109 12668 (some (.int 1), w') := by
  refine ⟨(fw (sz a0 3 2 a3 a4 a5)), ?_⟩
  refine go_seg 8 (pc' := 378) (ls' := [(3, .int 0), (2, .ref 90), (1, .ref 1), (0, .ref 0)]) (st' := [.int 0, .ref 0, .int 3, .ref 1]) (w' := (fw (sz a0 3 2 a3 a4 a5))) (cs' := 109) (ss' := 12668) ?_ (fun _ _ => rfl)
  refine go_seg 3 (pc' := 381) (ls' := [(3, .int 0), (2, .ref 90), (1, .ref 1), (0, .ref 0)]) (st' := [.int 2, .int 3, .ref 1]) (w' := (fw (sz a0 3 2 a3 a4 a5))) (cs' := 109) (ss' := 12668) ?_ (fun _ _ => rfl)
  refine go_cl (k := 20) (st' := [.int 100]) (cs' := 109) (ss' := 12668) rfl rfl rfl rfl rfl rfl rfl (ro_1030 (sz a0 3 2 a3 a4 a5)) ?_
  refine go_seg 8 (pc' := 392) (ls' := [(3, .int 0), (2, .ref 90), (1, .ref 1), (0, .ref 0)]) (st' := [.int 0, .ref 0, .int 3, .ref 90, .int 100]) (w' := (fw (sz a0 3 2 a3 a4 a5))) (cs' := 109) (ss' := 12668) ?_ (fun _ _ => rfl)
  refine go_seg 3 (pc' := 395) (ls' := [(3, .int 0), (2, .ref 90), (1, .ref 1), (0, .ref 0)]) (st' := [.int 2, .int 3, .ref 90, .int 100]) (w' := (fw (sz a0 3 2 a3 a4 a5))) (cs' := 109) (ss' := 12668) ?_ (fun _ _ => rfl)
  refine go_cl (k := 20) (st' := [.int 100, .int 100]) (cs' := 109) (ss' := 12668) rfl rfl rfl rfl rfl rfl rfl (ro_1032 (sz a0 3 2 a3 a4 a5)) ?_
  refine go_cmp true rfl (br_self _) ?_
  exact law_tail (f := sc a0 3 2 a3 a4 a5) rfl
theorem ro_1034 (z : pq_C) : pq_Ru 2 25 [.ref 1, .int 4, .int 2] (fw z) (some (.int 100), (fw z)) := by
  refine ru_of (k := 1) (M := pm_25) rfl rfl ?_
  refine go_seg 1 (pc' := 1) (ls' := [(0, .ref 1), (1, .int 4), (2, .int 2)]) (st' := [.int 4]) (w' := (fw z)) (cs' := 0) (ss' := 0) ?_ (fun _ _ => rfl)
  refine go_cl (k := 1) (st' := [.int 1]) (cs' := 0) (ss' := 0) rfl rfl rfl rfl rfl rfl rfl (ro_585 z) ?_
  refine go_seg 8 (pc' := 89) (ls' := [(0, .ref 1), (1, .int 4), (2, .int 2)]) (st' := [.int 100]) (w' := (fw z)) (cs' := 0) (ss' := 0) ?_ (fun _ _ => rfl)
  exact go_end 1 (fun _ _ => rfl)
theorem ro_1035 (z : pq_C) : pq_Ru 1 168 [.int 4, .int 2] (fw z) (some (.int 164), (fw z)) := by
  refine ru_of (k := 0) (M := pm_168) rfl rfl ?_
  exact go_end 8 (fun _ _ => rfl)
theorem ro_1036 (z : pq_C) : pq_Ru 3 169 [.ref 90, .int 4, .int 2] (fw z) (some (.int 100), (fw z)) := by
  refine ru_of (k := 2) (M := pm_169) rfl rfl ?_
  refine go_seg 1 (pc' := 1) (ls' := [(0, .ref 90), (1, .int 4), (2, .int 2)]) (st' := [.int 4]) (w' := (fw z)) (cs' := 0) (ss' := 0) ?_ (fun _ _ => rfl)
  refine go_cl (k := 2) (st' := [.int 1]) (cs' := 0) (ss' := 0) rfl rfl rfl rfl rfl rfl rfl (ro_964 z) ?_
  refine go_seg 5 (pc' := 13) (ls' := [(0, .ref 90), (1, .int 4), (2, .int 2)]) (st' := [.long 7, .long 0, .long 2]) (w' := (fw z)) (cs' := 0) (ss' := 0) ?_ (fun _ _ => rfl)
  refine go_cl (k := 2) (st' := [.int 1]) (cs' := 0) (ss' := 0) rfl rfl rfl rfl rfl rfl rfl (ro_951 z) ?_
  refine go_seg 8 (pc' := 37) (ls' := [(0, .ref 90), (1, .int 4), (2, .int 2)]) (st' := [.int 2, .int 4, .ref 91]) (w' := (fw z)) (cs' := 0) (ss' := 0) ?_ (fun _ _ => rfl)
  refine go_cl (k := 2) (st' := [.int 164, .ref 91]) (cs' := 0) (ss' := 0) rfl rfl rfl rfl rfl rfl rfl (ro_1035 z) ?_
  exact go_end 2 (fun _ _ => rfl)
theorem lf_4_1037 (a0 : Int32) (a3 : Int32) (a4 : Int32) (a5 : Int32) : ∃ w', pq_Go 20 pm_law 370 [(3, .int 0), (2, .ref 90), (1, .ref 1), (0, .ref 0)] [] (fw (sz a0 4 2 a3 a4 a5)) 109 12668 (some (.int 1), w') := by
  refine ⟨(fw (sz a0 4 2 a3 a4 a5)), ?_⟩
  refine go_seg 8 (pc' := 378) (ls' := [(3, .int 0), (2, .ref 90), (1, .ref 1), (0, .ref 0)]) (st' := [.int 0, .ref 0, .int 4, .ref 1]) (w' := (fw (sz a0 4 2 a3 a4 a5))) (cs' := 109) (ss' := 12668) ?_ (fun _ _ => rfl)
  refine go_seg 3 (pc' := 381) (ls' := [(3, .int 0), (2, .ref 90), (1, .ref 1), (0, .ref 0)]) (st' := [.int 2, .int 4, .ref 1]) (w' := (fw (sz a0 4 2 a3 a4 a5))) (cs' := 109) (ss' := 12668) ?_ (fun _ _ => rfl)
  refine go_cl (k := 20) (st' := [.int 100]) (cs' := 109) (ss' := 12668) rfl rfl rfl rfl rfl rfl rfl (ro_1034 (sz a0 4 2 a3 a4 a5)) ?_
  refine go_seg 8 (pc' := 392) (ls' := [(3, .int 0), (2, .ref 90), (1, .ref 1), (0, .ref 0)]) (st' := [.int 0, .ref 0, .int 4, .ref 90, .int 100]) (w' := (fw (sz a0 4 2 a3 a4 a5))) (cs' := 109) (ss' := 12668) ?_ (fun _ _ => rfl)
  refine go_seg 3 (pc' := 395) (ls' := [(3, .int 0), (2, .ref 90), (1, .ref 1), (0, .ref 0)]) (st' := [.int 2, .int 4, .ref 90, .int 100]) (w' := (fw (sz a0 4 2 a3 a4 a5))) (cs' := 109) (ss' := 12668) ?_ (fun _ _ => rfl)
  refine go_cl (k := 20) (st' := [.int 100, .int 100]) (cs' := 109) (ss' := 12668) rfl rfl rfl rfl rfl rfl rfl (ro_1036 (sz a0 4 2 a3 a4 a5)) ?_
  refine go_cmp true rfl (br_self _) ?_
  exact law_tail (f := sc a0 4 2 a3 a4 a5) rfl
theorem ro_1038 (z : pq_C) : pq_Ru 2 25 [.ref 1, .int 5, .int 2] (fw z) (some (.int 100), (fw z)) := by
  refine ru_of (k := 1) (M := pm_25) rfl rfl ?_
  refine go_seg 1 (pc' := 1) (ls' := [(0, .ref 1), (1, .int 5), (2, .int 2)]) (st' := [.int 5]) (w' := (fw z)) (cs' := 0) (ss' := 0) ?_ (fun _ _ => rfl)
  refine go_cl (k := 1) (st' := [.int 1]) (cs' := 0) (ss' := 0) rfl rfl rfl rfl rfl rfl rfl (ro_594 z) ?_
  refine go_seg 8 (pc' := 89) (ls' := [(0, .ref 1), (1, .int 5), (2, .int 2)]) (st' := [.int 100]) (w' := (fw z)) (cs' := 0) (ss' := 0) ?_ (fun _ _ => rfl)
  exact go_end 1 (fun _ _ => rfl)
theorem ro_1039 (z : pq_C) : pq_Ru 1 168 [.int 5, .int 2] (fw z) (some (.int 170), (fw z)) := by
  refine ru_of (k := 0) (M := pm_168) rfl rfl ?_
  exact go_end 8 (fun _ _ => rfl)
theorem ro_1040 (z : pq_C) : pq_Ru 3 169 [.ref 90, .int 5, .int 2] (fw z) (some (.int 100), (fw z)) := by
  refine ru_of (k := 2) (M := pm_169) rfl rfl ?_
  refine go_seg 1 (pc' := 1) (ls' := [(0, .ref 90), (1, .int 5), (2, .int 2)]) (st' := [.int 5]) (w' := (fw z)) (cs' := 0) (ss' := 0) ?_ (fun _ _ => rfl)
  refine go_cl (k := 2) (st' := [.int 1]) (cs' := 0) (ss' := 0) rfl rfl rfl rfl rfl rfl rfl (ro_970 z) ?_
  refine go_seg 5 (pc' := 13) (ls' := [(0, .ref 90), (1, .int 5), (2, .int 2)]) (st' := [.long 7, .long 0, .long 2]) (w' := (fw z)) (cs' := 0) (ss' := 0) ?_ (fun _ _ => rfl)
  refine go_cl (k := 2) (st' := [.int 1]) (cs' := 0) (ss' := 0) rfl rfl rfl rfl rfl rfl rfl (ro_951 z) ?_
  refine go_seg 8 (pc' := 37) (ls' := [(0, .ref 90), (1, .int 5), (2, .int 2)]) (st' := [.int 2, .int 5, .ref 91]) (w' := (fw z)) (cs' := 0) (ss' := 0) ?_ (fun _ _ => rfl)
  refine go_cl (k := 2) (st' := [.int 170, .ref 91]) (cs' := 0) (ss' := 0) rfl rfl rfl rfl rfl rfl rfl (ro_1039 z) ?_
  exact go_end 2 (fun _ _ => rfl)
theorem lf_4_1041 (a0 : Int32) (a3 : Int32) (a4 : Int32) (a5 : Int32) : ∃ w', pq_Go 20 pm_law 370 [(3, .int 0), (2, .ref 90), (1, .ref 1), (0, .ref 0)] [] (fw (sz a0 5 2 a3 a4 a5)) 109 12668 (some (.int 1), w') := by
  refine ⟨(fw (sz a0 5 2 a3 a4 a5)), ?_⟩
  refine go_seg 8 (pc' := 378) (ls' := [(3, .int 0), (2, .ref 90), (1, .ref 1), (0, .ref 0)]) (st' := [.int 0, .ref 0, .int 5, .ref 1]) (w' := (fw (sz a0 5 2 a3 a4 a5))) (cs' := 109) (ss' := 12668) ?_ (fun _ _ => rfl)
  refine go_seg 3 (pc' := 381) (ls' := [(3, .int 0), (2, .ref 90), (1, .ref 1), (0, .ref 0)]) (st' := [.int 2, .int 5, .ref 1]) (w' := (fw (sz a0 5 2 a3 a4 a5))) (cs' := 109) (ss' := 12668) ?_ (fun _ _ => rfl)
  refine go_cl (k := 20) (st' := [.int 100]) (cs' := 109) (ss' := 12668) rfl rfl rfl rfl rfl rfl rfl (ro_1038 (sz a0 5 2 a3 a4 a5)) ?_
  refine go_seg 8 (pc' := 392) (ls' := [(3, .int 0), (2, .ref 90), (1, .ref 1), (0, .ref 0)]) (st' := [.int 0, .ref 0, .int 5, .ref 90, .int 100]) (w' := (fw (sz a0 5 2 a3 a4 a5))) (cs' := 109) (ss' := 12668) ?_ (fun _ _ => rfl)
  refine go_seg 3 (pc' := 395) (ls' := [(3, .int 0), (2, .ref 90), (1, .ref 1), (0, .ref 0)]) (st' := [.int 2, .int 5, .ref 90, .int 100]) (w' := (fw (sz a0 5 2 a3 a4 a5))) (cs' := 109) (ss' := 12668) ?_ (fun _ _ => rfl)
  refine go_cl (k := 20) (st' := [.int 100, .int 100]) (cs' := 109) (ss' := 12668) rfl rfl rfl rfl rfl rfl rfl (ro_1040 (sz a0 5 2 a3 a4 a5)) ?_
  refine go_cmp true rfl (br_self _) ?_
  exact law_tail (f := sc a0 5 2 a3 a4 a5) rfl
theorem ro_1042 (z : pq_C) : pq_Ru 2 25 [.ref 1, .int 6, .int 2] (fw z) (some (.int 100), (fw z)) := by
  refine ru_of (k := 1) (M := pm_25) rfl rfl ?_
  refine go_seg 1 (pc' := 1) (ls' := [(0, .ref 1), (1, .int 6), (2, .int 2)]) (st' := [.int 6]) (w' := (fw z)) (cs' := 0) (ss' := 0) ?_ (fun _ _ => rfl)
  refine go_cl (k := 1) (st' := [.int 1]) (cs' := 0) (ss' := 0) rfl rfl rfl rfl rfl rfl rfl (ro_603 z) ?_
  refine go_seg 8 (pc' := 89) (ls' := [(0, .ref 1), (1, .int 6), (2, .int 2)]) (st' := [.int 100]) (w' := (fw z)) (cs' := 0) (ss' := 0) ?_ (fun _ _ => rfl)
  exact go_end 1 (fun _ _ => rfl)
theorem ro_1043 (z : pq_C) : pq_Ru 1 168 [.int 6, .int 2] (fw z) (some (.int 176), (fw z)) := by
  refine ru_of (k := 0) (M := pm_168) rfl rfl ?_
  exact go_end 8 (fun _ _ => rfl)
theorem ro_1044 (z : pq_C) : pq_Ru 3 169 [.ref 90, .int 6, .int 2] (fw z) (some (.int 100), (fw z)) := by
  refine ru_of (k := 2) (M := pm_169) rfl rfl ?_
  refine go_seg 1 (pc' := 1) (ls' := [(0, .ref 90), (1, .int 6), (2, .int 2)]) (st' := [.int 6]) (w' := (fw z)) (cs' := 0) (ss' := 0) ?_ (fun _ _ => rfl)
  refine go_cl (k := 2) (st' := [.int 1]) (cs' := 0) (ss' := 0) rfl rfl rfl rfl rfl rfl rfl (ro_976 z) ?_
  refine go_seg 5 (pc' := 13) (ls' := [(0, .ref 90), (1, .int 6), (2, .int 2)]) (st' := [.long 7, .long 0, .long 2]) (w' := (fw z)) (cs' := 0) (ss' := 0) ?_ (fun _ _ => rfl)
  refine go_cl (k := 2) (st' := [.int 1]) (cs' := 0) (ss' := 0) rfl rfl rfl rfl rfl rfl rfl (ro_951 z) ?_
  refine go_seg 8 (pc' := 37) (ls' := [(0, .ref 90), (1, .int 6), (2, .int 2)]) (st' := [.int 2, .int 6, .ref 91]) (w' := (fw z)) (cs' := 0) (ss' := 0) ?_ (fun _ _ => rfl)
  refine go_cl (k := 2) (st' := [.int 176, .ref 91]) (cs' := 0) (ss' := 0) rfl rfl rfl rfl rfl rfl rfl (ro_1043 z) ?_
  exact go_end 2 (fun _ _ => rfl)
theorem lf_4_1045 (a0 : Int32) (a3 : Int32) (a4 : Int32) (a5 : Int32) : ∃ w', pq_Go 20 pm_law 370 [(3, .int 0), (2, .ref 90), (1, .ref 1), (0, .ref 0)] [] (fw (sz a0 6 2 a3 a4 a5)) 109 12668 (some (.int 1), w') := by
  refine ⟨(fw (sz a0 6 2 a3 a4 a5)), ?_⟩
  refine go_seg 8 (pc' := 378) (ls' := [(3, .int 0), (2, .ref 90), (1, .ref 1), (0, .ref 0)]) (st' := [.int 0, .ref 0, .int 6, .ref 1]) (w' := (fw (sz a0 6 2 a3 a4 a5))) (cs' := 109) (ss' := 12668) ?_ (fun _ _ => rfl)
  refine go_seg 3 (pc' := 381) (ls' := [(3, .int 0), (2, .ref 90), (1, .ref 1), (0, .ref 0)]) (st' := [.int 2, .int 6, .ref 1]) (w' := (fw (sz a0 6 2 a3 a4 a5))) (cs' := 109) (ss' := 12668) ?_ (fun _ _ => rfl)
  refine go_cl (k := 20) (st' := [.int 100]) (cs' := 109) (ss' := 12668) rfl rfl rfl rfl rfl rfl rfl (ro_1042 (sz a0 6 2 a3 a4 a5)) ?_
  refine go_seg 8 (pc' := 392) (ls' := [(3, .int 0), (2, .ref 90), (1, .ref 1), (0, .ref 0)]) (st' := [.int 0, .ref 0, .int 6, .ref 90, .int 100]) (w' := (fw (sz a0 6 2 a3 a4 a5))) (cs' := 109) (ss' := 12668) ?_ (fun _ _ => rfl)
  refine go_seg 3 (pc' := 395) (ls' := [(3, .int 0), (2, .ref 90), (1, .ref 1), (0, .ref 0)]) (st' := [.int 2, .int 6, .ref 90, .int 100]) (w' := (fw (sz a0 6 2 a3 a4 a5))) (cs' := 109) (ss' := 12668) ?_ (fun _ _ => rfl)
  refine go_cl (k := 20) (st' := [.int 100, .int 100]) (cs' := 109) (ss' := 12668) rfl rfl rfl rfl rfl rfl rfl (ro_1044 (sz a0 6 2 a3 a4 a5)) ?_
  refine go_cmp true rfl (br_self _) ?_
  exact law_tail (f := sc a0 6 2 a3 a4 a5) rfl
theorem ro_1046 (z : pq_C) : pq_Ru 2 25 [.ref 1, .int 7, .int 2] (fw z) (some (.int 100), (fw z)) := by
  refine ru_of (k := 1) (M := pm_25) rfl rfl ?_
  refine go_seg 1 (pc' := 1) (ls' := [(0, .ref 1), (1, .int 7), (2, .int 2)]) (st' := [.int 7]) (w' := (fw z)) (cs' := 0) (ss' := 0) ?_ (fun _ _ => rfl)
  refine go_cl (k := 1) (st' := [.int 1]) (cs' := 0) (ss' := 0) rfl rfl rfl rfl rfl rfl rfl (ro_612 z) ?_
  refine go_seg 8 (pc' := 89) (ls' := [(0, .ref 1), (1, .int 7), (2, .int 2)]) (st' := [.int 100]) (w' := (fw z)) (cs' := 0) (ss' := 0) ?_ (fun _ _ => rfl)
  exact go_end 1 (fun _ _ => rfl)
theorem ro_1047 (z : pq_C) : pq_Ru 1 168 [.int 7, .int 2] (fw z) (some (.int 182), (fw z)) := by
  refine ru_of (k := 0) (M := pm_168) rfl rfl ?_
  exact go_end 8 (fun _ _ => rfl)
theorem ro_1048 (z : pq_C) : pq_Ru 3 169 [.ref 90, .int 7, .int 2] (fw z) (some (.int 100), (fw z)) := by
  refine ru_of (k := 2) (M := pm_169) rfl rfl ?_
  refine go_seg 1 (pc' := 1) (ls' := [(0, .ref 90), (1, .int 7), (2, .int 2)]) (st' := [.int 7]) (w' := (fw z)) (cs' := 0) (ss' := 0) ?_ (fun _ _ => rfl)
  refine go_cl (k := 2) (st' := [.int 1]) (cs' := 0) (ss' := 0) rfl rfl rfl rfl rfl rfl rfl (ro_982 z) ?_
  refine go_seg 5 (pc' := 13) (ls' := [(0, .ref 90), (1, .int 7), (2, .int 2)]) (st' := [.long 7, .long 0, .long 2]) (w' := (fw z)) (cs' := 0) (ss' := 0) ?_ (fun _ _ => rfl)
  refine go_cl (k := 2) (st' := [.int 1]) (cs' := 0) (ss' := 0) rfl rfl rfl rfl rfl rfl rfl (ro_951 z) ?_
  refine go_seg 8 (pc' := 37) (ls' := [(0, .ref 90), (1, .int 7), (2, .int 2)]) (st' := [.int 2, .int 7, .ref 91]) (w' := (fw z)) (cs' := 0) (ss' := 0) ?_ (fun _ _ => rfl)
  refine go_cl (k := 2) (st' := [.int 182, .ref 91]) (cs' := 0) (ss' := 0) rfl rfl rfl rfl rfl rfl rfl (ro_1047 z) ?_
  exact go_end 2 (fun _ _ => rfl)
theorem lf_4_1049 (a0 : Int32) (a3 : Int32) (a4 : Int32) (a5 : Int32) : ∃ w', pq_Go 20 pm_law 370 [(3, .int 0), (2, .ref 90), (1, .ref 1), (0, .ref 0)] [] (fw (sz a0 7 2 a3 a4 a5)) 109 12668 (some (.int 1), w') := by
  refine ⟨(fw (sz a0 7 2 a3 a4 a5)), ?_⟩
  refine go_seg 8 (pc' := 378) (ls' := [(3, .int 0), (2, .ref 90), (1, .ref 1), (0, .ref 0)]) (st' := [.int 0, .ref 0, .int 7, .ref 1]) (w' := (fw (sz a0 7 2 a3 a4 a5))) (cs' := 109) (ss' := 12668) ?_ (fun _ _ => rfl)
  refine go_seg 3 (pc' := 381) (ls' := [(3, .int 0), (2, .ref 90), (1, .ref 1), (0, .ref 0)]) (st' := [.int 2, .int 7, .ref 1]) (w' := (fw (sz a0 7 2 a3 a4 a5))) (cs' := 109) (ss' := 12668) ?_ (fun _ _ => rfl)
  refine go_cl (k := 20) (st' := [.int 100]) (cs' := 109) (ss' := 12668) rfl rfl rfl rfl rfl rfl rfl (ro_1046 (sz a0 7 2 a3 a4 a5)) ?_
  refine go_seg 8 (pc' := 392) (ls' := [(3, .int 0), (2, .ref 90), (1, .ref 1), (0, .ref 0)]) (st' := [.int 0, .ref 0, .int 7, .ref 90, .int 100]) (w' := (fw (sz a0 7 2 a3 a4 a5))) (cs' := 109) (ss' := 12668) ?_ (fun _ _ => rfl)
  refine go_seg 3 (pc' := 395) (ls' := [(3, .int 0), (2, .ref 90), (1, .ref 1), (0, .ref 0)]) (st' := [.int 2, .int 7, .ref 90, .int 100]) (w' := (fw (sz a0 7 2 a3 a4 a5))) (cs' := 109) (ss' := 12668) ?_ (fun _ _ => rfl)
  refine go_cl (k := 20) (st' := [.int 100, .int 100]) (cs' := 109) (ss' := 12668) rfl rfl rfl rfl rfl rfl rfl (ro_1048 (sz a0 7 2 a3 a4 a5)) ?_
  refine go_cmp true rfl (br_self _) ?_
  exact law_tail (f := sc a0 7 2 a3 a4 a5) rfl
theorem ro_1050 (z : pq_C) : pq_Ru 2 25 [.ref 1, .int 0, .int 3] (fw z) (some (.int 0), (fw z)) := by
  refine ru_of (k := 1) (M := pm_25) rfl rfl ?_
  refine go_seg 1 (pc' := 1) (ls' := [(0, .ref 1), (1, .int 0), (2, .int 3)]) (st' := [.int 0]) (w' := (fw z)) (cs' := 0) (ss' := 0) ?_ (fun _ _ => rfl)
  refine go_cl (k := 1) (st' := [.int 1]) (cs' := 0) (ss' := 0) rfl rfl rfl rfl rfl rfl rfl (ro_548 z) ?_
  refine go_seg 8 (pc' := 99) (ls' := [(0, .ref 1), (1, .int 0), (2, .int 3)]) (st' := [.int 0]) (w' := (fw z)) (cs' := 0) (ss' := 0) ?_ (fun _ _ => rfl)
  exact go_end 1 (fun _ _ => rfl)
theorem ro_1051 (z : pq_C) : pq_Ru 1 168 [.int 0, .int 3] (fw z) (some (.int 141), (fw z)) := by
  refine ru_of (k := 0) (M := pm_168) rfl rfl ?_
  exact go_end 8 (fun _ _ => rfl)
theorem ro_1052 (z : pq_C) : pq_Ru 3 169 [.ref 90, .int 0, .int 3] (fw z) (some (.int 0), (fw z)) := by
  refine ru_of (k := 2) (M := pm_169) rfl rfl ?_
  refine go_seg 1 (pc' := 1) (ls' := [(0, .ref 90), (1, .int 0), (2, .int 3)]) (st' := [.int 0]) (w' := (fw z)) (cs' := 0) (ss' := 0) ?_ (fun _ _ => rfl)
  refine go_cl (k := 2) (st' := [.int 1]) (cs' := 0) (ss' := 0) rfl rfl rfl rfl rfl rfl rfl (ro_940 z) ?_
  refine go_seg 5 (pc' := 13) (ls' := [(0, .ref 90), (1, .int 0), (2, .int 3)]) (st' := [.long 7, .long 0, .long 3]) (w' := (fw z)) (cs' := 0) (ss' := 0) ?_ (fun _ _ => rfl)
  refine go_cl (k := 2) (st' := [.int 1]) (cs' := 0) (ss' := 0) rfl rfl rfl rfl rfl rfl rfl (ro_957 z) ?_
  refine go_seg 8 (pc' := 37) (ls' := [(0, .ref 90), (1, .int 0), (2, .int 3)]) (st' := [.int 3, .int 0, .ref 91]) (w' := (fw z)) (cs' := 0) (ss' := 0) ?_ (fun _ _ => rfl)
  refine go_cl (k := 2) (st' := [.int 141, .ref 91]) (cs' := 0) (ss' := 0) rfl rfl rfl rfl rfl rfl rfl (ro_1051 z) ?_
  exact go_end 2 (fun _ _ => rfl)
theorem lf_4_1053 (a0 : Int32) (a3 : Int32) (a4 : Int32) (a5 : Int32) : ∃ w', pq_Go 20 pm_law 370 [(3, .int 0), (2, .ref 90), (1, .ref 1), (0, .ref 0)] [] (fw (sz a0 0 3 a3 a4 a5)) 109 12668 (some (.int 1), w') := by
  refine ⟨(fw (sz a0 0 3 a3 a4 a5)), ?_⟩
  refine go_seg 8 (pc' := 378) (ls' := [(3, .int 0), (2, .ref 90), (1, .ref 1), (0, .ref 0)]) (st' := [.int 0, .ref 0, .int 0, .ref 1]) (w' := (fw (sz a0 0 3 a3 a4 a5))) (cs' := 109) (ss' := 12668) ?_ (fun _ _ => rfl)
  refine go_seg 3 (pc' := 381) (ls' := [(3, .int 0), (2, .ref 90), (1, .ref 1), (0, .ref 0)]) (st' := [.int 3, .int 0, .ref 1]) (w' := (fw (sz a0 0 3 a3 a4 a5))) (cs' := 109) (ss' := 12668) ?_ (fun _ _ => rfl)
  refine go_cl (k := 20) (st' := [.int 0]) (cs' := 109) (ss' := 12668) rfl rfl rfl rfl rfl rfl rfl (ro_1050 (sz a0 0 3 a3 a4 a5)) ?_
  refine go_seg 8 (pc' := 392) (ls' := [(3, .int 0), (2, .ref 90), (1, .ref 1), (0, .ref 0)]) (st' := [.int 0, .ref 0, .int 0, .ref 90, .int 0]) (w' := (fw (sz a0 0 3 a3 a4 a5))) (cs' := 109) (ss' := 12668) ?_ (fun _ _ => rfl)
  refine go_seg 3 (pc' := 395) (ls' := [(3, .int 0), (2, .ref 90), (1, .ref 1), (0, .ref 0)]) (st' := [.int 3, .int 0, .ref 90, .int 0]) (w' := (fw (sz a0 0 3 a3 a4 a5))) (cs' := 109) (ss' := 12668) ?_ (fun _ _ => rfl)
  refine go_cl (k := 20) (st' := [.int 0, .int 0]) (cs' := 109) (ss' := 12668) rfl rfl rfl rfl rfl rfl rfl (ro_1052 (sz a0 0 3 a3 a4 a5)) ?_
  refine go_cmp true rfl (br_self _) ?_
  exact law_tail (f := sc a0 0 3 a3 a4 a5) rfl
theorem ro_1054 (z : pq_C) : pq_Ru 2 25 [.ref 1, .int 1, .int 3] (fw z) (some (.int 0), (fw z)) := by
  refine ru_of (k := 1) (M := pm_25) rfl rfl ?_
  refine go_seg 1 (pc' := 1) (ls' := [(0, .ref 1), (1, .int 1), (2, .int 3)]) (st' := [.int 1]) (w' := (fw z)) (cs' := 0) (ss' := 0) ?_ (fun _ _ => rfl)
  refine go_cl (k := 1) (st' := [.int 1]) (cs' := 0) (ss' := 0) rfl rfl rfl rfl rfl rfl rfl (ro_558 z) ?_
  refine go_seg 8 (pc' := 99) (ls' := [(0, .ref 1), (1, .int 1), (2, .int 3)]) (st' := [.int 0]) (w' := (fw z)) (cs' := 0) (ss' := 0) ?_ (fun _ _ => rfl)
  exact go_end 1 (fun _ _ => rfl)
theorem ro_1055 (z : pq_C) : pq_Ru 1 168 [.int 1, .int 3] (fw z) (some (.int 147), (fw z)) := by
  refine ru_of (k := 0) (M := pm_168) rfl rfl ?_
  exact go_end 8 (fun _ _ => rfl)
theorem ro_1056 (z : pq_C) : pq_Ru 3 169 [.ref 90, .int 1, .int 3] (fw z) (some (.int 0), (fw z)) := by
  refine ru_of (k := 2) (M := pm_169) rfl rfl ?_
  refine go_seg 1 (pc' := 1) (ls' := [(0, .ref 90), (1, .int 1), (2, .int 3)]) (st' := [.int 1]) (w' := (fw z)) (cs' := 0) (ss' := 0) ?_ (fun _ _ => rfl)
  refine go_cl (k := 2) (st' := [.int 1]) (cs' := 0) (ss' := 0) rfl rfl rfl rfl rfl rfl rfl (ro_946 z) ?_
  refine go_seg 5 (pc' := 13) (ls' := [(0, .ref 90), (1, .int 1), (2, .int 3)]) (st' := [.long 7, .long 0, .long 3]) (w' := (fw z)) (cs' := 0) (ss' := 0) ?_ (fun _ _ => rfl)
  refine go_cl (k := 2) (st' := [.int 1]) (cs' := 0) (ss' := 0) rfl rfl rfl rfl rfl rfl rfl (ro_957 z) ?_
  refine go_seg 8 (pc' := 37) (ls' := [(0, .ref 90), (1, .int 1), (2, .int 3)]) (st' := [.int 3, .int 1, .ref 91]) (w' := (fw z)) (cs' := 0) (ss' := 0) ?_ (fun _ _ => rfl)
  refine go_cl (k := 2) (st' := [.int 147, .ref 91]) (cs' := 0) (ss' := 0) rfl rfl rfl rfl rfl rfl rfl (ro_1055 z) ?_
  exact go_end 2 (fun _ _ => rfl)
theorem lf_4_1057 (a0 : Int32) (a3 : Int32) (a4 : Int32) (a5 : Int32) : ∃ w', pq_Go 20 pm_law 370 [(3, .int 0), (2, .ref 90), (1, .ref 1), (0, .ref 0)] [] (fw (sz a0 1 3 a3 a4 a5)) 109 12668 (some (.int 1), w') := by
  refine ⟨(fw (sz a0 1 3 a3 a4 a5)), ?_⟩
  refine go_seg 8 (pc' := 378) (ls' := [(3, .int 0), (2, .ref 90), (1, .ref 1), (0, .ref 0)]) (st' := [.int 0, .ref 0, .int 1, .ref 1]) (w' := (fw (sz a0 1 3 a3 a4 a5))) (cs' := 109) (ss' := 12668) ?_ (fun _ _ => rfl)
  refine go_seg 3 (pc' := 381) (ls' := [(3, .int 0), (2, .ref 90), (1, .ref 1), (0, .ref 0)]) (st' := [.int 3, .int 1, .ref 1]) (w' := (fw (sz a0 1 3 a3 a4 a5))) (cs' := 109) (ss' := 12668) ?_ (fun _ _ => rfl)
  refine go_cl (k := 20) (st' := [.int 0]) (cs' := 109) (ss' := 12668) rfl rfl rfl rfl rfl rfl rfl (ro_1054 (sz a0 1 3 a3 a4 a5)) ?_
  refine go_seg 8 (pc' := 392) (ls' := [(3, .int 0), (2, .ref 90), (1, .ref 1), (0, .ref 0)]) (st' := [.int 0, .ref 0, .int 1, .ref 90, .int 0]) (w' := (fw (sz a0 1 3 a3 a4 a5))) (cs' := 109) (ss' := 12668) ?_ (fun _ _ => rfl)
  refine go_seg 3 (pc' := 395) (ls' := [(3, .int 0), (2, .ref 90), (1, .ref 1), (0, .ref 0)]) (st' := [.int 3, .int 1, .ref 90, .int 0]) (w' := (fw (sz a0 1 3 a3 a4 a5))) (cs' := 109) (ss' := 12668) ?_ (fun _ _ => rfl)
  refine go_cl (k := 20) (st' := [.int 0, .int 0]) (cs' := 109) (ss' := 12668) rfl rfl rfl rfl rfl rfl rfl (ro_1056 (sz a0 1 3 a3 a4 a5)) ?_
  refine go_cmp true rfl (br_self _) ?_
  exact law_tail (f := sc a0 1 3 a3 a4 a5) rfl
theorem ro_1058 (z : pq_C) : pq_Ru 2 25 [.ref 1, .int 2, .int 3] (fw z) (some (.int 0), (fw z)) := by
  refine ru_of (k := 1) (M := pm_25) rfl rfl ?_
  refine go_seg 1 (pc' := 1) (ls' := [(0, .ref 1), (1, .int 2), (2, .int 3)]) (st' := [.int 2]) (w' := (fw z)) (cs' := 0) (ss' := 0) ?_ (fun _ _ => rfl)
  refine go_cl (k := 1) (st' := [.int 1]) (cs' := 0) (ss' := 0) rfl rfl rfl rfl rfl rfl rfl (ro_567 z) ?_
  refine go_seg 8 (pc' := 99) (ls' := [(0, .ref 1), (1, .int 2), (2, .int 3)]) (st' := [.int 0]) (w' := (fw z)) (cs' := 0) (ss' := 0) ?_ (fun _ _ => rfl)
  exact go_end 1 (fun _ _ => rfl)
theorem ro_1059 (z : pq_C) : pq_Ru 1 168 [.int 2, .int 3] (fw z) (some (.int 153), (fw z)) := by
  refine ru_of (k := 0) (M := pm_168) rfl rfl ?_
  exact go_end 8 (fun _ _ => rfl)
theorem ro_1060 (z : pq_C) : pq_Ru 3 169 [.ref 90, .int 2, .int 3] (fw z) (some (.int 0), (fw z)) := by
  refine ru_of (k := 2) (M := pm_169) rfl rfl ?_
  refine go_seg 1 (pc' := 1) (ls' := [(0, .ref 90), (1, .int 2), (2, .int 3)]) (st' := [.int 2]) (w' := (fw z)) (cs' := 0) (ss' := 0) ?_ (fun _ _ => rfl)
  refine go_cl (k := 2) (st' := [.int 1]) (cs' := 0) (ss' := 0) rfl rfl rfl rfl rfl rfl rfl (ro_952 z) ?_
  refine go_seg 5 (pc' := 13) (ls' := [(0, .ref 90), (1, .int 2), (2, .int 3)]) (st' := [.long 7, .long 0, .long 3]) (w' := (fw z)) (cs' := 0) (ss' := 0) ?_ (fun _ _ => rfl)
  refine go_cl (k := 2) (st' := [.int 1]) (cs' := 0) (ss' := 0) rfl rfl rfl rfl rfl rfl rfl (ro_957 z) ?_
  refine go_seg 8 (pc' := 37) (ls' := [(0, .ref 90), (1, .int 2), (2, .int 3)]) (st' := [.int 3, .int 2, .ref 91]) (w' := (fw z)) (cs' := 0) (ss' := 0) ?_ (fun _ _ => rfl)
  refine go_cl (k := 2) (st' := [.int 153, .ref 91]) (cs' := 0) (ss' := 0) rfl rfl rfl rfl rfl rfl rfl (ro_1059 z) ?_
  exact go_end 2 (fun _ _ => rfl)
theorem lf_4_1061 (a0 : Int32) (a3 : Int32) (a4 : Int32) (a5 : Int32) : ∃ w', pq_Go 20 pm_law 370 [(3, .int 0), (2, .ref 90), (1, .ref 1), (0, .ref 0)] [] (fw (sz a0 2 3 a3 a4 a5)) 109 12668 (some (.int 1), w') := by
  refine ⟨(fw (sz a0 2 3 a3 a4 a5)), ?_⟩
  refine go_seg 8 (pc' := 378) (ls' := [(3, .int 0), (2, .ref 90), (1, .ref 1), (0, .ref 0)]) (st' := [.int 0, .ref 0, .int 2, .ref 1]) (w' := (fw (sz a0 2 3 a3 a4 a5))) (cs' := 109) (ss' := 12668) ?_ (fun _ _ => rfl)
  refine go_seg 3 (pc' := 381) (ls' := [(3, .int 0), (2, .ref 90), (1, .ref 1), (0, .ref 0)]) (st' := [.int 3, .int 2, .ref 1]) (w' := (fw (sz a0 2 3 a3 a4 a5))) (cs' := 109) (ss' := 12668) ?_ (fun _ _ => rfl)
  refine go_cl (k := 20) (st' := [.int 0]) (cs' := 109) (ss' := 12668) rfl rfl rfl rfl rfl rfl rfl (ro_1058 (sz a0 2 3 a3 a4 a5)) ?_
  refine go_seg 8 (pc' := 392) (ls' := [(3, .int 0), (2, .ref 90), (1, .ref 1), (0, .ref 0)]) (st' := [.int 0, .ref 0, .int 2, .ref 90, .int 0]) (w' := (fw (sz a0 2 3 a3 a4 a5))) (cs' := 109) (ss' := 12668) ?_ (fun _ _ => rfl)
  refine go_seg 3 (pc' := 395) (ls' := [(3, .int 0), (2, .ref 90), (1, .ref 1), (0, .ref 0)]) (st' := [.int 3, .int 2, .ref 90, .int 0]) (w' := (fw (sz a0 2 3 a3 a4 a5))) (cs' := 109) (ss' := 12668) ?_ (fun _ _ => rfl)
  refine go_cl (k := 20) (st' := [.int 0, .int 0]) (cs' := 109) (ss' := 12668) rfl rfl rfl rfl rfl rfl rfl (ro_1060 (sz a0 2 3 a3 a4 a5)) ?_
  refine go_cmp true rfl (br_self _) ?_
  exact law_tail (f := sc a0 2 3 a3 a4 a5) rfl
theorem ro_1062 (z : pq_C) : pq_Ru 2 25 [.ref 1, .int 3, .int 3] (fw z) (some (.int 0), (fw z)) := by
  refine ru_of (k := 1) (M := pm_25) rfl rfl ?_
  refine go_seg 1 (pc' := 1) (ls' := [(0, .ref 1), (1, .int 3), (2, .int 3)]) (st' := [.int 3]) (w' := (fw z)) (cs' := 0) (ss' := 0) ?_ (fun _ _ => rfl)
  refine go_cl (k := 1) (st' := [.int 1]) (cs' := 0) (ss' := 0) rfl rfl rfl rfl rfl rfl rfl (ro_576 z) ?_
  refine go_seg 8 (pc' := 99) (ls' := [(0, .ref 1), (1, .int 3), (2, .int 3)]) (st' := [.int 0]) (w' := (fw z)) (cs' := 0) (ss' := 0) ?_ (fun _ _ => rfl)
  exact go_end 1 (fun _ _ => rfl)
theorem ro_1063 (z : pq_C) : pq_Ru 1 168 [.int 3, .int 3] (fw z) (some (.int 159), (fw z)) := by
  refine ru_of (k := 0) (M := pm_168) rfl rfl ?_
  exact go_end 8 (fun _ _ => rfl)
theorem ro_1064 (z : pq_C) : pq_Ru 3 169 [.ref 90, .int 3, .int 3] (fw z) (some (.int 0), (fw z)) := by
  refine ru_of (k := 2) (M := pm_169) rfl rfl ?_
  refine go_seg 1 (pc' := 1) (ls' := [(0, .ref 90), (1, .int 3), (2, .int 3)]) (st' := [.int 3]) (w' := (fw z)) (cs' := 0) (ss' := 0) ?_ (fun _ _ => rfl)
  refine go_cl (k := 2) (st' := [.int 1]) (cs' := 0) (ss' := 0) rfl rfl rfl rfl rfl rfl rfl (ro_958 z) ?_
  refine go_seg 5 (pc' := 13) (ls' := [(0, .ref 90), (1, .int 3), (2, .int 3)]) (st' := [.long 7, .long 0, .long 3]) (w' := (fw z)) (cs' := 0) (ss' := 0) ?_ (fun _ _ => rfl)
  refine go_cl (k := 2) (st' := [.int 1]) (cs' := 0) (ss' := 0) rfl rfl rfl rfl rfl rfl rfl (ro_957 z) ?_
  refine go_seg 8 (pc' := 37) (ls' := [(0, .ref 90), (1, .int 3), (2, .int 3)]) (st' := [.int 3, .int 3, .ref 91]) (w' := (fw z)) (cs' := 0) (ss' := 0) ?_ (fun _ _ => rfl)
  refine go_cl (k := 2) (st' := [.int 159, .ref 91]) (cs' := 0) (ss' := 0) rfl rfl rfl rfl rfl rfl rfl (ro_1063 z) ?_
  exact go_end 2 (fun _ _ => rfl)
theorem lf_4_1065 (a0 : Int32) (a3 : Int32) (a4 : Int32) (a5 : Int32) : ∃ w', pq_Go 20 pm_law 370 [(3, .int 0), (2, .ref 90), (1, .ref 1), (0, .ref 0)] [] (fw (sz a0 3 3 a3 a4 a5)) 109 12668 (some (.int 1), w') := by
  refine ⟨(fw (sz a0 3 3 a3 a4 a5)), ?_⟩
  refine go_seg 8 (pc' := 378) (ls' := [(3, .int 0), (2, .ref 90), (1, .ref 1), (0, .ref 0)]) (st' := [.int 0, .ref 0, .int 3, .ref 1]) (w' := (fw (sz a0 3 3 a3 a4 a5))) (cs' := 109) (ss' := 12668) ?_ (fun _ _ => rfl)
  refine go_seg 3 (pc' := 381) (ls' := [(3, .int 0), (2, .ref 90), (1, .ref 1), (0, .ref 0)]) (st' := [.int 3, .int 3, .ref 1]) (w' := (fw (sz a0 3 3 a3 a4 a5))) (cs' := 109) (ss' := 12668) ?_ (fun _ _ => rfl)
  refine go_cl (k := 20) (st' := [.int 0]) (cs' := 109) (ss' := 12668) rfl rfl rfl rfl rfl rfl rfl (ro_1062 (sz a0 3 3 a3 a4 a5)) ?_
  refine go_seg 8 (pc' := 392) (ls' := [(3, .int 0), (2, .ref 90), (1, .ref 1), (0, .ref 0)]) (st' := [.int 0, .ref 0, .int 3, .ref 90, .int 0]) (w' := (fw (sz a0 3 3 a3 a4 a5))) (cs' := 109) (ss' := 12668) ?_ (fun _ _ => rfl)
  refine go_seg 3 (pc' := 395) (ls' := [(3, .int 0), (2, .ref 90), (1, .ref 1), (0, .ref 0)]) (st' := [.int 3, .int 3, .ref 90, .int 0]) (w' := (fw (sz a0 3 3 a3 a4 a5))) (cs' := 109) (ss' := 12668) ?_ (fun _ _ => rfl)
  refine go_cl (k := 20) (st' := [.int 0, .int 0]) (cs' := 109) (ss' := 12668) rfl rfl rfl rfl rfl rfl rfl (ro_1064 (sz a0 3 3 a3 a4 a5)) ?_
  refine go_cmp true rfl (br_self _) ?_
  exact law_tail (f := sc a0 3 3 a3 a4 a5) rfl
theorem ro_1066 (z : pq_C) : pq_Ru 2 25 [.ref 1, .int 4, .int 3] (fw z) (some (.int 0), (fw z)) := by
  refine ru_of (k := 1) (M := pm_25) rfl rfl ?_
  refine go_seg 1 (pc' := 1) (ls' := [(0, .ref 1), (1, .int 4), (2, .int 3)]) (st' := [.int 4]) (w' := (fw z)) (cs' := 0) (ss' := 0) ?_ (fun _ _ => rfl)
  refine go_cl (k := 1) (st' := [.int 1]) (cs' := 0) (ss' := 0) rfl rfl rfl rfl rfl rfl rfl (ro_585 z) ?_
  refine go_seg 8 (pc' := 99) (ls' := [(0, .ref 1), (1, .int 4), (2, .int 3)]) (st' := [.int 0]) (w' := (fw z)) (cs' := 0) (ss' := 0) ?_ (fun _ _ => rfl)
  exact go_end 1 (fun _ _ => rfl)
theorem ro_1067 (z : pq_C) : pq_Ru 1 168 [.int 4, .int 3] (fw z) (some (.int 165), (fw z)) := by
  refine ru_of (k := 0) (M := pm_168) rfl rfl ?_
  exact go_end 8 (fun _ _ => rfl)
theorem ro_1068 (z : pq_C) : pq_Ru 3 169 [.ref 90, .int 4, .int 3] (fw z) (some (.int 0), (fw z)) := by
  refine ru_of (k := 2) (M := pm_169) rfl rfl ?_
  refine go_seg 1 (pc' := 1) (ls' := [(0, .ref 90), (1, .int 4), (2, .int 3)]) (st' := [.int 4]) (w' := (fw z)) (cs' := 0) (ss' := 0) ?_ (fun _ _ => rfl)
  refine go_cl (k := 2) (st' := [.int 1]) (cs' := 0) (ss' := 0) rfl rfl rfl rfl rfl rfl rfl (ro_964 z) ?_
  refine go_seg 5 (pc' := 13) (ls' := [(0, .ref 90), (1, .int 4), (2, .int 3)]) (st' := [.long 7, .long 0, .long 3]) (w' := (fw z)) (cs' := 0) (ss' := 0) ?_ (fun _ _ => rfl)
  refine go_cl (k := 2) (st' := [.int 1]) (cs' := 0) (ss' := 0) rfl rfl rfl rfl rfl rfl rfl (ro_957 z) ?_
  refine go_seg 8 (pc' := 37) (ls' := [(0, .ref 90), (1, .int 4), (2, .int 3)]) (st' := [.int 3, .int 4, .ref 91]) (w' := (fw z)) (cs' := 0) (ss' := 0) ?_ (fun _ _ => rfl)
  refine go_cl (k := 2) (st' := [.int 165, .ref 91]) (cs' := 0) (ss' := 0) rfl rfl rfl rfl rfl rfl rfl (ro_1067 z) ?_
  exact go_end 2 (fun _ _ => rfl)
theorem lf_4_1069 (a0 : Int32) (a3 : Int32) (a4 : Int32) (a5 : Int32) : ∃ w', pq_Go 20 pm_law 370 [(3, .int 0), (2, .ref 90), (1, .ref 1), (0, .ref 0)] [] (fw (sz a0 4 3 a3 a4 a5)) 109 12668 (some (.int 1), w') := by
  refine ⟨(fw (sz a0 4 3 a3 a4 a5)), ?_⟩
  refine go_seg 8 (pc' := 378) (ls' := [(3, .int 0), (2, .ref 90), (1, .ref 1), (0, .ref 0)]) (st' := [.int 0, .ref 0, .int 4, .ref 1]) (w' := (fw (sz a0 4 3 a3 a4 a5))) (cs' := 109) (ss' := 12668) ?_ (fun _ _ => rfl)
  refine go_seg 3 (pc' := 381) (ls' := [(3, .int 0), (2, .ref 90), (1, .ref 1), (0, .ref 0)]) (st' := [.int 3, .int 4, .ref 1]) (w' := (fw (sz a0 4 3 a3 a4 a5))) (cs' := 109) (ss' := 12668) ?_ (fun _ _ => rfl)
  refine go_cl (k := 20) (st' := [.int 0]) (cs' := 109) (ss' := 12668) rfl rfl rfl rfl rfl rfl rfl (ro_1066 (sz a0 4 3 a3 a4 a5)) ?_
  refine go_seg 8 (pc' := 392) (ls' := [(3, .int 0), (2, .ref 90), (1, .ref 1), (0, .ref 0)]) (st' := [.int 0, .ref 0, .int 4, .ref 90, .int 0]) (w' := (fw (sz a0 4 3 a3 a4 a5))) (cs' := 109) (ss' := 12668) ?_ (fun _ _ => rfl)
  refine go_seg 3 (pc' := 395) (ls' := [(3, .int 0), (2, .ref 90), (1, .ref 1), (0, .ref 0)]) (st' := [.int 3, .int 4, .ref 90, .int 0]) (w' := (fw (sz a0 4 3 a3 a4 a5))) (cs' := 109) (ss' := 12668) ?_ (fun _ _ => rfl)
  refine go_cl (k := 20) (st' := [.int 0, .int 0]) (cs' := 109) (ss' := 12668) rfl rfl rfl rfl rfl rfl rfl (ro_1068 (sz a0 4 3 a3 a4 a5)) ?_
  refine go_cmp true rfl (br_self _) ?_
  exact law_tail (f := sc a0 4 3 a3 a4 a5) rfl
theorem ro_1070 (z : pq_C) : pq_Ru 2 25 [.ref 1, .int 5, .int 3] (fw z) (some (.int 0), (fw z)) := by
  refine ru_of (k := 1) (M := pm_25) rfl rfl ?_
  refine go_seg 1 (pc' := 1) (ls' := [(0, .ref 1), (1, .int 5), (2, .int 3)]) (st' := [.int 5]) (w' := (fw z)) (cs' := 0) (ss' := 0) ?_ (fun _ _ => rfl)
  refine go_cl (k := 1) (st' := [.int 1]) (cs' := 0) (ss' := 0) rfl rfl rfl rfl rfl rfl rfl (ro_594 z) ?_
  refine go_seg 8 (pc' := 99) (ls' := [(0, .ref 1), (1, .int 5), (2, .int 3)]) (st' := [.int 0]) (w' := (fw z)) (cs' := 0) (ss' := 0) ?_ (fun _ _ => rfl)
  exact go_end 1 (fun _ _ => rfl)
theorem ro_1071 (z : pq_C) : pq_Ru 1 168 [.int 5, .int 3] (fw z) (some (.int 171), (fw z)) := by
  refine ru_of (k := 0) (M := pm_168) rfl rfl ?_
  exact go_end 8 (fun _ _ => rfl)
theorem ro_1072 (z : pq_C) : pq_Ru 3 169 [.ref 90, .int 5, .int 3] (fw z) (some (.int 0), (fw z)) := by
  refine ru_of (k := 2) (M := pm_169) rfl rfl ?_
  refine go_seg 1 (pc' := 1) (ls' := [(0, .ref 90), (1, .int 5), (2, .int 3)]) (st' := [.int 5]) (w' := (fw z)) (cs' := 0) (ss' := 0) ?_ (fun _ _ => rfl)
  refine go_cl (k := 2) (st' := [.int 1]) (cs' := 0) (ss' := 0) rfl rfl rfl rfl rfl rfl rfl (ro_970 z) ?_
  refine go_seg 5 (pc' := 13) (ls' := [(0, .ref 90), (1, .int 5), (2, .int 3)]) (st' := [.long 7, .long 0, .long 3]) (w' := (fw z)) (cs' := 0) (ss' := 0) ?_ (fun _ _ => rfl)
  refine go_cl (k := 2) (st' := [.int 1]) (cs' := 0) (ss' := 0) rfl rfl rfl rfl rfl rfl rfl (ro_957 z) ?_
  refine go_seg 8 (pc' := 37) (ls' := [(0, .ref 90), (1, .int 5), (2, .int 3)]) (st' := [.int 3, .int 5, .ref 91]) (w' := (fw z)) (cs' := 0) (ss' := 0) ?_ (fun _ _ => rfl)
  refine go_cl (k := 2) (st' := [.int 171, .ref 91]) (cs' := 0) (ss' := 0) rfl rfl rfl rfl rfl rfl rfl (ro_1071 z) ?_
  exact go_end 2 (fun _ _ => rfl)
theorem lf_4_1073 (a0 : Int32) (a3 : Int32) (a4 : Int32) (a5 : Int32) : ∃ w', pq_Go 20 pm_law 370 [(3, .int 0), (2, .ref 90), (1, .ref 1), (0, .ref 0)] [] (fw (sz a0 5 3 a3 a4 a5)) 109 12668 (some (.int 1), w') := by
  refine ⟨(fw (sz a0 5 3 a3 a4 a5)), ?_⟩
  refine go_seg 8 (pc' := 378) (ls' := [(3, .int 0), (2, .ref 90), (1, .ref 1), (0, .ref 0)]) (st' := [.int 0, .ref 0, .int 5, .ref 1]) (w' := (fw (sz a0 5 3 a3 a4 a5))) (cs' := 109) (ss' := 12668) ?_ (fun _ _ => rfl)
  refine go_seg 3 (pc' := 381) (ls' := [(3, .int 0), (2, .ref 90), (1, .ref 1), (0, .ref 0)]) (st' := [.int 3, .int 5, .ref 1]) (w' := (fw (sz a0 5 3 a3 a4 a5))) (cs' := 109) (ss' := 12668) ?_ (fun _ _ => rfl)
  refine go_cl (k := 20) (st' := [.int 0]) (cs' := 109) (ss' := 12668) rfl rfl rfl rfl rfl rfl rfl (ro_1070 (sz a0 5 3 a3 a4 a5)) ?_
  refine go_seg 8 (pc' := 392) (ls' := [(3, .int 0), (2, .ref 90), (1, .ref 1), (0, .ref 0)]) (st' := [.int 0, .ref 0, .int 5, .ref 90, .int 0]) (w' := (fw (sz a0 5 3 a3 a4 a5))) (cs' := 109) (ss' := 12668) ?_ (fun _ _ => rfl)
  refine go_seg 3 (pc' := 395) (ls' := [(3, .int 0), (2, .ref 90), (1, .ref 1), (0, .ref 0)]) (st' := [.int 3, .int 5, .ref 90, .int 0]) (w' := (fw (sz a0 5 3 a3 a4 a5))) (cs' := 109) (ss' := 12668) ?_ (fun _ _ => rfl)
  refine go_cl (k := 20) (st' := [.int 0, .int 0]) (cs' := 109) (ss' := 12668) rfl rfl rfl rfl rfl rfl rfl (ro_1072 (sz a0 5 3 a3 a4 a5)) ?_
  refine go_cmp true rfl (br_self _) ?_
  exact law_tail (f := sc a0 5 3 a3 a4 a5) rfl
theorem ro_1074 (z : pq_C) : pq_Ru 2 25 [.ref 1, .int 6, .int 3] (fw z) (some (.int 0), (fw z)) := by
  refine ru_of (k := 1) (M := pm_25) rfl rfl ?_
  refine go_seg 1 (pc' := 1) (ls' := [(0, .ref 1), (1, .int 6), (2, .int 3)]) (st' := [.int 6]) (w' := (fw z)) (cs' := 0) (ss' := 0) ?_ (fun _ _ => rfl)
  refine go_cl (k := 1) (st' := [.int 1]) (cs' := 0) (ss' := 0) rfl rfl rfl rfl rfl rfl rfl (ro_603 z) ?_
  refine go_seg 8 (pc' := 99) (ls' := [(0, .ref 1), (1, .int 6), (2, .int 3)]) (st' := [.int 0]) (w' := (fw z)) (cs' := 0) (ss' := 0) ?_ (fun _ _ => rfl)
  exact go_end 1 (fun _ _ => rfl)
theorem ro_1075 (z : pq_C) : pq_Ru 1 168 [.int 6, .int 3] (fw z) (some (.int 177), (fw z)) := by
  refine ru_of (k := 0) (M := pm_168) rfl rfl ?_
  exact go_end 8 (fun _ _ => rfl)
theorem ro_1076 (z : pq_C) : pq_Ru 3 169 [.ref 90, .int 6, .int 3] (fw z) (some (.int 0), (fw z)) := by
  refine ru_of (k := 2) (M := pm_169) rfl rfl ?_
  refine go_seg 1 (pc' := 1) (ls' := [(0, .ref 90), (1, .int 6), (2, .int 3)]) (st' := [.int 6]) (w' := (fw z)) (cs' := 0) (ss' := 0) ?_ (fun _ _ => rfl)
  refine go_cl (k := 2) (st' := [.int 1]) (cs' := 0) (ss' := 0) rfl rfl rfl rfl rfl rfl rfl (ro_976 z) ?_
  refine go_seg 5 (pc' := 13) (ls' := [(0, .ref 90), (1, .int 6), (2, .int 3)]) (st' := [.long 7, .long 0, .long 3]) (w' := (fw z)) (cs' := 0) (ss' := 0) ?_ (fun _ _ => rfl)
  refine go_cl (k := 2) (st' := [.int 1]) (cs' := 0) (ss' := 0) rfl rfl rfl rfl rfl rfl rfl (ro_957 z) ?_
  refine go_seg 8 (pc' := 37) (ls' := [(0, .ref 90), (1, .int 6), (2, .int 3)]) (st' := [.int 3, .int 6, .ref 91]) (w' := (fw z)) (cs' := 0) (ss' := 0) ?_ (fun _ _ => rfl)
  refine go_cl (k := 2) (st' := [.int 177, .ref 91]) (cs' := 0) (ss' := 0) rfl rfl rfl rfl rfl rfl rfl (ro_1075 z) ?_
  exact go_end 2 (fun _ _ => rfl)
theorem lf_4_1077 (a0 : Int32) (a3 : Int32) (a4 : Int32) (a5 : Int32) : ∃ w', pq_Go 20 pm_law 370 [(3, .int 0), (2, .ref 90), (1, .ref 1), (0, .ref 0)] [] (fw (sz a0 6 3 a3 a4 a5)) 109 12668 (some (.int 1), w') := by
  refine ⟨(fw (sz a0 6 3 a3 a4 a5)), ?_⟩
  refine go_seg 8 (pc' := 378) (ls' := [(3, .int 0), (2, .ref 90), (1, .ref 1), (0, .ref 0)]) (st' := [.int 0, .ref 0, .int 6, .ref 1]) (w' := (fw (sz a0 6 3 a3 a4 a5))) (cs' := 109) (ss' := 12668) ?_ (fun _ _ => rfl)
  refine go_seg 3 (pc' := 381) (ls' := [(3, .int 0), (2, .ref 90), (1, .ref 1), (0, .ref 0)]) (st' := [.int 3, .int 6, .ref 1]) (w' := (fw (sz a0 6 3 a3 a4 a5))) (cs' := 109) (ss' := 12668) ?_ (fun _ _ => rfl)
  refine go_cl (k := 20) (st' := [.int 0]) (cs' := 109) (ss' := 12668) rfl rfl rfl rfl rfl rfl rfl (ro_1074 (sz a0 6 3 a3 a4 a5)) ?_
  refine go_seg 8 (pc' := 392) (ls' := [(3, .int 0), (2, .ref 90), (1, .ref 1), (0, .ref 0)]) (st' := [.int 0, .ref 0, .int 6, .ref 90, .int 0]) (w' := (fw (sz a0 6 3 a3 a4 a5))) (cs' := 109) (ss' := 12668) ?_ (fun _ _ => rfl)
  refine go_seg 3 (pc' := 395) (ls' := [(3, .int 0), (2, .ref 90), (1, .ref 1), (0, .ref 0)]) (st' := [.int 3, .int 6, .ref 90, .int 0]) (w' := (fw (sz a0 6 3 a3 a4 a5))) (cs' := 109) (ss' := 12668) ?_ (fun _ _ => rfl)
  refine go_cl (k := 20) (st' := [.int 0, .int 0]) (cs' := 109) (ss' := 12668) rfl rfl rfl rfl rfl rfl rfl (ro_1076 (sz a0 6 3 a3 a4 a5)) ?_
  refine go_cmp true rfl (br_self _) ?_
  exact law_tail (f := sc a0 6 3 a3 a4 a5) rfl
theorem ro_1078 (z : pq_C) : pq_Ru 2 25 [.ref 1, .int 7, .int 3] (fw z) (some (.int 0), (fw z)) := by
  refine ru_of (k := 1) (M := pm_25) rfl rfl ?_
  refine go_seg 1 (pc' := 1) (ls' := [(0, .ref 1), (1, .int 7), (2, .int 3)]) (st' := [.int 7]) (w' := (fw z)) (cs' := 0) (ss' := 0) ?_ (fun _ _ => rfl)
  refine go_cl (k := 1) (st' := [.int 1]) (cs' := 0) (ss' := 0) rfl rfl rfl rfl rfl rfl rfl (ro_612 z) ?_
  refine go_seg 8 (pc' := 99) (ls' := [(0, .ref 1), (1, .int 7), (2, .int 3)]) (st' := [.int 0]) (w' := (fw z)) (cs' := 0) (ss' := 0) ?_ (fun _ _ => rfl)
  exact go_end 1 (fun _ _ => rfl)
theorem ro_1079 (z : pq_C) : pq_Ru 1 168 [.int 7, .int 3] (fw z) (some (.int 183), (fw z)) := by
  refine ru_of (k := 0) (M := pm_168) rfl rfl ?_
  exact go_end 8 (fun _ _ => rfl)
theorem ro_1080 (z : pq_C) : pq_Ru 3 169 [.ref 90, .int 7, .int 3] (fw z) (some (.int 0), (fw z)) := by
  refine ru_of (k := 2) (M := pm_169) rfl rfl ?_
  refine go_seg 1 (pc' := 1) (ls' := [(0, .ref 90), (1, .int 7), (2, .int 3)]) (st' := [.int 7]) (w' := (fw z)) (cs' := 0) (ss' := 0) ?_ (fun _ _ => rfl)
  refine go_cl (k := 2) (st' := [.int 1]) (cs' := 0) (ss' := 0) rfl rfl rfl rfl rfl rfl rfl (ro_982 z) ?_
  refine go_seg 5 (pc' := 13) (ls' := [(0, .ref 90), (1, .int 7), (2, .int 3)]) (st' := [.long 7, .long 0, .long 3]) (w' := (fw z)) (cs' := 0) (ss' := 0) ?_ (fun _ _ => rfl)
  refine go_cl (k := 2) (st' := [.int 1]) (cs' := 0) (ss' := 0) rfl rfl rfl rfl rfl rfl rfl (ro_957 z) ?_
  refine go_seg 8 (pc' := 37) (ls' := [(0, .ref 90), (1, .int 7), (2, .int 3)]) (st' := [.int 3, .int 7, .ref 91]) (w' := (fw z)) (cs' := 0) (ss' := 0) ?_ (fun _ _ => rfl)
  refine go_cl (k := 2) (st' := [.int 183, .ref 91]) (cs' := 0) (ss' := 0) rfl rfl rfl rfl rfl rfl rfl (ro_1079 z) ?_
  exact go_end 2 (fun _ _ => rfl)
theorem lf_4_1081 (a0 : Int32) (a3 : Int32) (a4 : Int32) (a5 : Int32) : ∃ w', pq_Go 20 pm_law 370 [(3, .int 0), (2, .ref 90), (1, .ref 1), (0, .ref 0)] [] (fw (sz a0 7 3 a3 a4 a5)) 109 12668 (some (.int 1), w') := by
  refine ⟨(fw (sz a0 7 3 a3 a4 a5)), ?_⟩
  refine go_seg 8 (pc' := 378) (ls' := [(3, .int 0), (2, .ref 90), (1, .ref 1), (0, .ref 0)]) (st' := [.int 0, .ref 0, .int 7, .ref 1]) (w' := (fw (sz a0 7 3 a3 a4 a5))) (cs' := 109) (ss' := 12668) ?_ (fun _ _ => rfl)
  refine go_seg 3 (pc' := 381) (ls' := [(3, .int 0), (2, .ref 90), (1, .ref 1), (0, .ref 0)]) (st' := [.int 3, .int 7, .ref 1]) (w' := (fw (sz a0 7 3 a3 a4 a5))) (cs' := 109) (ss' := 12668) ?_ (fun _ _ => rfl)
  refine go_cl (k := 20) (st' := [.int 0]) (cs' := 109) (ss' := 12668) rfl rfl rfl rfl rfl rfl rfl (ro_1078 (sz a0 7 3 a3 a4 a5)) ?_
  refine go_seg 8 (pc' := 392) (ls' := [(3, .int 0), (2, .ref 90), (1, .ref 1), (0, .ref 0)]) (st' := [.int 0, .ref 0, .int 7, .ref 90, .int 0]) (w' := (fw (sz a0 7 3 a3 a4 a5))) (cs' := 109) (ss' := 12668) ?_ (fun _ _ => rfl)
  refine go_seg 3 (pc' := 395) (ls' := [(3, .int 0), (2, .ref 90), (1, .ref 1), (0, .ref 0)]) (st' := [.int 3, .int 7, .ref 90, .int 0]) (w' := (fw (sz a0 7 3 a3 a4 a5))) (cs' := 109) (ss' := 12668) ?_ (fun _ _ => rfl)
  refine go_cl (k := 20) (st' := [.int 0, .int 0]) (cs' := 109) (ss' := 12668) rfl rfl rfl rfl rfl rfl rfl (ro_1080 (sz a0 7 3 a3 a4 a5)) ?_
  refine go_cmp true rfl (br_self _) ?_
  exact law_tail (f := sc a0 7 3 a3 a4 a5) rfl
theorem ro_1082 (z : pq_C) : pq_Ru 2 25 [.ref 1, .int 0, .int 4] (fw z) (some (.int 0), (fw z)) := by
  refine ru_of (k := 1) (M := pm_25) rfl rfl ?_
  refine go_seg 1 (pc' := 1) (ls' := [(0, .ref 1), (1, .int 0), (2, .int 4)]) (st' := [.int 0]) (w' := (fw z)) (cs' := 0) (ss' := 0) ?_ (fun _ _ => rfl)
  refine go_cl (k := 1) (st' := [.int 1]) (cs' := 0) (ss' := 0) rfl rfl rfl rfl rfl rfl rfl (ro_548 z) ?_
  refine go_seg 8 (pc' := 109) (ls' := [(0, .ref 1), (1, .int 0), (2, .int 4)]) (st' := [.int 0]) (w' := (fw z)) (cs' := 0) (ss' := 0) ?_ (fun _ _ => rfl)
  exact go_end 1 (fun _ _ => rfl)
theorem ro_1083 (z : pq_C) : pq_Ru 1 168 [.int 0, .int 4] (fw z) (some (.int 142), (fw z)) := by
  refine ru_of (k := 0) (M := pm_168) rfl rfl ?_
  exact go_end 8 (fun _ _ => rfl)
theorem ro_1084 (z : pq_C) : pq_Ru 3 169 [.ref 90, .int 0, .int 4] (fw z) (some (.int 0), (fw z)) := by
  refine ru_of (k := 2) (M := pm_169) rfl rfl ?_
  refine go_seg 1 (pc' := 1) (ls' := [(0, .ref 90), (1, .int 0), (2, .int 4)]) (st' := [.int 0]) (w' := (fw z)) (cs' := 0) (ss' := 0) ?_ (fun _ _ => rfl)
  refine go_cl (k := 2) (st' := [.int 1]) (cs' := 0) (ss' := 0) rfl rfl rfl rfl rfl rfl rfl (ro_940 z) ?_
  refine go_seg 5 (pc' := 13) (ls' := [(0, .ref 90), (1, .int 0), (2, .int 4)]) (st' := [.long 7, .long 0, .long 4]) (w' := (fw z)) (cs' := 0) (ss' := 0) ?_ (fun _ _ => rfl)
  refine go_cl (k := 2) (st' := [.int 1]) (cs' := 0) (ss' := 0) rfl rfl rfl rfl rfl rfl rfl (ro_963 z) ?_
  refine go_seg 8 (pc' := 37) (ls' := [(0, .ref 90), (1, .int 0), (2, .int 4)]) (st' := [.int 4, .int 0, .ref 91]) (w' := (fw z)) (cs' := 0) (ss' := 0) ?_ (fun _ _ => rfl)
  refine go_cl (k := 2) (st' := [.int 142, .ref 91]) (cs' := 0) (ss' := 0) rfl rfl rfl rfl rfl rfl rfl (ro_1083 z) ?_
  exact go_end 2 (fun _ _ => rfl)
theorem lf_4_1085 (a0 : Int32) (a3 : Int32) (a4 : Int32) (a5 : Int32) : ∃ w', pq_Go 20 pm_law 370 [(3, .int 0), (2, .ref 90), (1, .ref 1), (0, .ref 0)] [] (fw (sz a0 0 4 a3 a4 a5)) 109 12668 (some (.int 1), w') := by
  refine ⟨(fw (sz a0 0 4 a3 a4 a5)), ?_⟩
  refine go_seg 8 (pc' := 378) (ls' := [(3, .int 0), (2, .ref 90), (1, .ref 1), (0, .ref 0)]) (st' := [.int 0, .ref 0, .int 0, .ref 1]) (w' := (fw (sz a0 0 4 a3 a4 a5))) (cs' := 109) (ss' := 12668) ?_ (fun _ _ => rfl)
  refine go_seg 3 (pc' := 381) (ls' := [(3, .int 0), (2, .ref 90), (1, .ref 1), (0, .ref 0)]) (st' := [.int 4, .int 0, .ref 1]) (w' := (fw (sz a0 0 4 a3 a4 a5))) (cs' := 109) (ss' := 12668) ?_ (fun _ _ => rfl)
  refine go_cl (k := 20) (st' := [.int 0]) (cs' := 109) (ss' := 12668) rfl rfl rfl rfl rfl rfl rfl (ro_1082 (sz a0 0 4 a3 a4 a5)) ?_
  refine go_seg 8 (pc' := 392) (ls' := [(3, .int 0), (2, .ref 90), (1, .ref 1), (0, .ref 0)]) (st' := [.int 0, .ref 0, .int 0, .ref 90, .int 0]) (w' := (fw (sz a0 0 4 a3 a4 a5))) (cs' := 109) (ss' := 12668) ?_ (fun _ _ => rfl)
  refine go_seg 3 (pc' := 395) (ls' := [(3, .int 0), (2, .ref 90), (1, .ref 1), (0, .ref 0)]) (st' := [.int 4, .int 0, .ref 90, .int 0]) (w' := (fw (sz a0 0 4 a3 a4 a5))) (cs' := 109) (ss' := 12668) ?_ (fun _ _ => rfl)
  refine go_cl (k := 20) (st' := [.int 0, .int 0]) (cs' := 109) (ss' := 12668) rfl rfl rfl rfl rfl rfl rfl (ro_1084 (sz a0 0 4 a3 a4 a5)) ?_
  refine go_cmp true rfl (br_self _) ?_
  exact law_tail (f := sc a0 0 4 a3 a4 a5) rfl
theorem ro_1086 (z : pq_C) : pq_Ru 2 25 [.ref 1, .int 1, .int 4] (fw z) (some (.int 0), (fw z)) := by
  refine ru_of (k := 1) (M := pm_25) rfl rfl ?_
  refine go_seg 1 (pc' := 1) (ls' := [(0, .ref 1), (1, .int 1), (2, .int 4)]) (st' := [.int 1]) (w' := (fw z)) (cs' := 0) (ss' := 0) ?_ (fun _ _ => rfl)
  refine go_cl (k := 1) (st' := [.int 1]) (cs' := 0) (ss' := 0) rfl rfl rfl rfl rfl rfl rfl (ro_558 z) ?_
  refine go_seg 8 (pc' := 109) (ls' := [(0, .ref 1), (1, .int 1), (2, .int 4)]) (st' := [.int 0]) (w' := (fw z)) (cs' := 0) (ss' := 0) ?_ (fun _ _ => rfl)
  exact go_end 1 (fun _ _ => rfl)
theorem ro_1087 (z : pq_C) : pq_Ru 1 168 [.int 1, .int 4] (fw z) (some (.int 148), (fw z)) := by
  refine ru_of (k := 0) (M := pm_168) rfl rfl ?_
  exact go_end 8 (fun _ _ => rfl)
theorem ro_1088 (z : pq_C) : pq_Ru 3 169 [.ref 90, .int 1, .int 4] (fw z) (some (.int 0), (fw z)) := by
  refine ru_of (k := 2) (M := pm_169) rfl rfl ?_
  refine go_seg 1 (pc' := 1) (ls' := [(0, .ref 90), (1, .int 1), (2, .int 4)]) (st' := [.int 1]) (w' := (fw z)) (cs' := 0) (ss' := 0) ?_ (fun _ _ => rfl)
  refine go_cl (k := 2) (st' := [.int 1]) (cs' := 0) (ss' := 0) rfl rfl rfl rfl rfl rfl rfl (ro_946 z) ?_
  refine go_seg 5 (pc' := 13) (ls' := [(0, .ref 90), (1, .int 1), (2, .int 4)]) (st' := [.long 7, .long 0, .long 4]) (w' := (fw z)) (cs' := 0) (ss' := 0) ?_ (fun _ _ => rfl)
  refine go_cl (k := 2) (st' := [.int 1]) (cs' := 0) (ss' := 0) rfl rfl rfl rfl rfl rfl rfl (ro_963 z) ?_
  refine go_seg 8 (pc' := 37) (ls' := [(0, .ref 90), (1, .int 1), (2, .int 4)]) (st' := [.int 4, .int 1, .ref 91]) (w' := (fw z)) (cs' := 0) (ss' := 0) ?_ (fun _ _ => rfl)
  refine go_cl (k := 2) (st' := [.int 148, .ref 91]) (cs' := 0) (ss' := 0) rfl rfl rfl rfl rfl rfl rfl (ro_1087 z) ?_
  exact go_end 2 (fun _ _ => rfl)
theorem lf_4_1089 (a0 : Int32) (a3 : Int32) (a4 : Int32) (a5 : Int32) : ∃ w', pq_Go 20 pm_law 370 [(3, .int 0), (2, .ref 90), (1, .ref 1), (0, .ref 0)] [] (fw (sz a0 1 4 a3 a4 a5)) 109 12668 (some (.int 1), w') := by
  refine ⟨(fw (sz a0 1 4 a3 a4 a5)), ?_⟩
  refine go_seg 8 (pc' := 378) (ls' := [(3, .int 0), (2, .ref 90), (1, .ref 1), (0, .ref 0)]) (st' := [.int 0, .ref 0, .int 1, .ref 1]) (w' := (fw (sz a0 1 4 a3 a4 a5))) (cs' := 109) (ss' := 12668) ?_ (fun _ _ => rfl)
  refine go_seg 3 (pc' := 381) (ls' := [(3, .int 0), (2, .ref 90), (1, .ref 1), (0, .ref 0)]) (st' := [.int 4, .int 1, .ref 1]) (w' := (fw (sz a0 1 4 a3 a4 a5))) (cs' := 109) (ss' := 12668) ?_ (fun _ _ => rfl)
  refine go_cl (k := 20) (st' := [.int 0]) (cs' := 109) (ss' := 12668) rfl rfl rfl rfl rfl rfl rfl (ro_1086 (sz a0 1 4 a3 a4 a5)) ?_
  refine go_seg 8 (pc' := 392) (ls' := [(3, .int 0), (2, .ref 90), (1, .ref 1), (0, .ref 0)]) (st' := [.int 0, .ref 0, .int 1, .ref 90, .int 0]) (w' := (fw (sz a0 1 4 a3 a4 a5))) (cs' := 109) (ss' := 12668) ?_ (fun _ _ => rfl)
  refine go_seg 3 (pc' := 395) (ls' := [(3, .int 0), (2, .ref 90), (1, .ref 1), (0, .ref 0)]) (st' := [.int 4, .int 1, .ref 90, .int 0]) (w' := (fw (sz a0 1 4 a3 a4 a5))) (cs' := 109) (ss' := 12668) ?_ (fun _ _ => rfl)
  refine go_cl (k := 20) (st' := [.int 0, .int 0]) (cs' := 109) (ss' := 12668) rfl rfl rfl rfl rfl rfl rfl (ro_1088 (sz a0 1 4 a3 a4 a5)) ?_
  refine go_cmp true rfl (br_self _) ?_
  exact law_tail (f := sc a0 1 4 a3 a4 a5) rfl
theorem ro_1090 (z : pq_C) : pq_Ru 2 25 [.ref 1, .int 2, .int 4] (fw z) (some (.int 0), (fw z)) := by
  refine ru_of (k := 1) (M := pm_25) rfl rfl ?_
  refine go_seg 1 (pc' := 1) (ls' := [(0, .ref 1), (1, .int 2), (2, .int 4)]) (st' := [.int 2]) (w' := (fw z)) (cs' := 0) (ss' := 0) ?_ (fun _ _ => rfl)
  refine go_cl (k := 1) (st' := [.int 1]) (cs' := 0) (ss' := 0) rfl rfl rfl rfl rfl rfl rfl (ro_567 z) ?_
  refine go_seg 8 (pc' := 109) (ls' := [(0, .ref 1), (1, .int 2), (2, .int 4)]) (st' := [.int 0]) (w' := (fw z)) (cs' := 0) (ss' := 0) ?_ (fun _ _ => rfl)
  exact go_end 1 (fun _ _ => rfl)
theorem ro_1091 (z : pq_C) : pq_Ru 1 168 [.int 2, .int 4] (fw z) (some (.int 154), (fw z)) := by
  refine ru_of (k := 0) (M := pm_168) rfl rfl ?_
  exact go_end 8 (fun _ _ => rfl)
theorem ro_1092 (z : pq_C) : pq_Ru 3 169 [.ref 90, .int 2, .int 4] (fw z) (some (.int 0), (fw z)) := by
  refine ru_of (k := 2) (M := pm_169) rfl rfl ?_
  refine go_seg 1 (pc' := 1) (ls' := [(0, .ref 90), (1, .int 2), (2, .int 4)]) (st' := [.int 2]) (w' := (fw z)) (cs' := 0) (ss' := 0) ?_ (fun _ _ => rfl)
  refine go_cl (k := 2) (st' := [.int 1]) (cs' := 0) (ss' := 0) rfl rfl rfl rfl rfl rfl rfl (ro_952 z) ?_
  refine go_seg 5 (pc' := 13) (ls' := [(0, .ref 90), (1, .int 2), (2, .int 4)]) (st' := [.long 7, .long 0, .long 4]) (w' := (fw z)) (cs' := 0) (ss' := 0) ?_ (fun _ _ => rfl)
  refine go_cl (k := 2) (st' := [.int 1]) (cs' := 0) (ss' := 0) rfl rfl rfl rfl rfl rfl rfl (ro_963 z) ?_
  refine go_seg 8 (pc' := 37) (ls' := [(0, .ref 90), (1, .int 2), (2, .int 4)]) (st' := [.int 4, .int 2, .ref 91]) (w' := (fw z)) (cs' := 0) (ss' := 0) ?_ (fun _ _ => rfl)
  refine go_cl (k := 2) (st' := [.int 154, .ref 91]) (cs' := 0) (ss' := 0) rfl rfl rfl rfl rfl rfl rfl (ro_1091 z) ?_
  exact go_end 2 (fun _ _ => rfl)
theorem lf_4_1093 (a0 : Int32) (a3 : Int32) (a4 : Int32) (a5 : Int32) : ∃ w', pq_Go 20 pm_law 370 [(3, .int 0), (2, .ref 90), (1, .ref 1), (0, .ref 0)] [] (fw (sz a0 2 4 a3 a4 a5)) 109 12668 (some (.int 1), w') := by
  refine ⟨(fw (sz a0 2 4 a3 a4 a5)), ?_⟩
  refine go_seg 8 (pc' := 378) (ls' := [(3, .int 0), (2, .ref 90), (1, .ref 1), (0, .ref 0)]) (st' := [.int 0, .ref 0, .int 2, .ref 1]) (w' := (fw (sz a0 2 4 a3 a4 a5))) (cs' := 109) (ss' := 12668) ?_ (fun _ _ => rfl)
  refine go_seg 3 (pc' := 381) (ls' := [(3, .int 0), (2, .ref 90), (1, .ref 1), (0, .ref 0)]) (st' := [.int 4, .int 2, .ref 1]) (w' := (fw (sz a0 2 4 a3 a4 a5))) (cs' := 109) (ss' := 12668) ?_ (fun _ _ => rfl)
  refine go_cl (k := 20) (st' := [.int 0]) (cs' := 109) (ss' := 12668) rfl rfl rfl rfl rfl rfl rfl (ro_1090 (sz a0 2 4 a3 a4 a5)) ?_
  refine go_seg 8 (pc' := 392) (ls' := [(3, .int 0), (2, .ref 90), (1, .ref 1), (0, .ref 0)]) (st' := [.int 0, .ref 0, .int 2, .ref 90, .int 0]) (w' := (fw (sz a0 2 4 a3 a4 a5))) (cs' := 109) (ss' := 12668) ?_ (fun _ _ => rfl)
  refine go_seg 3 (pc' := 395) (ls' := [(3, .int 0), (2, .ref 90), (1, .ref 1), (0, .ref 0)]) (st' := [.int 4, .int 2, .ref 90, .int 0]) (w' := (fw (sz a0 2 4 a3 a4 a5))) (cs' := 109) (ss' := 12668) ?_ (fun _ _ => rfl)
  refine go_cl (k := 20) (st' := [.int 0, .int 0]) (cs' := 109) (ss' := 12668) rfl rfl rfl rfl rfl rfl rfl (ro_1092 (sz a0 2 4 a3 a4 a5)) ?_
  refine go_cmp true rfl (br_self _) ?_
  exact law_tail (f := sc a0 2 4 a3 a4 a5) rfl
theorem ro_1094 (z : pq_C) : pq_Ru 2 25 [.ref 1, .int 3, .int 4] (fw z) (some (.int 0), (fw z)) := by
  refine ru_of (k := 1) (M := pm_25) rfl rfl ?_
  refine go_seg 1 (pc' := 1) (ls' := [(0, .ref 1), (1, .int 3), (2, .int 4)]) (st' := [.int 3]) (w' := (fw z)) (cs' := 0) (ss' := 0) ?_ (fun _ _ => rfl)
  refine go_cl (k := 1) (st' := [.int 1]) (cs' := 0) (ss' := 0) rfl rfl rfl rfl rfl rfl rfl (ro_576 z) ?_
  refine go_seg 8 (pc' := 109) (ls' := [(0, .ref 1), (1, .int 3), (2, .int 4)]) (st' := [.int 0]) (w' := (fw z)) (cs' := 0) (ss' := 0) ?_ (fun _ _ => rfl)
  exact go_end 1 (fun _ _ => rfl)
theorem ro_1095 (z : pq_C) : pq_Ru 1 168 [.int 3, .int 4] (fw z) (some (.int 160), (fw z)) := by
  refine ru_of (k := 0) (M := pm_168) rfl rfl ?_
  exact go_end 8 (fun _ _ => rfl)
theorem ro_1096 (z : pq_C) : pq_Ru 3 169 [.ref 90, .int 3, .int 4] (fw z) (some (.int 0), (fw z)) := by
  refine ru_of (k := 2) (M := pm_169) rfl rfl ?_
  refine go_seg 1 (pc' := 1) (ls' := [(0, .ref 90), (1, .int 3), (2, .int 4)]) (st' := [.int 3]) (w' := (fw z)) (cs' := 0) (ss' := 0) ?_ (fun _ _ => rfl)
  refine go_cl (k := 2) (st' := [.int 1]) (cs' := 0) (ss' := 0) rfl rfl rfl rfl rfl rfl rfl (ro_958 z) ?_
  refine go_seg 5 (pc' := 13) (ls' := [(0, .ref 90), (1, .int 3), (2, .int 4)]) (st' := [.long 7, .long 0, .long 4]) (w' := (fw z)) (cs' := 0) (ss' := 0) ?_ (fun _ _ => rfl)
  refine go_cl (k := 2) (st' := [.int 1]) (cs' := 0) (ss' := 0) rfl rfl rfl rfl rfl rfl rfl (ro_963 z) ?_
  refine go_seg 8 (pc' := 37) (ls' := [(0, .ref 90), (1, .int 3), (2, .int 4)]) (st' := [.int 4, .int 3, .ref 91]) (w' := (fw z)) (cs' := 0) (ss' := 0) ?_ (fun _ _ => rfl)
  refine go_cl (k := 2) (st' := [.int 160, .ref 91]) (cs' := 0) (ss' := 0) rfl rfl rfl rfl rfl rfl rfl (ro_1095 z) ?_
  exact go_end 2 (fun _ _ => rfl)
theorem lf_4_1097 (a0 : Int32) (a3 : Int32) (a4 : Int32) (a5 : Int32) : ∃ w', pq_Go 20 pm_law 370 [(3, .int 0), (2, .ref 90), (1, .ref 1), (0, .ref 0)] [] (fw (sz a0 3 4 a3 a4 a5)) 109 12668 (some (.int 1), w') := by
  refine ⟨(fw (sz a0 3 4 a3 a4 a5)), ?_⟩
  refine go_seg 8 (pc' := 378) (ls' := [(3, .int 0), (2, .ref 90), (1, .ref 1), (0, .ref 0)]) (st' := [.int 0, .ref 0, .int 3, .ref 1]) (w' := (fw (sz a0 3 4 a3 a4 a5))) (cs' := 109) (ss' := 12668) ?_ (fun _ _ => rfl)
  refine go_seg 3 (pc' := 381) (ls' := [(3, .int 0), (2, .ref 90), (1, .ref 1), (0, .ref 0)]) (st' := [.int 4, .int 3, .ref 1]) (w' := (fw (sz a0 3 4 a3 a4 a5))) (cs' := 109) (ss' := 12668) ?_ (fun _ _ => rfl)
  refine go_cl (k := 20) (st' := [.int 0]) (cs' := 109) (ss' := 12668) rfl rfl rfl rfl rfl rfl rfl (ro_1094 (sz a0 3 4 a3 a4 a5)) ?_
  refine go_seg 8 (pc' := 392) (ls' := [(3, .int 0), (2, .ref 90), (1, .ref 1), (0, .ref 0)]) (st' := [.int 0, .ref 0, .int 3, .ref 90, .int 0]) (w' := (fw (sz a0 3 4 a3 a4 a5))) (cs' := 109) (ss' := 12668) ?_ (fun _ _ => rfl)
  refine go_seg 3 (pc' := 395) (ls' := [(3, .int 0), (2, .ref 90), (1, .ref 1), (0, .ref 0)]) (st' := [.int 4, .int 3, .ref 90, .int 0]) (w' := (fw (sz a0 3 4 a3 a4 a5))) (cs' := 109) (ss' := 12668) ?_ (fun _ _ => rfl)
  refine go_cl (k := 20) (st' := [.int 0, .int 0]) (cs' := 109) (ss' := 12668) rfl rfl rfl rfl rfl rfl rfl (ro_1096 (sz a0 3 4 a3 a4 a5)) ?_
  refine go_cmp true rfl (br_self _) ?_
  exact law_tail (f := sc a0 3 4 a3 a4 a5) rfl
theorem ro_1098 (z : pq_C) : pq_Ru 2 25 [.ref 1, .int 4, .int 4] (fw z) (some (.int 0), (fw z)) := by
  refine ru_of (k := 1) (M := pm_25) rfl rfl ?_
  refine go_seg 1 (pc' := 1) (ls' := [(0, .ref 1), (1, .int 4), (2, .int 4)]) (st' := [.int 4]) (w' := (fw z)) (cs' := 0) (ss' := 0) ?_ (fun _ _ => rfl)
  refine go_cl (k := 1) (st' := [.int 1]) (cs' := 0) (ss' := 0) rfl rfl rfl rfl rfl rfl rfl (ro_585 z) ?_
  refine go_seg 8 (pc' := 109) (ls' := [(0, .ref 1), (1, .int 4), (2, .int 4)]) (st' := [.int 0]) (w' := (fw z)) (cs' := 0) (ss' := 0) ?_ (fun _ _ => rfl)
  exact go_end 1 (fun _ _ => rfl)
theorem ro_1099 (z : pq_C) : pq_Ru 1 168 [.int 4, .int 4] (fw z) (some (.int 166), (fw z)) := by
  refine ru_of (k := 0) (M := pm_168) rfl rfl ?_
  exact go_end 8 (fun _ _ => rfl)
theorem ro_1100 (z : pq_C) : pq_Ru 3 169 [.ref 90, .int 4, .int 4] (fw z) (some (.int 0), (fw z)) := by
  refine ru_of (k := 2) (M := pm_169) rfl rfl ?_
  refine go_seg 1 (pc' := 1) (ls' := [(0, .ref 90), (1, .int 4), (2, .int 4)]) (st' := [.int 4]) (w' := (fw z)) (cs' := 0) (ss' := 0) ?_ (fun _ _ => rfl)
  refine go_cl (k := 2) (st' := [.int 1]) (cs' := 0) (ss' := 0) rfl rfl rfl rfl rfl rfl rfl (ro_964 z) ?_
  refine go_seg 5 (pc' := 13) (ls' := [(0, .ref 90), (1, .int 4), (2, .int 4)]) (st' := [.long 7, .long 0, .long 4]) (w' := (fw z)) (cs' := 0) (ss' := 0) ?_ (fun _ _ => rfl)
  refine go_cl (k := 2) (st' := [.int 1]) (cs' := 0) (ss' := 0) rfl rfl rfl rfl rfl rfl rfl (ro_963 z) ?_
  refine go_seg 8 (pc' := 37) (ls' := [(0, .ref 90), (1, .int 4), (2, .int 4)]) (st' := [.int 4, .int 4, .ref 91]) (w' := (fw z)) (cs' := 0) (ss' := 0) ?_ (fun _ _ => rfl)
  refine go_cl (k := 2) (st' := [.int 166, .ref 91]) (cs' := 0) (ss' := 0) rfl rfl rfl rfl rfl rfl rfl (ro_1099 z) ?_
  exact go_end 2 (fun _ _ => rfl)
theorem lf_4_1101 (a0 : Int32) (a3 : Int32) (a4 : Int32) (a5 : Int32) : ∃ w', pq_Go 20 pm_law 370 [(3, .int 0), (2, .ref 90), (1, .ref 1), (0, .ref 0)] [] (fw (sz a0 4 4 a3 a4 a5)) 109 12668 (some (.int 1), w') := by
  refine ⟨(fw (sz a0 4 4 a3 a4 a5)), ?_⟩
  refine go_seg 8 (pc' := 378) (ls' := [(3, .int 0), (2, .ref 90), (1, .ref 1), (0, .ref 0)]) (st' := [.int 0, .ref 0, .int 4, .ref 1]) (w' := (fw (sz a0 4 4 a3 a4 a5))) (cs' := 109) (ss' := 12668) ?_ (fun _ _ => rfl)
  refine go_seg 3 (pc' := 381) (ls' := [(3, .int 0), (2, .ref 90), (1, .ref 1), (0, .ref 0)]) (st' := [.int 4, .int 4, .ref 1]) (w' := (fw (sz a0 4 4 a3 a4 a5))) (cs' := 109) (ss' := 12668) ?_ (fun _ _ => rfl)
  refine go_cl (k := 20) (st' := [.int 0]) (cs' := 109) (ss' := 12668) rfl rfl rfl rfl rfl rfl rfl (ro_1098 (sz a0 4 4 a3 a4 a5)) ?_
  refine go_seg 8 (pc' := 392) (ls' := [(3, .int 0), (2, .ref 90), (1, .ref 1), (0, .ref 0)]) (st' := [.int 0, .ref 0, .int 4, .ref 90, .int 0]) (w' := (fw (sz a0 4 4 a3 a4 a5))) (cs' := 109) (ss' := 12668) ?_ (fun _ _ => rfl)
  refine go_seg 3 (pc' := 395) (ls' := [(3, .int 0), (2, .ref 90), (1, .ref 1), (0, .ref 0)]) (st' := [.int 4, .int 4, .ref 90, .int 0]) (w' := (fw (sz a0 4 4 a3 a4 a5))) (cs' := 109) (ss' := 12668) ?_ (fun _ _ => rfl)
  refine go_cl (k := 20) (st' := [.int 0, .int 0]) (cs' := 109) (ss' := 12668) rfl rfl rfl rfl rfl rfl rfl (ro_1100 (sz a0 4 4 a3 a4 a5)) ?_
  refine go_cmp true rfl (br_self _) ?_
  exact law_tail (f := sc a0 4 4 a3 a4 a5) rfl
theorem ro_1102 (z : pq_C) : pq_Ru 2 25 [.ref 1, .int 5, .int 4] (fw z) (some (.int 0), (fw z)) := by
  refine ru_of (k := 1) (M := pm_25) rfl rfl ?_
  refine go_seg 1 (pc' := 1) (ls' := [(0, .ref 1), (1, .int 5), (2, .int 4)]) (st' := [.int 5]) (w' := (fw z)) (cs' := 0) (ss' := 0) ?_ (fun _ _ => rfl)
  refine go_cl (k := 1) (st' := [.int 1]) (cs' := 0) (ss' := 0) rfl rfl rfl rfl rfl rfl rfl (ro_594 z) ?_
  refine go_seg 8 (pc' := 109) (ls' := [(0, .ref 1), (1, .int 5), (2, .int 4)]) (st' := [.int 0]) (w' := (fw z)) (cs' := 0) (ss' := 0) ?_ (fun _ _ => rfl)
  exact go_end 1 (fun _ _ => rfl)
theorem ro_1103 (z : pq_C) : pq_Ru 1 168 [.int 5, .int 4] (fw z) (some (.int 172), (fw z)) := by
  refine ru_of (k := 0) (M := pm_168) rfl rfl ?_
  exact go_end 8 (fun _ _ => rfl)
theorem ro_1104 (z : pq_C) : pq_Ru 3 169 [.ref 90, .int 5, .int 4] (fw z) (some (.int 0), (fw z)) := by
  refine ru_of (k := 2) (M := pm_169) rfl rfl ?_
  refine go_seg 1 (pc' := 1) (ls' := [(0, .ref 90), (1, .int 5), (2, .int 4)]) (st' := [.int 5]) (w' := (fw z)) (cs' := 0) (ss' := 0) ?_ (fun _ _ => rfl)
  refine go_cl (k := 2) (st' := [.int 1]) (cs' := 0) (ss' := 0) rfl rfl rfl rfl rfl rfl rfl (ro_970 z) ?_
  refine go_seg 5 (pc' := 13) (ls' := [(0, .ref 90), (1, .int 5), (2, .int 4)]) (st' := [.long 7, .long 0, .long 4]) (w' := (fw z)) (cs' := 0) (ss' := 0) ?_ (fun _ _ => rfl)
  refine go_cl (k := 2) (st' := [.int 1]) (cs' := 0) (ss' := 0) rfl rfl rfl rfl rfl rfl rfl (ro_963 z) ?_
  refine go_seg 8 (pc' := 37) (ls' := [(0, .ref 90), (1, .int 5), (2, .int 4)]) (st' := [.int 4, .int 5, .ref 91]) (w' := (fw z)) (cs' := 0) (ss' := 0) ?_ (fun _ _ => rfl)
  refine go_cl (k := 2) (st' := [.int 172, .ref 91]) (cs' := 0) (ss' := 0) rfl rfl rfl rfl rfl rfl rfl (ro_1103 z) ?_
  exact go_end 2 (fun _ _ => rfl)
theorem lf_4_1105 (a0 : Int32) (a3 : Int32) (a4 : Int32) (a5 : Int32) : ∃ w', pq_Go 20 pm_law 370 [(3, .int 0), (2, .ref 90), (1, .ref 1), (0, .ref 0)] [] (fw (sz a0 5 4 a3 a4 a5)) 109 12668 (some (.int 1), w') := by
  refine ⟨(fw (sz a0 5 4 a3 a4 a5)), ?_⟩
  refine go_seg 8 (pc' := 378) (ls' := [(3, .int 0), (2, .ref 90), (1, .ref 1), (0, .ref 0)]) (st' := [.int 0, .ref 0, .int 5, .ref 1]) (w' := (fw (sz a0 5 4 a3 a4 a5))) (cs' := 109) (ss' := 12668) ?_ (fun _ _ => rfl)
  refine go_seg 3 (pc' := 381) (ls' := [(3, .int 0), (2, .ref 90), (1, .ref 1), (0, .ref 0)]) (st' := [.int 4, .int 5, .ref 1]) (w' := (fw (sz a0 5 4 a3 a4 a5))) (cs' := 109) (ss' := 12668) ?_ (fun _ _ => rfl)
  refine go_cl (k := 20) (st' := [.int 0]) (cs' := 109) (ss' := 12668) rfl rfl rfl rfl rfl rfl rfl (ro_1102 (sz a0 5 4 a3 a4 a5)) ?_
  refine go_seg 8 (pc' := 392) (ls' := [(3, .int 0), (2, .ref 90), (1, .ref 1), (0, .ref 0)]) (st' := [.int 0, .ref 0, .int 5, .ref 90, .int 0]) (w' := (fw (sz a0 5 4 a3 a4 a5))) (cs' := 109) (ss' := 12668) ?_ (fun _ _ => rfl)
  refine go_seg 3 (pc' := 395) (ls' := [(3, .int 0), (2, .ref 90), (1, .ref 1), (0, .ref 0)]) (st' := [.int 4, .int 5, .ref 90, .int 0]) (w' := (fw (sz a0 5 4 a3 a4 a5))) (cs' := 109) (ss' := 12668) ?_ (fun _ _ => rfl)
  refine go_cl (k := 20) (st' := [.int 0, .int 0]) (cs' := 109) (ss' := 12668) rfl rfl rfl rfl rfl rfl rfl (ro_1104 (sz a0 5 4 a3 a4 a5)) ?_
  refine go_cmp true rfl (br_self _) ?_
  exact law_tail (f := sc a0 5 4 a3 a4 a5) rfl
theorem ro_1106 (z : pq_C) : pq_Ru 2 25 [.ref 1, .int 6, .int 4] (fw z) (some (.int 0), (fw z)) := by
  refine ru_of (k := 1) (M := pm_25) rfl rfl ?_
  refine go_seg 1 (pc' := 1) (ls' := [(0, .ref 1), (1, .int 6), (2, .int 4)]) (st' := [.int 6]) (w' := (fw z)) (cs' := 0) (ss' := 0) ?_ (fun _ _ => rfl)
  refine go_cl (k := 1) (st' := [.int 1]) (cs' := 0) (ss' := 0) rfl rfl rfl rfl rfl rfl rfl (ro_603 z) ?_
  refine go_seg 8 (pc' := 109) (ls' := [(0, .ref 1), (1, .int 6), (2, .int 4)]) (st' := [.int 0]) (w' := (fw z)) (cs' := 0) (ss' := 0) ?_ (fun _ _ => rfl)
  exact go_end 1 (fun _ _ => rfl)
theorem ro_1107 (z : pq_C) : pq_Ru 1 168 [.int 6, .int 4] (fw z) (some (.int 178), (fw z)) := by
  refine ru_of (k := 0) (M := pm_168) rfl rfl ?_
  exact go_end 8 (fun _ _ => rfl)
theorem ro_1108 (z : pq_C) : pq_Ru 3 169 [.ref 90, .int 6, .int 4] (fw z) (some (.int 0), (fw z)) := by
  refine ru_of (k := 2) (M := pm_169) rfl rfl ?_
  refine go_seg 1 (pc' := 1) (ls' := [(0, .ref 90), (1, .int 6), (2, .int 4)]) (st' := [.int 6]) (w' := (fw z)) (cs' := 0) (ss' := 0) ?_ (fun _ _ => rfl)
  refine go_cl (k := 2) (st' := [.int 1]) (cs' := 0) (ss' := 0) rfl rfl rfl rfl rfl rfl rfl (ro_976 z) ?_
  refine go_seg 5 (pc' := 13) (ls' := [(0, .ref 90), (1, .int 6), (2, .int 4)]) (st' := [.long 7, .long 0, .long 4]) (w' := (fw z)) (cs' := 0) (ss' := 0) ?_ (fun _ _ => rfl)
  refine go_cl (k := 2) (st' := [.int 1]) (cs' := 0) (ss' := 0) rfl rfl rfl rfl rfl rfl rfl (ro_963 z) ?_
  refine go_seg 8 (pc' := 37) (ls' := [(0, .ref 90), (1, .int 6), (2, .int 4)]) (st' := [.int 4, .int 6, .ref 91]) (w' := (fw z)) (cs' := 0) (ss' := 0) ?_ (fun _ _ => rfl)
  refine go_cl (k := 2) (st' := [.int 178, .ref 91]) (cs' := 0) (ss' := 0) rfl rfl rfl rfl rfl rfl rfl (ro_1107 z) ?_
  exact go_end 2 (fun _ _ => rfl)
theorem lf_4_1109 (a0 : Int32) (a3 : Int32) (a4 : Int32) (a5 : Int32) : ∃ w', pq_Go 20 pm_law 370 [(3, .int 0), (2, .ref 90), (1, .ref 1), (0, .ref 0)] [] (fw (sz a0 6 4 a3 a4 a5)) 109 12668 (some (.int 1), w') := by
  refine ⟨(fw (sz a0 6 4 a3 a4 a5)), ?_⟩
  refine go_seg 8 (pc' := 378) (ls' := [(3, .int 0), (2, .ref 90), (1, .ref 1), (0, .ref 0)]) (st' := [.int 0, .ref 0, .int 6, .ref 1]) (w' := (fw (sz a0 6 4 a3 a4 a5))) (cs' := 109) (ss' := 12668) ?_ (fun _ _ => rfl)
  refine go_seg 3 (pc' := 381) (ls' := [(3, .int 0), (2, .ref 90), (1, .ref 1), (0, .ref 0)]) (st' := [.int 4, .int 6, .ref 1]) (w' := (fw (sz a0 6 4 a3 a4 a5))) (cs' := 109) (ss' := 12668) ?_ (fun _ _ => rfl)
  refine go_cl (k := 20) (st' := [.int 0]) (cs' := 109) (ss' := 12668) rfl rfl rfl rfl rfl rfl rfl (ro_1106 (sz a0 6 4 a3 a4 a5)) ?_
  refine go_seg 8 (pc' := 392) (ls' := [(3, .int 0), (2, .ref 90), (1, .ref 1), (0, .ref 0)]) (st' := [.int 0, .ref 0, .int 6, .ref 90, .int 0]) (w' := (fw (sz a0 6 4 a3 a4 a5))) (cs' := 109) (ss' := 12668) ?_ (fun _ _ => rfl)
  refine go_seg 3 (pc' := 395) (ls' := [(3, .int 0), (2, .ref 90), (1, .ref 1), (0, .ref 0)]) (st' := [.int 4, .int 6, .ref 90, .int 0]) (w' := (fw (sz a0 6 4 a3 a4 a5))) (cs' := 109) (ss' := 12668) ?_ (fun _ _ => rfl)
  refine go_cl (k := 20) (st' := [.int 0, .int 0]) (cs' := 109) (ss' := 12668) rfl rfl rfl rfl rfl rfl rfl (ro_1108 (sz a0 6 4 a3 a4 a5)) ?_
  refine go_cmp true rfl (br_self _) ?_
  exact law_tail (f := sc a0 6 4 a3 a4 a5) rfl
theorem ro_1110 (z : pq_C) : pq_Ru 2 25 [.ref 1, .int 7, .int 4] (fw z) (some (.int 0), (fw z)) := by
  refine ru_of (k := 1) (M := pm_25) rfl rfl ?_
  refine go_seg 1 (pc' := 1) (ls' := [(0, .ref 1), (1, .int 7), (2, .int 4)]) (st' := [.int 7]) (w' := (fw z)) (cs' := 0) (ss' := 0) ?_ (fun _ _ => rfl)
  refine go_cl (k := 1) (st' := [.int 1]) (cs' := 0) (ss' := 0) rfl rfl rfl rfl rfl rfl rfl (ro_612 z) ?_
  refine go_seg 8 (pc' := 109) (ls' := [(0, .ref 1), (1, .int 7), (2, .int 4)]) (st' := [.int 0]) (w' := (fw z)) (cs' := 0) (ss' := 0) ?_ (fun _ _ => rfl)
  exact go_end 1 (fun _ _ => rfl)
theorem ro_1111 (z : pq_C) : pq_Ru 1 168 [.int 7, .int 4] (fw z) (some (.int 184), (fw z)) := by
  refine ru_of (k := 0) (M := pm_168) rfl rfl ?_
  exact go_end 8 (fun _ _ => rfl)
theorem ro_1112 (z : pq_C) : pq_Ru 3 169 [.ref 90, .int 7, .int 4] (fw z) (some (.int 0), (fw z)) := by
  refine ru_of (k := 2) (M := pm_169) rfl rfl ?_
  refine go_seg 1 (pc' := 1) (ls' := [(0, .ref 90), (1, .int 7), (2, .int 4)]) (st' := [.int 7]) (w' := (fw z)) (cs' := 0) (ss' := 0) ?_ (fun _ _ => rfl)
  refine go_cl (k := 2) (st' := [.int 1]) (cs' := 0) (ss' := 0) rfl rfl rfl rfl rfl rfl rfl (ro_982 z) ?_
  refine go_seg 5 (pc' := 13) (ls' := [(0, .ref 90), (1, .int 7), (2, .int 4)]) (st' := [.long 7, .long 0, .long 4]) (w' := (fw z)) (cs' := 0) (ss' := 0) ?_ (fun _ _ => rfl)
  refine go_cl (k := 2) (st' := [.int 1]) (cs' := 0) (ss' := 0) rfl rfl rfl rfl rfl rfl rfl (ro_963 z) ?_
  refine go_seg 8 (pc' := 37) (ls' := [(0, .ref 90), (1, .int 7), (2, .int 4)]) (st' := [.int 4, .int 7, .ref 91]) (w' := (fw z)) (cs' := 0) (ss' := 0) ?_ (fun _ _ => rfl)
  refine go_cl (k := 2) (st' := [.int 184, .ref 91]) (cs' := 0) (ss' := 0) rfl rfl rfl rfl rfl rfl rfl (ro_1111 z) ?_
  exact go_end 2 (fun _ _ => rfl)
theorem lf_4_1113 (a0 : Int32) (a3 : Int32) (a4 : Int32) (a5 : Int32) : ∃ w', pq_Go 20 pm_law 370 [(3, .int 0), (2, .ref 90), (1, .ref 1), (0, .ref 0)] [] (fw (sz a0 7 4 a3 a4 a5)) 109 12668 (some (.int 1), w') := by
  refine ⟨(fw (sz a0 7 4 a3 a4 a5)), ?_⟩
  refine go_seg 8 (pc' := 378) (ls' := [(3, .int 0), (2, .ref 90), (1, .ref 1), (0, .ref 0)]) (st' := [.int 0, .ref 0, .int 7, .ref 1]) (w' := (fw (sz a0 7 4 a3 a4 a5))) (cs' := 109) (ss' := 12668) ?_ (fun _ _ => rfl)
  refine go_seg 3 (pc' := 381) (ls' := [(3, .int 0), (2, .ref 90), (1, .ref 1), (0, .ref 0)]) (st' := [.int 4, .int 7, .ref 1]) (w' := (fw (sz a0 7 4 a3 a4 a5))) (cs' := 109) (ss' := 12668) ?_ (fun _ _ => rfl)
  refine go_cl (k := 20) (st' := [.int 0]) (cs' := 109) (ss' := 12668) rfl rfl rfl rfl rfl rfl rfl (ro_1110 (sz a0 7 4 a3 a4 a5)) ?_
  refine go_seg 8 (pc' := 392) (ls' := [(3, .int 0), (2, .ref 90), (1, .ref 1), (0, .ref 0)]) (st' := [.int 0, .ref 0, .int 7, .ref 90, .int 0]) (w' := (fw (sz a0 7 4 a3 a4 a5))) (cs' := 109) (ss' := 12668) ?_ (fun _ _ => rfl)
  refine go_seg 3 (pc' := 395) (ls' := [(3, .int 0), (2, .ref 90), (1, .ref 1), (0, .ref 0)]) (st' := [.int 4, .int 7, .ref 90, .int 0]) (w' := (fw (sz a0 7 4 a3 a4 a5))) (cs' := 109) (ss' := 12668) ?_ (fun _ _ => rfl)
  refine go_cl (k := 20) (st' := [.int 0, .int 0]) (cs' := 109) (ss' := 12668) rfl rfl rfl rfl rfl rfl rfl (ro_1112 (sz a0 7 4 a3 a4 a5)) ?_
  refine go_cmp true rfl (br_self _) ?_
  exact law_tail (f := sc a0 7 4 a3 a4 a5) rfl
theorem ro_1114 (z : pq_C) (a1 : Int32) (h0 : 0 ≤ a1.toInt) (h1 : a1.toInt < 8) : pq_Ru 1 26 [.ref 2, .int a1] (fw z) (some (.int 0), (fw z)) := by
  refine ru_of (k := 0) (M := pm_26) rfl rfl ?_
  refine go_seg 8 (pc' := 11) (ls' := [(3, .int 0), (2, .int 0), (0, .ref 2), (1, .int a1)]) (st' := [.ref 2]) (w' := (fw z)) (cs' := 0) (ss' := 0) ?_ (fun _ _ => rfl)
  refine go_seg 4 (pc' := 17) (ls' := [(3, .int 0), (2, .int 0), (0, .ref 2), (1, .int a1)]) (st' := [.int a1, .int (-1)]) (w' := (fw z)) (cs' := 0) (ss' := 0) ?_ (fun _ _ => rfl)
  refine go_cmp true rfl (br_ne_ts (b := -1) rfl (by omega)) ?_
  refine go_seg 8 (pc' := 15) (ls' := [(3, .int 1), (2, .int 0), (0, .ref 2), (1, .int a1)]) (st' := [.int 1, .ref 3]) (w' := (fw z)) (cs' := 0) (ss' := 0) ?_ (fun _ _ => rfl)
  refine go_seg 2 (pc' := 17) (ls' := [(3, .int 1), (2, .int 0), (0, .ref 2), (1, .int a1)]) (st' := [.int a1, .int (-1)]) (w' := (fw z)) (cs' := 0) (ss' := 0) ?_ (fun _ _ => rfl)
  refine go_cmp true rfl (br_ne_ts (b := -1) rfl (by omega)) ?_
  refine go_seg 8 (pc' := 15) (ls' := [(3, .int 2), (2, .int 0), (0, .ref 2), (1, .int a1)]) (st' := [.int 2, .ref 3]) (w' := (fw z)) (cs' := 0) (ss' := 0) ?_ (fun _ _ => rfl)
  refine go_seg 2 (pc' := 17) (ls' := [(3, .int 2), (2, .int 0), (0, .ref 2), (1, .int a1)]) (st' := [.int a1, .int (-1)]) (w' := (fw z)) (cs' := 0) (ss' := 0) ?_ (fun _ _ => rfl)
  refine go_cmp true rfl (br_ne_ts (b := -1) rfl (by omega)) ?_
  refine go_seg 8 (pc' := 15) (ls' := [(3, .int 3), (2, .int 0), (0, .ref 2), (1, .int a1)]) (st' := [.int 3, .ref 3]) (w' := (fw z)) (cs' := 0) (ss' := 0) ?_ (fun _ _ => rfl)
  refine go_seg 2 (pc' := 17) (ls' := [(3, .int 3), (2, .int 0), (0, .ref 2), (1, .int a1)]) (st' := [.int a1, .int (-1)]) (w' := (fw z)) (cs' := 0) (ss' := 0) ?_ (fun _ _ => rfl)
  refine go_cmp true rfl (br_ne_ts (b := -1) rfl (by omega)) ?_
  refine go_seg 8 (pc' := 15) (ls' := [(3, .int 4), (2, .int 0), (0, .ref 2), (1, .int a1)]) (st' := [.int 4, .ref 3]) (w' := (fw z)) (cs' := 0) (ss' := 0) ?_ (fun _ _ => rfl)
  refine go_seg 2 (pc' := 17) (ls' := [(3, .int 4), (2, .int 0), (0, .ref 2), (1, .int a1)]) (st' := [.int a1, .int (-1)]) (w' := (fw z)) (cs' := 0) (ss' := 0) ?_ (fun _ _ => rfl)
  refine go_cmp true rfl (br_ne_ts (b := -1) rfl (by omega)) ?_
  refine go_seg 8 (pc' := 15) (ls' := [(3, .int 5), (2, .int 0), (0, .ref 2), (1, .int a1)]) (st' := [.int 5, .ref 3]) (w' := (fw z)) (cs' := 0) (ss' := 0) ?_ (fun _ _ => rfl)
  refine go_seg 2 (pc' := 17) (ls' := [(3, .int 5), (2, .int 0), (0, .ref 2), (1, .int a1)]) (st' := [.int a1, .int (-1)]) (w' := (fw z)) (cs' := 0) (ss' := 0) ?_ (fun _ _ => rfl)
  refine go_cmp true rfl (br_ne_ts (b := -1) rfl (by omega)) ?_
  refine go_seg 8 (pc' := 15) (ls' := [(3, .int 6), (2, .int 0), (0, .ref 2), (1, .int a1)]) (st' := [.int 6, .ref 3]) (w' := (fw z)) (cs' := 0) (ss' := 0) ?_ (fun _ _ => rfl)
  refine go_seg 2 (pc' := 17) (ls' := [(3, .int 6), (2, .int 0), (0, .ref 2), (1, .int a1)]) (st' := [.int a1, .int (-1)]) (w' := (fw z)) (cs' := 0) (ss' := 0) ?_ (fun _ _ => rfl)
  refine go_cmp true rfl (br_ne_ts (b := -1) rfl (by omega)) ?_
  refine go_seg 8 (pc' := 15) (ls' := [(3, .int 7), (2, .int 0), (0, .ref 2), (1, .int a1)]) (st' := [.int 7, .ref 3]) (w' := (fw z)) (cs' := 0) (ss' := 0) ?_ (fun _ _ => rfl)
  refine go_seg 2 (pc' := 17) (ls' := [(3, .int 7), (2, .int 0), (0, .ref 2), (1, .int a1)]) (st' := [.int a1, .int (-1)]) (w' := (fw z)) (cs' := 0) (ss' := 0) ?_ (fun _ _ => rfl)
  refine go_cmp true rfl (br_ne_ts (b := -1) rfl (by omega)) ?_
  refine go_seg 8 (pc' := 15) (ls' := [(3, .int 8), (2, .int 0), (0, .ref 2), (1, .int a1)]) (st' := [.int 8, .ref 3]) (w' := (fw z)) (cs' := 0) (ss' := 0) ?_ (fun _ _ => rfl)
  refine go_seg 2 (pc' := 17) (ls' := [(3, .int 8), (2, .int 0), (0, .ref 2), (1, .int a1)]) (st' := [.int a1, .int (-1)]) (w' := (fw z)) (cs' := 0) (ss' := 0) ?_ (fun _ _ => rfl)
  refine go_cmp true rfl (br_ne_ts (b := -1) rfl (by omega)) ?_
  refine go_seg 8 (pc' := 15) (ls' := [(3, .int 9), (2, .int 0), (0, .ref 2), (1, .int a1)]) (st' := [.int 9, .ref 3]) (w' := (fw z)) (cs' := 0) (ss' := 0) ?_ (fun _ _ => rfl)
  refine go_seg 2 (pc' := 17) (ls' := [(3, .int 9), (2, .int 0), (0, .ref 2), (1, .int a1)]) (st' := [.int a1, .int (-1)]) (w' := (fw z)) (cs' := 0) (ss' := 0) ?_ (fun _ _ => rfl)
  refine go_cmp true rfl (br_ne_ts (b := -1) rfl (by omega)) ?_
  refine go_seg 8 (pc' := 15) (ls' := [(3, .int 10), (2, .int 0), (0, .ref 2), (1, .int a1)]) (st' := [.int 10, .ref 3]) (w' := (fw z)) (cs' := 0) (ss' := 0) ?_ (fun _ _ => rfl)
  refine go_seg 2 (pc' := 17) (ls' := [(3, .int 10), (2, .int 0), (0, .ref 2), (1, .int a1)]) (st' := [.int a1, .int (-1)]) (w' := (fw z)) (cs' := 0) (ss' := 0) ?_ (fun _ _ => rfl)
  refine go_cmp true rfl (br_ne_ts (b := -1) rfl (by omega)) ?_
  refine go_seg 8 (pc' := 15) (ls' := [(3, .int 11), (2, .int 0), (0, .ref 2), (1, .int a1)]) (st' := [.int 11, .ref 3]) (w' := (fw z)) (cs' := 0) (ss' := 0) ?_ (fun _ _ => rfl)
  refine go_seg 2 (pc' := 17) (ls' := [(3, .int 11), (2, .int 0), (0, .ref 2), (1, .int a1)]) (st' := [.int a1, .int (-1)]) (w' := (fw z)) (cs' := 0) (ss' := 0) ?_ (fun _ _ => rfl)
  refine go_cmp true rfl (br_ne_ts (b := -1) rfl (by omega)) ?_
  refine go_seg 8 (pc' := 15) (ls' := [(3, .int 12), (2, .int 0), (0, .ref 2), (1, .int a1)]) (st' := [.int 12, .ref 3]) (w' := (fw z)) (cs' := 0) (ss' := 0) ?_ (fun _ _ => rfl)
  refine go_seg 2 (pc' := 17) (ls' := [(3, .int 12), (2, .int 0), (0, .ref 2), (1, .int a1)]) (st' := [.int a1, .int (-1)]) (w' := (fw z)) (cs' := 0) (ss' := 0) ?_ (fun _ _ => rfl)
  refine go_cmp true rfl (br_ne_ts (b := -1) rfl (by omega)) ?_
  refine go_seg 8 (pc' := 15) (ls' := [(3, .int 13), (2, .int 0), (0, .ref 2), (1, .int a1)]) (st' := [.int 13, .ref 3]) (w' := (fw z)) (cs' := 0) (ss' := 0) ?_ (fun _ _ => rfl)
  refine go_seg 2 (pc' := 17) (ls' := [(3, .int 13), (2, .int 0), (0, .ref 2), (1, .int a1)]) (st' := [.int a1, .int (-1)]) (w' := (fw z)) (cs' := 0) (ss' := 0) ?_ (fun _ _ => rfl)
  refine go_cmp true rfl (br_ne_ts (b := -1) rfl (by omega)) ?_
  refine go_seg 8 (pc' := 15) (ls' := [(3, .int 14), (2, .int 0), (0, .ref 2), (1, .int a1)]) (st' := [.int 14, .ref 3]) (w' := (fw z)) (cs' := 0) (ss' := 0) ?_ (fun _ _ => rfl)
  refine go_seg 2 (pc' := 17) (ls' := [(3, .int 14), (2, .int 0), (0, .ref 2), (1, .int a1)]) (st' := [.int a1, .int (-1)]) (w' := (fw z)) (cs' := 0) (ss' := 0) ?_ (fun _ _ => rfl)
  refine go_cmp true rfl (br_ne_ts (b := -1) rfl (by omega)) ?_
  refine go_seg 8 (pc' := 15) (ls' := [(3, .int 15), (2, .int 0), (0, .ref 2), (1, .int a1)]) (st' := [.int 15, .ref 3]) (w' := (fw z)) (cs' := 0) (ss' := 0) ?_ (fun _ _ => rfl)
  refine go_seg 2 (pc' := 17) (ls' := [(3, .int 15), (2, .int 0), (0, .ref 2), (1, .int a1)]) (st' := [.int a1, .int (-1)]) (w' := (fw z)) (cs' := 0) (ss' := 0) ?_ (fun _ _ => rfl)
  refine go_cmp true rfl (br_ne_ts (b := -1) rfl (by omega)) ?_
  refine go_seg 8 (pc' := 15) (ls' := [(3, .int 16), (2, .int 0), (0, .ref 2), (1, .int a1)]) (st' := [.int 16, .ref 3]) (w' := (fw z)) (cs' := 0) (ss' := 0) ?_ (fun _ _ => rfl)
  refine go_seg 2 (pc' := 17) (ls' := [(3, .int 16), (2, .int 0), (0, .ref 2), (1, .int a1)]) (st' := [.int a1, .int (-1)]) (w' := (fw z)) (cs' := 0) (ss' := 0) ?_ (fun _ _ => rfl)
  refine go_cmp true rfl (br_ne_ts (b := -1) rfl (by omega)) ?_
  refine go_seg 8 (pc' := 15) (ls' := [(3, .int 17), (2, .int 0), (0, .ref 2), (1, .int a1)]) (st' := [.int 17, .ref 3]) (w' := (fw z)) (cs' := 0) (ss' := 0) ?_ (fun _ _ => rfl)
  refine go_seg 2 (pc' := 17) (ls' := [(3, .int 17), (2, .int 0), (0, .ref 2), (1, .int a1)]) (st' := [.int a1, .int (-1)]) (w' := (fw z)) (cs' := 0) (ss' := 0) ?_ (fun _ _ => rfl)
  refine go_cmp true rfl (br_ne_ts (b := -1) rfl (by omega)) ?_
  refine go_seg 8 (pc' := 15) (ls' := [(3, .int 18), (2, .int 0), (0, .ref 2), (1, .int a1)]) (st' := [.int 18, .ref 3]) (w' := (fw z)) (cs' := 0) (ss' := 0) ?_ (fun _ _ => rfl)
  refine go_seg 2 (pc' := 17) (ls' := [(3, .int 18), (2, .int 0), (0, .ref 2), (1, .int a1)]) (st' := [.int a1, .int (-1)]) (w' := (fw z)) (cs' := 0) (ss' := 0) ?_ (fun _ _ => rfl)
  refine go_cmp true rfl (br_ne_ts (b := -1) rfl (by omega)) ?_
  refine go_seg 8 (pc' := 15) (ls' := [(3, .int 19), (2, .int 0), (0, .ref 2), (1, .int a1)]) (st' := [.int 19, .ref 3]) (w' := (fw z)) (cs' := 0) (ss' := 0) ?_ (fun _ _ => rfl)
  refine go_seg 2 (pc' := 17) (ls' := [(3, .int 19), (2, .int 0), (0, .ref 2), (1, .int a1)]) (st' := [.int a1, .int (-1)]) (w' := (fw z)) (cs' := 0) (ss' := 0) ?_ (fun _ _ => rfl)
  refine go_cmp true rfl (br_ne_ts (b := -1) rfl (by omega)) ?_
  refine go_seg 8 (pc' := 15) (ls' := [(3, .int 20), (2, .int 0), (0, .ref 2), (1, .int a1)]) (st' := [.int 20, .ref 3]) (w' := (fw z)) (cs' := 0) (ss' := 0) ?_ (fun _ _ => rfl)
  refine go_seg 2 (pc' := 17) (ls' := [(3, .int 20), (2, .int 0), (0, .ref 2), (1, .int a1)]) (st' := [.int a1, .int (-1)]) (w' := (fw z)) (cs' := 0) (ss' := 0) ?_ (fun _ _ => rfl)
  refine go_cmp true rfl (br_ne_ts (b := -1) rfl (by omega)) ?_
  refine go_seg 8 (pc' := 15) (ls' := [(3, .int 21), (2, .int 0), (0, .ref 2), (1, .int a1)]) (st' := [.int 21, .ref 3]) (w' := (fw z)) (cs' := 0) (ss' := 0) ?_ (fun _ _ => rfl)
  refine go_seg 2 (pc' := 17) (ls' := [(3, .int 21), (2, .int 0), (0, .ref 2), (1, .int a1)]) (st' := [.int a1, .int (-1)]) (w' := (fw z)) (cs' := 0) (ss' := 0) ?_ (fun _ _ => rfl)
  refine go_cmp true rfl (br_ne_ts (b := -1) rfl (by omega)) ?_
  refine go_seg 8 (pc' := 15) (ls' := [(3, .int 22), (2, .int 0), (0, .ref 2), (1, .int a1)]) (st' := [.int 22, .ref 3]) (w' := (fw z)) (cs' := 0) (ss' := 0) ?_ (fun _ _ => rfl)
  refine go_seg 2 (pc' := 17) (ls' := [(3, .int 22), (2, .int 0), (0, .ref 2), (1, .int a1)]) (st' := [.int a1, .int (-1)]) (w' := (fw z)) (cs' := 0) (ss' := 0) ?_ (fun _ _ => rfl)
  refine go_cmp true rfl (br_ne_ts (b := -1) rfl (by omega)) ?_
  refine go_seg 8 (pc' := 15) (ls' := [(3, .int 23), (2, .int 0), (0, .ref 2), (1, .int a1)]) (st' := [.int 23, .ref 3]) (w' := (fw z)) (cs' := 0) (ss' := 0) ?_ (fun _ _ => rfl)
  refine go_seg 2 (pc' := 17) (ls' := [(3, .int 23), (2, .int 0), (0, .ref 2), (1, .int a1)]) (st' := [.int a1, .int (-1)]) (w' := (fw z)) (cs' := 0) (ss' := 0) ?_ (fun _ _ => rfl)
  refine go_cmp true rfl (br_ne_ts (b := -1) rfl (by omega)) ?_
  refine go_seg 8 (pc' := 15) (ls' := [(3, .int 24), (2, .int 0), (0, .ref 2), (1, .int a1)]) (st' := [.int 24, .ref 3]) (w' := (fw z)) (cs' := 0) (ss' := 0) ?_ (fun _ _ => rfl)
  refine go_seg 2 (pc' := 17) (ls' := [(3, .int 24), (2, .int 0), (0, .ref 2), (1, .int a1)]) (st' := [.int a1, .int (-1)]) (w' := (fw z)) (cs' := 0) (ss' := 0) ?_ (fun _ _ => rfl)
  refine go_cmp true rfl (br_ne_ts (b := -1) rfl (by omega)) ?_
  refine go_seg 8 (pc' := 15) (ls' := [(3, .int 25), (2, .int 0), (0, .ref 2), (1, .int a1)]) (st' := [.int 25, .ref 3]) (w' := (fw z)) (cs' := 0) (ss' := 0) ?_ (fun _ _ => rfl)
  refine go_seg 2 (pc' := 17) (ls' := [(3, .int 25), (2, .int 0), (0, .ref 2), (1, .int a1)]) (st' := [.int a1, .int (-1)]) (w' := (fw z)) (cs' := 0) (ss' := 0) ?_ (fun _ _ => rfl)
  refine go_cmp true rfl (br_ne_ts (b := -1) rfl (by omega)) ?_
  refine go_seg 8 (pc' := 15) (ls' := [(3, .int 26), (2, .int 0), (0, .ref 2), (1, .int a1)]) (st' := [.int 26, .ref 3]) (w' := (fw z)) (cs' := 0) (ss' := 0) ?_ (fun _ _ => rfl)
  refine go_seg 2 (pc' := 17) (ls' := [(3, .int 26), (2, .int 0), (0, .ref 2), (1, .int a1)]) (st' := [.int a1, .int (-1)]) (w' := (fw z)) (cs' := 0) (ss' := 0) ?_ (fun _ _ => rfl)
  refine go_cmp true rfl (br_ne_ts (b := -1) rfl (by omega)) ?_
  refine go_seg 8 (pc' := 15) (ls' := [(3, .int 27), (2, .int 0), (0, .ref 2), (1, .int a1)]) (st' := [.int 27, .ref 3]) (w' := (fw z)) (cs' := 0) (ss' := 0) ?_ (fun _ _ => rfl)
  refine go_seg 2 (pc' := 17) (ls' := [(3, .int 27), (2, .int 0), (0, .ref 2), (1, .int a1)]) (st' := [.int a1, .int (-1)]) (w' := (fw z)) (cs' := 0) (ss' := 0) ?_ (fun _ _ => rfl)
  refine go_cmp true rfl (br_ne_ts (b := -1) rfl (by omega)) ?_
  refine go_seg 8 (pc' := 15) (ls' := [(3, .int 28), (2, .int 0), (0, .ref 2), (1, .int a1)]) (st' := [.int 28, .ref 3]) (w' := (fw z)) (cs' := 0) (ss' := 0) ?_ (fun _ _ => rfl)
  refine go_seg 2 (pc' := 17) (ls' := [(3, .int 28), (2, .int 0), (0, .ref 2), (1, .int a1)]) (st' := [.int a1, .int (-1)]) (w' := (fw z)) (cs' := 0) (ss' := 0) ?_ (fun _ _ => rfl)
  refine go_cmp true rfl (br_ne_ts (b := -1) rfl (by omega)) ?_
  refine go_seg 8 (pc' := 15) (ls' := [(3, .int 29), (2, .int 0), (0, .ref 2), (1, .int a1)]) (st' := [.int 29, .ref 3]) (w' := (fw z)) (cs' := 0) (ss' := 0) ?_ (fun _ _ => rfl)
  refine go_seg 2 (pc' := 17) (ls' := [(3, .int 29), (2, .int 0), (0, .ref 2), (1, .int a1)]) (st' := [.int a1, .int (-1)]) (w' := (fw z)) (cs' := 0) (ss' := 0) ?_ (fun _ _ => rfl)
  refine go_cmp true rfl (br_ne_ts (b := -1) rfl (by omega)) ?_
  refine go_seg 8 (pc' := 15) (ls' := [(3, .int 30), (2, .int 0), (0, .ref 2), (1, .int a1)]) (st' := [.int 30, .ref 3]) (w' := (fw z)) (cs' := 0) (ss' := 0) ?_ (fun _ _ => rfl)
  refine go_seg 2 (pc' := 17) (ls' := [(3, .int 30), (2, .int 0), (0, .ref 2), (1, .int a1)]) (st' := [.int a1, .int (-1)]) (w' := (fw z)) (cs' := 0) (ss' := 0) ?_ (fun _ _ => rfl)
  refine go_cmp true rfl (br_ne_ts (b := -1) rfl (by omega)) ?_
  refine go_seg 8 (pc' := 15) (ls' := [(3, .int 31), (2, .int 0), (0, .ref 2), (1, .int a1)]) (st' := [.int 31, .ref 3]) (w' := (fw z)) (cs' := 0) (ss' := 0) ?_ (fun _ _ => rfl)
  refine go_seg 2 (pc' := 17) (ls' := [(3, .int 31), (2, .int 0), (0, .ref 2), (1, .int a1)]) (st' := [.int a1, .int (-1)]) (w' := (fw z)) (cs' := 0) (ss' := 0) ?_ (fun _ _ => rfl)
  refine go_cmp true rfl (br_ne_ts (b := -1) rfl (by omega)) ?_
  refine go_seg 8 (pc' := 15) (ls' := [(3, .int 32), (2, .int 0), (0, .ref 2), (1, .int a1)]) (st' := [.int 32, .ref 3]) (w' := (fw z)) (cs' := 0) (ss' := 0) ?_ (fun _ _ => rfl)
  refine go_seg 2 (pc' := 17) (ls' := [(3, .int 32), (2, .int 0), (0, .ref 2), (1, .int a1)]) (st' := [.int a1, .int (-1)]) (w' := (fw z)) (cs' := 0) (ss' := 0) ?_ (fun _ _ => rfl)
  refine go_cmp true rfl (br_ne_ts (b := -1) rfl (by omega)) ?_
  refine go_seg 8 (pc' := 15) (ls' := [(3, .int 33), (2, .int 0), (0, .ref 2), (1, .int a1)]) (st' := [.int 33, .ref 3]) (w' := (fw z)) (cs' := 0) (ss' := 0) ?_ (fun _ _ => rfl)
  refine go_seg 2 (pc' := 17) (ls' := [(3, .int 33), (2, .int 0), (0, .ref 2), (1, .int a1)]) (st' := [.int a1, .int (-1)]) (w' := (fw z)) (cs' := 0) (ss' := 0) ?_ (fun _ _ => rfl)
  refine go_cmp true rfl (br_ne_ts (b := -1) rfl (by omega)) ?_
  refine go_seg 8 (pc' := 15) (ls' := [(3, .int 34), (2, .int 0), (0, .ref 2), (1, .int a1)]) (st' := [.int 34, .ref 3]) (w' := (fw z)) (cs' := 0) (ss' := 0) ?_ (fun _ _ => rfl)
  refine go_seg 2 (pc' := 17) (ls' := [(3, .int 34), (2, .int 0), (0, .ref 2), (1, .int a1)]) (st' := [.int a1, .int (-1)]) (w' := (fw z)) (cs' := 0) (ss' := 0) ?_ (fun _ _ => rfl)
  refine go_cmp true rfl (br_ne_ts (b := -1) rfl (by omega)) ?_
  refine go_seg 8 (pc' := 15) (ls' := [(3, .int 35), (2, .int 0), (0, .ref 2), (1, .int a1)]) (st' := [.int 35, .ref 3]) (w' := (fw z)) (cs' := 0) (ss' := 0) ?_ (fun _ _ => rfl)
  refine go_seg 2 (pc' := 17) (ls' := [(3, .int 35), (2, .int 0), (0, .ref 2), (1, .int a1)]) (st' := [.int a1, .int (-1)]) (w' := (fw z)) (cs' := 0) (ss' := 0) ?_ (fun _ _ => rfl)
  refine go_cmp true rfl (br_ne_ts (b := -1) rfl (by omega)) ?_
  refine go_seg 8 (pc' := 15) (ls' := [(3, .int 36), (2, .int 0), (0, .ref 2), (1, .int a1)]) (st' := [.int 36, .ref 3]) (w' := (fw z)) (cs' := 0) (ss' := 0) ?_ (fun _ _ => rfl)
  refine go_seg 2 (pc' := 17) (ls' := [(3, .int 36), (2, .int 0), (0, .ref 2), (1, .int a1)]) (st' := [.int a1, .int (-1)]) (w' := (fw z)) (cs' := 0) (ss' := 0) ?_ (fun _ _ => rfl)
  refine go_cmp true rfl (br_ne_ts (b := -1) rfl (by omega)) ?_
  refine go_seg 8 (pc' := 15) (ls' := [(3, .int 37), (2, .int 0), (0, .ref 2), (1, .int a1)]) (st' := [.int 37, .ref 3]) (w' := (fw z)) (cs' := 0) (ss' := 0) ?_ (fun _ _ => rfl)
  refine go_seg 2 (pc' := 17) (ls' := [(3, .int 37), (2, .int 0), (0, .ref 2), (1, .int a1)]) (st' := [.int a1, .int (-1)]) (w' := (fw z)) (cs' := 0) (ss' := 0) ?_ (fun _ _ => rfl)
  refine go_cmp true rfl (br_ne_ts (b := -1) rfl (by omega)) ?_
  refine go_seg 8 (pc' := 15) (ls' := [(3, .int 38), (2, .int 0), (0, .ref 2), (1, .int a1)]) (st' := [.int 38, .ref 3]) (w' := (fw z)) (cs' := 0) (ss' := 0) ?_ (fun _ _ => rfl)
  refine go_seg 2 (pc' := 17) (ls' := [(3, .int 38), (2, .int 0), (0, .ref 2), (1, .int a1)]) (st' := [.int a1, .int (-1)]) (w' := (fw z)) (cs' := 0) (ss' := 0) ?_ (fun _ _ => rfl)
  refine go_cmp true rfl (br_ne_ts (b := -1) rfl (by omega)) ?_
  refine go_seg 8 (pc' := 15) (ls' := [(3, .int 39), (2, .int 0), (0, .ref 2), (1, .int a1)]) (st' := [.int 39, .ref 3]) (w' := (fw z)) (cs' := 0) (ss' := 0) ?_ (fun _ _ => rfl)
  refine go_seg 2 (pc' := 17) (ls' := [(3, .int 39), (2, .int 0), (0, .ref 2), (1, .int a1)]) (st' := [.int a1, .int (-1)]) (w' := (fw z)) (cs' := 0) (ss' := 0) ?_ (fun _ _ => rfl)
  refine go_cmp true rfl (br_ne_ts (b := -1) rfl (by omega)) ?_
  refine go_seg 8 (pc' := 15) (ls' := [(3, .int 40), (2, .int 0), (0, .ref 2), (1, .int a1)]) (st' := [.int 40, .ref 3]) (w' := (fw z)) (cs' := 0) (ss' := 0) ?_ (fun _ _ => rfl)
  refine go_seg 2 (pc' := 17) (ls' := [(3, .int 40), (2, .int 0), (0, .ref 2), (1, .int a1)]) (st' := [.int a1, .int (-1)]) (w' := (fw z)) (cs' := 0) (ss' := 0) ?_ (fun _ _ => rfl)
  refine go_cmp true rfl (br_ne_ts (b := -1) rfl (by omega)) ?_
  refine go_seg 8 (pc' := 15) (ls' := [(3, .int 41), (2, .int 0), (0, .ref 2), (1, .int a1)]) (st' := [.int 41, .ref 3]) (w' := (fw z)) (cs' := 0) (ss' := 0) ?_ (fun _ _ => rfl)
  refine go_seg 2 (pc' := 17) (ls' := [(3, .int 41), (2, .int 0), (0, .ref 2), (1, .int a1)]) (st' := [.int a1, .int (-1)]) (w' := (fw z)) (cs' := 0) (ss' := 0) ?_ (fun _ _ => rfl)
  refine go_cmp true rfl (br_ne_ts (b := -1) rfl (by omega)) ?_
  refine go_seg 8 (pc' := 15) (ls' := [(3, .int 42), (2, .int 0), (0, .ref 2), (1, .int a1)]) (st' := [.int 42, .ref 3]) (w' := (fw z)) (cs' := 0) (ss' := 0) ?_ (fun _ _ => rfl)
  refine go_seg 2 (pc' := 17) (ls' := [(3, .int 42), (2, .int 0), (0, .ref 2), (1, .int a1)]) (st' := [.int a1, .int (-1)]) (w' := (fw z)) (cs' := 0) (ss' := 0) ?_ (fun _ _ => rfl)
  refine go_cmp true rfl (br_ne_ts (b := -1) rfl (by omega)) ?_
  refine go_seg 8 (pc' := 15) (ls' := [(3, .int 43), (2, .int 0), (0, .ref 2), (1, .int a1)]) (st' := [.int 43, .ref 3]) (w' := (fw z)) (cs' := 0) (ss' := 0) ?_ (fun _ _ => rfl)
  refine go_seg 2 (pc' := 17) (ls' := [(3, .int 43), (2, .int 0), (0, .ref 2), (1, .int a1)]) (st' := [.int a1, .int (-1)]) (w' := (fw z)) (cs' := 0) (ss' := 0) ?_ (fun _ _ => rfl)
  refine go_cmp true rfl (br_ne_ts (b := -1) rfl (by omega)) ?_
  refine go_seg 8 (pc' := 15) (ls' := [(3, .int 44), (2, .int 0), (0, .ref 2), (1, .int a1)]) (st' := [.int 44, .ref 3]) (w' := (fw z)) (cs' := 0) (ss' := 0) ?_ (fun _ _ => rfl)
  refine go_seg 2 (pc' := 17) (ls' := [(3, .int 44), (2, .int 0), (0, .ref 2), (1, .int a1)]) (st' := [.int a1, .int (-1)]) (w' := (fw z)) (cs' := 0) (ss' := 0) ?_ (fun _ _ => rfl)
  refine go_cmp true rfl (br_ne_ts (b := -1) rfl (by omega)) ?_
  refine go_seg 8 (pc' := 15) (ls' := [(3, .int 45), (2, .int 0), (0, .ref 2), (1, .int a1)]) (st' := [.int 45, .ref 3]) (w' := (fw z)) (cs' := 0) (ss' := 0) ?_ (fun _ _ => rfl)
  refine go_seg 2 (pc' := 17) (ls' := [(3, .int 45), (2, .int 0), (0, .ref 2), (1, .int a1)]) (st' := [.int a1, .int (-1)]) (w' := (fw z)) (cs' := 0) (ss' := 0) ?_ (fun _ _ => rfl)
  refine go_cmp true rfl (br_ne_ts (b := -1) rfl (by omega)) ?_
  refine go_seg 8 (pc' := 15) (ls' := [(3, .int 46), (2, .int 0), (0, .ref 2), (1, .int a1)]) (st' := [.int 46, .ref 3]) (w' := (fw z)) (cs' := 0) (ss' := 0) ?_ (fun _ _ => rfl)
  refine go_seg 2 (pc' := 17) (ls' := [(3, .int 46), (2, .int 0), (0, .ref 2), (1, .int a1)]) (st' := [.int a1, .int (-1)]) (w' := (fw z)) (cs' := 0) (ss' := 0) ?_ (fun _ _ => rfl)
  refine go_cmp true rfl (br_ne_ts (b := -1) rfl (by omega)) ?_
  refine go_seg 8 (pc' := 15) (ls' := [(3, .int 47), (2, .int 0), (0, .ref 2), (1, .int a1)]) (st' := [.int 47, .ref 3]) (w' := (fw z)) (cs' := 0) (ss' := 0) ?_ (fun _ _ => rfl)
  refine go_seg 2 (pc' := 17) (ls' := [(3, .int 47), (2, .int 0), (0, .ref 2), (1, .int a1)]) (st' := [.int a1, .int (-1)]) (w' := (fw z)) (cs' := 0) (ss' := 0) ?_ (fun _ _ => rfl)
  refine go_cmp true rfl (br_ne_ts (b := -1) rfl (by omega)) ?_
  refine go_seg 8 (pc' := 15) (ls' := [(3, .int 48), (2, .int 0), (0, .ref 2), (1, .int a1)]) (st' := [.int 48, .ref 3]) (w' := (fw z)) (cs' := 0) (ss' := 0) ?_ (fun _ _ => rfl)
  refine go_seg 2 (pc' := 17) (ls' := [(3, .int 48), (2, .int 0), (0, .ref 2), (1, .int a1)]) (st' := [.int a1, .int (-1)]) (w' := (fw z)) (cs' := 0) (ss' := 0) ?_ (fun _ _ => rfl)
  refine go_cmp true rfl (br_ne_ts (b := -1) rfl (by omega)) ?_
  refine go_seg 8 (pc' := 15) (ls' := [(3, .int 49), (2, .int 0), (0, .ref 2), (1, .int a1)]) (st' := [.int 49, .ref 3]) (w' := (fw z)) (cs' := 0) (ss' := 0) ?_ (fun _ _ => rfl)
  refine go_seg 2 (pc' := 17) (ls' := [(3, .int 49), (2, .int 0), (0, .ref 2), (1, .int a1)]) (st' := [.int a1, .int (-1)]) (w' := (fw z)) (cs' := 0) (ss' := 0) ?_ (fun _ _ => rfl)
  refine go_cmp true rfl (br_ne_ts (b := -1) rfl (by omega)) ?_
  refine go_seg 8 (pc' := 15) (ls' := [(3, .int 50), (2, .int 0), (0, .ref 2), (1, .int a1)]) (st' := [.int 50, .ref 3]) (w' := (fw z)) (cs' := 0) (ss' := 0) ?_ (fun _ _ => rfl)
  refine go_seg 2 (pc' := 17) (ls' := [(3, .int 50), (2, .int 0), (0, .ref 2), (1, .int a1)]) (st' := [.int a1, .int (-1)]) (w' := (fw z)) (cs' := 0) (ss' := 0) ?_ (fun _ _ => rfl)
  refine go_cmp true rfl (br_ne_ts (b := -1) rfl (by omega)) ?_
  refine go_seg 8 (pc' := 15) (ls' := [(3, .int 51), (2, .int 0), (0, .ref 2), (1, .int a1)]) (st' := [.int 51, .ref 3]) (w' := (fw z)) (cs' := 0) (ss' := 0) ?_ (fun _ _ => rfl)
  refine go_seg 2 (pc' := 17) (ls' := [(3, .int 51), (2, .int 0), (0, .ref 2), (1, .int a1)]) (st' := [.int a1, .int (-1)]) (w' := (fw z)) (cs' := 0) (ss' := 0) ?_ (fun _ _ => rfl)
  refine go_cmp true rfl (br_ne_ts (b := -1) rfl (by omega)) ?_
  refine go_seg 8 (pc' := 15) (ls' := [(3, .int 52), (2, .int 0), (0, .ref 2), (1, .int a1)]) (st' := [.int 52, .ref 3]) (w' := (fw z)) (cs' := 0) (ss' := 0) ?_ (fun _ _ => rfl)
  refine go_seg 2 (pc' := 17) (ls' := [(3, .int 52), (2, .int 0), (0, .ref 2), (1, .int a1)]) (st' := [.int a1, .int (-1)]) (w' := (fw z)) (cs' := 0) (ss' := 0) ?_ (fun _ _ => rfl)
  refine go_cmp true rfl (br_ne_ts (b := -1) rfl (by omega)) ?_
  refine go_seg 8 (pc' := 15) (ls' := [(3, .int 53), (2, .int 0), (0, .ref 2), (1, .int a1)]) (st' := [.int 53, .ref 3]) (w' := (fw z)) (cs' := 0) (ss' := 0) ?_ (fun _ _ => rfl)
  refine go_seg 2 (pc' := 17) (ls' := [(3, .int 53), (2, .int 0), (0, .ref 2), (1, .int a1)]) (st' := [.int a1, .int (-1)]) (w' := (fw z)) (cs' := 0) (ss' := 0) ?_ (fun _ _ => rfl)
  refine go_cmp true rfl (br_ne_ts (b := -1) rfl (by omega)) ?_
  refine go_seg 8 (pc' := 15) (ls' := [(3, .int 54), (2, .int 0), (0, .ref 2), (1, .int a1)]) (st' := [.int 54, .ref 3]) (w' := (fw z)) (cs' := 0) (ss' := 0) ?_ (fun _ _ => rfl)
  refine go_seg 2 (pc' := 17) (ls' := [(3, .int 54), (2, .int 0), (0, .ref 2), (1, .int a1)]) (st' := [.int a1, .int (-1)]) (w' := (fw z)) (cs' := 0) (ss' := 0) ?_ (fun _ _ => rfl)
  refine go_cmp true rfl (br_ne_ts (b := -1) rfl (by omega)) ?_
  refine go_seg 8 (pc' := 15) (ls' := [(3, .int 55), (2, .int 0), (0, .ref 2), (1, .int a1)]) (st' := [.int 55, .ref 3]) (w' := (fw z)) (cs' := 0) (ss' := 0) ?_ (fun _ _ => rfl)
  refine go_seg 2 (pc' := 17) (ls' := [(3, .int 55), (2, .int 0), (0, .ref 2), (1, .int a1)]) (st' := [.int a1, .int (-1)]) (w' := (fw z)) (cs' := 0) (ss' := 0) ?_ (fun _ _ => rfl)
  refine go_cmp true rfl (br_ne_ts (b := -1) rfl (by omega)) ?_
  refine go_seg 8 (pc' := 15) (ls' := [(3, .int 56), (2, .int 0), (0, .ref 2), (1, .int a1)]) (st' := [.int 56, .ref 3]) (w' := (fw z)) (cs' := 0) (ss' := 0) ?_ (fun _ _ => rfl)
  refine go_seg 2 (pc' := 17) (ls' := [(3, .int 56), (2, .int 0), (0, .ref 2), (1, .int a1)]) (st' := [.int a1, .int (-1)]) (w' := (fw z)) (cs' := 0) (ss' := 0) ?_ (fun _ _ => rfl)
  refine go_cmp true rfl (br_ne_ts (b := -1) rfl (by omega)) ?_
  refine go_seg 8 (pc' := 15) (ls' := [(3, .int 57), (2, .int 0), (0, .ref 2), (1, .int a1)]) (st' := [.int 57, .ref 3]) (w' := (fw z)) (cs' := 0) (ss' := 0) ?_ (fun _ _ => rfl)
  refine go_seg 2 (pc' := 17) (ls' := [(3, .int 57), (2, .int 0), (0, .ref 2), (1, .int a1)]) (st' := [.int a1, .int (-1)]) (w' := (fw z)) (cs' := 0) (ss' := 0) ?_ (fun _ _ => rfl)
  refine go_cmp true rfl (br_ne_ts (b := -1) rfl (by omega)) ?_
  refine go_seg 8 (pc' := 15) (ls' := [(3, .int 58), (2, .int 0), (0, .ref 2), (1, .int a1)]) (st' := [.int 58, .ref 3]) (w' := (fw z)) (cs' := 0) (ss' := 0) ?_ (fun _ _ => rfl)
  refine go_seg 2 (pc' := 17) (ls' := [(3, .int 58), (2, .int 0), (0, .ref 2), (1, .int a1)]) (st' := [.int a1, .int (-1)]) (w' := (fw z)) (cs' := 0) (ss' := 0) ?_ (fun _ _ => rfl)
  refine go_cmp true rfl (br_ne_ts (b := -1) rfl (by omega)) ?_
  refine go_seg 8 (pc' := 15) (ls' := [(3, .int 59), (2, .int 0), (0, .ref 2), (1, .int a1)]) (st' := [.int 59, .ref 3]) (w' := (fw z)) (cs' := 0) (ss' := 0) ?_ (fun _ _ => rfl)
  refine go_seg 2 (pc' := 17) (ls' := [(3, .int 59), (2, .int 0), (0, .ref 2), (1, .int a1)]) (st' := [.int a1, .int (-1)]) (w' := (fw z)) (cs' := 0) (ss' := 0) ?_ (fun _ _ => rfl)
  refine go_cmp true rfl (br_ne_ts (b := -1) rfl (by omega)) ?_
  refine go_seg 8 (pc' := 15) (ls' := [(3, .int 60), (2, .int 0), (0, .ref 2), (1, .int a1)]) (st' := [.int 60, .ref 3]) (w' := (fw z)) (cs' := 0) (ss' := 0) ?_ (fun _ _ => rfl)
  refine go_seg 2 (pc' := 17) (ls' := [(3, .int 60), (2, .int 0), (0, .ref 2), (1, .int a1)]) (st' := [.int a1, .int (-1)]) (w' := (fw z)) (cs' := 0) (ss' := 0) ?_ (fun _ _ => rfl)
  refine go_cmp true rfl (br_ne_ts (b := -1) rfl (by omega)) ?_
  refine go_seg 8 (pc' := 15) (ls' := [(3, .int 61), (2, .int 0), (0, .ref 2), (1, .int a1)]) (st' := [.int 61, .ref 3]) (w' := (fw z)) (cs' := 0) (ss' := 0) ?_ (fun _ _ => rfl)
  refine go_seg 2 (pc' := 17) (ls' := [(3, .int 61), (2, .int 0), (0, .ref 2), (1, .int a1)]) (st' := [.int a1, .int (-1)]) (w' := (fw z)) (cs' := 0) (ss' := 0) ?_ (fun _ _ => rfl)
  refine go_cmp true rfl (br_ne_ts (b := -1) rfl (by omega)) ?_
  refine go_seg 8 (pc' := 15) (ls' := [(3, .int 62), (2, .int 0), (0, .ref 2), (1, .int a1)]) (st' := [.int 62, .ref 3]) (w' := (fw z)) (cs' := 0) (ss' := 0) ?_ (fun _ _ => rfl)
  refine go_seg 2 (pc' := 17) (ls' := [(3, .int 62), (2, .int 0), (0, .ref 2), (1, .int a1)]) (st' := [.int a1, .int (-1)]) (w' := (fw z)) (cs' := 0) (ss' := 0) ?_ (fun _ _ => rfl)
  refine go_cmp true rfl (br_ne_ts (b := -1) rfl (by omega)) ?_
  refine go_seg 8 (pc' := 15) (ls' := [(3, .int 63), (2, .int 0), (0, .ref 2), (1, .int a1)]) (st' := [.int 63, .ref 3]) (w' := (fw z)) (cs' := 0) (ss' := 0) ?_ (fun _ _ => rfl)
  refine go_seg 2 (pc' := 17) (ls' := [(3, .int 63), (2, .int 0), (0, .ref 2), (1, .int a1)]) (st' := [.int a1, .int (-1)]) (w' := (fw z)) (cs' := 0) (ss' := 0) ?_ (fun _ _ => rfl)
  refine go_cmp true rfl (br_ne_ts (b := -1) rfl (by omega)) ?_
  exact go_end 7 (fun _ _ => rfl)
theorem ro_1115 (z : pq_C) (a1 : Int32) (h0 : 0 ≤ a1.toInt) (h1 : a1.toInt < 8) : pq_Ru 2 25 [.ref 1, .int a1, .int 5] (fw z) (some (.int 0), (fw z)) := by
  refine ru_of (k := 1) (M := pm_25) rfl rfl ?_
  refine go_seg 1 (pc' := 1) (ls' := [(0, .ref 1), (1, .int a1), (2, .int 5)]) (st' := [.int a1]) (w' := (fw z)) (cs' := 0) (ss' := 0) ?_ (fun _ _ => rfl)
  refine go_cl (k := 1) (st' := [.int 1]) (cs' := 0) (ss' := 0) rfl rfl rfl rfl rfl rfl rfl (ro_331 z a1 (by omega) (by omega)) ?_
  refine go_seg 6 (pc' := 115) (ls' := [(0, .ref 1), (1, .int a1), (2, .int 5)]) (st' := [.int a1, .ref 2]) (w' := (fw z)) (cs' := 0) (ss' := 0) ?_ (fun _ _ => rfl)
  refine go_cl (k := 1) (st' := [.int 0]) (cs' := 0) (ss' := 0) rfl rfl rfl rfl rfl rfl rfl (ro_1114 z a1 (by omega) (by omega)) ?_
  exact go_end 1 (fun _ _ => rfl)
theorem ro_1116 (z : pq_C) (a1 : Int32) (h0 : 0 ≤ a1.toInt) (h1 : a1.toInt < 8) : pq_Ru 3 169 [.ref 90, .int a1, .int 5] (fw z) (some (.int 0), (fw z)) := by
  refine ru_of (k := 2) (M := pm_169) rfl rfl ?_
  refine go_seg 1 (pc' := 1) (ls' := [(0, .ref 90), (1, .int a1), (2, .int 5)]) (st' := [.int a1]) (w' := (fw z)) (cs' := 0) (ss' := 0) ?_ (fun _ _ => rfl)
  refine go_cl (k := 2) (st' := [.int 1]) (cs' := 0) (ss' := 0) rfl rfl rfl rfl rfl rfl rfl (ro_335 z a1 (by omega) (by omega)) ?_
  refine go_seg 5 (pc' := 13) (ls' := [(0, .ref 90), (1, .int a1), (2, .int 5)]) (st' := [.long 7, .long 0, .long 5]) (w' := (fw z)) (cs' := 0) (ss' := 0) ?_ (fun _ _ => rfl)
  refine go_cl (k := 2) (st' := [.int 1]) (cs' := 0) (ss' := 0) rfl rfl rfl rfl rfl rfl rfl (ro_969 z) ?_
  refine go_seg 8 (pc' := 47) (ls' := [(4, .int 0), (3, .int 0), (0, .ref 90), (1, .int a1), (2, .int 5)]) (st' := []) (w' := (fw z)) (cs' := 0) (ss' := 0) ?_ (fun _ _ => rfl)
  refine go_seg 8 (pc' := 63) (ls' := [(4, .int 0), (3, .int 0), (0, .ref 90), (1, .int a1), (2, .int 5)]) (st' := [.int 0, .int 10, .ref 91, .int 0]) (w' := (fw z)) (cs' := 0) (ss' := 0) ?_ (fun _ _ => rfl)
  refine go_seg 3 (pc' := 66) (ls' := [(4, .int 0), (3, .int 0), (0, .ref 90), (1, .int a1), (2, .int 5)]) (st' := [.int a1, .int (-1), .int 0]) (w' := (fw z)) (cs' := 0) (ss' := 0) ?_ (fun _ _ => rfl)
  refine go_cmp true rfl (br_ne_ts (b := -1) rfl (by omega)) ?_
  refine go_seg 8 (pc' := 54) (ls' := [(4, .int 1), (3, .int 0), (0, .ref 90), (1, .int a1), (2, .int 5)]) (st' := []) (w' := (fw z)) (cs' := 0) (ss' := 0) ?_ (fun _ _ => rfl)
  refine go_seg 8 (pc' := 66) (ls' := [(4, .int 1), (3, .int 0), (0, .ref 90), (1, .int a1), (2, .int 5)]) (st' := [.int a1, .int (-1), .int 0]) (w' := (fw z)) (cs' := 0) (ss' := 0) ?_ (fun _ _ => rfl)
  refine go_cmp true rfl (br_ne_ts (b := -1) rfl (by omega)) ?_
  refine go_seg 8 (pc' := 54) (ls' := [(4, .int 2), (3, .int 0), (0, .ref 90), (1, .int a1), (2, .int 5)]) (st' := []) (w' := (fw z)) (cs' := 0) (ss' := 0) ?_ (fun _ _ => rfl)
  refine go_seg 8 (pc' := 66) (ls' := [(4, .int 2), (3, .int 0), (0, .ref 90), (1, .int a1), (2, .int 5)]) (st' := [.int a1, .int (-1), .int 0]) (w' := (fw z)) (cs' := 0) (ss' := 0) ?_ (fun _ _ => rfl)
  refine go_cmp true rfl (br_ne_ts (b := -1) rfl (by omega)) ?_
  refine go_seg 8 (pc' := 54) (ls' := [(4, .int 3), (3, .int 0), (0, .ref 90), (1, .int a1), (2, .int 5)]) (st' := []) (w' := (fw z)) (cs' := 0) (ss' := 0) ?_ (fun _ _ => rfl)
  refine go_seg 8 (pc' := 66) (ls' := [(4, .int 3), (3, .int 0), (0, .ref 90), (1, .int a1), (2, .int 5)]) (st' := [.int a1, .int (-1), .int 0]) (w' := (fw z)) (cs' := 0) (ss' := 0) ?_ (fun _ _ => rfl)
  refine go_cmp true rfl (br_ne_ts (b := -1) rfl (by omega)) ?_
  refine go_seg 8 (pc' := 54) (ls' := [(4, .int 4), (3, .int 0), (0, .ref 90), (1, .int a1), (2, .int 5)]) (st' := []) (w' := (fw z)) (cs' := 0) (ss' := 0) ?_ (fun _ _ => rfl)
  refine go_seg 8 (pc' := 66) (ls' := [(4, .int 4), (3, .int 0), (0, .ref 90), (1, .int a1), (2, .int 5)]) (st' := [.int a1, .int (-1), .int 0]) (w' := (fw z)) (cs' := 0) (ss' := 0) ?_ (fun _ _ => rfl)
  refine go_cmp true rfl (br_ne_ts (b := -1) rfl (by omega)) ?_
  refine go_seg 8 (pc' := 54) (ls' := [(4, .int 5), (3, .int 0), (0, .ref 90), (1, .int a1), (2, .int 5)]) (st' := []) (w' := (fw z)) (cs' := 0) (ss' := 0) ?_ (fun _ _ => rfl)
  refine go_seg 8 (pc' := 66) (ls' := [(4, .int 5), (3, .int 0), (0, .ref 90), (1, .int a1), (2, .int 5)]) (st' := [.int a1, .int (-1), .int 0]) (w' := (fw z)) (cs' := 0) (ss' := 0) ?_ (fun _ _ => rfl)
  refine go_cmp true rfl (br_ne_ts (b := -1) rfl (by omega)) ?_
  refine go_seg 8 (pc' := 54) (ls' := [(4, .int 6), (3, .int 0), (0, .ref 90), (1, .int a1), (2, .int 5)]) (st' := []) (w' := (fw z)) (cs' := 0) (ss' := 0) ?_ (fun _ _ => rfl)
  refine go_seg 8 (pc' := 66) (ls' := [(4, .int 6), (3, .int 0), (0, .ref 90), (1, .int a1), (2, .int 5)]) (st' := [.int a1, .int (-1), .int 0]) (w' := (fw z)) (cs' := 0) (ss' := 0) ?_ (fun _ _ => rfl)
  refine go_cmp true rfl (br_ne_ts (b := -1) rfl (by omega)) ?_
  refine go_seg 8 (pc' := 54) (ls' := [(4, .int 7), (3, .int 0), (0, .ref 90), (1, .int a1), (2, .int 5)]) (st' := []) (w' := (fw z)) (cs' := 0) (ss' := 0) ?_ (fun _ _ => rfl)
  refine go_seg 8 (pc' := 66) (ls' := [(4, .int 7), (3, .int 0), (0, .ref 90), (1, .int a1), (2, .int 5)]) (st' := [.int a1, .int (-1), .int 0]) (w' := (fw z)) (cs' := 0) (ss' := 0) ?_ (fun _ _ => rfl)
  refine go_cmp true rfl (br_ne_ts (b := -1) rfl (by omega)) ?_
  refine go_seg 8 (pc' := 54) (ls' := [(4, .int 8), (3, .int 0), (0, .ref 90), (1, .int a1), (2, .int 5)]) (st' := []) (w' := (fw z)) (cs' := 0) (ss' := 0) ?_ (fun _ _ => rfl)
  refine go_seg 8 (pc' := 66) (ls' := [(4, .int 8), (3, .int 0), (0, .ref 90), (1, .int a1), (2, .int 5)]) (st' := [.int a1, .int (-1), .int 0]) (w' := (fw z)) (cs' := 0) (ss' := 0) ?_ (fun _ _ => rfl)
  refine go_cmp true rfl (br_ne_ts (b := -1) rfl (by omega)) ?_
  refine go_seg 8 (pc' := 54) (ls' := [(4, .int 9), (3, .int 0), (0, .ref 90), (1, .int a1), (2, .int 5)]) (st' := []) (w' := (fw z)) (cs' := 0) (ss' := 0) ?_ (fun _ _ => rfl)
  refine go_seg 8 (pc' := 66) (ls' := [(4, .int 9), (3, .int 0), (0, .ref 90), (1, .int a1), (2, .int 5)]) (st' := [.int a1, .int (-1), .int 0]) (w' := (fw z)) (cs' := 0) (ss' := 0) ?_ (fun _ _ => rfl)
  refine go_cmp true rfl (br_ne_ts (b := -1) rfl (by omega)) ?_
  refine go_seg 8 (pc' := 54) (ls' := [(4, .int 10), (3, .int 0), (0, .ref 90), (1, .int a1), (2, .int 5)]) (st' := []) (w' := (fw z)) (cs' := 0) (ss' := 0) ?_ (fun _ _ => rfl)
  refine go_seg 8 (pc' := 66) (ls' := [(4, .int 10), (3, .int 0), (0, .ref 90), (1, .int a1), (2, .int 5)]) (st' := [.int a1, .int (-1), .int 0]) (w' := (fw z)) (cs' := 0) (ss' := 0) ?_ (fun _ _ => rfl)
  refine go_cmp true rfl (br_ne_ts (b := -1) rfl (by omega)) ?_
  refine go_seg 8 (pc' := 54) (ls' := [(4, .int 11), (3, .int 0), (0, .ref 90), (1, .int a1), (2, .int 5)]) (st' := []) (w' := (fw z)) (cs' := 0) (ss' := 0) ?_ (fun _ _ => rfl)
  refine go_seg 8 (pc' := 66) (ls' := [(4, .int 11), (3, .int 0), (0, .ref 90), (1, .int a1), (2, .int 5)]) (st' := [.int a1, .int (-1), .int 0]) (w' := (fw z)) (cs' := 0) (ss' := 0) ?_ (fun _ _ => rfl)
  refine go_cmp true rfl (br_ne_ts (b := -1) rfl (by omega)) ?_
  refine go_seg 8 (pc' := 54) (ls' := [(4, .int 12), (3, .int 0), (0, .ref 90), (1, .int a1), (2, .int 5)]) (st' := []) (w' := (fw z)) (cs' := 0) (ss' := 0) ?_ (fun _ _ => rfl)
  refine go_seg 8 (pc' := 66) (ls' := [(4, .int 12), (3, .int 0), (0, .ref 90), (1, .int a1), (2, .int 5)]) (st' := [.int a1, .int (-1), .int 0]) (w' := (fw z)) (cs' := 0) (ss' := 0) ?_ (fun _ _ => rfl)
  refine go_cmp true rfl (br_ne_ts (b := -1) rfl (by omega)) ?_
  refine go_seg 8 (pc' := 54) (ls' := [(4, .int 13), (3, .int 0), (0, .ref 90), (1, .int a1), (2, .int 5)]) (st' := []) (w' := (fw z)) (cs' := 0) (ss' := 0) ?_ (fun _ _ => rfl)
  refine go_seg 8 (pc' := 66) (ls' := [(4, .int 13), (3, .int 0), (0, .ref 90), (1, .int a1), (2, .int 5)]) (st' := [.int a1, .int (-1), .int 0]) (w' := (fw z)) (cs' := 0) (ss' := 0) ?_ (fun _ _ => rfl)
  refine go_cmp true rfl (br_ne_ts (b := -1) rfl (by omega)) ?_
  refine go_seg 8 (pc' := 54) (ls' := [(4, .int 14), (3, .int 0), (0, .ref 90), (1, .int a1), (2, .int 5)]) (st' := []) (w' := (fw z)) (cs' := 0) (ss' := 0) ?_ (fun _ _ => rfl)
  refine go_seg 8 (pc' := 66) (ls' := [(4, .int 14), (3, .int 0), (0, .ref 90), (1, .int a1), (2, .int 5)]) (st' := [.int a1, .int (-1), .int 0]) (w' := (fw z)) (cs' := 0) (ss' := 0) ?_ (fun _ _ => rfl)
  refine go_cmp true rfl (br_ne_ts (b := -1) rfl (by omega)) ?_
  refine go_seg 8 (pc' := 54) (ls' := [(4, .int 15), (3, .int 0), (0, .ref 90), (1, .int a1), (2, .int 5)]) (st' := []) (w' := (fw z)) (cs' := 0) (ss' := 0) ?_ (fun _ _ => rfl)
  refine go_seg 8 (pc' := 66) (ls' := [(4, .int 15), (3, .int 0), (0, .ref 90), (1, .int a1), (2, .int 5)]) (st' := [.int a1, .int (-1), .int 0]) (w' := (fw z)) (cs' := 0) (ss' := 0) ?_ (fun _ _ => rfl)
  refine go_cmp true rfl (br_ne_ts (b := -1) rfl (by omega)) ?_
  refine go_seg 8 (pc' := 54) (ls' := [(4, .int 16), (3, .int 0), (0, .ref 90), (1, .int a1), (2, .int 5)]) (st' := []) (w' := (fw z)) (cs' := 0) (ss' := 0) ?_ (fun _ _ => rfl)
  refine go_seg 8 (pc' := 66) (ls' := [(4, .int 16), (3, .int 0), (0, .ref 90), (1, .int a1), (2, .int 5)]) (st' := [.int a1, .int (-1), .int 0]) (w' := (fw z)) (cs' := 0) (ss' := 0) ?_ (fun _ _ => rfl)
  refine go_cmp true rfl (br_ne_ts (b := -1) rfl (by omega)) ?_
  refine go_seg 8 (pc' := 54) (ls' := [(4, .int 17), (3, .int 0), (0, .ref 90), (1, .int a1), (2, .int 5)]) (st' := []) (w' := (fw z)) (cs' := 0) (ss' := 0) ?_ (fun _ _ => rfl)
  refine go_seg 8 (pc' := 66) (ls' := [(4, .int 17), (3, .int 0), (0, .ref 90), (1, .int a1), (2, .int 5)]) (st' := [.int a1, .int (-1), .int 0]) (w' := (fw z)) (cs' := 0) (ss' := 0) ?_ (fun _ _ => rfl)
  refine go_cmp true rfl (br_ne_ts (b := -1) rfl (by omega)) ?_
  refine go_seg 8 (pc' := 54) (ls' := [(4, .int 18), (3, .int 0), (0, .ref 90), (1, .int a1), (2, .int 5)]) (st' := []) (w' := (fw z)) (cs' := 0) (ss' := 0) ?_ (fun _ _ => rfl)
  refine go_seg 8 (pc' := 66) (ls' := [(4, .int 18), (3, .int 0), (0, .ref 90), (1, .int a1), (2, .int 5)]) (st' := [.int a1, .int (-1), .int 0]) (w' := (fw z)) (cs' := 0) (ss' := 0) ?_ (fun _ _ => rfl)
  refine go_cmp true rfl (br_ne_ts (b := -1) rfl (by omega)) ?_
  refine go_seg 8 (pc' := 54) (ls' := [(4, .int 19), (3, .int 0), (0, .ref 90), (1, .int a1), (2, .int 5)]) (st' := []) (w' := (fw z)) (cs' := 0) (ss' := 0) ?_ (fun _ _ => rfl)
  refine go_seg 8 (pc' := 66) (ls' := [(4, .int 19), (3, .int 0), (0, .ref 90), (1, .int a1), (2, .int 5)]) (st' := [.int a1, .int (-1), .int 0]) (w' := (fw z)) (cs' := 0) (ss' := 0) ?_ (fun _ _ => rfl)
  refine go_cmp true rfl (br_ne_ts (b := -1) rfl (by omega)) ?_
  refine go_seg 8 (pc' := 54) (ls' := [(4, .int 20), (3, .int 0), (0, .ref 90), (1, .int a1), (2, .int 5)]) (st' := []) (w' := (fw z)) (cs' := 0) (ss' := 0) ?_ (fun _ _ => rfl)
  refine go_seg 8 (pc' := 66) (ls' := [(4, .int 20), (3, .int 0), (0, .ref 90), (1, .int a1), (2, .int 5)]) (st' := [.int a1, .int (-1), .int 0]) (w' := (fw z)) (cs' := 0) (ss' := 0) ?_ (fun _ _ => rfl)
  refine go_cmp true rfl (br_ne_ts (b := -1) rfl (by omega)) ?_
  refine go_seg 8 (pc' := 54) (ls' := [(4, .int 21), (3, .int 0), (0, .ref 90), (1, .int a1), (2, .int 5)]) (st' := []) (w' := (fw z)) (cs' := 0) (ss' := 0) ?_ (fun _ _ => rfl)
  refine go_seg 8 (pc' := 66) (ls' := [(4, .int 21), (3, .int 0), (0, .ref 90), (1, .int a1), (2, .int 5)]) (st' := [.int a1, .int (-1), .int 0]) (w' := (fw z)) (cs' := 0) (ss' := 0) ?_ (fun _ _ => rfl)
  refine go_cmp true rfl (br_ne_ts (b := -1) rfl (by omega)) ?_
  refine go_seg 8 (pc' := 54) (ls' := [(4, .int 22), (3, .int 0), (0, .ref 90), (1, .int a1), (2, .int 5)]) (st' := []) (w' := (fw z)) (cs' := 0) (ss' := 0) ?_ (fun _ _ => rfl)
  refine go_seg 8 (pc' := 66) (ls' := [(4, .int 22), (3, .int 0), (0, .ref 90), (1, .int a1), (2, .int 5)]) (st' := [.int a1, .int (-1), .int 0]) (w' := (fw z)) (cs' := 0) (ss' := 0) ?_ (fun _ _ => rfl)
  refine go_cmp true rfl (br_ne_ts (b := -1) rfl (by omega)) ?_
  refine go_seg 8 (pc' := 54) (ls' := [(4, .int 23), (3, .int 0), (0, .ref 90), (1, .int a1), (2, .int 5)]) (st' := []) (w' := (fw z)) (cs' := 0) (ss' := 0) ?_ (fun _ _ => rfl)
  refine go_seg 8 (pc' := 66) (ls' := [(4, .int 23), (3, .int 0), (0, .ref 90), (1, .int a1), (2, .int 5)]) (st' := [.int a1, .int (-1), .int 0]) (w' := (fw z)) (cs' := 0) (ss' := 0) ?_ (fun _ _ => rfl)
  refine go_cmp true rfl (br_ne_ts (b := -1) rfl (by omega)) ?_
  refine go_seg 8 (pc' := 54) (ls' := [(4, .int 24), (3, .int 0), (0, .ref 90), (1, .int a1), (2, .int 5)]) (st' := []) (w' := (fw z)) (cs' := 0) (ss' := 0) ?_ (fun _ _ => rfl)
  refine go_seg 8 (pc' := 66) (ls' := [(4, .int 24), (3, .int 0), (0, .ref 90), (1, .int a1), (2, .int 5)]) (st' := [.int a1, .int (-1), .int 0]) (w' := (fw z)) (cs' := 0) (ss' := 0) ?_ (fun _ _ => rfl)
  refine go_cmp true rfl (br_ne_ts (b := -1) rfl (by omega)) ?_
  refine go_seg 8 (pc' := 54) (ls' := [(4, .int 25), (3, .int 0), (0, .ref 90), (1, .int a1), (2, .int 5)]) (st' := []) (w' := (fw z)) (cs' := 0) (ss' := 0) ?_ (fun _ _ => rfl)
  refine go_seg 8 (pc' := 66) (ls' := [(4, .int 25), (3, .int 0), (0, .ref 90), (1, .int a1), (2, .int 5)]) (st' := [.int a1, .int (-1), .int 0]) (w' := (fw z)) (cs' := 0) (ss' := 0) ?_ (fun _ _ => rfl)
  refine go_cmp true rfl (br_ne_ts (b := -1) rfl (by omega)) ?_
  refine go_seg 8 (pc' := 54) (ls' := [(4, .int 26), (3, .int 0), (0, .ref 90), (1, .int a1), (2, .int 5)]) (st' := []) (w' := (fw z)) (cs' := 0) (ss' := 0) ?_ (fun _ _ => rfl)
  refine go_seg 8 (pc' := 66) (ls' := [(4, .int 26), (3, .int 0), (0, .ref 90), (1, .int a1), (2, .int 5)]) (st' := [.int a1, .int (-1), .int 0]) (w' := (fw z)) (cs' := 0) (ss' := 0) ?_ (fun _ _ => rfl)
  refine go_cmp true rfl (br_ne_ts (b := -1) rfl (by omega)) ?_
  refine go_seg 8 (pc' := 54) (ls' := [(4, .int 27), (3, .int 0), (0, .ref 90), (1, .int a1), (2, .int 5)]) (st' := []) (w' := (fw z)) (cs' := 0) (ss' := 0) ?_ (fun _ _ => rfl)
  refine go_seg 8 (pc' := 66) (ls' := [(4, .int 27), (3, .int 0), (0, .ref 90), (1, .int a1), (2, .int 5)]) (st' := [.int a1, .int (-1), .int 0]) (w' := (fw z)) (cs' := 0) (ss' := 0) ?_ (fun _ _ => rfl)
  refine go_cmp true rfl (br_ne_ts (b := -1) rfl (by omega)) ?_
  refine go_seg 8 (pc' := 54) (ls' := [(4, .int 28), (3, .int 0), (0, .ref 90), (1, .int a1), (2, .int 5)]) (st' := []) (w' := (fw z)) (cs' := 0) (ss' := 0) ?_ (fun _ _ => rfl)
  refine go_seg 8 (pc' := 66) (ls' := [(4, .int 28), (3, .int 0), (0, .ref 90), (1, .int a1), (2, .int 5)]) (st' := [.int a1, .int (-1), .int 0]) (w' := (fw z)) (cs' := 0) (ss' := 0) ?_ (fun _ _ => rfl)
  refine go_cmp true rfl (br_ne_ts (b := -1) rfl (by omega)) ?_
  refine go_seg 8 (pc' := 54) (ls' := [(4, .int 29), (3, .int 0), (0, .ref 90), (1, .int a1), (2, .int 5)]) (st' := []) (w' := (fw z)) (cs' := 0) (ss' := 0) ?_ (fun _ _ => rfl)
  refine go_seg 8 (pc' := 66) (ls' := [(4, .int 29), (3, .int 0), (0, .ref 90), (1, .int a1), (2, .int 5)]) (st' := [.int a1, .int (-1), .int 0]) (w' := (fw z)) (cs' := 0) (ss' := 0) ?_ (fun _ _ => rfl)
  refine go_cmp true rfl (br_ne_ts (b := -1) rfl (by omega)) ?_
  refine go_seg 8 (pc' := 54) (ls' := [(4, .int 30), (3, .int 0), (0, .ref 90), (1, .int a1), (2, .int 5)]) (st' := []) (w' := (fw z)) (cs' := 0) (ss' := 0) ?_ (fun _ _ => rfl)
  refine go_seg 8 (pc' := 66) (ls' := [(4, .int 30), (3, .int 0), (0, .ref 90), (1, .int a1), (2, .int 5)]) (st' := [.int a1, .int (-1), .int 0]) (w' := (fw z)) (cs' := 0) (ss' := 0) ?_ (fun _ _ => rfl)
  refine go_cmp true rfl (br_ne_ts (b := -1) rfl (by omega)) ?_
  refine go_seg 8 (pc' := 54) (ls' := [(4, .int 31), (3, .int 0), (0, .ref 90), (1, .int a1), (2, .int 5)]) (st' := []) (w' := (fw z)) (cs' := 0) (ss' := 0) ?_ (fun _ _ => rfl)
  refine go_seg 8 (pc' := 66) (ls' := [(4, .int 31), (3, .int 0), (0, .ref 90), (1, .int a1), (2, .int 5)]) (st' := [.int a1, .int (-1), .int 0]) (w' := (fw z)) (cs' := 0) (ss' := 0) ?_ (fun _ _ => rfl)
  refine go_cmp true rfl (br_ne_ts (b := -1) rfl (by omega)) ?_
  refine go_seg 8 (pc' := 54) (ls' := [(4, .int 32), (3, .int 0), (0, .ref 90), (1, .int a1), (2, .int 5)]) (st' := []) (w' := (fw z)) (cs' := 0) (ss' := 0) ?_ (fun _ _ => rfl)
  refine go_seg 8 (pc' := 66) (ls' := [(4, .int 32), (3, .int 0), (0, .ref 90), (1, .int a1), (2, .int 5)]) (st' := [.int a1, .int (-1), .int 0]) (w' := (fw z)) (cs' := 0) (ss' := 0) ?_ (fun _ _ => rfl)
  refine go_cmp true rfl (br_ne_ts (b := -1) rfl (by omega)) ?_
  refine go_seg 8 (pc' := 54) (ls' := [(4, .int 33), (3, .int 0), (0, .ref 90), (1, .int a1), (2, .int 5)]) (st' := []) (w' := (fw z)) (cs' := 0) (ss' := 0) ?_ (fun _ _ => rfl)
  refine go_seg 8 (pc' := 66) (ls' := [(4, .int 33), (3, .int 0), (0, .ref 90), (1, .int a1), (2, .int 5)]) (st' := [.int a1, .int (-1), .int 0]) (w' := (fw z)) (cs' := 0) (ss' := 0) ?_ (fun _ _ => rfl)
  refine go_cmp true rfl (br_ne_ts (b := -1) rfl (by omega)) ?_
  refine go_seg 8 (pc' := 54) (ls' := [(4, .int 34), (3, .int 0), (0, .ref 90), (1, .int a1), (2, .int 5)]) (st' := []) (w' := (fw z)) (cs' := 0) (ss' := 0) ?_ (fun _ _ => rfl)
  refine go_seg 8 (pc' := 66) (ls' := [(4, .int 34), (3, .int 0), (0, .ref 90), (1, .int a1), (2, .int 5)]) (st' := [.int a1, .int (-1), .int 0]) (w' := (fw z)) (cs' := 0) (ss' := 0) ?_ (fun _ _ => rfl)
  refine go_cmp true rfl (br_ne_ts (b := -1) rfl (by omega)) ?_
  refine go_seg 8 (pc' := 54) (ls' := [(4, .int 35), (3, .int 0), (0, .ref 90), (1, .int a1), (2, .int 5)]) (st' := []) (w' := (fw z)) (cs' := 0) (ss' := 0) ?_ (fun _ _ => rfl)
  refine go_seg 8 (pc' := 66) (ls' := [(4, .int 35), (3, .int 0), (0, .ref 90), (1, .int a1), (2, .int 5)]) (st' := [.int a1, .int (-1), .int 0]) (w' := (fw z)) (cs' := 0) (ss' := 0) ?_ (fun _ _ => rfl)
  refine go_cmp true rfl (br_ne_ts (b := -1) rfl (by omega)) ?_
  refine go_seg 8 (pc' := 54) (ls' := [(4, .int 36), (3, .int 0), (0, .ref 90), (1, .int a1), (2, .int 5)]) (st' := []) (w' := (fw z)) (cs' := 0) (ss' := 0) ?_ (fun _ _ => rfl)
  refine go_seg 8 (pc' := 66) (ls' := [(4, .int 36), (3, .int 0), (0, .ref 90), (1, .int a1), (2, .int 5)]) (st' := [.int a1, .int (-1), .int 0]) (w' := (fw z)) (cs' := 0) (ss' := 0) ?_ (fun _ _ => rfl)
  refine go_cmp true rfl (br_ne_ts (b := -1) rfl (by omega)) ?_
  refine go_seg 8 (pc' := 54) (ls' := [(4, .int 37), (3, .int 0), (0, .ref 90), (1, .int a1), (2, .int 5)]) (st' := []) (w' := (fw z)) (cs' := 0) (ss' := 0) ?_ (fun _ _ => rfl)
  refine go_seg 8 (pc' := 66) (ls' := [(4, .int 37), (3, .int 0), (0, .ref 90), (1, .int a1), (2, .int 5)]) (st' := [.int a1, .int (-1), .int 0]) (w' := (fw z)) (cs' := 0) (ss' := 0) ?_ (fun _ _ => rfl)
  refine go_cmp true rfl (br_ne_ts (b := -1) rfl (by omega)) ?_
  refine go_seg 8 (pc' := 54) (ls' := [(4, .int 38), (3, .int 0), (0, .ref 90), (1, .int a1), (2, .int 5)]) (st' := []) (w' := (fw z)) (cs' := 0) (ss' := 0) ?_ (fun _ _ => rfl)
  refine go_seg 8 (pc' := 66) (ls' := [(4, .int 38), (3, .int 0), (0, .ref 90), (1, .int a1), (2, .int 5)]) (st' := [.int a1, .int (-1), .int 0]) (w' := (fw z)) (cs' := 0) (ss' := 0) ?_ (fun _ _ => rfl)
  refine go_cmp true rfl (br_ne_ts (b := -1) rfl (by omega)) ?_
  refine go_seg 8 (pc' := 54) (ls' := [(4, .int 39), (3, .int 0), (0, .ref 90), (1, .int a1), (2, .int 5)]) (st' := []) (w' := (fw z)) (cs' := 0) (ss' := 0) ?_ (fun _ _ => rfl)
  refine go_seg 8 (pc' := 66) (ls' := [(4, .int 39), (3, .int 0), (0, .ref 90), (1, .int a1), (2, .int 5)]) (st' := [.int a1, .int (-1), .int 0]) (w' := (fw z)) (cs' := 0) (ss' := 0) ?_ (fun _ _ => rfl)
  refine go_cmp true rfl (br_ne_ts (b := -1) rfl (by omega)) ?_
  refine go_seg 8 (pc' := 54) (ls' := [(4, .int 40), (3, .int 0), (0, .ref 90), (1, .int a1), (2, .int 5)]) (st' := []) (w' := (fw z)) (cs' := 0) (ss' := 0) ?_ (fun _ _ => rfl)
  refine go_seg 8 (pc' := 66) (ls' := [(4, .int 40), (3, .int 0), (0, .ref 90), (1, .int a1), (2, .int 5)]) (st' := [.int a1, .int (-1), .int 0]) (w' := (fw z)) (cs' := 0) (ss' := 0) ?_ (fun _ _ => rfl)
  refine go_cmp true rfl (br_ne_ts (b := -1) rfl (by omega)) ?_
  refine go_seg 8 (pc' := 54) (ls' := [(4, .int 41), (3, .int 0), (0, .ref 90), (1, .int a1), (2, .int 5)]) (st' := []) (w' := (fw z)) (cs' := 0) (ss' := 0) ?_ (fun _ _ => rfl)
  refine go_seg 8 (pc' := 66) (ls' := [(4, .int 41), (3, .int 0), (0, .ref 90), (1, .int a1), (2, .int 5)]) (st' := [.int a1, .int (-1), .int 0]) (w' := (fw z)) (cs' := 0) (ss' := 0) ?_ (fun _ _ => rfl)
  refine go_cmp true rfl (br_ne_ts (b := -1) rfl (by omega)) ?_
  refine go_seg 8 (pc' := 54) (ls' := [(4, .int 42), (3, .int 0), (0, .ref 90), (1, .int a1), (2, .int 5)]) (st' := []) (w' := (fw z)) (cs' := 0) (ss' := 0) ?_ (fun _ _ => rfl)
  refine go_seg 8 (pc' := 66) (ls' := [(4, .int 42), (3, .int 0), (0, .ref 90), (1, .int a1), (2, .int 5)]) (st' := [.int a1, .int (-1), .int 0]) (w' := (fw z)) (cs' := 0) (ss' := 0) ?_ (fun _ _ => rfl)
  refine go_cmp true rfl (br_ne_ts (b := -1) rfl (by omega)) ?_
  refine go_seg 8 (pc' := 54) (ls' := [(4, .int 43), (3, .int 0), (0, .ref 90), (1, .int a1), (2, .int 5)]) (st' := []) (w' := (fw z)) (cs' := 0) (ss' := 0) ?_ (fun _ _ => rfl)
  refine go_seg 8 (pc' := 66) (ls' := [(4, .int 43), (3, .int 0), (0, .ref 90), (1, .int a1), (2, .int 5)]) (st' := [.int a1, .int (-1), .int 0]) (w' := (fw z)) (cs' := 0) (ss' := 0) ?_ (fun _ _ => rfl)
  refine go_cmp true rfl (br_ne_ts (b := -1) rfl (by omega)) ?_
  refine go_seg 8 (pc' := 54) (ls' := [(4, .int 44), (3, .int 0), (0, .ref 90), (1, .int a1), (2, .int 5)]) (st' := []) (w' := (fw z)) (cs' := 0) (ss' := 0) ?_ (fun _ _ => rfl)
  refine go_seg 8 (pc' := 66) (ls' := [(4, .int 44), (3, .int 0), (0, .ref 90), (1, .int a1), (2, .int 5)]) (st' := [.int a1, .int (-1), .int 0]) (w' := (fw z)) (cs' := 0) (ss' := 0) ?_ (fun _ _ => rfl)
  refine go_cmp true rfl (br_ne_ts (b := -1) rfl (by omega)) ?_
  refine go_seg 8 (pc' := 54) (ls' := [(4, .int 45), (3, .int 0), (0, .ref 90), (1, .int a1), (2, .int 5)]) (st' := []) (w' := (fw z)) (cs' := 0) (ss' := 0) ?_ (fun _ _ => rfl)
  refine go_seg 8 (pc' := 66) (ls' := [(4, .int 45), (3, .int 0), (0, .ref 90), (1, .int a1), (2, .int 5)]) (st' := [.int a1, .int (-1), .int 0]) (w' := (fw z)) (cs' := 0) (ss' := 0) ?_ (fun _ _ => rfl)
  refine go_cmp true rfl (br_ne_ts (b := -1) rfl (by omega)) ?_
  refine go_seg 8 (pc' := 54) (ls' := [(4, .int 46), (3, .int 0), (0, .ref 90), (1, .int a1), (2, .int 5)]) (st' := []) (w' := (fw z)) (cs' := 0) (ss' := 0) ?_ (fun _ _ => rfl)
  refine go_seg 8 (pc' := 66) (ls' := [(4, .int 46), (3, .int 0), (0, .ref 90), (1, .int a1), (2, .int 5)]) (st' := [.int a1, .int (-1), .int 0]) (w' := (fw z)) (cs' := 0) (ss' := 0) ?_ (fun _ _ => rfl)
  refine go_cmp true rfl (br_ne_ts (b := -1) rfl (by omega)) ?_
  refine go_seg 8 (pc' := 54) (ls' := [(4, .int 47), (3, .int 0), (0, .ref 90), (1, .int a1), (2, .int 5)]) (st' := []) (w' := (fw z)) (cs' := 0) (ss' := 0) ?_ (fun _ _ => rfl)
  refine go_seg 8 (pc' := 66) (ls' := [(4, .int 47), (3, .int 0), (0, .ref 90), (1, .int a1), (2, .int 5)]) (st' := [.int a1, .int (-1), .int 0]) (w' := (fw z)) (cs' := 0) (ss' := 0) ?_ (fun _ _ => rfl)
  refine go_cmp true rfl (br_ne_ts (b := -1) rfl (by omega)) ?_
  refine go_seg 8 (pc' := 54) (ls' := [(4, .int 48), (3, .int 0), (0, .ref 90), (1, .int a1), (2, .int 5)]) (st' := []) (w' := (fw z)) (cs' := 0) (ss' := 0) ?_ (fun _ _ => rfl)
  refine go_seg 8 (pc' := 66) (ls' := [(4, .int 48), (3, .int 0), (0, .ref 90), (1, .int a1), (2, .int 5)]) (st' := [.int a1, .int (-1), .int 0]) (w' := (fw z)) (cs' := 0) (ss' := 0) ?_ (fun _ _ => rfl)
  refine go_cmp true rfl (br_ne_ts (b := -1) rfl (by omega)) ?_
  refine go_seg 8 (pc' := 54) (ls' := [(4, .int 49), (3, .int 0), (0, .ref 90), (1, .int a1), (2, .int 5)]) (st' := []) (w' := (fw z)) (cs' := 0) (ss' := 0) ?_ (fun _ _ => rfl)
  refine go_seg 8 (pc' := 66) (ls' := [(4, .int 49), (3, .int 0), (0, .ref 90), (1, .int a1), (2, .int 5)]) (st' := [.int a1, .int (-1), .int 0]) (w' := (fw z)) (cs' := 0) (ss' := 0) ?_ (fun _ _ => rfl)
  refine go_cmp true rfl (br_ne_ts (b := -1) rfl (by omega)) ?_
  refine go_seg 8 (pc' := 54) (ls' := [(4, .int 50), (3, .int 0), (0, .ref 90), (1, .int a1), (2, .int 5)]) (st' := []) (w' := (fw z)) (cs' := 0) (ss' := 0) ?_ (fun _ _ => rfl)
  refine go_seg 8 (pc' := 66) (ls' := [(4, .int 50), (3, .int 0), (0, .ref 90), (1, .int a1), (2, .int 5)]) (st' := [.int a1, .int (-1), .int 0]) (w' := (fw z)) (cs' := 0) (ss' := 0) ?_ (fun _ _ => rfl)
  refine go_cmp true rfl (br_ne_ts (b := -1) rfl (by omega)) ?_
  refine go_seg 8 (pc' := 54) (ls' := [(4, .int 51), (3, .int 0), (0, .ref 90), (1, .int a1), (2, .int 5)]) (st' := []) (w' := (fw z)) (cs' := 0) (ss' := 0) ?_ (fun _ _ => rfl)
  refine go_seg 8 (pc' := 66) (ls' := [(4, .int 51), (3, .int 0), (0, .ref 90), (1, .int a1), (2, .int 5)]) (st' := [.int a1, .int (-1), .int 0]) (w' := (fw z)) (cs' := 0) (ss' := 0) ?_ (fun _ _ => rfl)
  refine go_cmp true rfl (br_ne_ts (b := -1) rfl (by omega)) ?_
  refine go_seg 8 (pc' := 54) (ls' := [(4, .int 52), (3, .int 0), (0, .ref 90), (1, .int a1), (2, .int 5)]) (st' := []) (w' := (fw z)) (cs' := 0) (ss' := 0) ?_ (fun _ _ => rfl)
  refine go_seg 8 (pc' := 66) (ls' := [(4, .int 52), (3, .int 0), (0, .ref 90), (1, .int a1), (2, .int 5)]) (st' := [.int a1, .int (-1), .int 0]) (w' := (fw z)) (cs' := 0) (ss' := 0) ?_ (fun _ _ => rfl)
  refine go_cmp true rfl (br_ne_ts (b := -1) rfl (by omega)) ?_
  refine go_seg 8 (pc' := 54) (ls' := [(4, .int 53), (3, .int 0), (0, .ref 90), (1, .int a1), (2, .int 5)]) (st' := []) (w' := (fw z)) (cs' := 0) (ss' := 0) ?_ (fun _ _ => rfl)
  refine go_seg 8 (pc' := 66) (ls' := [(4, .int 53), (3, .int 0), (0, .ref 90), (1, .int a1), (2, .int 5)]) (st' := [.int a1, .int (-1), .int 0]) (w' := (fw z)) (cs' := 0) (ss' := 0) ?_ (fun _ _ => rfl)
  refine go_cmp true rfl (br_ne_ts (b := -1) rfl (by omega)) ?_
  refine go_seg 8 (pc' := 54) (ls' := [(4, .int 54), (3, .int 0), (0, .ref 90), (1, .int a1), (2, .int 5)]) (st' := []) (w' := (fw z)) (cs' := 0) (ss' := 0) ?_ (fun _ _ => rfl)
  refine go_seg 8 (pc' := 66) (ls' := [(4, .int 54), (3, .int 0), (0, .ref 90), (1, .int a1), (2, .int 5)]) (st' := [.int a1, .int (-1), .int 0]) (w' := (fw z)) (cs' := 0) (ss' := 0) ?_ (fun _ _ => rfl)
  refine go_cmp true rfl (br_ne_ts (b := -1) rfl (by omega)) ?_
  refine go_seg 8 (pc' := 54) (ls' := [(4, .int 55), (3, .int 0), (0, .ref 90), (1, .int a1), (2, .int 5)]) (st' := []) (w' := (fw z)) (cs' := 0) (ss' := 0) ?_ (fun _ _ => rfl)
  refine go_seg 8 (pc' := 66) (ls' := [(4, .int 55), (3, .int 0), (0, .ref 90), (1, .int a1), (2, .int 5)]) (st' := [.int a1, .int (-1), .int 0]) (w' := (fw z)) (cs' := 0) (ss' := 0) ?_ (fun _ _ => rfl)
  refine go_cmp true rfl (br_ne_ts (b := -1) rfl (by omega)) ?_
  refine go_seg 8 (pc' := 54) (ls' := [(4, .int 56), (3, .int 0), (0, .ref 90), (1, .int a1), (2, .int 5)]) (st' := []) (w' := (fw z)) (cs' := 0) (ss' := 0) ?_ (fun _ _ => rfl)
  refine go_seg 8 (pc' := 66) (ls' := [(4, .int 56), (3, .int 0), (0, .ref 90), (1, .int a1), (2, .int 5)]) (st' := [.int a1, .int (-1), .int 0]) (w' := (fw z)) (cs' := 0) (ss' := 0) ?_ (fun _ _ => rfl)
  refine go_cmp true rfl (br_ne_ts (b := -1) rfl (by omega)) ?_
  refine go_seg 8 (pc' := 54) (ls' := [(4, .int 57), (3, .int 0), (0, .ref 90), (1, .int a1), (2, .int 5)]) (st' := []) (w' := (fw z)) (cs' := 0) (ss' := 0) ?_ (fun _ _ => rfl)
  refine go_seg 8 (pc' := 66) (ls' := [(4, .int 57), (3, .int 0), (0, .ref 90), (1, .int a1), (2, .int 5)]) (st' := [.int a1, .int (-1), .int 0]) (w' := (fw z)) (cs' := 0) (ss' := 0) ?_ (fun _ _ => rfl)
  refine go_cmp true rfl (br_ne_ts (b := -1) rfl (by omega)) ?_
  refine go_seg 8 (pc' := 54) (ls' := [(4, .int 58), (3, .int 0), (0, .ref 90), (1, .int a1), (2, .int 5)]) (st' := []) (w' := (fw z)) (cs' := 0) (ss' := 0) ?_ (fun _ _ => rfl)
  refine go_seg 8 (pc' := 66) (ls' := [(4, .int 58), (3, .int 0), (0, .ref 90), (1, .int a1), (2, .int 5)]) (st' := [.int a1, .int (-1), .int 0]) (w' := (fw z)) (cs' := 0) (ss' := 0) ?_ (fun _ _ => rfl)
  refine go_cmp true rfl (br_ne_ts (b := -1) rfl (by omega)) ?_
  refine go_seg 8 (pc' := 54) (ls' := [(4, .int 59), (3, .int 0), (0, .ref 90), (1, .int a1), (2, .int 5)]) (st' := []) (w' := (fw z)) (cs' := 0) (ss' := 0) ?_ (fun _ _ => rfl)
  refine go_seg 8 (pc' := 66) (ls' := [(4, .int 59), (3, .int 0), (0, .ref 90), (1, .int a1), (2, .int 5)]) (st' := [.int a1, .int (-1), .int 0]) (w' := (fw z)) (cs' := 0) (ss' := 0) ?_ (fun _ _ => rfl)
  refine go_cmp true rfl (br_ne_ts (b := -1) rfl (by omega)) ?_
  refine go_seg 8 (pc' := 54) (ls' := [(4, .int 60), (3, .int 0), (0, .ref 90), (1, .int a1), (2, .int 5)]) (st' := []) (w' := (fw z)) (cs' := 0) (ss' := 0) ?_ (fun _ _ => rfl)
  refine go_seg 8 (pc' := 66) (ls' := [(4, .int 60), (3, .int 0), (0, .ref 90), (1, .int a1), (2, .int 5)]) (st' := [.int a1, .int (-1), .int 0]) (w' := (fw z)) (cs' := 0) (ss' := 0) ?_ (fun _ _ => rfl)
  refine go_cmp true rfl (br_ne_ts (b := -1) rfl (by omega)) ?_
  refine go_seg 8 (pc' := 54) (ls' := [(4, .int 61), (3, .int 0), (0, .ref 90), (1, .int a1), (2, .int 5)]) (st' := []) (w' := (fw z)) (cs' := 0) (ss' := 0) ?_ (fun _ _ => rfl)
  refine go_seg 8 (pc' := 66) (ls' := [(4, .int 61), (3, .int 0), (0, .ref 90), (1, .int a1), (2, .int 5)]) (st' := [.int a1, .int (-1), .int 0]) (w' := (fw z)) (cs' := 0) (ss' := 0) ?_ (fun _ _ => rfl)
  refine go_cmp true rfl (br_ne_ts (b := -1) rfl (by omega)) ?_
  refine go_seg 8 (pc' := 54) (ls' := [(4, .int 62), (3, .int 0), (0, .ref 90), (1, .int a1), (2, .int 5)]) (st' := []) (w' := (fw z)) (cs' := 0) (ss' := 0) ?_ (fun _ _ => rfl)
  refine go_seg 8 (pc' := 66) (ls' := [(4, .int 62), (3, .int 0), (0, .ref 90), (1, .int a1), (2, .int 5)]) (st' := [.int a1, .int (-1), .int 0]) (w' := (fw z)) (cs' := 0) (ss' := 0) ?_ (fun _ _ => rfl)
  refine go_cmp true rfl (br_ne_ts (b := -1) rfl (by omega)) ?_
  refine go_seg 8 (pc' := 54) (ls' := [(4, .int 63), (3, .int 0), (0, .ref 90), (1, .int a1), (2, .int 5)]) (st' := []) (w' := (fw z)) (cs' := 0) (ss' := 0) ?_ (fun _ _ => rfl)
  refine go_seg 8 (pc' := 66) (ls' := [(4, .int 63), (3, .int 0), (0, .ref 90), (1, .int a1), (2, .int 5)]) (st' := [.int a1, .int (-1), .int 0]) (w' := (fw z)) (cs' := 0) (ss' := 0) ?_ (fun _ _ => rfl)
  refine go_cmp true rfl (br_ne_ts (b := -1) rfl (by omega)) ?_
  refine go_seg 8 (pc' := 82) (ls' := [(4, .int 64), (3, .int 0), (0, .ref 90), (1, .int a1), (2, .int 5)]) (st' := []) (w' := (fw z)) (cs' := 0) (ss' := 0) ?_ (fun _ _ => rfl)
  exact go_end 6 (fun _ _ => rfl)
theorem lf_4_1117 (a0 : Int32) (a1 : Int32) (a3 : Int32) (a4 : Int32) (a5 : Int32) (h0 : 0 ≤ a1.toInt) (h1 : a1.toInt < 8) : ∃ w', pq_Go 20 pm_law 370 [(3, .int 0), (2, .ref 90), (1, .ref 1), (0, .ref 0)] [] (fw (sz a0 a1 5 a3 a4 a5)) 109 12668 (some (.int 1), w') := by
  refine ⟨(fw (sz a0 a1 5 a3 a4 a5)), ?_⟩
  refine go_seg 8 (pc' := 378) (ls' := [(3, .int 0), (2, .ref 90), (1, .ref 1), (0, .ref 0)]) (st' := [.int 0, .ref 0, .int a1, .ref 1]) (w' := (fw (sz a0 a1 5 a3 a4 a5))) (cs' := 109) (ss' := 12668) ?_ (fun _ _ => rfl)
  refine go_seg 3 (pc' := 381) (ls' := [(3, .int 0), (2, .ref 90), (1, .ref 1), (0, .ref 0)]) (st' := [.int 5, .int a1, .ref 1]) (w' := (fw (sz a0 a1 5 a3 a4 a5))) (cs' := 109) (ss' := 12668) ?_ (fun _ _ => rfl)
  refine go_cl (k := 20) (st' := [.int 0]) (cs' := 109) (ss' := 12668) rfl rfl rfl rfl rfl rfl rfl (ro_1115 (sz a0 a1 5 a3 a4 a5) a1 (by omega) (by omega)) ?_
  refine go_seg 8 (pc' := 392) (ls' := [(3, .int 0), (2, .ref 90), (1, .ref 1), (0, .ref 0)]) (st' := [.int 0, .ref 0, .int a1, .ref 90, .int 0]) (w' := (fw (sz a0 a1 5 a3 a4 a5))) (cs' := 109) (ss' := 12668) ?_ (fun _ _ => rfl)
  refine go_seg 3 (pc' := 395) (ls' := [(3, .int 0), (2, .ref 90), (1, .ref 1), (0, .ref 0)]) (st' := [.int 5, .int a1, .ref 90, .int 0]) (w' := (fw (sz a0 a1 5 a3 a4 a5))) (cs' := 109) (ss' := 12668) ?_ (fun _ _ => rfl)
  refine go_cl (k := 20) (st' := [.int 0, .int 0]) (cs' := 109) (ss' := 12668) rfl rfl rfl rfl rfl rfl rfl (ro_1116 (sz a0 a1 5 a3 a4 a5) a1 (by omega) (by omega)) ?_
  refine go_cmp true rfl (br_self _) ?_
  exact law_tail (f := sc a0 a1 5 a3 a4 a5) rfl
theorem ro_1118 (z : pq_C) : pq_Ru 2 27 [.ref 11, .int 0] (fw z) (some (.int 0), (fw z)) := by
  refine ru_of (k := 1) (M := pm_27) rfl rfl ?_
  refine go_seg 8 (pc' := 11) (ls' := [(3, .int 0), (2, .int 0), (0, .ref 11), (1, .int 0)]) (st' := [.int 0]) (w' := (fw z)) (cs' := 0) (ss' := 0) ?_ (fun _ _ => rfl)
  refine go_cl (k := 1) (st' := [.int 1]) (cs' := 0) (ss' := 0) rfl rfl rfl rfl rfl rfl rfl (ro_548 z) ?_
  refine go_seg 8 (pc' := 27) (ls' := [(3, .int 0), (2, .int 0), (0, .ref 11), (1, .int 0)]) (st' := [.int 0, .int 0, .ref 14, .int 0]) (w' := (fw z)) (cs' := 0) (ss' := 0) ?_ (fun _ _ => rfl)
  refine go_seg 8 (pc' := 7) (ls' := [(3, .int 1), (2, .int 0), (0, .ref 11), (1, .int 0)]) (st' := [.int 8, .int 1]) (w' := (fw z)) (cs' := 0) (ss' := 0) ?_ (fun _ _ => rfl)
  refine go_seg 2 (pc' := 11) (ls' := [(3, .int 1), (2, .int 0), (0, .ref 11), (1, .int 0)]) (st' := [.int 0]) (w' := (fw z)) (cs' := 0) (ss' := 0) ?_ (fun _ _ => rfl)
  refine go_cl (k := 1) (st' := [.int 1]) (cs' := 0) (ss' := 0) rfl rfl rfl rfl rfl rfl rfl (ro_548 z) ?_
  refine go_seg 8 (pc' := 27) (ls' := [(3, .int 1), (2, .int 0), (0, .ref 11), (1, .int 0)]) (st' := [.int 0, .int 8, .ref 14, .int 0]) (w' := (fw z)) (cs' := 0) (ss' := 0) ?_ (fun _ _ => rfl)
  refine go_seg 8 (pc' := 7) (ls' := [(3, .int 2), (2, .int 0), (0, .ref 11), (1, .int 0)]) (st' := [.int 8, .int 2]) (w' := (fw z)) (cs' := 0) (ss' := 0) ?_ (fun _ _ => rfl)
  refine go_seg 2 (pc' := 11) (ls' := [(3, .int 2), (2, .int 0), (0, .ref 11), (1, .int 0)]) (st' := [.int 0]) (w' := (fw z)) (cs' := 0) (ss' := 0) ?_ (fun _ _ => rfl)
  refine go_cl (k := 1) (st' := [.int 1]) (cs' := 0) (ss' := 0) rfl rfl rfl rfl rfl rfl rfl (ro_548 z) ?_
  refine go_seg 8 (pc' := 27) (ls' := [(3, .int 2), (2, .int 0), (0, .ref 11), (1, .int 0)]) (st' := [.int 0, .int 16, .ref 14, .int 0]) (w' := (fw z)) (cs' := 0) (ss' := 0) ?_ (fun _ _ => rfl)
  refine go_seg 8 (pc' := 7) (ls' := [(3, .int 3), (2, .int 0), (0, .ref 11), (1, .int 0)]) (st' := [.int 8, .int 3]) (w' := (fw z)) (cs' := 0) (ss' := 0) ?_ (fun _ _ => rfl)
  refine go_seg 2 (pc' := 11) (ls' := [(3, .int 3), (2, .int 0), (0, .ref 11), (1, .int 0)]) (st' := [.int 0]) (w' := (fw z)) (cs' := 0) (ss' := 0) ?_ (fun _ _ => rfl)
  refine go_cl (k := 1) (st' := [.int 1]) (cs' := 0) (ss' := 0) rfl rfl rfl rfl rfl rfl rfl (ro_548 z) ?_
  refine go_seg 8 (pc' := 27) (ls' := [(3, .int 3), (2, .int 0), (0, .ref 11), (1, .int 0)]) (st' := [.int 0, .int 24, .ref 14, .int 0]) (w' := (fw z)) (cs' := 0) (ss' := 0) ?_ (fun _ _ => rfl)
  refine go_seg 8 (pc' := 7) (ls' := [(3, .int 4), (2, .int 0), (0, .ref 11), (1, .int 0)]) (st' := [.int 8, .int 4]) (w' := (fw z)) (cs' := 0) (ss' := 0) ?_ (fun _ _ => rfl)
  refine go_seg 2 (pc' := 11) (ls' := [(3, .int 4), (2, .int 0), (0, .ref 11), (1, .int 0)]) (st' := [.int 0]) (w' := (fw z)) (cs' := 0) (ss' := 0) ?_ (fun _ _ => rfl)
  refine go_cl (k := 1) (st' := [.int 1]) (cs' := 0) (ss' := 0) rfl rfl rfl rfl rfl rfl rfl (ro_548 z) ?_
  refine go_seg 8 (pc' := 27) (ls' := [(3, .int 4), (2, .int 0), (0, .ref 11), (1, .int 0)]) (st' := [.int 0, .int 32, .ref 14, .int 0]) (w' := (fw z)) (cs' := 0) (ss' := 0) ?_ (fun _ _ => rfl)
  refine go_seg 8 (pc' := 7) (ls' := [(3, .int 5), (2, .int 0), (0, .ref 11), (1, .int 0)]) (st' := [.int 8, .int 5]) (w' := (fw z)) (cs' := 0) (ss' := 0) ?_ (fun _ _ => rfl)
  refine go_seg 2 (pc' := 11) (ls' := [(3, .int 5), (2, .int 0), (0, .ref 11), (1, .int 0)]) (st' := [.int 0]) (w' := (fw z)) (cs' := 0) (ss' := 0) ?_ (fun _ _ => rfl)
  refine go_cl (k := 1) (st' := [.int 1]) (cs' := 0) (ss' := 0) rfl rfl rfl rfl rfl rfl rfl (ro_548 z) ?_
  refine go_seg 8 (pc' := 27) (ls' := [(3, .int 5), (2, .int 0), (0, .ref 11), (1, .int 0)]) (st' := [.int 0, .int 40, .ref 14, .int 0]) (w' := (fw z)) (cs' := 0) (ss' := 0) ?_ (fun _ _ => rfl)
  refine go_seg 8 (pc' := 7) (ls' := [(3, .int 6), (2, .int 0), (0, .ref 11), (1, .int 0)]) (st' := [.int 8, .int 6]) (w' := (fw z)) (cs' := 0) (ss' := 0) ?_ (fun _ _ => rfl)
  refine go_seg 2 (pc' := 11) (ls' := [(3, .int 6), (2, .int 0), (0, .ref 11), (1, .int 0)]) (st' := [.int 0]) (w' := (fw z)) (cs' := 0) (ss' := 0) ?_ (fun _ _ => rfl)
  refine go_cl (k := 1) (st' := [.int 1]) (cs' := 0) (ss' := 0) rfl rfl rfl rfl rfl rfl rfl (ro_548 z) ?_
  refine go_seg 8 (pc' := 27) (ls' := [(3, .int 6), (2, .int 0), (0, .ref 11), (1, .int 0)]) (st' := [.int 0, .int 48, .ref 14, .int 0]) (w' := (fw z)) (cs' := 0) (ss' := 0) ?_ (fun _ _ => rfl)
  refine go_seg 8 (pc' := 7) (ls' := [(3, .int 7), (2, .int 0), (0, .ref 11), (1, .int 0)]) (st' := [.int 8, .int 7]) (w' := (fw z)) (cs' := 0) (ss' := 0) ?_ (fun _ _ => rfl)
  refine go_seg 2 (pc' := 11) (ls' := [(3, .int 7), (2, .int 0), (0, .ref 11), (1, .int 0)]) (st' := [.int 0]) (w' := (fw z)) (cs' := 0) (ss' := 0) ?_ (fun _ _ => rfl)
  refine go_cl (k := 1) (st' := [.int 1]) (cs' := 0) (ss' := 0) rfl rfl rfl rfl rfl rfl rfl (ro_548 z) ?_
  refine go_seg 8 (pc' := 27) (ls' := [(3, .int 7), (2, .int 0), (0, .ref 11), (1, .int 0)]) (st' := [.int 0, .int 56, .ref 14, .int 0]) (w' := (fw z)) (cs' := 0) (ss' := 0) ?_ (fun _ _ => rfl)
  refine go_seg 8 (pc' := 7) (ls' := [(3, .int 8), (2, .int 0), (0, .ref 11), (1, .int 0)]) (st' := [.int 8, .int 8]) (w' := (fw z)) (cs' := 0) (ss' := 0) ?_ (fun _ _ => rfl)
  exact go_end 3 (fun _ _ => rfl)
theorem ro_1119 (z : pq_C) : pq_Ru 3 25 [.ref 1, .int 0, .int 6] (fw z) (some (.int 0), (fw z)) := by
  refine ru_of (k := 2) (M := pm_25) rfl rfl ?_
  refine go_seg 1 (pc' := 1) (ls' := [(0, .ref 1), (1, .int 0), (2, .int 6)]) (st' := [.int 0]) (w' := (fw z)) (cs' := 0) (ss' := 0) ?_ (fun _ _ => rfl)
  refine go_cl (k := 2) (st' := [.int 1]) (cs' := 0) (ss' := 0) rfl rfl rfl rfl rfl rfl rfl (ro_548 z) ?_
  refine go_seg 6 (pc' := 124) (ls' := [(0, .ref 1), (1, .int 0), (2, .int 6)]) (st' := [.int 0, .ref 11]) (w' := (fw z)) (cs' := 0) (ss' := 0) ?_ (fun _ _ => rfl)
  refine go_cl (k := 2) (st' := [.int 0]) (cs' := 0) (ss' := 0) rfl rfl rfl rfl rfl rfl rfl (ro_1118 z) ?_
  exact go_end 1 (fun _ _ => rfl)
theorem ro_1120 (z : pq_C) : pq_Ru 3 169 [.ref 90, .int 0, .int 6] (fw z) (some (.int 0), (fw z)) := by
  refine ru_of (k := 2) (M := pm_169) rfl rfl ?_
  refine go_seg 1 (pc' := 1) (ls' := [(0, .ref 90), (1, .int 0), (2, .int 6)]) (st' := [.int 0]) (w' := (fw z)) (cs' := 0) (ss' := 0) ?_ (fun _ _ => rfl)
  refine go_cl (k := 2) (st' := [.int 1]) (cs' := 0) (ss' := 0) rfl rfl rfl rfl rfl rfl rfl (ro_940 z) ?_
  refine go_seg 5 (pc' := 13) (ls' := [(0, .ref 90), (1, .int 0), (2, .int 6)]) (st' := [.long 7, .long 0, .long 6]) (w' := (fw z)) (cs' := 0) (ss' := 0) ?_ (fun _ _ => rfl)
  refine go_cl (k := 2) (st' := [.int 1]) (cs' := 0) (ss' := 0) rfl rfl rfl rfl rfl rfl rfl (ro_975 z) ?_
  refine go_seg 8 (pc' := 47) (ls' := [(4, .int 0), (3, .int 0), (0, .ref 90), (1, .int 0), (2, .int 6)]) (st' := []) (w' := (fw z)) (cs' := 0) (ss' := 0) ?_ (fun _ _ => rfl)
  refine go_seg 8 (pc' := 63) (ls' := [(4, .int 0), (3, .int 0), (0, .ref 90), (1, .int 0), (2, .int 6)]) (st' := [.int 0, .int 10, .ref 91, .int 0]) (w' := (fw z)) (cs' := 0) (ss' := 0) ?_ (fun _ _ => rfl)
  refine go_seg 8 (pc' := 79) (ls' := [(4, .int 1), (3, .int 0), (0, .ref 90), (1, .int 0), (2, .int 6)]) (st' := []) (w' := (fw z)) (cs' := 0) (ss' := 0) ?_ (fun _ _ => rfl)
  refine go_seg 8 (pc' := 61) (ls' := [(4, .int 1), (3, .int 0), (0, .ref 90), (1, .int 0), (2, .int 6)]) (st' := [.int 10, .ref 91, .int 0]) (w' := (fw z)) (cs' := 0) (ss' := 0) ?_ (fun _ _ => rfl)
  refine go_seg 8 (pc' := 76) (ls' := [(3, .int 0), (4, .int 1), (0, .ref 90), (1, .int 0), (2, .int 6)]) (st' := []) (w' := (fw z)) (cs' := 0) (ss' := 0) ?_ (fun _ _ => rfl)
  refine go_seg 8 (pc' := 59) (ls' := [(4, .int 2), (3, .int 0), (0, .ref 90), (1, .int 0), (2, .int 6)]) (st' := [.ref 91, .int 0]) (w' := (fw z)) (cs' := 0) (ss' := 0) ?_ (fun _ _ => rfl)
  refine go_seg 8 (pc' := 75) (ls' := [(4, .int 2), (3, .int 0), (0, .ref 90), (1, .int 0), (2, .int 6)]) (st' := [.int 0]) (w' := (fw z)) (cs' := 0) (ss' := 0) ?_ (fun _ _ => rfl)
  refine go_seg 8 (pc' := 56) (ls' := [(4, .int 3), (3, .int 0), (0, .ref 90), (1, .int 0), (2, .int 6)]) (st' := [.ref 90, .int 0]) (w' := (fw z)) (cs' := 0) (ss' := 0) ?_ (fun _ _ => rfl)
  refine go_seg 8 (pc' := 74) (ls' := [(4, .int 3), (3, .int 0), (0, .ref 90), (1, .int 0), (2, .int 6)]) (st' := [.int 0, .int 0]) (w' := (fw z)) (cs' := 0) (ss' := 0) ?_ (fun _ _ => rfl)
  refine go_seg 8 (pc' := 55) (ls' := [(4, .int 4), (3, .int 0), (0, .ref 90), (1, .int 0), (2, .int 6)]) (st' := [.int 0]) (w' := (fw z)) (cs' := 0) (ss' := 0) ?_ (fun _ _ => rfl)
  refine go_seg 8 (pc' := 73) (ls' := [(4, .int 4), (3, .int 0), (0, .ref 90), (1, .int 0), (2, .int 6)]) (st' := [.int 0]) (w' := (fw z)) (cs' := 0) (ss' := 0) ?_ (fun _ _ => rfl)
  refine go_seg 8 (pc' := 54) (ls' := [(4, .int 5), (3, .int 0), (0, .ref 90), (1, .int 0), (2, .int 6)]) (st' := []) (w' := (fw z)) (cs' := 0) (ss' := 0) ?_ (fun _ _ => rfl)
  refine go_seg 8 (pc' := 66) (ls' := [(4, .int 5), (3, .int 0), (0, .ref 90), (1, .int 0), (2, .int 6)]) (st' := [.int 0, .int (-1), .int 0]) (w' := (fw z)) (cs' := 0) (ss' := 0) ?_ (fun _ _ => rfl)
  refine go_seg 8 (pc' := 51) (ls' := [(4, .int 6), (3, .int 0), (0, .ref 90), (1, .int 0), (2, .int 6)]) (st' := [.int 64, .int 6]) (w' := (fw z)) (cs' := 0) (ss' := 0) ?_ (fun _ _ => rfl)
  refine go_seg 8 (pc' := 65) (ls' := [(4, .int 6), (3, .int 0), (0, .ref 90), (1, .int 0), (2, .int 6)]) (st' := [.int (-1), .int 0]) (w' := (fw z)) (cs' := 0) (ss' := 0) ?_ (fun _ _ => rfl)
  refine go_seg 8 (pc' := 49) (ls' := [(4, .int 7), (3, .int 0), (0, .ref 90), (1, .int 0), (2, .int 6)]) (st' := [.int 7]) (w' := (fw z)) (cs' := 0) (ss' := 0) ?_ (fun _ _ => rfl)
  refine go_seg 8 (pc' := 64) (ls' := [(4, .int 7), (3, .int 0), (0, .ref 90), (1, .int 0), (2, .int 6)]) (st' := [.int 17, .ref 91, .int 0]) (w' := (fw z)) (cs' := 0) (ss' := 0) ?_ (fun _ _ => rfl)
  refine go_seg 8 (pc' := 47) (ls' := [(4, .int 8), (3, .int 0), (0, .ref 90), (1, .int 0), (2, .int 6)]) (st' := []) (w' := (fw z)) (cs' := 0) (ss' := 0) ?_ (fun _ _ => rfl)
  refine go_seg 8 (pc' := 63) (ls' := [(4, .int 8), (3, .int 0), (0, .ref 90), (1, .int 0), (2, .int 6)]) (st' := [.int 8, .int 10, .ref 91, .int 0]) (w' := (fw z)) (cs' := 0) (ss' := 0) ?_ (fun _ _ => rfl)
  refine go_seg 8 (pc' := 79) (ls' := [(4, .int 9), (3, .int 0), (0, .ref 90), (1, .int 0), (2, .int 6)]) (st' := []) (w' := (fw z)) (cs' := 0) (ss' := 0) ?_ (fun _ _ => rfl)
  refine go_seg 8 (pc' := 61) (ls' := [(4, .int 9), (3, .int 0), (0, .ref 90), (1, .int 0), (2, .int 6)]) (st' := [.int 10, .ref 91, .int 0]) (w' := (fw z)) (cs' := 0) (ss' := 0) ?_ (fun _ _ => rfl)
  refine go_seg 8 (pc' := 76) (ls' := [(3, .int 0), (4, .int 9), (0, .ref 90), (1, .int 0), (2, .int 6)]) (st' := []) (w' := (fw z)) (cs' := 0) (ss' := 0) ?_ (fun _ _ => rfl)
  refine go_seg 8 (pc' := 59) (ls' := [(4, .int 10), (3, .int 0), (0, .ref 90), (1, .int 0), (2, .int 6)]) (st' := [.ref 91, .int 0]) (w' := (fw z)) (cs' := 0) (ss' := 0) ?_ (fun _ _ => rfl)
  refine go_seg 8 (pc' := 75) (ls' := [(4, .int 10), (3, .int 0), (0, .ref 90), (1, .int 0), (2, .int 6)]) (st' := [.int 0]) (w' := (fw z)) (cs' := 0) (ss' := 0) ?_ (fun _ _ => rfl)
  refine go_seg 8 (pc' := 56) (ls' := [(4, .int 11), (3, .int 0), (0, .ref 90), (1, .int 0), (2, .int 6)]) (st' := [.ref 90, .int 0]) (w' := (fw z)) (cs' := 0) (ss' := 0) ?_ (fun _ _ => rfl)
  refine go_seg 8 (pc' := 74) (ls' := [(4, .int 11), (3, .int 0), (0, .ref 90), (1, .int 0), (2, .int 6)]) (st' := [.int 0, .int 0]) (w' := (fw z)) (cs' := 0) (ss' := 0) ?_ (fun _ _ => rfl)
  refine go_seg 8 (pc' := 55) (ls' := [(4, .int 12), (3, .int 0), (0, .ref 90), (1, .int 0), (2, .int 6)]) (st' := [.int 0]) (w' := (fw z)) (cs' := 0) (ss' := 0) ?_ (fun _ _ => rfl)
  refine go_seg 8 (pc' := 73) (ls' := [(4, .int 12), (3, .int 0), (0, .ref 90), (1, .int 0), (2, .int 6)]) (st' := [.int 0]) (w' := (fw z)) (cs' := 0) (ss' := 0) ?_ (fun _ _ => rfl)
  refine go_seg 8 (pc' := 54) (ls' := [(4, .int 13), (3, .int 0), (0, .ref 90), (1, .int 0), (2, .int 6)]) (st' := []) (w' := (fw z)) (cs' := 0) (ss' := 0) ?_ (fun _ _ => rfl)
  refine go_seg 8 (pc' := 66) (ls' := [(4, .int 13), (3, .int 0), (0, .ref 90), (1, .int 0), (2, .int 6)]) (st' := [.int 0, .int (-1), .int 0]) (w' := (fw z)) (cs' := 0) (ss' := 0) ?_ (fun _ _ => rfl)
  refine go_seg 8 (pc' := 51) (ls' := [(4, .int 14), (3, .int 0), (0, .ref 90), (1, .int 0), (2, .int 6)]) (st' := [.int 64, .int 14]) (w' := (fw z)) (cs' := 0) (ss' := 0) ?_ (fun _ _ => rfl)
  refine go_seg 8 (pc' := 65) (ls' := [(4, .int 14), (3, .int 0), (0, .ref 90), (1, .int 0), (2, .int 6)]) (st' := [.int (-1), .int 0]) (w' := (fw z)) (cs' := 0) (ss' := 0) ?_ (fun _ _ => rfl)
  refine go_seg 8 (pc' := 49) (ls' := [(4, .int 15), (3, .int 0), (0, .ref 90), (1, .int 0), (2, .int 6)]) (st' := [.int 15]) (w' := (fw z)) (cs' := 0) (ss' := 0) ?_ (fun _ _ => rfl)
  refine go_seg 8 (pc' := 64) (ls' := [(4, .int 15), (3, .int 0), (0, .ref 90), (1, .int 0), (2, .int 6)]) (st' := [.int 25, .ref 91, .int 0]) (w' := (fw z)) (cs' := 0) (ss' := 0) ?_ (fun _ _ => rfl)
  refine go_seg 8 (pc' := 47) (ls' := [(4, .int 16), (3, .int 0), (0, .ref 90), (1, .int 0), (2, .int 6)]) (st' := []) (w' := (fw z)) (cs' := 0) (ss' := 0) ?_ (fun _ _ => rfl)
  refine go_seg 8 (pc' := 63) (ls' := [(4, .int 16), (3, .int 0), (0, .ref 90), (1, .int 0), (2, .int 6)]) (st' := [.int 16, .int 10, .ref 91, .int 0]) (w' := (fw z)) (cs' := 0) (ss' := 0) ?_ (fun _ _ => rfl)
  refine go_seg 8 (pc' := 79) (ls' := [(4, .int 17), (3, .int 0), (0, .ref 90), (1, .int 0), (2, .int 6)]) (st' := []) (w' := (fw z)) (cs' := 0) (ss' := 0) ?_ (fun _ _ => rfl)
  refine go_seg 8 (pc' := 61) (ls' := [(4, .int 17), (3, .int 0), (0, .ref 90), (1, .int 0), (2, .int 6)]) (st' := [.int 10, .ref 91, .int 0]) (w' := (fw z)) (cs' := 0) (ss' := 0) ?_ (fun _ _ => rfl)
  refine go_seg 8 (pc' := 76) (ls' := [(3, .int 0), (4, .int 17), (0, .ref 90), (1, .int 0), (2, .int 6)]) (st' := []) (w' := (fw z)) (cs' := 0) (ss' := 0) ?_ (fun _ _ => rfl)
  refine go_seg 8 (pc' := 59) (ls' := [(4, .int 18), (3, .int 0), (0, .ref 90), (1, .int 0), (2, .int 6)]) (st' := [.ref 91, .int 0]) (w' := (fw z)) (cs' := 0) (ss' := 0) ?_ (fun _ _ => rfl)
  refine go_seg 8 (pc' := 75) (ls' := [(4, .int 18), (3, .int 0), (0, .ref 90), (1, .int 0), (2, .int 6)]) (st' := [.int 0]) (w' := (fw z)) (cs' := 0) (ss' := 0) ?_ (fun _ _ => rfl)
  refine go_seg 8 (pc' := 56) (ls' := [(4, .int 19), (3, .int 0), (0, .ref 90), (1, .int 0), (2, .int 6)]) (st' := [.ref 90, .int 0]) (w' := (fw z)) (cs' := 0) (ss' := 0) ?_ (fun _ _ => rfl)
  refine go_seg 8 (pc' := 74) (ls' := [(4, .int 19), (3, .int 0), (0, .ref 90), (1, .int 0), (2, .int 6)]) (st' := [.int 0, .int 0]) (w' := (fw z)) (cs' := 0) (ss' := 0) ?_ (fun _ _ => rfl)
  refine go_seg 8 (pc' := 55) (ls' := [(4, .int 20), (3, .int 0), (0, .ref 90), (1, .int 0), (2, .int 6)]) (st' := [.int 0]) (w' := (fw z)) (cs' := 0) (ss' := 0) ?_ (fun _ _ => rfl)
  refine go_seg 8 (pc' := 73) (ls' := [(4, .int 20), (3, .int 0), (0, .ref 90), (1, .int 0), (2, .int 6)]) (st' := [.int 0]) (w' := (fw z)) (cs' := 0) (ss' := 0) ?_ (fun _ _ => rfl)
  refine go_seg 8 (pc' := 54) (ls' := [(4, .int 21), (3, .int 0), (0, .ref 90), (1, .int 0), (2, .int 6)]) (st' := []) (w' := (fw z)) (cs' := 0) (ss' := 0) ?_ (fun _ _ => rfl)
  refine go_seg 8 (pc' := 66) (ls' := [(4, .int 21), (3, .int 0), (0, .ref 90), (1, .int 0), (2, .int 6)]) (st' := [.int 0, .int (-1), .int 0]) (w' := (fw z)) (cs' := 0) (ss' := 0) ?_ (fun _ _ => rfl)
  refine go_seg 8 (pc' := 51) (ls' := [(4, .int 22), (3, .int 0), (0, .ref 90), (1, .int 0), (2, .int 6)]) (st' := [.int 64, .int 22]) (w' := (fw z)) (cs' := 0) (ss' := 0) ?_ (fun _ _ => rfl)
  refine go_seg 8 (pc' := 65) (ls' := [(4, .int 22), (3, .int 0), (0, .ref 90), (1, .int 0), (2, .int 6)]) (st' := [.int (-1), .int 0]) (w' := (fw z)) (cs' := 0) (ss' := 0) ?_ (fun _ _ => rfl)
  refine go_seg 8 (pc' := 49) (ls' := [(4, .int 23), (3, .int 0), (0, .ref 90), (1, .int 0), (2, .int 6)]) (st' := [.int 23]) (w' := (fw z)) (cs' := 0) (ss' := 0) ?_ (fun _ _ => rfl)
  refine go_seg 8 (pc' := 64) (ls' := [(4, .int 23), (3, .int 0), (0, .ref 90), (1, .int 0), (2, .int 6)]) (st' := [.int 33, .ref 91, .int 0]) (w' := (fw z)) (cs' := 0) (ss' := 0) ?_ (fun _ _ => rfl)
  refine go_seg 8 (pc' := 47) (ls' := [(4, .int 24), (3, .int 0), (0, .ref 90), (1, .int 0), (2, .int 6)]) (st' := []) (w' := (fw z)) (cs' := 0) (ss' := 0) ?_ (fun _ _ => rfl)
  refine go_seg 8 (pc' := 63) (ls' := [(4, .int 24), (3, .int 0), (0, .ref 90), (1, .int 0), (2, .int 6)]) (st' := [.int 24, .int 10, .ref 91, .int 0]) (w' := (fw z)) (cs' := 0) (ss' := 0) ?_ (fun _ _ => rfl)
  refine go_seg 8 (pc' := 79) (ls' := [(4, .int 25), (3, .int 0), (0, .ref 90), (1, .int 0), (2, .int 6)]) (st' := []) (w' := (fw z)) (cs' := 0) (ss' := 0) ?_ (fun _ _ => rfl)
  refine go_seg 8 (pc' := 61) (ls' := [(4, .int 25), (3, .int 0), (0, .ref 90), (1, .int 0), (2, .int 6)]) (st' := [.int 10, .ref 91, .int 0]) (w' := (fw z)) (cs' := 0) (ss' := 0) ?_ (fun _ _ => rfl)
  refine go_seg 8 (pc' := 76) (ls' := [(3, .int 0), (4, .int 25), (0, .ref 90), (1, .int 0), (2, .int 6)]) (st' := []) (w' := (fw z)) (cs' := 0) (ss' := 0) ?_ (fun _ _ => rfl)
  refine go_seg 8 (pc' := 59) (ls' := [(4, .int 26), (3, .int 0), (0, .ref 90), (1, .int 0), (2, .int 6)]) (st' := [.ref 91, .int 0]) (w' := (fw z)) (cs' := 0) (ss' := 0) ?_ (fun _ _ => rfl)
  refine go_seg 8 (pc' := 75) (ls' := [(4, .int 26), (3, .int 0), (0, .ref 90), (1, .int 0), (2, .int 6)]) (st' := [.int 0]) (w' := (fw z)) (cs' := 0) (ss' := 0) ?_ (fun _ _ => rfl)
  refine go_seg 8 (pc' := 56) (ls' := [(4, .int 27), (3, .int 0), (0, .ref 90), (1, .int 0), (2, .int 6)]) (st' := [.ref 90, .int 0]) (w' := (fw z)) (cs' := 0) (ss' := 0) ?_ (fun _ _ => rfl)
  refine go_seg 8 (pc' := 74) (ls' := [(4, .int 27), (3, .int 0), (0, .ref 90), (1, .int 0), (2, .int 6)]) (st' := [.int 0, .int 0]) (w' := (fw z)) (cs' := 0) (ss' := 0) ?_ (fun _ _ => rfl)
  refine go_seg 8 (pc' := 55) (ls' := [(4, .int 28), (3, .int 0), (0, .ref 90), (1, .int 0), (2, .int 6)]) (st' := [.int 0]) (w' := (fw z)) (cs' := 0) (ss' := 0) ?_ (fun _ _ => rfl)
  refine go_seg 8 (pc' := 73) (ls' := [(4, .int 28), (3, .int 0), (0, .ref 90), (1, .int 0), (2, .int 6)]) (st' := [.int 0]) (w' := (fw z)) (cs' := 0) (ss' := 0) ?_ (fun _ _ => rfl)
  refine go_seg 8 (pc' := 54) (ls' := [(4, .int 29), (3, .int 0), (0, .ref 90), (1, .int 0), (2, .int 6)]) (st' := []) (w' := (fw z)) (cs' := 0) (ss' := 0) ?_ (fun _ _ => rfl)
  refine go_seg 8 (pc' := 66) (ls' := [(4, .int 29), (3, .int 0), (0, .ref 90), (1, .int 0), (2, .int 6)]) (st' := [.int 0, .int (-1), .int 0]) (w' := (fw z)) (cs' := 0) (ss' := 0) ?_ (fun _ _ => rfl)
  refine go_seg 8 (pc' := 51) (ls' := [(4, .int 30), (3, .int 0), (0, .ref 90), (1, .int 0), (2, .int 6)]) (st' := [.int 64, .int 30]) (w' := (fw z)) (cs' := 0) (ss' := 0) ?_ (fun _ _ => rfl)
  refine go_seg 8 (pc' := 65) (ls' := [(4, .int 30), (3, .int 0), (0, .ref 90), (1, .int 0), (2, .int 6)]) (st' := [.int (-1), .int 0]) (w' := (fw z)) (cs' := 0) (ss' := 0) ?_ (fun _ _ => rfl)
  refine go_seg 8 (pc' := 49) (ls' := [(4, .int 31), (3, .int 0), (0, .ref 90), (1, .int 0), (2, .int 6)]) (st' := [.int 31]) (w' := (fw z)) (cs' := 0) (ss' := 0) ?_ (fun _ _ => rfl)
  refine go_seg 8 (pc' := 64) (ls' := [(4, .int 31), (3, .int 0), (0, .ref 90), (1, .int 0), (2, .int 6)]) (st' := [.int 41, .ref 91, .int 0]) (w' := (fw z)) (cs' := 0) (ss' := 0) ?_ (fun _ _ => rfl)
  refine go_seg 8 (pc' := 47) (ls' := [(4, .int 32), (3, .int 0), (0, .ref 90), (1, .int 0), (2, .int 6)]) (st' := []) (w' := (fw z)) (cs' := 0) (ss' := 0) ?_ (fun _ _ => rfl)
  refine go_seg 8 (pc' := 63) (ls' := [(4, .int 32), (3, .int 0), (0, .ref 90), (1, .int 0), (2, .int 6)]) (st' := [.int 32, .int 10, .ref 91, .int 0]) (w' := (fw z)) (cs' := 0) (ss' := 0) ?_ (fun _ _ => rfl)
  refine go_seg 8 (pc' := 79) (ls' := [(4, .int 33), (3, .int 0), (0, .ref 90), (1, .int 0), (2, .int 6)]) (st' := []) (w' := (fw z)) (cs' := 0) (ss' := 0) ?_ (fun _ _ => rfl)
  refine go_seg 8 (pc' := 61) (ls' := [(4, .int 33), (3, .int 0), (0, .ref 90), (1, .int 0), (2, .int 6)]) (st' := [.int 10, .ref 91, .int 0]) (w' := (fw z)) (cs' := 0) (ss' := 0) ?_ (fun _ _ => rfl)
  refine go_seg 8 (pc' := 76) (ls' := [(3, .int 0), (4, .int 33), (0, .ref 90), (1, .int 0), (2, .int 6)]) (st' := []) (w' := (fw z)) (cs' := 0) (ss' := 0) ?_ (fun _ _ => rfl)
  refine go_seg 8 (pc' := 59) (ls' := [(4, .int 34), (3, .int 0), (0, .ref 90), (1, .int 0), (2, .int 6)]) (st' := [.ref 91, .int 0]) (w' := (fw z)) (cs' := 0) (ss' := 0) ?_ (fun _ _ => rfl)
  refine go_seg 8 (pc' := 75) (ls' := [(4, .int 34), (3, .int 0), (0, .ref 90), (1, .int 0), (2, .int 6)]) (st' := [.int 0]) (w' := (fw z)) (cs' := 0) (ss' := 0) ?_ (fun _ _ => rfl)
  refine go_seg 8 (pc' := 56) (ls' := [(4, .int 35), (3, .int 0), (0, .ref 90), (1, .int 0), (2, .int 6)]) (st' := [.ref 90, .int 0]) (w' := (fw z)) (cs' := 0) (ss' := 0) ?_ (fun _ _ => rfl)
  refine go_seg 8 (pc' := 74) (ls' := [(4, .int 35), (3, .int 0), (0, .ref 90), (1, .int 0), (2, .int 6)]) (st' := [.int 0, .int 0]) (w' := (fw z)) (cs' := 0) (ss' := 0) ?_ (fun _ _ => rfl)
  refine go_seg 8 (pc' := 55) (ls' := [(4, .int 36), (3, .int 0), (0, .ref 90), (1, .int 0), (2, .int 6)]) (st' := [.int 0]) (w' := (fw z)) (cs' := 0) (ss' := 0) ?_ (fun _ _ => rfl)
  refine go_seg 8 (pc' := 73) (ls' := [(4, .int 36), (3, .int 0), (0, .ref 90), (1, .int 0), (2, .int 6)]) (st' := [.int 0]) (w' := (fw z)) (cs' := 0) (ss' := 0) ?_ (fun _ _ => rfl)
  refine go_seg 8 (pc' := 54) (ls' := [(4, .int 37), (3, .int 0), (0, .ref 90), (1, .int 0), (2, .int 6)]) (st' := []) (w' := (fw z)) (cs' := 0) (ss' := 0) ?_ (fun _ _ => rfl)
  refine go_seg 8 (pc' := 66) (ls' := [(4, .int 37), (3, .int 0), (0, .ref 90), (1, .int 0), (2, .int 6)]) (st' := [.int 0, .int (-1), .int 0]) (w' := (fw z)) (cs' := 0) (ss' := 0) ?_ (fun _ _ => rfl)
  refine go_seg 8 (pc' := 51) (ls' := [(4, .int 38), (3, .int 0), (0, .ref 90), (1, .int 0), (2, .int 6)]) (st' := [.int 64, .int 38]) (w' := (fw z)) (cs' := 0) (ss' := 0) ?_ (fun _ _ => rfl)
  refine go_seg 8 (pc' := 65) (ls' := [(4, .int 38), (3, .int 0), (0, .ref 90), (1, .int 0), (2, .int 6)]) (st' := [.int (-1), .int 0]) (w' := (fw z)) (cs' := 0) (ss' := 0) ?_ (fun _ _ => rfl)
  refine go_seg 8 (pc' := 49) (ls' := [(4, .int 39), (3, .int 0), (0, .ref 90), (1, .int 0), (2, .int 6)]) (st' := [.int 39]) (w' := (fw z)) (cs' := 0) (ss' := 0) ?_ (fun _ _ => rfl)
  refine go_seg 8 (pc' := 64) (ls' := [(4, .int 39), (3, .int 0), (0, .ref 90), (1, .int 0), (2, .int 6)]) (st' := [.int 49, .ref 91, .int 0]) (w' := (fw z)) (cs' := 0) (ss' := 0) ?_ (fun _ _ => rfl)
  refine go_seg 8 (pc' := 47) (ls' := [(4, .int 40), (3, .int 0), (0, .ref 90), (1, .int 0), (2, .int 6)]) (st' := []) (w' := (fw z)) (cs' := 0) (ss' := 0) ?_ (fun _ _ => rfl)
  refine go_seg 8 (pc' := 63) (ls' := [(4, .int 40), (3, .int 0), (0, .ref 90), (1, .int 0), (2, .int 6)]) (st' := [.int 40, .int 10, .ref 91, .int 0]) (w' := (fw z)) (cs' := 0) (ss' := 0) ?_ (fun _ _ => rfl)
  refine go_seg 8 (pc' := 79) (ls' := [(4, .int 41), (3, .int 0), (0, .ref 90), (1, .int 0), (2, .int 6)]) (st' := []) (w' := (fw z)) (cs' := 0) (ss' := 0) ?_ (fun _ _ => rfl)
  refine go_seg 8 (pc' := 61) (ls' := [(4, .int 41), (3, .int 0), (0, .ref 90), (1, .int 0), (2, .int 6)]) (st' := [.int 10, .ref 91, .int 0]) (w' := (fw z)) (cs' := 0) (ss' := 0) ?_ (fun _ _ => rfl)
  refine go_seg 8 (pc' := 76) (ls' := [(3, .int 0), (4, .int 41), (0, .ref 90), (1, .int 0), (2, .int 6)]) (st' := []) (w' := (fw z)) (cs' := 0) (ss' := 0) ?_ (fun _ _ => rfl)
  refine go_seg 8 (pc' := 59) (ls' := [(4, .int 42), (3, .int 0), (0, .ref 90), (1, .int 0), (2, .int 6)]) (st' := [.ref 91, .int 0]) (w' := (fw z)) (cs' := 0) (ss' := 0) ?_ (fun _ _ => rfl)
  refine go_seg 8 (pc' := 75) (ls' := [(4, .int 42), (3, .int 0), (0, .ref 90), (1, .int 0), (2, .int 6)]) (st' := [.int 0]) (w' := (fw z)) (cs' := 0) (ss' := 0) ?_ (fun _ _ => rfl)
  refine go_seg 8 (pc' := 56) (ls' := [(4, .int 43), (3, .int 0), (0, .ref 90), (1, .int 0), (2, .int 6)]) (st' := [.ref 90, .int 0]) (w' := (fw z)) (cs' := 0) (ss' := 0) ?_ (fun _ _ => rfl)
  refine go_seg 8 (pc' := 74) (ls' := [(4, .int 43), (3, .int 0), (0, .ref 90), (1, .int 0), (2, .int 6)]) (st' := [.int 0, .int 0]) (w' := (fw z)) (cs' := 0) (ss' := 0) ?_ (fun _ _ => rfl)
  refine go_seg 8 (pc' := 55) (ls' := [(4, .int 44), (3, .int 0), (0, .ref 90), (1, .int 0), (2, .int 6)]) (st' := [.int 0]) (w' := (fw z)) (cs' := 0) (ss' := 0) ?_ (fun _ _ => rfl)
  refine go_seg 8 (pc' := 73) (ls' := [(4, .int 44), (3, .int 0), (0, .ref 90), (1, .int 0), (2, .int 6)]) (st' := [.int 0]) (w' := (fw z)) (cs' := 0) (ss' := 0) ?_ (fun _ _ => rfl)
  refine go_seg 8 (pc' := 54) (ls' := [(4, .int 45), (3, .int 0), (0, .ref 90), (1, .int 0), (2, .int 6)]) (st' := []) (w' := (fw z)) (cs' := 0) (ss' := 0) ?_ (fun _ _ => rfl)
  refine go_seg 8 (pc' := 66) (ls' := [(4, .int 45), (3, .int 0), (0, .ref 90), (1, .int 0), (2, .int 6)]) (st' := [.int 0, .int (-1), .int 0]) (w' := (fw z)) (cs' := 0) (ss' := 0) ?_ (fun _ _ => rfl)
  refine go_seg 8 (pc' := 51) (ls' := [(4, .int 46), (3, .int 0), (0, .ref 90), (1, .int 0), (2, .int 6)]) (st' := [.int 64, .int 46]) (w' := (fw z)) (cs' := 0) (ss' := 0) ?_ (fun _ _ => rfl)
  refine go_seg 8 (pc' := 65) (ls' := [(4, .int 46), (3, .int 0), (0, .ref 90), (1, .int 0), (2, .int 6)]) (st' := [.int (-1), .int 0]) (w' := (fw z)) (cs' := 0) (ss' := 0) ?_ (fun _ _ => rfl)
  refine go_seg 8 (pc' := 49) (ls' := [(4, .int 47), (3, .int 0), (0, .ref 90), (1, .int 0), (2, .int 6)]) (st' := [.int 47]) (w' := (fw z)) (cs' := 0) (ss' := 0) ?_ (fun _ _ => rfl)
  refine go_seg 8 (pc' := 64) (ls' := [(4, .int 47), (3, .int 0), (0, .ref 90), (1, .int 0), (2, .int 6)]) (st' := [.int 57, .ref 91, .int 0]) (w' := (fw z)) (cs' := 0) (ss' := 0) ?_ (fun _ _ => rfl)
  refine go_seg 8 (pc' := 47) (ls' := [(4, .int 48), (3, .int 0), (0, .ref 90), (1, .int 0), (2, .int 6)]) (st' := []) (w' := (fw z)) (cs' := 0) (ss' := 0) ?_ (fun _ _ => rfl)
  refine go_seg 8 (pc' := 63) (ls' := [(4, .int 48), (3, .int 0), (0, .ref 90), (1, .int 0), (2, .int 6)]) (st' := [.int 48, .int 10, .ref 91, .int 0]) (w' := (fw z)) (cs' := 0) (ss' := 0) ?_ (fun _ _ => rfl)
  refine go_seg 8 (pc' := 79) (ls' := [(4, .int 49), (3, .int 0), (0, .ref 90), (1, .int 0), (2, .int 6)]) (st' := []) (w' := (fw z)) (cs' := 0) (ss' := 0) ?_ (fun _ _ => rfl)
  refine go_seg 8 (pc' := 61) (ls' := [(4, .int 49), (3, .int 0), (0, .ref 90), (1, .int 0), (2, .int 6)]) (st' := [.int 10, .ref 91, .int 0]) (w' := (fw z)) (cs' := 0) (ss' := 0) ?_ (fun _ _ => rfl)
  refine go_seg 8 (pc' := 76) (ls' := [(3, .int 0), (4, .int 49), (0, .ref 90), (1, .int 0), (2, .int 6)]) (st' := []) (w' := (fw z)) (cs' := 0) (ss' := 0) ?_ (fun _ _ => rfl)
  refine go_seg 8 (pc' := 59) (ls' := [(4, .int 50), (3, .int 0), (0, .ref 90), (1, .int 0), (2, .int 6)]) (st' := [.ref 91, .int 0]) (w' := (fw z)) (cs' := 0) (ss' := 0) ?_ (fun _ _ => rfl)
  refine go_seg 8 (pc' := 75) (ls' := [(4, .int 50), (3, .int 0), (0, .ref 90), (1, .int 0), (2, .int 6)]) (st' := [.int 0]) (w' := (fw z)) (cs' := 0) (ss' := 0) ?_ (fun _ _ => rfl)
  refine go_seg 8 (pc' := 56) (ls' := [(4, .int 51), (3, .int 0), (0, .ref 90), (1, .int 0), (2, .int 6)]) (st' := [.ref 90, .int 0]) (w' := (fw z)) (cs' := 0) (ss' := 0) ?_ (fun _ _ => rfl)
  refine go_seg 8 (pc' := 74) (ls' := [(4, .int 51), (3, .int 0), (0, .ref 90), (1, .int 0), (2, .int 6)]) (st' := [.int 0, .int 0]) (w' := (fw z)) (cs' := 0) (ss' := 0) ?_ (fun _ _ => rfl)
  refine go_seg 8 (pc' := 55) (ls' := [(4, .int 52), (3, .int 0), (0, .ref 90), (1, .int 0), (2, .int 6)]) (st' := [.int 0]) (w' := (fw z)) (cs' := 0) (ss' := 0) ?_ (fun _ _ => rfl)
  refine go_seg 8 (pc' := 73) (ls' := [(4, .int 52), (3, .int 0), (0, .ref 90), (1, .int 0), (2, .int 6)]) (st' := [.int 0]) (w' := (fw z)) (cs' := 0) (ss' := 0) ?_ (fun _ _ => rfl)
  refine go_seg 8 (pc' := 54) (ls' := [(4, .int 53), (3, .int 0), (0, .ref 90), (1, .int 0), (2, .int 6)]) (st' := []) (w' := (fw z)) (cs' := 0) (ss' := 0) ?_ (fun _ _ => rfl)
  refine go_seg 8 (pc' := 66) (ls' := [(4, .int 53), (3, .int 0), (0, .ref 90), (1, .int 0), (2, .int 6)]) (st' := [.int 0, .int (-1), .int 0]) (w' := (fw z)) (cs' := 0) (ss' := 0) ?_ (fun _ _ => rfl)
  refine go_seg 8 (pc' := 51) (ls' := [(4, .int 54), (3, .int 0), (0, .ref 90), (1, .int 0), (2, .int 6)]) (st' := [.int 64, .int 54]) (w' := (fw z)) (cs' := 0) (ss' := 0) ?_ (fun _ _ => rfl)
  refine go_seg 8 (pc' := 65) (ls' := [(4, .int 54), (3, .int 0), (0, .ref 90), (1, .int 0), (2, .int 6)]) (st' := [.int (-1), .int 0]) (w' := (fw z)) (cs' := 0) (ss' := 0) ?_ (fun _ _ => rfl)
  refine go_seg 8 (pc' := 49) (ls' := [(4, .int 55), (3, .int 0), (0, .ref 90), (1, .int 0), (2, .int 6)]) (st' := [.int 55]) (w' := (fw z)) (cs' := 0) (ss' := 0) ?_ (fun _ _ => rfl)
  refine go_seg 8 (pc' := 64) (ls' := [(4, .int 55), (3, .int 0), (0, .ref 90), (1, .int 0), (2, .int 6)]) (st' := [.int 65, .ref 91, .int 0]) (w' := (fw z)) (cs' := 0) (ss' := 0) ?_ (fun _ _ => rfl)
  refine go_seg 8 (pc' := 47) (ls' := [(4, .int 56), (3, .int 0), (0, .ref 90), (1, .int 0), (2, .int 6)]) (st' := []) (w' := (fw z)) (cs' := 0) (ss' := 0) ?_ (fun _ _ => rfl)
  refine go_seg 8 (pc' := 63) (ls' := [(4, .int 56), (3, .int 0), (0, .ref 90), (1, .int 0), (2, .int 6)]) (st' := [.int 56, .int 10, .ref 91, .int 0]) (w' := (fw z)) (cs' := 0) (ss' := 0) ?_ (fun _ _ => rfl)
  refine go_seg 8 (pc' := 79) (ls' := [(4, .int 57), (3, .int 0), (0, .ref 90), (1, .int 0), (2, .int 6)]) (st' := []) (w' := (fw z)) (cs' := 0) (ss' := 0) ?_ (fun _ _ => rfl)
  refine go_seg 8 (pc' := 61) (ls' := [(4, .int 57), (3, .int 0), (0, .ref 90), (1, .int 0), (2, .int 6)]) (st' := [.int 10, .ref 91, .int 0]) (w' := (fw z)) (cs' := 0) (ss' := 0) ?_ (fun _ _ => rfl)
  refine go_seg 8 (pc' := 76) (ls' := [(3, .int 0), (4, .int 57), (0, .ref 90), (1, .int 0), (2, .int 6)]) (st' := []) (w' := (fw z)) (cs' := 0) (ss' := 0) ?_ (fun _ _ => rfl)
  refine go_seg 8 (pc' := 59) (ls' := [(4, .int 58), (3, .int 0), (0, .ref 90), (1, .int 0), (2, .int 6)]) (st' := [.ref 91, .int 0]) (w' := (fw z)) (cs' := 0) (ss' := 0) ?_ (fun _ _ => rfl)
  refine go_seg 8 (pc' := 75) (ls' := [(4, .int 58), (3, .int 0), (0, .ref 90), (1, .int 0), (2, .int 6)]) (st' := [.int 0]) (w' := (fw z)) (cs' := 0) (ss' := 0) ?_ (fun _ _ => rfl)
  refine go_seg 8 (pc' := 56) (ls' := [(4, .int 59), (3, .int 0), (0, .ref 90), (1, .int 0), (2, .int 6)]) (st' := [.ref 90, .int 0]) (w' := (fw z)) (cs' := 0) (ss' := 0) ?_ (fun _ _ => rfl)
  refine go_seg 8 (pc' := 74) (ls' := [(4, .int 59), (3, .int 0), (0, .ref 90), (1, .int 0), (2, .int 6)]) (st' := [.int 0, .int 0]) (w' := (fw z)) (cs' := 0) (ss' := 0) ?_ (fun _ _ => rfl)
  refine go_seg 8 (pc' := 55) (ls' := [(4, .int 60), (3, .int 0), (0, .ref 90), (1, .int 0), (2, .int 6)]) (st' := [.int 0]) (w' := (fw z)) (cs' := 0) (ss' := 0) ?_ (fun _ _ => rfl)
  refine go_seg 8 (pc' := 73) (ls' := [(4, .int 60), (3, .int 0), (0, .ref 90), (1, .int 0), (2, .int 6)]) (st' := [.int 0]) (w' := (fw z)) (cs' := 0) (ss' := 0) ?_ (fun _ _ => rfl)
  refine go_seg 8 (pc' := 54) (ls' := [(4, .int 61), (3, .int 0), (0, .ref 90), (1, .int 0), (2, .int 6)]) (st' := []) (w' := (fw z)) (cs' := 0) (ss' := 0) ?_ (fun _ _ => rfl)
  refine go_seg 8 (pc' := 66) (ls' := [(4, .int 61), (3, .int 0), (0, .ref 90), (1, .int 0), (2, .int 6)]) (st' := [.int 0, .int (-1), .int 0]) (w' := (fw z)) (cs' := 0) (ss' := 0) ?_ (fun _ _ => rfl)
  refine go_seg 8 (pc' := 51) (ls' := [(4, .int 62), (3, .int 0), (0, .ref 90), (1, .int 0), (2, .int 6)]) (st' := [.int 64, .int 62]) (w' := (fw z)) (cs' := 0) (ss' := 0) ?_ (fun _ _ => rfl)
  refine go_seg 8 (pc' := 65) (ls' := [(4, .int 62), (3, .int 0), (0, .ref 90), (1, .int 0), (2, .int 6)]) (st' := [.int (-1), .int 0]) (w' := (fw z)) (cs' := 0) (ss' := 0) ?_ (fun _ _ => rfl)
  refine go_seg 8 (pc' := 49) (ls' := [(4, .int 63), (3, .int 0), (0, .ref 90), (1, .int 0), (2, .int 6)]) (st' := [.int 63]) (w' := (fw z)) (cs' := 0) (ss' := 0) ?_ (fun _ _ => rfl)
  refine go_seg 8 (pc' := 64) (ls' := [(4, .int 63), (3, .int 0), (0, .ref 90), (1, .int 0), (2, .int 6)]) (st' := [.int 73, .ref 91, .int 0]) (w' := (fw z)) (cs' := 0) (ss' := 0) ?_ (fun _ _ => rfl)
  refine go_seg 8 (pc' := 47) (ls' := [(4, .int 64), (3, .int 0), (0, .ref 90), (1, .int 0), (2, .int 6)]) (st' := []) (w' := (fw z)) (cs' := 0) (ss' := 0) ?_ (fun _ _ => rfl)
  refine go_seg 8 (pc' := 94) (ls' := [(4, .int 64), (3, .int 0), (0, .ref 90), (1, .int 0), (2, .int 6)]) (st' := [.int 6, .int 6]) (w' := (fw z)) (cs' := 0) (ss' := 0) ?_ (fun _ _ => rfl)
  refine go_seg 3 (pc' := 99) (ls' := [(4, .int 64), (3, .int 0), (0, .ref 90), (1, .int 0), (2, .int 6)]) (st' := [.int 0, .ref 90]) (w' := (fw z)) (cs' := 0) (ss' := 0) ?_ (fun _ _ => rfl)
  refine go_cl (k := 2) (st' := [.int 0]) (cs' := 0) (ss' := 0) rfl rfl rfl rfl rfl rfl rfl (ro_475 z) ?_
  exact go_end 2 (fun _ _ => rfl)
theorem lf_4_1121 (a0 : Int32) (a3 : Int32) (a4 : Int32) (a5 : Int32) : ∃ w', pq_Go 20 pm_law 370 [(3, .int 0), (2, .ref 90), (1, .ref 1), (0, .ref 0)] [] (fw (sz a0 0 6 a3 a4 a5)) 109 12668 (some (.int 1), w') := by
  refine ⟨(fw (sz a0 0 6 a3 a4 a5)), ?_⟩
  refine go_seg 8 (pc' := 378) (ls' := [(3, .int 0), (2, .ref 90), (1, .ref 1), (0, .ref 0)]) (st' := [.int 0, .ref 0, .int 0, .ref 1]) (w' := (fw (sz a0 0 6 a3 a4 a5))) (cs' := 109) (ss' := 12668) ?_ (fun _ _ => rfl)
  refine go_seg 3 (pc' := 381) (ls' := [(3, .int 0), (2, .ref 90), (1, .ref 1), (0, .ref 0)]) (st' := [.int 6, .int 0, .ref 1]) (w' := (fw (sz a0 0 6 a3 a4 a5))) (cs' := 109) (ss' := 12668) ?_ (fun _ _ => rfl)
  refine go_cl (k := 20) (st' := [.int 0]) (cs' := 109) (ss' := 12668) rfl rfl rfl rfl rfl rfl rfl (ro_1119 (sz a0 0 6 a3 a4 a5)) ?_
  refine go_seg 8 (pc' := 392) (ls' := [(3, .int 0), (2, .ref 90), (1, .ref 1), (0, .ref 0)]) (st' := [.int 0, .ref 0, .int 0, .ref 90, .int 0]) (w' := (fw (sz a0 0 6 a3 a4 a5))) (cs' := 109) (ss' := 12668) ?_ (fun _ _ => rfl)
  refine go_seg 3 (pc' := 395) (ls' := [(3, .int 0), (2, .ref 90), (1, .ref 1), (0, .ref 0)]) (st' := [.int 6, .int 0, .ref 90, .int 0]) (w' := (fw (sz a0 0 6 a3 a4 a5))) (cs' := 109) (ss' := 12668) ?_ (fun _ _ => rfl)
  refine go_cl (k := 20) (st' := [.int 0, .int 0]) (cs' := 109) (ss' := 12668) rfl rfl rfl rfl rfl rfl rfl (ro_1120 (sz a0 0 6 a3 a4 a5)) ?_
  refine go_cmp true rfl (br_self _) ?_
  exact law_tail (f := sc a0 0 6 a3 a4 a5) rfl
theorem ro_1122 (z : pq_C) : pq_Ru 2 27 [.ref 11, .int 1] (fw z) (some (.int 0), (fw z)) := by
  refine ru_of (k := 1) (M := pm_27) rfl rfl ?_
  refine go_seg 8 (pc' := 11) (ls' := [(3, .int 0), (2, .int 0), (0, .ref 11), (1, .int 1)]) (st' := [.int 1]) (w' := (fw z)) (cs' := 0) (ss' := 0) ?_ (fun _ _ => rfl)
  refine go_cl (k := 1) (st' := [.int 1]) (cs' := 0) (ss' := 0) rfl rfl rfl rfl rfl rfl rfl (ro_558 z) ?_
  refine go_seg 8 (pc' := 27) (ls' := [(3, .int 0), (2, .int 0), (0, .ref 11), (1, .int 1)]) (st' := [.int 1, .int 0, .ref 14, .int 0]) (w' := (fw z)) (cs' := 0) (ss' := 0) ?_ (fun _ _ => rfl)
  refine go_seg 8 (pc' := 7) (ls' := [(3, .int 1), (2, .int 0), (0, .ref 11), (1, .int 1)]) (st' := [.int 8, .int 1]) (w' := (fw z)) (cs' := 0) (ss' := 0) ?_ (fun _ _ => rfl)
  refine go_seg 2 (pc' := 11) (ls' := [(3, .int 1), (2, .int 0), (0, .ref 11), (1, .int 1)]) (st' := [.int 1]) (w' := (fw z)) (cs' := 0) (ss' := 0) ?_ (fun _ _ => rfl)
  refine go_cl (k := 1) (st' := [.int 1]) (cs' := 0) (ss' := 0) rfl rfl rfl rfl rfl rfl rfl (ro_558 z) ?_
  refine go_seg 8 (pc' := 27) (ls' := [(3, .int 1), (2, .int 0), (0, .ref 11), (1, .int 1)]) (st' := [.int 1, .int 8, .ref 14, .int 0]) (w' := (fw z)) (cs' := 0) (ss' := 0) ?_ (fun _ _ => rfl)
  refine go_seg 8 (pc' := 7) (ls' := [(3, .int 2), (2, .int 0), (0, .ref 11), (1, .int 1)]) (st' := [.int 8, .int 2]) (w' := (fw z)) (cs' := 0) (ss' := 0) ?_ (fun _ _ => rfl)
  refine go_seg 2 (pc' := 11) (ls' := [(3, .int 2), (2, .int 0), (0, .ref 11), (1, .int 1)]) (st' := [.int 1]) (w' := (fw z)) (cs' := 0) (ss' := 0) ?_ (fun _ _ => rfl)
  refine go_cl (k := 1) (st' := [.int 1]) (cs' := 0) (ss' := 0) rfl rfl rfl rfl rfl rfl rfl (ro_558 z) ?_
  refine go_seg 8 (pc' := 27) (ls' := [(3, .int 2), (2, .int 0), (0, .ref 11), (1, .int 1)]) (st' := [.int 1, .int 16, .ref 14, .int 0]) (w' := (fw z)) (cs' := 0) (ss' := 0) ?_ (fun _ _ => rfl)
  refine go_seg 8 (pc' := 7) (ls' := [(3, .int 3), (2, .int 0), (0, .ref 11), (1, .int 1)]) (st' := [.int 8, .int 3]) (w' := (fw z)) (cs' := 0) (ss' := 0) ?_ (fun _ _ => rfl)
  refine go_seg 2 (pc' := 11) (ls' := [(3, .int 3), (2, .int 0), (0, .ref 11), (1, .int 1)]) (st' := [.int 1]) (w' := (fw z)) (cs' := 0) (ss' := 0) ?_ (fun _ _ => rfl)
  refine go_cl (k := 1) (st' := [.int 1]) (cs' := 0) (ss' := 0) rfl rfl rfl rfl rfl rfl rfl (ro_558 z) ?_
  refine go_seg 8 (pc' := 27) (ls' := [(3, .int 3), (2, .int 0), (0, .ref 11), (1, .int 1)]) (st' := [.int 1, .int 24, .ref 14, .int 0]) (w' := (fw z)) (cs' := 0) (ss' := 0) ?_ (fun _ _ => rfl)
  refine go_seg 8 (pc' := 7) (ls' := [(3, .int 4), (2, .int 0), (0, .ref 11), (1, .int 1)]) (st' := [.int 8, .int 4]) (w' := (fw z)) (cs' := 0) (ss' := 0) ?_ (fun _ _ => rfl)
  refine go_seg 2 (pc' := 11) (ls' := [(3, .int 4), (2, .int 0), (0, .ref 11), (1, .int 1)]) (st' := [.int 1]) (w' := (fw z)) (cs' := 0) (ss' := 0) ?_ (fun _ _ => rfl)
  refine go_cl (k := 1) (st' := [.int 1]) (cs' := 0) (ss' := 0) rfl rfl rfl rfl rfl rfl rfl (ro_558 z) ?_
  refine go_seg 8 (pc' := 27) (ls' := [(3, .int 4), (2, .int 0), (0, .ref 11), (1, .int 1)]) (st' := [.int 1, .int 32, .ref 14, .int 0]) (w' := (fw z)) (cs' := 0) (ss' := 0) ?_ (fun _ _ => rfl)
  refine go_seg 8 (pc' := 7) (ls' := [(3, .int 5), (2, .int 0), (0, .ref 11), (1, .int 1)]) (st' := [.int 8, .int 5]) (w' := (fw z)) (cs' := 0) (ss' := 0) ?_ (fun _ _ => rfl)
  refine go_seg 2 (pc' := 11) (ls' := [(3, .int 5), (2, .int 0), (0, .ref 11), (1, .int 1)]) (st' := [.int 1]) (w' := (fw z)) (cs' := 0) (ss' := 0) ?_ (fun _ _ => rfl)
  refine go_cl (k := 1) (st' := [.int 1]) (cs' := 0) (ss' := 0) rfl rfl rfl rfl rfl rfl rfl (ro_558 z) ?_
  refine go_seg 8 (pc' := 27) (ls' := [(3, .int 5), (2, .int 0), (0, .ref 11), (1, .int 1)]) (st' := [.int 1, .int 40, .ref 14, .int 0]) (w' := (fw z)) (cs' := 0) (ss' := 0) ?_ (fun _ _ => rfl)
  refine go_seg 8 (pc' := 7) (ls' := [(3, .int 6), (2, .int 0), (0, .ref 11), (1, .int 1)]) (st' := [.int 8, .int 6]) (w' := (fw z)) (cs' := 0) (ss' := 0) ?_ (fun _ _ => rfl)
  refine go_seg 2 (pc' := 11) (ls' := [(3, .int 6), (2, .int 0), (0, .ref 11), (1, .int 1)]) (st' := [.int 1]) (w' := (fw z)) (cs' := 0) (ss' := 0) ?_ (fun _ _ => rfl)
  refine go_cl (k := 1) (st' := [.int 1]) (cs' := 0) (ss' := 0) rfl rfl rfl rfl rfl rfl rfl (ro_558 z) ?_
  refine go_seg 8 (pc' := 27) (ls' := [(3, .int 6), (2, .int 0), (0, .ref 11), (1, .int 1)]) (st' := [.int 1, .int 48, .ref 14, .int 0]) (w' := (fw z)) (cs' := 0) (ss' := 0) ?_ (fun _ _ => rfl)
  refine go_seg 8 (pc' := 7) (ls' := [(3, .int 7), (2, .int 0), (0, .ref 11), (1, .int 1)]) (st' := [.int 8, .int 7]) (w' := (fw z)) (cs' := 0) (ss' := 0) ?_ (fun _ _ => rfl)
  refine go_seg 2 (pc' := 11) (ls' := [(3, .int 7), (2, .int 0), (0, .ref 11), (1, .int 1)]) (st' := [.int 1]) (w' := (fw z)) (cs' := 0) (ss' := 0) ?_ (fun _ _ => rfl)
  refine go_cl (k := 1) (st' := [.int 1]) (cs' := 0) (ss' := 0) rfl rfl rfl rfl rfl rfl rfl (ro_558 z) ?_
  refine go_seg 8 (pc' := 27) (ls' := [(3, .int 7), (2, .int 0), (0, .ref 11), (1, .int 1)]) (st' := [.int 1, .int 56, .ref 14, .int 0]) (w' := (fw z)) (cs' := 0) (ss' := 0) ?_ (fun _ _ => rfl)
  refine go_seg 8 (pc' := 7) (ls' := [(3, .int 8), (2, .int 0), (0, .ref 11), (1, .int 1)]) (st' := [.int 8, .int 8]) (w' := (fw z)) (cs' := 0) (ss' := 0) ?_ (fun _ _ => rfl)
  exact go_end 3 (fun _ _ => rfl)
theorem ro_1123 (z : pq_C) : pq_Ru 3 25 [.ref 1, .int 1, .int 6] (fw z) (some (.int 0), (fw z)) := by
  refine ru_of (k := 2) (M := pm_25) rfl rfl ?_
  refine go_seg 1 (pc' := 1) (ls' := [(0, .ref 1), (1, .int 1), (2, .int 6)]) (st' := [.int 1]) (w' := (fw z)) (cs' := 0) (ss' := 0) ?_ (fun _ _ => rfl)
  refine go_cl (k := 2) (st' := [.int 1]) (cs' := 0) (ss' := 0) rfl rfl rfl rfl rfl rfl rfl (ro_558 z) ?_
  refine go_seg 6 (pc' := 124) (ls' := [(0, .ref 1), (1, .int 1), (2, .int 6)]) (st' := [.int 1, .ref 11]) (w' := (fw z)) (cs' := 0) (ss' := 0) ?_ (fun _ _ => rfl)
  refine go_cl (k := 2) (st' := [.int 0]) (cs' := 0) (ss' := 0) rfl rfl rfl rfl rfl rfl rfl (ro_1122 z) ?_
  exact go_end 1 (fun _ _ => rfl)
theorem ro_1124 (z : pq_C) : pq_Ru 3 169 [.ref 90, .int 1, .int 6] (fw z) (some (.int 0), (fw z)) := by
  refine ru_of (k := 2) (M := pm_169) rfl rfl ?_
  refine go_seg 1 (pc' := 1) (ls' := [(0, .ref 90), (1, .int 1), (2, .int 6)]) (st' := [.int 1]) (w' := (fw z)) (cs' := 0) (ss' := 0) ?_ (fun _ _ => rfl)
  refine go_cl (k := 2) (st' := [.int 1]) (cs' := 0) (ss' := 0) rfl rfl rfl rfl rfl rfl rfl (ro_946 z) ?_
  refine go_seg 5 (pc' := 13) (ls' := [(0, .ref 90), (1, .int 1), (2, .int 6)]) (st' := [.long 7, .long 0, .long 6]) (w' := (fw z)) (cs' := 0) (ss' := 0) ?_ (fun _ _ => rfl)
  refine go_cl (k := 2) (st' := [.int 1]) (cs' := 0) (ss' := 0) rfl rfl rfl rfl rfl rfl rfl (ro_975 z) ?_
  refine go_seg 8 (pc' := 47) (ls' := [(4, .int 0), (3, .int 0), (0, .ref 90), (1, .int 1), (2, .int 6)]) (st' := []) (w' := (fw z)) (cs' := 0) (ss' := 0) ?_ (fun _ _ => rfl)
  refine go_seg 8 (pc' := 63) (ls' := [(4, .int 0), (3, .int 0), (0, .ref 90), (1, .int 1), (2, .int 6)]) (st' := [.int 0, .int 10, .ref 91, .int 0]) (w' := (fw z)) (cs' := 0) (ss' := 0) ?_ (fun _ _ => rfl)
  refine go_seg 8 (pc' := 79) (ls' := [(4, .int 1), (3, .int 0), (0, .ref 90), (1, .int 1), (2, .int 6)]) (st' := []) (w' := (fw z)) (cs' := 0) (ss' := 0) ?_ (fun _ _ => rfl)
  refine go_seg 8 (pc' := 61) (ls' := [(4, .int 1), (3, .int 0), (0, .ref 90), (1, .int 1), (2, .int 6)]) (st' := [.int 10, .ref 91, .int 0]) (w' := (fw z)) (cs' := 0) (ss' := 0) ?_ (fun _ _ => rfl)
  refine go_seg 8 (pc' := 76) (ls' := [(3, .int 0), (4, .int 1), (0, .ref 90), (1, .int 1), (2, .int 6)]) (st' := []) (w' := (fw z)) (cs' := 0) (ss' := 0) ?_ (fun _ _ => rfl)
  refine go_seg 8 (pc' := 59) (ls' := [(4, .int 2), (3, .int 0), (0, .ref 90), (1, .int 1), (2, .int 6)]) (st' := [.ref 91, .int 0]) (w' := (fw z)) (cs' := 0) (ss' := 0) ?_ (fun _ _ => rfl)
  refine go_seg 8 (pc' := 75) (ls' := [(4, .int 2), (3, .int 0), (0, .ref 90), (1, .int 1), (2, .int 6)]) (st' := [.int 0]) (w' := (fw z)) (cs' := 0) (ss' := 0) ?_ (fun _ _ => rfl)
  refine go_seg 8 (pc' := 56) (ls' := [(4, .int 3), (3, .int 0), (0, .ref 90), (1, .int 1), (2, .int 6)]) (st' := [.ref 90, .int 0]) (w' := (fw z)) (cs' := 0) (ss' := 0) ?_ (fun _ _ => rfl)
  refine go_seg 8 (pc' := 74) (ls' := [(4, .int 3), (3, .int 0), (0, .ref 90), (1, .int 1), (2, .int 6)]) (st' := [.int 0, .int 0]) (w' := (fw z)) (cs' := 0) (ss' := 0) ?_ (fun _ _ => rfl)
  refine go_seg 8 (pc' := 55) (ls' := [(4, .int 4), (3, .int 0), (0, .ref 90), (1, .int 1), (2, .int 6)]) (st' := [.int 0]) (w' := (fw z)) (cs' := 0) (ss' := 0) ?_ (fun _ _ => rfl)
  refine go_seg 8 (pc' := 73) (ls' := [(4, .int 4), (3, .int 0), (0, .ref 90), (1, .int 1), (2, .int 6)]) (st' := [.int 0]) (w' := (fw z)) (cs' := 0) (ss' := 0) ?_ (fun _ _ => rfl)
  refine go_seg 8 (pc' := 54) (ls' := [(4, .int 5), (3, .int 0), (0, .ref 90), (1, .int 1), (2, .int 6)]) (st' := []) (w' := (fw z)) (cs' := 0) (ss' := 0) ?_ (fun _ _ => rfl)
  refine go_seg 8 (pc' := 66) (ls' := [(4, .int 5), (3, .int 0), (0, .ref 90), (1, .int 1), (2, .int 6)]) (st' := [.int 1, .int (-1), .int 0]) (w' := (fw z)) (cs' := 0) (ss' := 0) ?_ (fun _ _ => rfl)
  refine go_seg 8 (pc' := 51) (ls' := [(4, .int 6), (3, .int 0), (0, .ref 90), (1, .int 1), (2, .int 6)]) (st' := [.int 64, .int 6]) (w' := (fw z)) (cs' := 0) (ss' := 0) ?_ (fun _ _ => rfl)
  refine go_seg 8 (pc' := 65) (ls' := [(4, .int 6), (3, .int 0), (0, .ref 90), (1, .int 1), (2, .int 6)]) (st' := [.int (-1), .int 0]) (w' := (fw z)) (cs' := 0) (ss' := 0) ?_ (fun _ _ => rfl)
  refine go_seg 8 (pc' := 49) (ls' := [(4, .int 7), (3, .int 0), (0, .ref 90), (1, .int 1), (2, .int 6)]) (st' := [.int 7]) (w' := (fw z)) (cs' := 0) (ss' := 0) ?_ (fun _ _ => rfl)
  refine go_seg 8 (pc' := 64) (ls' := [(4, .int 7), (3, .int 0), (0, .ref 90), (1, .int 1), (2, .int 6)]) (st' := [.int 17, .ref 91, .int 0]) (w' := (fw z)) (cs' := 0) (ss' := 0) ?_ (fun _ _ => rfl)
  refine go_seg 8 (pc' := 47) (ls' := [(4, .int 8), (3, .int 0), (0, .ref 90), (1, .int 1), (2, .int 6)]) (st' := []) (w' := (fw z)) (cs' := 0) (ss' := 0) ?_ (fun _ _ => rfl)
  refine go_seg 8 (pc' := 63) (ls' := [(4, .int 8), (3, .int 0), (0, .ref 90), (1, .int 1), (2, .int 6)]) (st' := [.int 8, .int 10, .ref 91, .int 0]) (w' := (fw z)) (cs' := 0) (ss' := 0) ?_ (fun _ _ => rfl)
  refine go_seg 8 (pc' := 79) (ls' := [(4, .int 9), (3, .int 0), (0, .ref 90), (1, .int 1), (2, .int 6)]) (st' := []) (w' := (fw z)) (cs' := 0) (ss' := 0) ?_ (fun _ _ => rfl)
  refine go_seg 8 (pc' := 61) (ls' := [(4, .int 9), (3, .int 0), (0, .ref 90), (1, .int 1), (2, .int 6)]) (st' := [.int 10, .ref 91, .int 0]) (w' := (fw z)) (cs' := 0) (ss' := 0) ?_ (fun _ _ => rfl)
  refine go_seg 8 (pc' := 76) (ls' := [(3, .int 0), (4, .int 9), (0, .ref 90), (1, .int 1), (2, .int 6)]) (st' := []) (w' := (fw z)) (cs' := 0) (ss' := 0) ?_ (fun _ _ => rfl)
  refine go_seg 8 (pc' := 59) (ls' := [(4, .int 10), (3, .int 0), (0, .ref 90), (1, .int 1), (2, .int 6)]) (st' := [.ref 91, .int 0]) (w' := (fw z)) (cs' := 0) (ss' := 0) ?_ (fun _ _ => rfl)
  refine go_seg 8 (pc' := 75) (ls' := [(4, .int 10), (3, .int 0), (0, .ref 90), (1, .int 1), (2, .int 6)]) (st' := [.int 0]) (w' := (fw z)) (cs' := 0) (ss' := 0) ?_ (fun _ _ => rfl)
  refine go_seg 8 (pc' := 56) (ls' := [(4, .int 11), (3, .int 0), (0, .ref 90), (1, .int 1), (2, .int 6)]) (st' := [.ref 90, .int 0]) (w' := (fw z)) (cs' := 0) (ss' := 0) ?_ (fun _ _ => rfl)
  refine go_seg 8 (pc' := 74) (ls' := [(4, .int 11), (3, .int 0), (0, .ref 90), (1, .int 1), (2, .int 6)]) (st' := [.int 0, .int 0]) (w' := (fw z)) (cs' := 0) (ss' := 0) ?_ (fun _ _ => rfl)
  refine go_seg 8 (pc' := 55) (ls' := [(4, .int 12), (3, .int 0), (0, .ref 90), (1, .int 1), (2, .int 6)]) (st' := [.int 0]) (w' := (fw z)) (cs' := 0) (ss' := 0) ?_ (fun _ _ => rfl)
  refine go_seg 8 (pc' := 73) (ls' := [(4, .int 12), (3, .int 0), (0, .ref 90), (1, .int 1), (2, .int 6)]) (st' := [.int 0]) (w' := (fw z)) (cs' := 0) (ss' := 0) ?_ (fun _ _ => rfl)
  refine go_seg 8 (pc' := 54) (ls' := [(4, .int 13), (3, .int 0), (0, .ref 90), (1, .int 1), (2, .int 6)]) (st' := []) (w' := (fw z)) (cs' := 0) (ss' := 0) ?_ (fun _ _ => rfl)
  refine go_seg 8 (pc' := 66) (ls' := [(4, .int 13), (3, .int 0), (0, .ref 90), (1, .int 1), (2, .int 6)]) (st' := [.int 1, .int (-1), .int 0]) (w' := (fw z)) (cs' := 0) (ss' := 0) ?_ (fun _ _ => rfl)
  refine go_seg 8 (pc' := 51) (ls' := [(4, .int 14), (3, .int 0), (0, .ref 90), (1, .int 1), (2, .int 6)]) (st' := [.int 64, .int 14]) (w' := (fw z)) (cs' := 0) (ss' := 0) ?_ (fun _ _ => rfl)
  refine go_seg 8 (pc' := 65) (ls' := [(4, .int 14), (3, .int 0), (0, .ref 90), (1, .int 1), (2, .int 6)]) (st' := [.int (-1), .int 0]) (w' := (fw z)) (cs' := 0) (ss' := 0) ?_ (fun _ _ => rfl)
  refine go_seg 8 (pc' := 49) (ls' := [(4, .int 15), (3, .int 0), (0, .ref 90), (1, .int 1), (2, .int 6)]) (st' := [.int 15]) (w' := (fw z)) (cs' := 0) (ss' := 0) ?_ (fun _ _ => rfl)
  refine go_seg 8 (pc' := 64) (ls' := [(4, .int 15), (3, .int 0), (0, .ref 90), (1, .int 1), (2, .int 6)]) (st' := [.int 25, .ref 91, .int 0]) (w' := (fw z)) (cs' := 0) (ss' := 0) ?_ (fun _ _ => rfl)
  refine go_seg 8 (pc' := 47) (ls' := [(4, .int 16), (3, .int 0), (0, .ref 90), (1, .int 1), (2, .int 6)]) (st' := []) (w' := (fw z)) (cs' := 0) (ss' := 0) ?_ (fun _ _ => rfl)
  refine go_seg 8 (pc' := 63) (ls' := [(4, .int 16), (3, .int 0), (0, .ref 90), (1, .int 1), (2, .int 6)]) (st' := [.int 16, .int 10, .ref 91, .int 0]) (w' := (fw z)) (cs' := 0) (ss' := 0) ?_ (fun _ _ => rfl)
  refine go_seg 8 (pc' := 79) (ls' := [(4, .int 17), (3, .int 0), (0, .ref 90), (1, .int 1), (2, .int 6)]) (st' := []) (w' := (fw z)) (cs' := 0) (ss' := 0) ?_ (fun _ _ => rfl)
  refine go_seg 8 (pc' := 61) (ls' := [(4, .int 17), (3, .int 0), (0, .ref 90), (1, .int 1), (2, .int 6)]) (st' := [.int 10, .ref 91, .int 0]) (w' := (fw z)) (cs' := 0) (ss' := 0) ?_ (fun _ _ => rfl)
  refine go_seg 8 (pc' := 76) (ls' := [(3, .int 0), (4, .int 17), (0, .ref 90), (1, .int 1), (2, .int 6)]) (st' := []) (w' := (fw z)) (cs' := 0) (ss' := 0) ?_ (fun _ _ => rfl)
  refine go_seg 8 (pc' := 59) (ls' := [(4, .int 18), (3, .int 0), (0, .ref 90), (1, .int 1), (2, .int 6)]) (st' := [.ref 91, .int 0]) (w' := (fw z)) (cs' := 0) (ss' := 0) ?_ (fun _ _ => rfl)
  refine go_seg 8 (pc' := 75) (ls' := [(4, .int 18), (3, .int 0), (0, .ref 90), (1, .int 1), (2, .int 6)]) (st' := [.int 0]) (w' := (fw z)) (cs' := 0) (ss' := 0) ?_ (fun _ _ => rfl)
  refine go_seg 8 (pc' := 56) (ls' := [(4, .int 19), (3, .int 0), (0, .ref 90), (1, .int 1), (2, .int 6)]) (st' := [.ref 90, .int 0]) (w' := (fw z)) (cs' := 0) (ss' := 0) ?_ (fun _ _ => rfl)
  refine go_seg 8 (pc' := 74) (ls' := [(4, .int 19), (3, .int 0), (0, .ref 90), (1, .int 1), (2, .int 6)]) (st' := [.int 0, .int 0]) (w' := (fw z)) (cs' := 0) (ss' := 0) ?_ (fun _ _ => rfl)
  refine go_seg 8 (pc' := 55) (ls' := [(4, .int 20), (3, .int 0), (0, .ref 90), (1, .int 1), (2, .int 6)]) (st' := [.int 0]) (w' := (fw z)) (cs' := 0) (ss' := 0) ?_ (fun _ _ => rfl)
  refine go_seg 8 (pc' := 73) (ls' := [(4, .int 20), (3, .int 0), (0, .ref 90), (1, .int 1), (2, .int 6)]) (st' := [.int 0]) (w' := (fw z)) (cs' := 0) (ss' := 0) ?_ (fun _ _ => rfl)
  refine go_seg 8 (pc' := 54) (ls' := [(4, .int 21), (3, .int 0), (0, .ref 90), (1, .int 1), (2, .int 6)]) (st' := []) (w' := (fw z)) (cs' := 0) (ss' := 0) ?_ (fun _ _ => rfl)
  refine go_seg 8 (pc' := 66) (ls' := [(4, .int 21), (3, .int 0), (0, .ref 90), (1, .int 1), (2, .int 6)]) (st' := [.int 1, .int (-1), .int 0]) (w' := (fw z)) (cs' := 0) (ss' := 0) ?_ (fun _ _ => rfl)
  refine go_seg 8 (pc' := 51) (ls' := [(4, .int 22), (3, .int 0), (0, .ref 90), (1, .int 1), (2, .int 6)]) (st' := [.int 64, .int 22]) (w' := (fw z)) (cs' := 0) (ss' := 0) ?_ (fun _ _ => rfl)
  refine go_seg 8 (pc' := 65) (ls' := [(4, .int 22), (3, .int 0), (0, .ref 90), (1, .int 1), (2, .int 6)]) (st' := [.int (-1), .int 0]) (w' := (fw z)) (cs' := 0) (ss' := 0) ?_ (fun _ _ => rfl)
  refine go_seg 8 (pc' := 49) (ls' := [(4, .int 23), (3, .int 0), (0, .ref 90), (1, .int 1), (2, .int 6)]) (st' := [.int 23]) (w' := (fw z)) (cs' := 0) (ss' := 0) ?_ (fun _ _ => rfl)
  refine go_seg 8 (pc' := 64) (ls' := [(4, .int 23), (3, .int 0), (0, .ref 90), (1, .int 1), (2, .int 6)]) (st' := [.int 33, .ref 91, .int 0]) (w' := (fw z)) (cs' := 0) (ss' := 0) ?_ (fun _ _ => rfl)
  refine go_seg 8 (pc' := 47) (ls' := [(4, .int 24), (3, .int 0), (0, .ref 90), (1, .int 1), (2, .int 6)]) (st' := []) (w' := (fw z)) (cs' := 0) (ss' := 0) ?_ (fun _ _ => rfl)
  refine go_seg 8 (pc' := 63) (ls' := [(4, .int 24), (3, .int 0), (0, .ref 90), (1, .int 1), (2, .int 6)]) (st' := [.int 24, .int 10, .ref 91, .int 0]) (w' := (fw z)) (cs' := 0) (ss' := 0) ?_ (fun _ _ => rfl)
  refine go_seg 8 (pc' := 79) (ls' := [(4, .int 25), (3, .int 0), (0, .ref 90), (1, .int 1), (2, .int 6)]) (st' := []) (w' := (fw z)) (cs' := 0) (ss' := 0) ?_ (fun _ _ => rfl)
  refine go_seg 8 (pc' := 61) (ls' := [(4, .int 25), (3, .int 0), (0, .ref 90), (1, .int 1), (2, .int 6)]) (st' := [.int 10, .ref 91, .int 0]) (w' := (fw z)) (cs' := 0) (ss' := 0) ?_ (fun _ _ => rfl)
  refine go_seg 8 (pc' := 76) (ls' := [(3, .int 0), (4, .int 25), (0, .ref 90), (1, .int 1), (2, .int 6)]) (st' := []) (w' := (fw z)) (cs' := 0) (ss' := 0) ?_ (fun _ _ => rfl)
  refine go_seg 8 (pc' := 59) (ls' := [(4, .int 26), (3, .int 0), (0, .ref 90), (1, .int 1), (2, .int 6)]) (st' := [.ref 91, .int 0]) (w' := (fw z)) (cs' := 0) (ss' := 0) ?_ (fun _ _ => rfl)
  refine go_seg 8 (pc' := 75) (ls' := [(4, .int 26), (3, .int 0), (0, .ref 90), (1, .int 1), (2, .int 6)]) (st' := [.int 0]) (w' := (fw z)) (cs' := 0) (ss' := 0) ?_ (fun _ _ => rfl)
  refine go_seg 8 (pc' := 56) (ls' := [(4, .int 27), (3, .int 0), (0, .ref 90), (1, .int 1), (2, .int 6)]) (st' := [.ref 90, .int 0]) (w' := (fw z)) (cs' := 0) (ss' := 0) ?_ (fun _ _ => rfl)
  refine go_seg 8 (pc' := 74) (ls' := [(4, .int 27), (3, .int 0), (0, .ref 90), (1, .int 1), (2, .int 6)]) (st' := [.int 0, .int 0]) (w' := (fw z)) (cs' := 0) (ss' := 0) ?_ (fun _ _ => rfl)
  refine go_seg 8 (pc' := 55) (ls' := [(4, .int 28), (3, .int 0), (0, .ref 90), (1, .int 1), (2, .int 6)]) (st' := [.int 0]) (w' := (fw z)) (cs' := 0) (ss' := 0) ?_ (fun _ _ => rfl)
  refine go_seg 8 (pc' := 73) (ls' := [(4, .int 28), (3, .int 0), (0, .ref 90), (1, .int 1), (2, .int 6)]) (st' := [.int 0]) (w' := (fw z)) (cs' := 0) (ss' := 0) ?_ (fun _ _ => rfl)
  refine go_seg 8 (pc' := 54) (ls' := [(4, .int 29), (3, .int 0), (0, .ref 90), (1, .int 1), (2, .int 6)]) (st' := []) (w' := (fw z)) (cs' := 0) (ss' := 0) ?_ (fun _ _ => rfl)
  refine go_seg 8 (pc' := 66) (ls' := [(4, .int 29), (3, .int 0), (0, .ref 90), (1, .int 1), (2, .int 6)]) (st' := [.int 1, .int (-1), .int 0]) (w' := (fw z)) (cs' := 0) (ss' := 0) ?_ (fun _ _ => rfl)
  refine go_seg 8 (pc' := 51) (ls' := [(4, .int 30), (3, .int 0), (0, .ref 90), (1, .int 1), (2, .int 6)]) (st' := [.int 64, .int 30]) (w' := (fw z)) (cs' := 0) (ss' := 0) ?_ (fun _ _ => rfl)
  refine go_seg 8 (pc' := 65) (ls' := [(4, .int 30), (3, .int 0), (0, .ref 90), (1, .int 1), (2, .int 6)]) (st' := [.int (-1), .int 0]) (w' := (fw z)) (cs' := 0) (ss' := 0) ?_ (fun _ _ => rfl)
  refine go_seg 8 (pc' := 49) (ls' := [(4, .int 31), (3, .int 0), (0, .ref 90), (1, .int 1), (2, .int 6)]) (st' := [.int 31]) (w' := (fw z)) (cs' := 0) (ss' := 0) ?_ (fun _ _ => rfl)
  refine go_seg 8 (pc' := 64) (ls' := [(4, .int 31), (3, .int 0), (0, .ref 90), (1, .int 1), (2, .int 6)]) (st' := [.int 41, .ref 91, .int 0]) (w' := (fw z)) (cs' := 0) (ss' := 0) ?_ (fun _ _ => rfl)
  refine go_seg 8 (pc' := 47) (ls' := [(4, .int 32), (3, .int 0), (0, .ref 90), (1, .int 1), (2, .int 6)]) (st' := []) (w' := (fw z)) (cs' := 0) (ss' := 0) ?_ (fun _ _ => rfl)
  refine go_seg 8 (pc' := 63) (ls' := [(4, .int 32), (3, .int 0), (0, .ref 90), (1, .int 1), (2, .int 6)]) (st' := [.int 32, .int 10, .ref 91, .int 0]) (w' := (fw z)) (cs' := 0) (ss' := 0) ?_ (fun _ _ => rfl)
  refine go_seg 8 (pc' := 79) (ls' := [(4, .int 33), (3, .int 0), (0, .ref 90), (1, .int 1), (2, .int 6)]) (st' := []) (w' := (fw z)) (cs' := 0) (ss' := 0) ?_ (fun _ _ => rfl)
  refine go_seg 8 (pc' := 61) (ls' := [(4, .int 33), (3, .int 0), (0, .ref 90), (1, .int 1), (2, .int 6)]) (st' := [.int 10, .ref 91, .int 0]) (w' := (fw z)) (cs' := 0) (ss' := 0) ?_ (fun _ _ => rfl)
  refine go_seg 8 (pc' := 76) (ls' := [(3, .int 0), (4, .int 33), (0, .ref 90), (1, .int 1), (2, .int 6)]) (st' := []) (w' := (fw z)) (cs' := 0) (ss' := 0) ?_ (fun _ _ => rfl)
  refine go_seg 8 (pc' := 59) (ls' := [(4, .int 34), (3, .int 0), (0, .ref 90), (1, .int 1), (2, .int 6)]) (st' := [.ref 91, .int 0]) (w' := (fw z)) (cs' := 0) (ss' := 0) ?_ (fun _ _ => rfl)
  refine go_seg 8 (pc' := 75) (ls' := [(4, .int 34), (3, .int 0), (0, .ref 90), (1, .int 1), (2, .int 6)]) (st' := [.int 0]) (w' := (fw z)) (cs' := 0) (ss' := 0) ?_ (fun _ _ => rfl)
  refine go_seg 8 (pc' := 56) (ls' := [(4, .int 35), (3, .int 0), (0, .ref 90), (1, .int 1), (2, .int 6)]) (st' := [.ref 90, .int 0]) (w' := (fw z)) (cs' := 0) (ss' := 0) ?_ (fun _ _ => rfl)
  refine go_seg 8 (pc' := 74) (ls' := [(4, .int 35), (3, .int 0), (0, .ref 90), (1, .int 1), (2, .int 6)]) (st' := [.int 0, .int 0]) (w' := (fw z)) (cs' := 0) (ss' := 0) ?_ (fun _ _ => rfl)
  refine go_seg 8 (pc' := 55) (ls' := [(4, .int 36), (3, .int 0), (0, .ref 90), (1, .int 1), (2, .int 6)]) (st' := [.int 0]) (w' := (fw z)) (cs' := 0) (ss' := 0) ?_ (fun _ _ => rfl)
  refine go_seg 8 (pc' := 73) (ls' := [(4, .int 36), (3, .int 0), (0, .ref 90), (1, .int 1), (2, .int 6)]) (st' := [.int 0]) (w' := (fw z)) (cs' := 0) (ss' := 0) ?_ (fun _ _ => rfl)
  refine go_seg 8 (pc' := 54) (ls' := [(4, .int 37), (3, .int 0), (0, .ref 90), (1, .int 1), (2, .int 6)]) (st' := []) (w' := (fw z)) (cs' := 0) (ss' := 0) ?_ (fun _ _ => rfl)
  refine go_seg 8 (pc' := 66) (ls' := [(4, .int 37), (3, .int 0), (0, .ref 90), (1, .int 1), (2, .int 6)]) (st' := [.int 1, .int (-1), .int 0]) (w' := (fw z)) (cs' := 0) (ss' := 0) ?_ (fun _ _ => rfl)
  refine go_seg 8 (pc' := 51) (ls' := [(4, .int 38), (3, .int 0), (0, .ref 90), (1, .int 1), (2, .int 6)]) (st' := [.int 64, .int 38]) (w' := (fw z)) (cs' := 0) (ss' := 0) ?_ (fun _ _ => rfl)
  refine go_seg 8 (pc' := 65) (ls' := [(4, .int 38), (3, .int 0), (0, .ref 90), (1, .int 1), (2, .int 6)]) (st' := [.int (-1), .int 0]) (w' := (fw z)) (cs' := 0) (ss' := 0) ?_ (fun _ _ => rfl)
  refine go_seg 8 (pc' := 49) (ls' := [(4, .int 39), (3, .int 0), (0, .ref 90), (1, .int 1), (2, .int 6)]) (st' := [.int 39]) (w' := (fw z)) (cs' := 0) (ss' := 0) ?_ (fun _ _ => rfl)
  refine go_seg 8 (pc' := 64) (ls' := [(4, .int 39), (3, .int 0), (0, .ref 90), (1, .int 1), (2, .int 6)]) (st' := [.int 49, .ref 91, .int 0]) (w' := (fw z)) (cs' := 0) (ss' := 0) ?_ (fun _ _ => rfl)
  refine go_seg 8 (pc' := 47) (ls' := [(4, .int 40), (3, .int 0), (0, .ref 90), (1, .int 1), (2, .int 6)]) (st' := []) (w' := (fw z)) (cs' := 0) (ss' := 0) ?_ (fun _ _ => rfl)
  refine go_seg 8 (pc' := 63) (ls' := [(4, .int 40), (3, .int 0), (0, .ref 90), (1, .int 1), (2, .int 6)]) (st' := [.int 40, .int 10, .ref 91, .int 0]) (w' := (fw z)) (cs' := 0) (ss' := 0) ?_ (fun _ _ => rfl)
  refine go_seg 8 (pc' := 79) (ls' := [(4, .int 41), (3, .int 0), (0, .ref 90), (1, .int 1), (2, .int 6)]) (st' := []) (w' := (fw z)) (cs' := 0) (ss' := 0) ?_ (fun _ _ => rfl)
  refine go_seg 8 (pc' := 61) (ls' := [(4, .int 41), (3, .int 0), (0, .ref 90), (1, .int 1), (2, .int 6)]) (st' := [.int 10, .ref 91, .int 0]) (w' := (fw z)) (cs' := 0) (ss' := 0) ?_ (fun _ _ => rfl)
  refine go_seg 8 (pc' := 76) (ls' := [(3, .int 0), (4, .int 41), (0, .ref 90), (1, .int 1), (2, .int 6)]) (st' := []) (w' := (fw z)) (cs' := 0) (ss' := 0) ?_ (fun _ _ => rfl)
  refine go_seg 8 (pc' := 59) (ls' := [(4, .int 42), (3, .int 0), (0, .ref 90), (1, .int 1), (2, .int 6)]) (st' := [.ref 91, .int 0]) (w' := (fw z)) (cs' := 0) (ss' := 0) ?_ (fun _ _ => rfl)
  refine go_seg 8 (pc' := 75) (ls' := [(4, .int 42), (3, .int 0), (0, .ref 90), (1, .int 1), (2, .int 6)]) (st' := [.int 0]) (w' := (fw z)) (cs' := 0) (ss' := 0) ?_ (fun _ _ => rfl)
  refine go_seg 8 (pc' := 56) (ls' := [(4, .int 43), (3, .int 0), (0, .ref 90), (1, .int 1), (2, .int 6)]) (st' := [.ref 90, .int 0]) (w' := (fw z)) (cs' := 0) (ss' := 0) ?_ (fun _ _ => rfl)
  refine go_seg 8 (pc' := 74) (ls' := [(4, .int 43), (3, .int 0), (0, .ref 90), (1, .int 1), (2, .int 6)]) (st' := [.int 0, .int 0]) (w' := (fw z)) (cs' := 0) (ss' := 0) ?_ (fun _ _ => rfl)
  refine go_seg 8 (pc' := 55) (ls' := [(4, .int 44), (3, .int 0), (0, .ref 90), (1, .int 1), (2, .int 6)]) (st' := [.int 0]) (w' := (fw z)) (cs' := 0) (ss' := 0) ?_ (fun _ _ => rfl)
  refine go_seg 8 (pc' := 73) (ls' := [(4, .int 44), (3, .int 0), (0, .ref 90), (1, .int 1), (2, .int 6)]) (st' := [.int 0]) (w' := (fw z)) (cs' := 0) (ss' := 0) ?_ (fun _ _ => rfl)
  refine go_seg 8 (pc' := 54) (ls' := [(4, .int 45), (3, .int 0), (0, .ref 90), (1, .int 1), (2, .int 6)]) (st' := []) (w' := (fw z)) (cs' := 0) (ss' := 0) ?_ (fun _ _ => rfl)
  refine go_seg 8 (pc' := 66) (ls' := [(4, .int 45), (3, .int 0), (0, .ref 90), (1, .int 1), (2, .int 6)]) (st' := [.int 1, .int (-1), .int 0]) (w' := (fw z)) (cs' := 0) (ss' := 0) ?_ (fun _ _ => rfl)
  refine go_seg 8 (pc' := 51) (ls' := [(4, .int 46), (3, .int 0), (0, .ref 90), (1, .int 1), (2, .int 6)]) (st' := [.int 64, .int 46]) (w' := (fw z)) (cs' := 0) (ss' := 0) ?_ (fun _ _ => rfl)
  refine go_seg 8 (pc' := 65) (ls' := [(4, .int 46), (3, .int 0), (0, .ref 90), (1, .int 1), (2, .int 6)]) (st' := [.int (-1), .int 0]) (w' := (fw z)) (cs' := 0) (ss' := 0) ?_ (fun _ _ => rfl)
  refine go_seg 8 (pc' := 49) (ls' := [(4, .int 47), (3, .int 0), (0, .ref 90), (1, .int 1), (2, .int 6)]) (st' := [.int 47]) (w' := (fw z)) (cs' := 0) (ss' := 0) ?_ (fun _ _ => rfl)
  refine go_seg 8 (pc' := 64) (ls' := [(4, .int 47), (3, .int 0), (0, .ref 90), (1, .int 1), (2, .int 6)]) (st' := [.int 57, .ref 91, .int 0]) (w' := (fw z)) (cs' := 0) (ss' := 0) ?_ (fun _ _ => rfl)
  refine go_seg 8 (pc' := 47) (ls' := [(4, .int 48), (3, .int 0), (0, .ref 90), (1, .int 1), (2, .int 6)]) (st' := []) (w' := (fw z)) (cs' := 0) (ss' := 0) ?_ (fun _ _ => rfl)
  refine go_seg 8 (pc' := 63) (ls' := [(4, .int 48), (3, .int 0), (0, .ref 90), (1, .int 1), (2, .int 6)]) (st' := [.int 48, .int 10, .ref 91, .int 0]) (w' := (fw z)) (cs' := 0) (ss' := 0) ?_ (fun _ _ => rfl)
  refine go_seg 8 (pc' := 79) (ls' := [(4, .int 49), (3, .int 0), (0, .ref 90), (1, .int 1), (2, .int 6)]) (st' := []) (w' := (fw z)) (cs' := 0) (ss' := 0) ?_ (fun _ _ => rfl)
  refine go_seg 8 (pc' := 61) (ls' := [(4, .int 49), (3, .int 0), (0, .ref 90), (1, .int 1), (2, .int 6)]) (st' := [.int 10, .ref 91, .int 0]) (w' := (fw z)) (cs' := 0) (ss' := 0) ?_ (fun _ _ => rfl)
  refine go_seg 8 (pc' := 76) (ls' := [(3, .int 0), (4, .int 49), (0, .ref 90), (1, .int 1), (2, .int 6)]) (st' := []) (w' := (fw z)) (cs' := 0) (ss' := 0) ?_ (fun _ _ => rfl)
  refine go_seg 8 (pc' := 59) (ls' := [(4, .int 50), (3, .int 0), (0, .ref 90), (1, .int 1), (2, .int 6)]) (st' := [.ref 91, .int 0]) (w' := (fw z)) (cs' := 0) (ss' := 0) ?_ (fun _ _ => rfl)
  refine go_seg 8 (pc' := 75) (ls' := [(4, .int 50), (3, .int 0), (0, .ref 90), (1, .int 1), (2, .int 6)]) (st' := [.int 0]) (w' := (fw z)) (cs' := 0) (ss' := 0) ?_ (fun _ _ => rfl)
  refine go_seg 8 (pc' := 56) (ls' := [(4, .int 51), (3, .int 0), (0, .ref 90), (1, .int 1), (2, .int 6)]) (st' := [.ref 90, .int 0]) (w' := (fw z)) (cs' := 0) (ss' := 0) ?_ (fun _ _ => rfl)
  refine go_seg 8 (pc' := 74) (ls' := [(4, .int 51), (3, .int 0), (0, .ref 90), (1, .int 1), (2, .int 6)]) (st' := [.int 0, .int 0]) (w' := (fw z)) (cs' := 0) (ss' := 0) ?_ (fun _ _ => rfl)
  refine go_seg 8 (pc' := 55) (ls' := [(4, .int 52), (3, .int 0), (0, .ref 90), (1, .int 1), (2, .int 6)]) (st' := [.int 0]) (w' := (fw z)) (cs' := 0) (ss' := 0) ?_ (fun _ _ => rfl)
  refine go_seg 8 (pc' := 73) (ls' := [(4, .int 52), (3, .int 0), (0, .ref 90), (1, .int 1), (2, .int 6)]) (st' := [.int 0]) (w' := (fw z)) (cs' := 0) (ss' := 0) ?_ (fun _ _ => rfl)
  refine go_seg 8 (pc' := 54) (ls' := [(4, .int 53), (3, .int 0), (0, .ref 90), (1, .int 1), (2, .int 6)]) (st' := []) (w' := (fw z)) (cs' := 0) (ss' := 0) ?_ (fun _ _ => rfl)
  refine go_seg 8 (pc' := 66) (ls' := [(4, .int 53), (3, .int 0), (0, .ref 90), (1, .int 1), (2, .int 6)]) (st' := [.int 1, .int (-1), .int 0]) (w' := (fw z)) (cs' := 0) (ss' := 0) ?_ (fun _ _ => rfl)
  refine go_seg 8 (pc' := 51) (ls' := [(4, .int 54), (3, .int 0), (0, .ref 90), (1, .int 1), (2, .int 6)]) (st' := [.int 64, .int 54]) (w' := (fw z)) (cs' := 0) (ss' := 0) ?_ (fun _ _ => rfl)
  refine go_seg 8 (pc' := 65) (ls' := [(4, .int 54), (3, .int 0), (0, .ref 90), (1, .int 1), (2, .int 6)]) (st' := [.int (-1), .int 0]) (w' := (fw z)) (cs' := 0) (ss' := 0) ?_ (fun _ _ => rfl)
  refine go_seg 8 (pc' := 49) (ls' := [(4, .int 55), (3, .int 0), (0, .ref 90), (1, .int 1), (2, .int 6)]) (st' := [.int 55]) (w' := (fw z)) (cs' := 0) (ss' := 0) ?_ (fun _ _ => rfl)
  refine go_seg 8 (pc' := 64) (ls' := [(4, .int 55), (3, .int 0), (0, .ref 90), (1, .int 1), (2, .int 6)]) (st' := [.int 65, .ref 91, .int 0]) (w' := (fw z)) (cs' := 0) (ss' := 0) ?_ (fun _ _ => rfl)
  refine go_seg 8 (pc' := 47) (ls' := [(4, .int 56), (3, .int 0), (0, .ref 90), (1, .int 1), (2, .int 6)]) (st' := []) (w' := (fw z)) (cs' := 0) (ss' := 0) ?_ (fun _ _ => rfl)
  refine go_seg 8 (pc' := 63) (ls' := [(4, .int 56), (3, .int 0), (0, .ref 90), (1, .int 1), (2, .int 6)]) (st' := [.int 56, .int 10, .ref 91, .int 0]) (w' := (fw z)) (cs' := 0) (ss' := 0) ?_ (fun _ _ => rfl)
  refine go_seg 8 (pc' := 79) (ls' := [(4, .int 57), (3, .int 0), (0, .ref 90), (1, .int 1), (2, .int 6)]) (st' := []) (w' := (fw z)) (cs' := 0) (ss' := 0) ?_ (fun _ _ => rfl)
  refine go_seg 8 (pc' := 61) (ls' := [(4, .int 57), (3, .int 0), (0, .ref 90), (1, .int 1), (2, .int 6)]) (st' := [.int 10, .ref 91, .int 0]) (w' := (fw z)) (cs' := 0) (ss' := 0) ?_ (fun _ _ => rfl)
  refine go_seg 8 (pc' := 76) (ls' := [(3, .int 0), (4, .int 57), (0, .ref 90), (1, .int 1), (2, .int 6)]) (st' := []) (w' := (fw z)) (cs' := 0) (ss' := 0) ?_ (fun _ _ => rfl)
  refine go_seg 8 (pc' := 59) (ls' := [(4, .int 58), (3, .int 0), (0, .ref 90), (1, .int 1), (2, .int 6)]) (st' := [.ref 91, .int 0]) (w' := (fw z)) (cs' := 0) (ss' := 0) ?_ (fun _ _ => rfl)
  refine go_seg 8 (pc' := 75) (ls' := [(4, .int 58), (3, .int 0), (0, .ref 90), (1, .int 1), (2, .int 6)]) (st' := [.int 0]) (w' := (fw z)) (cs' := 0) (ss' := 0) ?_ (fun _ _ => rfl)
  refine go_seg 8 (pc' := 56) (ls' := [(4, .int 59), (3, .int 0), (0, .ref 90), (1, .int 1), (2, .int 6)]) (st' := [.ref 90, .int 0]) (w' := (fw z)) (cs' := 0) (ss' := 0) ?_ (fun _ _ => rfl)
  refine go_seg 8 (pc' := 74) (ls' := [(4, .int 59), (3, .int 0), (0, .ref 90), (1, .int 1), (2, .int 6)]) (st' := [.int 0, .int 0]) (w' := (fw z)) (cs' := 0) (ss' := 0) ?_ (fun _ _ => rfl)
  refine go_seg 8 (pc' := 55) (ls' := [(4, .int 60), (3, .int 0), (0, .ref 90), (1, .int 1), (2, .int 6)]) (st' := [.int 0]) (w' := (fw z)) (cs' := 0) (ss' := 0) ?_ (fun _ _ => rfl)
  refine go_seg 8 (pc' := 73) (ls' := [(4, .int 60), (3, .int 0), (0, .ref 90), (1, .int 1), (2, .int 6)]) (st' := [.int 0]) (w' := (fw z)) (cs' := 0) (ss' := 0) ?_ (fun _ _ => rfl)
  refine go_seg 8 (pc' := 54) (ls' := [(4, .int 61), (3, .int 0), (0, .ref 90), (1, .int 1), (2, .int 6)]) (st' := []) (w' := (fw z)) (cs' := 0) (ss' := 0) ?_ (fun _ _ => rfl)
  refine go_seg 8 (pc' := 66) (ls' := [(4, .int 61), (3, .int 0), (0, .ref 90), (1, .int 1), (2, .int 6)]) (st' := [.int 1, .int (-1), .int 0]) (w' := (fw z)) (cs' := 0) (ss' := 0) ?_ (fun _ _ => rfl)
  refine go_seg 8 (pc' := 51) (ls' := [(4, .int 62), (3, .int 0), (0, .ref 90), (1, .int 1), (2, .int 6)]) (st' := [.int 64, .int 62]) (w' := (fw z)) (cs' := 0) (ss' := 0) ?_ (fun _ _ => rfl)
  refine go_seg 8 (pc' := 65) (ls' := [(4, .int 62), (3, .int 0), (0, .ref 90), (1, .int 1), (2, .int 6)]) (st' := [.int (-1), .int 0]) (w' := (fw z)) (cs' := 0) (ss' := 0) ?_ (fun _ _ => rfl)
  refine go_seg 8 (pc' := 49) (ls' := [(4, .int 63), (3, .int 0), (0, .ref 90), (1, .int 1), (2, .int 6)]) (st' := [.int 63]) (w' := (fw z)) (cs' := 0) (ss' := 0) ?_ (fun _ _ => rfl)
  refine go_seg 8 (pc' := 64) (ls' := [(4, .int 63), (3, .int 0), (0, .ref 90), (1, .int 1), (2, .int 6)]) (st' := [.int 73, .ref 91, .int 0]) (w' := (fw z)) (cs' := 0) (ss' := 0) ?_ (fun _ _ => rfl)
  refine go_seg 8 (pc' := 47) (ls' := [(4, .int 64), (3, .int 0), (0, .ref 90), (1, .int 1), (2, .int 6)]) (st' := []) (w' := (fw z)) (cs' := 0) (ss' := 0) ?_ (fun _ _ => rfl)
  refine go_seg 8 (pc' := 94) (ls' := [(4, .int 64), (3, .int 0), (0, .ref 90), (1, .int 1), (2, .int 6)]) (st' := [.int 6, .int 6]) (w' := (fw z)) (cs' := 0) (ss' := 0) ?_ (fun _ _ => rfl)
  refine go_seg 3 (pc' := 99) (ls' := [(4, .int 64), (3, .int 0), (0, .ref 90), (1, .int 1), (2, .int 6)]) (st' := [.int 1, .ref 90]) (w' := (fw z)) (cs' := 0) (ss' := 0) ?_ (fun _ _ => rfl)
  refine go_cl (k := 2) (st' := [.int 0]) (cs' := 0) (ss' := 0) rfl rfl rfl rfl rfl rfl rfl (ro_476 z) ?_
  exact go_end 2 (fun _ _ => rfl)
theorem lf_4_1125 (a0 : Int32) (a3 : Int32) (a4 : Int32) (a5 : Int32) : ∃ w', pq_Go 20 pm_law 370 [(3, .int 0), (2, .ref 90), (1, .ref 1), (0, .ref 0)] [] (fw (sz a0 1 6 a3 a4 a5)) 109 12668 (some (.int 1), w') := by
  refine ⟨(fw (sz a0 1 6 a3 a4 a5)), ?_⟩
  refine go_seg 8 (pc' := 378) (ls' := [(3, .int 0), (2, .ref 90), (1, .ref 1), (0, .ref 0)]) (st' := [.int 0, .ref 0, .int 1, .ref 1]) (w' := (fw (sz a0 1 6 a3 a4 a5))) (cs' := 109) (ss' := 12668) ?_ (fun _ _ => rfl)
  refine go_seg 3 (pc' := 381) (ls' := [(3, .int 0), (2, .ref 90), (1, .ref 1), (0, .ref 0)]) (st' := [.int 6, .int 1, .ref 1]) (w' := (fw (sz a0 1 6 a3 a4 a5))) (cs' := 109) (ss' := 12668) ?_ (fun _ _ => rfl)
  refine go_cl (k := 20) (st' := [.int 0]) (cs' := 109) (ss' := 12668) rfl rfl rfl rfl rfl rfl rfl (ro_1123 (sz a0 1 6 a3 a4 a5)) ?_
  refine go_seg 8 (pc' := 392) (ls' := [(3, .int 0), (2, .ref 90), (1, .ref 1), (0, .ref 0)]) (st' := [.int 0, .ref 0, .int 1, .ref 90, .int 0]) (w' := (fw (sz a0 1 6 a3 a4 a5))) (cs' := 109) (ss' := 12668) ?_ (fun _ _ => rfl)
  refine go_seg 3 (pc' := 395) (ls' := [(3, .int 0), (2, .ref 90), (1, .ref 1), (0, .ref 0)]) (st' := [.int 6, .int 1, .ref 90, .int 0]) (w' := (fw (sz a0 1 6 a3 a4 a5))) (cs' := 109) (ss' := 12668) ?_ (fun _ _ => rfl)
  refine go_cl (k := 20) (st' := [.int 0, .int 0]) (cs' := 109) (ss' := 12668) rfl rfl rfl rfl rfl rfl rfl (ro_1124 (sz a0 1 6 a3 a4 a5)) ?_
  refine go_cmp true rfl (br_self _) ?_
  exact law_tail (f := sc a0 1 6 a3 a4 a5) rfl
theorem ro_1126 (z : pq_C) : pq_Ru 2 27 [.ref 11, .int 2] (fw z) (some (.int 0), (fw z)) := by
  refine ru_of (k := 1) (M := pm_27) rfl rfl ?_
  refine go_seg 8 (pc' := 11) (ls' := [(3, .int 0), (2, .int 0), (0, .ref 11), (1, .int 2)]) (st' := [.int 2]) (w' := (fw z)) (cs' := 0) (ss' := 0) ?_ (fun _ _ => rfl)
  refine go_cl (k := 1) (st' := [.int 1]) (cs' := 0) (ss' := 0) rfl rfl rfl rfl rfl rfl rfl (ro_567 z) ?_
  refine go_seg 8 (pc' := 27) (ls' := [(3, .int 0), (2, .int 0), (0, .ref 11), (1, .int 2)]) (st' := [.int 2, .int 0, .ref 14, .int 0]) (w' := (fw z)) (cs' := 0) (ss' := 0) ?_ (fun _ _ => rfl)
  refine go_seg 8 (pc' := 7) (ls' := [(3, .int 1), (2, .int 0), (0, .ref 11), (1, .int 2)]) (st' := [.int 8, .int 1]) (w' := (fw z)) (cs' := 0) (ss' := 0) ?_ (fun _ _ => rfl)
  refine go_seg 2 (pc' := 11) (ls' := [(3, .int 1), (2, .int 0), (0, .ref 11), (1, .int 2)]) (st' := [.int 2]) (w' := (fw z)) (cs' := 0) (ss' := 0) ?_ (fun _ _ => rfl)
  refine go_cl (k := 1) (st' := [.int 1]) (cs' := 0) (ss' := 0) rfl rfl rfl rfl rfl rfl rfl (ro_567 z) ?_
  refine go_seg 8 (pc' := 27) (ls' := [(3, .int 1), (2, .int 0), (0, .ref 11), (1, .int 2)]) (st' := [.int 2, .int 8, .ref 14, .int 0]) (w' := (fw z)) (cs' := 0) (ss' := 0) ?_ (fun _ _ => rfl)
  refine go_seg 8 (pc' := 7) (ls' := [(3, .int 2), (2, .int 0), (0, .ref 11), (1, .int 2)]) (st' := [.int 8, .int 2]) (w' := (fw z)) (cs' := 0) (ss' := 0) ?_ (fun _ _ => rfl)
  refine go_seg 2 (pc' := 11) (ls' := [(3, .int 2), (2, .int 0), (0, .ref 11), (1, .int 2)]) (st' := [.int 2]) (w' := (fw z)) (cs' := 0) (ss' := 0) ?_ (fun _ _ => rfl)
  refine go_cl (k := 1) (st' := [.int 1]) (cs' := 0) (ss' := 0) rfl rfl rfl rfl rfl rfl rfl (ro_567 z) ?_
  refine go_seg 8 (pc' := 27) (ls' := [(3, .int 2), (2, .int 0), (0, .ref 11), (1, .int 2)]) (st' := [.int 2, .int 16, .ref 14, .int 0]) (w' := (fw z)) (cs' := 0) (ss' := 0) ?_ (fun _ _ => rfl)
  refine go_seg 8 (pc' := 7) (ls' := [(3, .int 3), (2, .int 0), (0, .ref 11), (1, .int 2)]) (st' := [.int 8, .int 3]) (w' := (fw z)) (cs' := 0) (ss' := 0) ?_ (fun _ _ => rfl)
  refine go_seg 2 (pc' := 11) (ls' := [(3, .int 3), (2, .int 0), (0, .ref 11), (1, .int 2)]) (st' := [.int 2]) (w' := (fw z)) (cs' := 0) (ss' := 0) ?_ (fun _ _ => rfl)
  refine go_cl (k := 1) (st' := [.int 1]) (cs' := 0) (ss' := 0) rfl rfl rfl rfl rfl rfl rfl (ro_567 z) ?_
  refine go_seg 8 (pc' := 27) (ls' := [(3, .int 3), (2, .int 0), (0, .ref 11), (1, .int 2)]) (st' := [.int 2, .int 24, .ref 14, .int 0]) (w' := (fw z)) (cs' := 0) (ss' := 0) ?_ (fun _ _ => rfl)
  refine go_seg 8 (pc' := 7) (ls' := [(3, .int 4), (2, .int 0), (0, .ref 11), (1, .int 2)]) (st' := [.int 8, .int 4]) (w' := (fw z)) (cs' := 0) (ss' := 0) ?_ (fun _ _ => rfl)
  refine go_seg 2 (pc' := 11) (ls' := [(3, .int 4), (2, .int 0), (0, .ref 11), (1, .int 2)]) (st' := [.int 2]) (w' := (fw z)) (cs' := 0) (ss' := 0) ?_ (fun _ _ => rfl)
  refine go_cl (k := 1) (st' := [.int 1]) (cs' := 0) (ss' := 0) rfl rfl rfl rfl rfl rfl rfl (ro_567 z) ?_
  refine go_seg 8 (pc' := 27) (ls' := [(3, .int 4), (2, .int 0), (0, .ref 11), (1, .int 2)]) (st' := [.int 2, .int 32, .ref 14, .int 0]) (w' := (fw z)) (cs' := 0) (ss' := 0) ?_ (fun _ _ => rfl)
  refine go_seg 8 (pc' := 7) (ls' := [(3, .int 5), (2, .int 0), (0, .ref 11), (1, .int 2)]) (st' := [.int 8, .int 5]) (w' := (fw z)) (cs' := 0) (ss' := 0) ?_ (fun _ _ => rfl)
  refine go_seg 2 (pc' := 11) (ls' := [(3, .int 5), (2, .int 0), (0, .ref 11), (1, .int 2)]) (st' := [.int 2]) (w' := (fw z)) (cs' := 0) (ss' := 0) ?_ (fun _ _ => rfl)
  refine go_cl (k := 1) (st' := [.int 1]) (cs' := 0) (ss' := 0) rfl rfl rfl rfl rfl rfl rfl (ro_567 z) ?_
  refine go_seg 8 (pc' := 27) (ls' := [(3, .int 5), (2, .int 0), (0, .ref 11), (1, .int 2)]) (st' := [.int 2, .int 40, .ref 14, .int 0]) (w' := (fw z)) (cs' := 0) (ss' := 0) ?_ (fun _ _ => rfl)
  refine go_seg 8 (pc' := 7) (ls' := [(3, .int 6), (2, .int 0), (0, .ref 11), (1, .int 2)]) (st' := [.int 8, .int 6]) (w' := (fw z)) (cs' := 0) (ss' := 0) ?_ (fun _ _ => rfl)
  refine go_seg 2 (pc' := 11) (ls' := [(3, .int 6), (2, .int 0), (0, .ref 11), (1, .int 2)]) (st' := [.int 2]) (w' := (fw z)) (cs' := 0) (ss' := 0) ?_ (fun _ _ => rfl)
  refine go_cl (k := 1) (st' := [.int 1]) (cs' := 0) (ss' := 0) rfl rfl rfl rfl rfl rfl rfl (ro_567 z) ?_
  refine go_seg 8 (pc' := 27) (ls' := [(3, .int 6), (2, .int 0), (0, .ref 11), (1, .int 2)]) (st' := [.int 2, .int 48, .ref 14, .int 0]) (w' := (fw z)) (cs' := 0) (ss' := 0) ?_ (fun _ _ => rfl)
  refine go_seg 8 (pc' := 7) (ls' := [(3, .int 7), (2, .int 0), (0, .ref 11), (1, .int 2)]) (st' := [.int 8, .int 7]) (w' := (fw z)) (cs' := 0) (ss' := 0) ?_ (fun _ _ => rfl)
  refine go_seg 2 (pc' := 11) (ls' := [(3, .int 7), (2, .int 0), (0, .ref 11), (1, .int 2)]) (st' := [.int 2]) (w' := (fw z)) (cs' := 0) (ss' := 0) ?_ (fun _ _ => rfl)
  refine go_cl (k := 1) (st' := [.int 1]) (cs' := 0) (ss' := 0) rfl rfl rfl rfl rfl rfl rfl (ro_567 z) ?_
  refine go_seg 8 (pc' := 27) (ls' := [(3, .int 7), (2, .int 0), (0, .ref 11), (1, .int 2)]) (st' := [.int 2, .int 56, .ref 14, .int 0]) (w' := (fw z)) (cs' := 0) (ss' := 0) ?_ (fun _ _ => rfl)
  refine go_seg 8 (pc' := 7) (ls' := [(3, .int 8), (2, .int 0), (0, .ref 11), (1, .int 2)]) (st' := [.int 8, .int 8]) (w' := (fw z)) (cs' := 0) (ss' := 0) ?_ (fun _ _ => rfl)
  exact go_end 3 (fun _ _ => rfl)
theorem ro_1127 (z : pq_C) : pq_Ru 3 25 [.ref 1, .int 2, .int 6] (fw z) (some (.int 0), (fw z)) := by
  refine ru_of (k := 2) (M := pm_25) rfl rfl ?_
  refine go_seg 1 (pc' := 1) (ls' := [(0, .ref 1), (1, .int 2), (2, .int 6)]) (st' := [.int 2]) (w' := (fw z)) (cs' := 0) (ss' := 0) ?_ (fun _ _ => rfl)
  refine go_cl (k := 2) (st' := [.int 1]) (cs' := 0) (ss' := 0) rfl rfl rfl rfl rfl rfl rfl (ro_567 z) ?_
  refine go_seg 6 (pc' := 124) (ls' := [(0, .ref 1), (1, .int 2), (2, .int 6)]) (st' := [.int 2, .ref 11]) (w' := (fw z)) (cs' := 0) (ss' := 0) ?_ (fun _ _ => rfl)
  refine go_cl (k := 2) (st' := [.int 0]) (cs' := 0) (ss' := 0) rfl rfl rfl rfl rfl rfl rfl (ro_1126 z) ?_
  exact go_end 1 (fun _ _ => rfl)
theorem ro_1128 (z : pq_C) : pq_Ru 3 169 [.ref 90, .int 2, .int 6] (fw z) (some (.int 0), (fw z)) := by
  refine ru_of (k := 2) (M := pm_169) rfl rfl ?_
  refine go_seg 1 (pc' := 1) (ls' := [(0, .ref 90), (1, .int 2), (2, .int 6)]) (st' := [.int 2]) (w' := (fw z)) (cs' := 0) (ss' := 0) ?_ (fun _ _ => rfl)
  refine go_cl (k := 2) (st' := [.int 1]) (cs' := 0) (ss' := 0) rfl rfl rfl rfl rfl rfl rfl (ro_952 z) ?_
  refine go_seg 5 (pc' := 13) (ls' := [(0, .ref 90), (1, .int 2), (2, .int 6)]) (st' := [.long 7, .long 0, .long 6]) (w' := (fw z)) (cs' := 0) (ss' := 0) ?_ (fun _ _ => rfl)
  refine go_cl (k := 2) (st' := [.int 1]) (cs' := 0) (ss' := 0) rfl rfl rfl rfl rfl rfl rfl (ro_975 z) ?_
  refine go_seg 8 (pc' := 47) (ls' := [(4, .int 0), (3, .int 0), (0, .ref 90), (1, .int 2), (2, .int 6)]) (st' := []) (w' := (fw z)) (cs' := 0) (ss' := 0) ?_ (fun _ _ => rfl)
  refine go_seg 8 (pc' := 63) (ls' := [(4, .int 0), (3, .int 0), (0, .ref 90), (1, .int 2), (2, .int 6)]) (st' := [.int 0, .int 10, .ref 91, .int 0]) (w' := (fw z)) (cs' := 0) (ss' := 0) ?_ (fun _ _ => rfl)
  refine go_seg 8 (pc' := 79) (ls' := [(4, .int 1), (3, .int 0), (0, .ref 90), (1, .int 2), (2, .int 6)]) (st' := []) (w' := (fw z)) (cs' := 0) (ss' := 0) ?_ (fun _ _ => rfl)
  refine go_seg 8 (pc' := 61) (ls' := [(4, .int 1), (3, .int 0), (0, .ref 90), (1, .int 2), (2, .int 6)]) (st' := [.int 10, .ref 91, .int 0]) (w' := (fw z)) (cs' := 0) (ss' := 0) ?_ (fun _ _ => rfl)
  refine go_seg 8 (pc' := 76) (ls' := [(3, .int 0), (4, .int 1), (0, .ref 90), (1, .int 2), (2, .int 6)]) (st' := []) (w' := (fw z)) (cs' := 0) (ss' := 0) ?_ (fun _ _ => rfl)
  refine go_seg 8 (pc' := 59) (ls' := [(4, .int 2), (3, .int 0), (0, .ref 90), (1, .int 2), (2, .int 6)]) (st' := [.ref 91, .int 0]) (w' := (fw z)) (cs' := 0) (ss' := 0) ?_ (fun _ _ => rfl)
  refine go_seg 8 (pc' := 75) (ls' := [(4, .int 2), (3, .int 0), (0, .ref 90), (1, .int 2), (2, .int 6)]) (st' := [.int 0]) (w' := (fw z)) (cs' := 0) (ss' := 0) ?_ (fun _ _ => rfl)
  refine go_seg 8 (pc' := 56) (ls' := [(4, .int 3), (3, .int 0), (0, .ref 90), (1, .int 2), (2, .int 6)]) (st' := [.ref 90, .int 0]) (w' := (fw z)) (cs' := 0) (ss' := 0) ?_ (fun _ _ => rfl)
  refine go_seg 8 (pc' := 74) (ls' := [(4, .int 3), (3, .int 0), (0, .ref 90), (1, .int 2), (2, .int 6)]) (st' := [.int 0, .int 0]) (w' := (fw z)) (cs' := 0) (ss' := 0) ?_ (fun _ _ => rfl)
  refine go_seg 8 (pc' := 55) (ls' := [(4, .int 4), (3, .int 0), (0, .ref 90), (1, .int 2), (2, .int 6)]) (st' := [.int 0]) (w' := (fw z)) (cs' := 0) (ss' := 0) ?_ (fun _ _ => rfl)
  refine go_seg 8 (pc' := 73) (ls' := [(4, .int 4), (3, .int 0), (0, .ref 90), (1, .int 2), (2, .int 6)]) (st' := [.int 0]) (w' := (fw z)) (cs' := 0) (ss' := 0) ?_ (fun _ _ => rfl)
  refine go_seg 8 (pc' := 54) (ls' := [(4, .int 5), (3, .int 0), (0, .ref 90), (1, .int 2), (2, .int 6)]) (st' := []) (w' := (fw z)) (cs' := 0) (ss' := 0) ?_ (fun _ _ => rfl)
  refine go_seg 8 (pc' := 66) (ls' := [(4, .int 5), (3, .int 0), (0, .ref 90), (1, .int 2), (2, .int 6)]) (st' := [.int 2, .int (-1), .int 0]) (w' := (fw z)) (cs' := 0) (ss' := 0) ?_ (fun _ _ => rfl)
  refine go_seg 8 (pc' := 51) (ls' := [(4, .int 6), (3, .int 0), (0, .ref 90), (1, .int 2), (2, .int 6)]) (st' := [.int 64, .int 6]) (w' := (fw z)) (cs' := 0) (ss' := 0) ?_ (fun _ _ => rfl)
  refine go_seg 8 (pc' := 65) (ls' := [(4, .int 6), (3, .int 0), (0, .ref 90), (1, .int 2), (2, .int 6)]) (st' := [.int (-1), .int 0]) (w' := (fw z)) (cs' := 0) (ss' := 0) ?_ (fun _ _ => rfl)
  refine go_seg 8 (pc' := 49) (ls' := [(4, .int 7), (3, .int 0), (0, .ref 90), (1, .int 2), (2, .int 6)]) (st' := [.int 7]) (w' := (fw z)) (cs' := 0) (ss' := 0) ?_ (fun _ _ => rfl)
  refine go_seg 8 (pc' := 64) (ls' := [(4, .int 7), (3, .int 0), (0, .ref 90), (1, .int 2), (2, .int 6)]) (st' := [.int 17, .ref 91, .int 0]) (w' := (fw z)) (cs' := 0) (ss' := 0) ?_ (fun _ _ => rfl)
  refine go_seg 8 (pc' := 47) (ls' := [(4, .int 8), (3, .int 0), (0, .ref 90), (1, .int 2), (2, .int 6)]) (st' := []) (w' := (fw z)) (cs' := 0) (ss' := 0) ?_ (fun _ _ => rfl)
  refine go_seg 8 (pc' := 63) (ls' := [(4, .int 8), (3, .int 0), (0, .ref 90), (1, .int 2), (2, .int 6)]) (st' := [.int 8, .int 10, .ref 91, .int 0]) (w' := (fw z)) (cs' := 0) (ss' := 0) ?_ (fun _ _ => rfl)
  refine go_seg 8 (pc' := 79) (ls' := [(4, .int 9), (3, .int 0), (0, .ref 90), (1, .int 2), (2, .int 6)]) (st' := []) (w' := (fw z)) (cs' := 0) (ss' := 0) ?_ (fun _ _ => rfl)
  refine go_seg 8 (pc' := 61) (ls' := [(4, .int 9), (3, .int 0), (0, .ref 90), (1, .int 2), (2, .int 6)]) (st' := [.int 10, .ref 91, .int 0]) (w' := (fw z)) (cs' := 0) (ss' := 0) ?_ (fun _ _ => rfl)
  refine go_seg 8 (pc' := 76) (ls' := [(3, .int 0), (4, .int 9), (0, .ref 90), (1, .int 2), (2, .int 6)]) (st' := []) (w' := (fw z)) (cs' := 0) (ss' := 0) ?_ (fun _ _ => rfl)
  refine go_seg 8 (pc' := 59) (ls' := [(4, .int 10), (3, .int 0), (0, .ref 90), (1, .int 2), (2, .int 6)]) (st' := [.ref 91, .int 0]) (w' := (fw z)) (cs' := 0) (ss' := 0) ?_ (fun _ _ => rfl)
  refine go_seg 8 (pc' := 75) (ls' := [(4, .int 10), (3, .int 0), (0, .ref 90), (1, .int 2), (2, .int 6)]) (st' := [.int 0]) (w' := (fw z)) (cs' := 0) (ss' := 0) ?_ (fun _ _ => rfl)
  refine go_seg 8 (pc' := 56) (ls' := [(4, .int 11), (3, .int 0), (0, .ref 90), (1, .int 2), (2, .int 6)]) (st' := [.ref 90, .int 0]) (w' := (fw z)) (cs' := 0) (ss' := 0) ?_ (fun _ _ => rfl)
  refine go_seg 8 (pc' := 74) (ls' := [(4, .int 11), (3, .int 0), (0, .ref 90), (1, .int 2), (2, .int 6)]) (st' := [.int 0, .int 0]) (w' := (fw z)) (cs' := 0) (ss' := 0) ?_ (fun _ _ => rfl)
  refine go_seg 8 (pc' := 55) (ls' := [(4, .int 12), (3, .int 0), (0, .ref 90), (1, .int 2), (2, .int 6)]) (st' := [.int 0]) (w' := (fw z)) (cs' := 0) (ss' := 0) ?_ (fun _ _ => rfl)
  refine go_seg 8 (pc' := 73) (ls' := [(4, .int 12), (3, .int 0), (0, .ref 90), (1, .int 2), (2, .int 6)]) (st' := [.int 0]) (w' := (fw z)) (cs' := 0) (ss' := 0) ?_ (fun _ _ => rfl)
  refine go_seg 8 (pc' := 54) (ls' := [(4, .int 13), (3, .int 0), (0, .ref 90), (1, .int 2), (2, .int 6)]) (st' := []) (w' := (fw z)) (cs' := 0) (ss' := 0) ?_ (fun _ _ => rfl)
  refine go_seg 8 (pc' := 66) (ls' := [(4, .int 13), (3, .int 0), (0, .ref 90), (1, .int 2), (2, .int 6)]) (st' := [.int 2, .int (-1), .int 0]) (w' := (fw z)) (cs' := 0) (ss' := 0) ?_ (fun _ _ => rfl)
  refine go_seg 8 (pc' := 51) (ls' := [(4, .int 14), (3, .int 0), (0, .ref 90), (1, .int 2), (2, .int 6)]) (st' := [.int 64, .int 14]) (w' := (fw z)) (cs' := 0) (ss' := 0) ?_ (fun _ _ => rfl)
  refine go_seg 8 (pc' := 65) (ls' := [(4, .int 14), (3, .int 0), (0, .ref 90), (1, .int 2), (2, .int 6)]) (st' := [.int (-1), .int 0]) (w' := (fw z)) (cs' := 0) (ss' := 0) ?_ (fun _ _ => rfl)
  refine go_seg 8 (pc' := 49) (ls' := [(4, .int 15), (3, .int 0), (0, .ref 90), (1, .int 2), (2, .int 6)]) (st' := [.int 15]) (w' := (fw z)) (cs' := 0) (ss' := 0) ?_ (fun _ _ => rfl)
  refine go_seg 8 (pc' := 64) (ls' := [(4, .int 15), (3, .int 0), (0, .ref 90), (1, .int 2), (2, .int 6)]) (st' := [.int 25, .ref 91, .int 0]) (w' := (fw z)) (cs' := 0) (ss' := 0) ?_ (fun _ _ => rfl)
  refine go_seg 8 (pc' := 47) (ls' := [(4, .int 16), (3, .int 0), (0, .ref 90), (1, .int 2), (2, .int 6)]) (st' := []) (w' := (fw z)) (cs' := 0) (ss' := 0) ?_ (fun _ _ => rfl)
  refine go_seg 8 (pc' := 63) (ls' := [(4, .int 16), (3, .int 0), (0, .ref 90), (1, .int 2), (2, .int 6)]) (st' := [.int 16, .int 10, .ref 91, .int 0]) (w' := (fw z)) (cs' := 0) (ss' := 0) ?_ (fun _ _ => rfl)
  refine go_seg 8 (pc' := 79) (ls' := [(4, .int 17), (3, .int 0), (0, .ref 90), (1, .int 2), (2, .int 6)]) (st' := []) (w' := (fw z)) (cs' := 0) (ss' := 0) ?_ (fun _ _ => rfl)
  refine go_seg 8 (pc' := 61) (ls' := [(4, .int 17), (3, .int 0), (0, .ref 90), (1, .int 2), (2, .int 6)]) (st' := [.int 10, .ref 91, .int 0]) (w' := (fw z)) (cs' := 0) (ss' := 0) ?_ (fun _ _ => rfl)
  refine go_seg 8 (pc' := 76) (ls' := [(3, .int 0), (4, .int 17), (0, .ref 90), (1, .int 2), (2, .int 6)]) (st' := []) (w' := (fw z)) (cs' := 0) (ss' := 0) ?_ (fun _ _ => rfl)
  refine go_seg 8 (pc' := 59) (ls' := [(4, .int 18), (3, .int 0), (0, .ref 90), (1, .int 2), (2, .int 6)]) (st' := [.ref 91, .int 0]) (w' := (fw z)) (cs' := 0) (ss' := 0) ?_ (fun _ _ => rfl)
  refine go_seg 8 (pc' := 75) (ls' := [(4, .int 18), (3, .int 0), (0, .ref 90), (1, .int 2), (2, .int 6)]) (st' := [.int 0]) (w' := (fw z)) (cs' := 0) (ss' := 0) ?_ (fun _ _ => rfl)
  refine go_seg 8 (pc' := 56) (ls' := [(4, .int 19), (3, .int 0), (0, .ref 90), (1, .int 2), (2, .int 6)]) (st' := [.ref 90, .int 0]) (w' := (fw z)) (cs' := 0) (ss' := 0) ?_ (fun _ _ => rfl)
  refine go_seg 8 (pc' := 74) (ls' := [(4, .int 19), (3, .int 0), (0, .ref 90), (1, .int 2), (2, .int 6)]) (st' := [.int 0, .int 0]) (w' := (fw z)) (cs' := 0) (ss' := 0) ?_ (fun _ _ => rfl)
  refine go_seg 8 (pc' := 55) (ls' := [(4, .int 20), (3, .int 0), (0, .ref 90), (1, .int 2), (2, .int 6)]) (st' := [.int 0]) (w' := (fw z)) (cs' := 0) (ss' := 0) ?_ (fun _ _ => rfl)
  refine go_seg 8 (pc' := 73) (ls' := [(4, .int 20), (3, .int 0), (0, .ref 90), (1, .int 2), (2, .int 6)]) (st' := [.int 0]) (w' := (fw z)) (cs' := 0) (ss' := 0) ?_ (fun _ _ => rfl)
  refine go_seg 8 (pc' := 54) (ls' := [(4, .int 21), (3, .int 0), (0, .ref 90), (1, .int 2), (2, .int 6)]) (st' := []) (w' := (fw z)) (cs' := 0) (ss' := 0) ?_ (fun _ _ => rfl)
  refine go_seg 8 (pc' := 66) (ls' := [(4, .int 21), (3, .int 0), (0, .ref 90), (1, .int 2), (2, .int 6)]) (st' := [.int 2, .int (-1), .int 0]) (w' := (fw z)) (cs' := 0) (ss' := 0) ?_ (fun _ _ => rfl)
  refine go_seg 8 (pc' := 51) (ls' := [(4, .int 22), (3, .int 0), (0, .ref 90), (1, .int 2), (2, .int 6)]) (st' := [.int 64, .int 22]) (w' := (fw z)) (cs' := 0) (ss' := 0) ?_ (fun _ _ => rfl)
  refine go_seg 8 (pc' := 65) (ls' := [(4, .int 22), (3, .int 0), (0, .ref 90), (1, .int 2), (2, .int 6)]) (st' := [.int (-1), .int 0]) (w' := (fw z)) (cs' := 0) (ss' := 0) ?_ (fun _ _ => rfl)
  refine go_seg 8 (pc' := 49) (ls' := [(4, .int 23), (3, .int 0), (0, .ref 90), (1, .int 2), (2, .int 6)]) (st' := [.int 23]) (w' := (fw z)) (cs' := 0) (ss' := 0) ?_ (fun _ _ => rfl)
  refine go_seg 8 (pc' := 64) (ls' := [(4, .int 23), (3, .int 0), (0, .ref 90), (1, .int 2), (2, .int 6)]) (st' := [.int 33, .ref 91, .int 0]) (w' := (fw z)) (cs' := 0) (ss' := 0) ?_ (fun _ _ => rfl)
  refine go_seg 8 (pc' := 47) (ls' := [(4, .int 24), (3, .int 0), (0, .ref 90), (1, .int 2), (2, .int 6)]) (st' := []) (w' := (fw z)) (cs' := 0) (ss' := 0) ?_ (fun _ _ => rfl)
  refine go_seg 8 (pc' := 63) (ls' := [(4, .int 24), (3, .int 0), (0, .ref 90), (1, .int 2), (2, .int 6)]) (st' := [.int 24, .int 10, .ref 91, .int 0]) (w' := (fw z)) (cs' := 0) (ss' := 0) ?_ (fun _ _ => rfl)
  refine go_seg 8 (pc' := 79) (ls' := [(4, .int 25), (3, .int 0), (0, .ref 90), (1, .int 2), (2, .int 6)]) (st' := []) (w' := (fw z)) (cs' := 0) (ss' := 0) ?_ (fun _ _ => rfl)
  refine go_seg 8 (pc' := 61) (ls' := [(4, .int 25), (3, .int 0), (0, .ref 90), (1, .int 2), (2, .int 6)]) (st' := [.int 10, .ref 91, .int 0]) (w' := (fw z)) (cs' := 0) (ss' := 0) ?_ (fun _ _ => rfl)
  refine go_seg 8 (pc' := 76) (ls' := [(3, .int 0), (4, .int 25), (0, .ref 90), (1, .int 2), (2, .int 6)]) (st' := []) (w' := (fw z)) (cs' := 0) (ss' := 0) ?_ (fun _ _ => rfl)
  refine go_seg 8 (pc' := 59) (ls' := [(4, .int 26), (3, .int 0), (0, .ref 90), (1, .int 2), (2, .int 6)]) (st' := [.ref 91, .int 0]) (w' := (fw z)) (cs' := 0) (ss' := 0) ?_ (fun _ _ => rfl)
  refine go_seg 8 (pc' := 75) (ls' := [(4, .int 26), (3, .int 0), (0, .ref 90), (1, .int 2), (2, .int 6)]) (st' := [.int 0]) (w' := (fw z)) (cs' := 0) (ss' := 0) ?_ (fun _ _ => rfl)
  refine go_seg 8 (pc' := 56) (ls' := [(4, .int 27), (3, .int 0), (0, .ref 90), (1, .int 2), (2, .int 6)]) (st' := [.ref 90, .int 0]) (w' := (fw z)) (cs' := 0) (ss' := 0) ?_ (fun _ _ => rfl)
  refine go_seg 8 (pc' := 74) (ls' := [(4, .int 27), (3, .int 0), (0, .ref 90), (1, .int 2), (2, .int 6)]) (st' := [.int 0, .int 0]) (w' := (fw z)) (cs' := 0) (ss' := 0) ?_ (fun _ _ => rfl)
  refine go_seg 8 (pc' := 55) (ls' := [(4, .int 28), (3, .int 0), (0, .ref 90), (1, .int 2), (2, .int 6)]) (st' := [.int 0]) (w' := (fw z)) (cs' := 0) (ss' := 0) ?_ (fun _ _ => rfl)
  refine go_seg 8 (pc' := 73) (ls' := [(4, .int 28), (3, .int 0), (0, .ref 90), (1, .int 2), (2, .int 6)]) (st' := [.int 0]) (w' := (fw z)) (cs' := 0) (ss' := 0) ?_ (fun _ _ => rfl)
  refine go_seg 8 (pc' := 54) (ls' := [(4, .int 29), (3, .int 0), (0, .ref 90), (1, .int 2), (2, .int 6)]) (st' := []) (w' := (fw z)) (cs' := 0) (ss' := 0) ?_ (fun _ _ => rfl)
  refine go_seg 8 (pc' := 66) (ls' := [(4, .int 29), (3, .int 0), (0, .ref 90), (1, .int 2), (2, .int 6)]) (st' := [.int 2, .int (-1), .int 0]) (w' := (fw z)) (cs' := 0) (ss' := 0) ?_ (fun _ _ => rfl)
  refine go_seg 8 (pc' := 51) (ls' := [(4, .int 30), (3, .int 0), (0, .ref 90), (1, .int 2), (2, .int 6)]) (st' := [.int 64, .int 30]) (w' := (fw z)) (cs' := 0) (ss' := 0) ?_ (fun _ _ => rfl)
  refine go_seg 8 (pc' := 65) (ls' := [(4, .int 30), (3, .int 0), (0, .ref 90), (1, .int 2), (2, .int 6)]) (st' := [.int (-1), .int 0]) (w' := (fw z)) (cs' := 0) (ss' := 0) ?_ (fun _ _ => rfl)
  refine go_seg 8 (pc' := 49) (ls' := [(4, .int 31), (3, .int 0), (0, .ref 90), (1, .int 2), (2, .int 6)]) (st' := [.int 31]) (w' := (fw z)) (cs' := 0) (ss' := 0) ?_ (fun _ _ => rfl)
  refine go_seg 8 (pc' := 64) (ls' := [(4, .int 31), (3, .int 0), (0, .ref 90), (1, .int 2), (2, .int 6)]) (st' := [.int 41, .ref 91, .int 0]) (w' := (fw z)) (cs' := 0) (ss' := 0) ?_ (fun _ _ => rfl)
  refine go_seg 8 (pc' := 47) (ls' := [(4, .int 32), (3, .int 0), (0, .ref 90), (1, .int 2), (2, .int 6)]) (st' := []) (w' := (fw z)) (cs' := 0) (ss' := 0) ?_ (fun _ _ => rfl)
  refine go_seg 8 (pc' := 63) (ls' := [(4, .int 32), (3, .int 0), (0, .ref 90), (1, .int 2), (2, .int 6)]) (st' := [.int 32, .int 10, .ref 91, .int 0]) (w' := (fw z)) (cs' := 0) (ss' := 0) ?_ (fun _ _ => rfl)
  refine go_seg 8 (pc' := 79) (ls' := [(4, .int 33), (3, .int 0), (0, .ref 90), (1, .int 2), (2, .int 6)]) (st' := []) (w' := (fw z)) (cs' := 0) (ss' := 0) ?_ (fun _ _ => rfl)
  refine go_seg 8 (pc' := 61) (ls' := [(4, .int 33), (3, .int 0), (0, .ref 90), (1, .int 2), (2, .int 6)]) (st' := [.int 10, .ref 91, .int 0]) (w' := (fw z)) (cs' := 0) (ss' := 0) ?_ (fun _ _ => rfl)
  refine go_seg 8 (pc' := 76) (ls' := [(3, .int 0), (4, .int 33), (0, .ref 90), (1, .int 2), (2, .int 6)]) (st' := []) (w' := (fw z)) (cs' := 0) (ss' := 0) ?_ (fun _ _ => rfl)
  refine go_seg 8 (pc' := 59) (ls' := [(4, .int 34), (3, .int 0), (0, .ref 90), (1, .int 2), (2, .int 6)]) (st' := [.ref 91, .int 0]) (w' := (fw z)) (cs' := 0) (ss' := 0) ?_ (fun _ _ => rfl)
  refine go_seg 8 (pc' := 75) (ls' := [(4, .int 34), (3, .int 0), (0, .ref 90), (1, .int 2), (2, .int 6)]) (st' := [.int 0]) (w' := (fw z)) (cs' := 0) (ss' := 0) ?_ (fun _ _ => rfl)
  refine go_seg 8 (pc' := 56) (ls' := [(4, .int 35), (3, .int 0), (0, .ref 90), (1, .int 2), (2, .int 6)]) (st' := [.ref 90, .int 0]) (w' := (fw z)) (cs' := 0) (ss' := 0) ?_ (fun _ _ => rfl)
  refine go_seg 8 (pc' := 74) (ls' := [(4, .int 35), (3, .int 0), (0, .ref 90), (1, .int 2), (2, .int 6)]) (st' := [.int 0, .int 0]) (w' := (fw z)) (cs' := 0) (ss' := 0) ?_ (fun _ _ => rfl)
  refine go_seg 8 (pc' := 55) (ls' := [(4, .int 36), (3, .int 0), (0, .ref 90), (1, .int 2), (2, .int 6)]) (st' := [.int 0]) (w' := (fw z)) (cs' := 0) (ss' := 0) ?_ (fun _ _ => rfl)
  refine go_seg 8 (pc' := 73) (ls' := [(4, .int 36), (3, .int 0), (0, .ref 90), (1, .int 2), (2, .int 6)]) (st' := [.int 0]) (w' := (fw z)) (cs' := 0) (ss' := 0) ?_ (fun _ _ => rfl)
  refine go_seg 8 (pc' := 54) (ls' := [(4, .int 37), (3, .int 0), (0, .ref 90), (1, .int 2), (2, .int 6)]) (st' := []) (w' := (fw z)) (cs' := 0) (ss' := 0) ?_ (fun _ _ => rfl)
  refine go_seg 8 (pc' := 66) (ls' := [(4, .int 37), (3, .int 0), (0, .ref 90), (1, .int 2), (2, .int 6)]) (st' := [.int 2, .int (-1), .int 0]) (w' := (fw z)) (cs' := 0) (ss' := 0) ?_ (fun _ _ => rfl)
  refine go_seg 8 (pc' := 51) (ls' := [(4, .int 38), (3, .int 0), (0, .ref 90), (1, .int 2), (2, .int 6)]) (st' := [.int 64, .int 38]) (w' := (fw z)) (cs' := 0) (ss' := 0) ?_ (fun _ _ => rfl)
  refine go_seg 8 (pc' := 65) (ls' := [(4, .int 38), (3, .int 0), (0, .ref 90), (1, .int 2), (2, .int 6)]) (st' := [.int (-1), .int 0]) (w' := (fw z)) (cs' := 0) (ss' := 0) ?_ (fun _ _ => rfl)
  refine go_seg 8 (pc' := 49) (ls' := [(4, .int 39), (3, .int 0), (0, .ref 90), (1, .int 2), (2, .int 6)]) (st' := [.int 39]) (w' := (fw z)) (cs' := 0) (ss' := 0) ?_ (fun _ _ => rfl)
  refine go_seg 8 (pc' := 64) (ls' := [(4, .int 39), (3, .int 0), (0, .ref 90), (1, .int 2), (2, .int 6)]) (st' := [.int 49, .ref 91, .int 0]) (w' := (fw z)) (cs' := 0) (ss' := 0) ?_ (fun _ _ => rfl)
  refine go_seg 8 (pc' := 47) (ls' := [(4, .int 40), (3, .int 0), (0, .ref 90), (1, .int 2), (2, .int 6)]) (st' := []) (w' := (fw z)) (cs' := 0) (ss' := 0) ?_ (fun _ _ => rfl)
  refine go_seg 8 (pc' := 63) (ls' := [(4, .int 40), (3, .int 0), (0, .ref 90), (1, .int 2), (2, .int 6)]) (st' := [.int 40, .int 10, .ref 91, .int 0]) (w' := (fw z)) (cs' := 0) (ss' := 0) ?_ (fun _ _ => rfl)
  refine go_seg 8 (pc' := 79) (ls' := [(4, .int 41), (3, .int 0), (0, .ref 90), (1, .int 2), (2, .int 6)]) (st' := []) (w' := (fw z)) (cs' := 0) (ss' := 0) ?_ (fun _ _ => rfl)
  refine go_seg 8 (pc' := 61) (ls' := [(4, .int 41), (3, .int 0), (0, .ref 90), (1, .int 2), (2, .int 6)]) (st' := [.int 10, .ref 91, .int 0]) (w' := (fw z)) (cs' := 0) (ss' := 0) ?_ (fun _ _ => rfl)
  refine go_seg 8 (pc' := 76) (ls' := [(3, .int 0), (4, .int 41), (0, .ref 90), (1, .int 2), (2, .int 6)]) (st' := []) (w' := (fw z)) (cs' := 0) (ss' := 0) ?_ (fun _ _ => rfl)
  refine go_seg 8 (pc' := 59) (ls' := [(4, .int 42), (3, .int 0), (0, .ref 90), (1, .int 2), (2, .int 6)]) (st' := [.ref 91, .int 0]) (w' := (fw z)) (cs' := 0) (ss' := 0) ?_ (fun _ _ => rfl)
  refine go_seg 8 (pc' := 75) (ls' := [(4, .int 42), (3, .int 0), (0, .ref 90), (1, .int 2), (2, .int 6)]) (st' := [.int 0]) (w' := (fw z)) (cs' := 0) (ss' := 0) ?_ (fun _ _ => rfl)
  refine go_seg 8 (pc' := 56) (ls' := [(4, .int 43), (3, .int 0), (0, .ref 90), (1, .int 2), (2, .int 6)]) (st' := [.ref 90, .int 0]) (w' := (fw z)) (cs' := 0) (ss' := 0) ?_ (fun _ _ => rfl)
  refine go_seg 8 (pc' := 74) (ls' := [(4, .int 43), (3, .int 0), (0, .ref 90), (1, .int 2), (2, .int 6)]) (st' := [.int 0, .int 0]) (w' := (fw z)) (cs' := 0) (ss' := 0) ?_ (fun _ _ => rfl)
  refine go_seg 8 (pc' := 55) (ls' := [(4, .int 44), (3, .int 0), (0, .ref 90), (1, .int 2), (2, .int 6)]) (st' := [.int 0]) (w' := (fw z)) (cs' := 0) (ss' := 0) ?_ (fun _ _ => rfl)
  refine go_seg 8 (pc' := 73) (ls' := [(4, .int 44), (3, .int 0), (0, .ref 90), (1, .int 2), (2, .int 6)]) (st' := [.int 0]) (w' := (fw z)) (cs' := 0) (ss' := 0) ?_ (fun _ _ => rfl)
  refine go_seg 8 (pc' := 54) (ls' := [(4, .int 45), (3, .int 0), (0, .ref 90), (1, .int 2), (2, .int 6)]) (st' := []) (w' := (fw z)) (cs' := 0) (ss' := 0) ?_ (fun _ _ => rfl)
  refine go_seg 8 (pc' := 66) (ls' := [(4, .int 45), (3, .int 0), (0, .ref 90), (1, .int 2), (2, .int 6)]) (st' := [.int 2, .int (-1), .int 0]) (w' := (fw z)) (cs' := 0) (ss' := 0) ?_ (fun _ _ => rfl)
  refine go_seg 8 (pc' := 51) (ls' := [(4, .int 46), (3, .int 0), (0, .ref 90), (1, .int 2), (2, .int 6)]) (st' := [.int 64, .int 46]) (w' := (fw z)) (cs' := 0) (ss' := 0) ?_ (fun _ _ => rfl)
  refine go_seg 8 (pc' := 65) (ls' := [(4, .int 46), (3, .int 0), (0, .ref 90), (1, .int 2), (2, .int 6)]) (st' := [.int (-1), .int 0]) (w' := (fw z)) (cs' := 0) (ss' := 0) ?_ (fun _ _ => rfl)
  refine go_seg 8 (pc' := 49) (ls' := [(4, .int 47), (3, .int 0), (0, .ref 90), (1, .int 2), (2, .int 6)]) (st' := [.int 47]) (w' := (fw z)) (cs' := 0) (ss' := 0) ?_ (fun _ _ => rfl)
  refine go_seg 8 (pc' := 64) (ls' := [(4, .int 47), (3, .int 0), (0, .ref 90), (1, .int 2), (2, .int 6)]) (st' := [.int 57, .ref 91, .int 0]) (w' := (fw z)) (cs' := 0) (ss' := 0) ?_ (fun _ _ => rfl)
  refine go_seg 8 (pc' := 47) (ls' := [(4, .int 48), (3, .int 0), (0, .ref 90), (1, .int 2), (2, .int 6)]) (st' := []) (w' := (fw z)) (cs' := 0) (ss' := 0) ?_ (fun _ _ => rfl)
  refine go_seg 8 (pc' := 63) (ls' := [(4, .int 48), (3, .int 0), (0, .ref 90), (1, .int 2), (2, .int 6)]) (st' := [.int 48, .int 10, .ref 91, .int 0]) (w' := (fw z)) (cs' := 0) (ss' := 0) ?_ (fun _ _ => rfl)
  refine go_seg 8 (pc' := 79) (ls' := [(4, .int 49), (3, .int 0), (0, .ref 90), (1, .int 2), (2, .int 6)]) (st' := []) (w' := (fw z)) (cs' := 0) (ss' := 0) ?_ (fun _ _ => rfl)
  refine go_seg 8 (pc' := 61) (ls' := [(4, .int 49), (3, .int 0), (0, .ref 90), (1, .int 2), (2, .int 6)]) (st' := [.int 10, .ref 91, .int 0]) (w' := (fw z)) (cs' := 0) (ss' := 0) ?_ (fun _ _ => rfl)
  refine go_seg 8 (pc' := 76) (ls' := [(3, .int 0), (4, .int 49), (0, .ref 90), (1, .int 2), (2, .int 6)]) (st' := []) (w' := (fw z)) (cs' := 0) (ss' := 0) ?_ (fun _ _ => rfl)
  refine go_seg 8 (pc' := 59) (ls' := [(4, .int 50), (3, .int 0), (0, .ref 90), (1, .int 2), (2, .int 6)]) (st' := [.ref 91, .int 0]) (w' := (fw z)) (cs' := 0) (ss' := 0) ?_ (fun _ _ => rfl)
  refine go_seg 8 (pc' := 75) (ls' := [(4, .int 50), (3, .int 0), (0, .ref 90), (1, .int 2), (2, .int 6)]) (st' := [.int 0]) (w' := (fw z)) (cs' := 0) (ss' := 0) ?_ (fun _ _ => rfl)
  refine go_seg 8 (pc' := 56) (ls' := [(4, .int 51), (3, .int 0), (0, .ref 90), (1, .int 2), (2, .int 6)]) (st' := [.ref 90, .int 0]) (w' := (fw z)) (cs' := 0) (ss' := 0) ?_ (fun _ _ => rfl)
  refine go_seg 8 (pc' := 74) (ls' := [(4, .int 51), (3, .int 0), (0, .ref 90), (1, .int 2), (2, .int 6)]) (st' := [.int 0, .int 0]) (w' := (fw z)) (cs' := 0) (ss' := 0) ?_ (fun _ _ => rfl)
  refine go_seg 8 (pc' := 55) (ls' := [(4, .int 52), (3, .int 0), (0, .ref 90), (1, .int 2), (2, .int 6)]) (st' := [.int 0]) (w' := (fw z)) (cs' := 0) (ss' := 0) ?_ (fun _ _ => rfl)
  refine go_seg 8 (pc' := 73) (ls' := [(4, .int 52), (3, .int 0), (0, .ref 90), (1, .int 2), (2, .int 6)]) (st' := [.int 0]) (w' := (fw z)) (cs' := 0) (ss' := 0) ?_ (fun _ _ => rfl)
  refine go_seg 8 (pc' := 54) (ls' := [(4, .int 53), (3, .int 0), (0, .ref 90), (1, .int 2), (2, .int 6)]) (st' := []) (w' := (fw z)) (cs' := 0) (ss' := 0) ?_ (fun _ _ => rfl)
  refine go_seg 8 (pc' := 66) (ls' := [(4, .int 53), (3, .int 0), (0, .ref 90), (1, .int 2), (2, .int 6)]) (st' := [.int 2, .int (-1), .int 0]) (w' := (fw z)) (cs' := 0) (ss' := 0) ?_ (fun _ _ => rfl)
  refine go_seg 8 (pc' := 51) (ls' := [(4, .int 54), (3, .int 0), (0, .ref 90), (1, .int 2), (2, .int 6)]) (st' := [.int 64, .int 54]) (w' := (fw z)) (cs' := 0) (ss' := 0) ?_ (fun _ _ => rfl)
  refine go_seg 8 (pc' := 65) (ls' := [(4, .int 54), (3, .int 0), (0, .ref 90), (1, .int 2), (2, .int 6)]) (st' := [.int (-1), .int 0]) (w' := (fw z)) (cs' := 0) (ss' := 0) ?_ (fun _ _ => rfl)
  refine go_seg 8 (pc' := 49) (ls' := [(4, .int 55), (3, .int 0), (0, .ref 90), (1, .int 2), (2, .int 6)]) (st' := [.int 55]) (w' := (fw z)) (cs' := 0) (ss' := 0) ?_ (fun _ _ => rfl)
  refine go_seg 8 (pc' := 64) (ls' := [(4, .int 55), (3, .int 0), (0, .ref 90), (1, .int 2), (2, .int 6)]) (st' := [.int 65, .ref 91, .int 0]) (w' := (fw z)) (cs' := 0) (ss' := 0) ?_ (fun _ _ => rfl)
  refine go_seg 8 (pc' := 47) (ls' := [(4, .int 56), (3, .int 0), (0, .ref 90), (1, .int 2), (2, .int 6)]) (st' := []) (w' := (fw z)) (cs' := 0) (ss' := 0) ?_ (fun _ _ => rfl)
  refine go_seg 8 (pc' := 63) (ls' := [(4, .int 56), (3, .int 0), (0, .ref 90), (1, .int 2), (2, .int 6)]) (st' := [.int 56, .int 10, .ref 91, .int 0]) (w' := (fw z)) (cs' := 0) (ss' := 0) ?_ (fun _ _ => rfl)
  refine go_seg 8 (pc' := 79) (ls' := [(4, .int 57), (3, .int 0), (0, .ref 90), (1, .int 2), (2, .int 6)]) (st' := []) (w' := (fw z)) (cs' := 0) (ss' := 0) ?_ (fun _ _ => rfl)
  refine go_seg 8 (pc' := 61) (ls' := [(4, .int 57), (3, .int 0), (0, .ref 90), (1, .int 2), (2, .int 6)]) (st' := [.int 10, .ref 91, .int 0]) (w' := (fw z)) (cs' := 0) (ss' := 0) ?_ (fun _ _ => rfl)
  refine go_seg 8 (pc' := 76) (ls' := [(3, .int 0), (4, .int 57), (0, .ref 90), (1, .int 2), (2, .int 6)]) (st' := []) (w' := (fw z)) (cs' := 0) (ss' := 0) ?_ (fun _ _ => rfl)
  refine go_seg 8 (pc' := 59) (ls' := [(4, .int 58), (3, .int 0), (0, .ref 90), (1, .int 2), (2, .int 6)]) (st' := [.ref 91, .int 0]) (w' := (fw z)) (cs' := 0) (ss' := 0) ?_ (fun _ _ => rfl)
  refine go_seg 8 (pc' := 75) (ls' := [(4, .int 58), (3, .int 0), (0, .ref 90), (1, .int 2), (2, .int 6)]) (st' := [.int 0]) (w' := (fw z)) (cs' := 0) (ss' := 0) ?_ (fun _ _ => rfl)
  refine go_seg 8 (pc' := 56) (ls' := [(4, .int 59), (3, .int 0), (0, .ref 90), (1, .int 2), (2, .int 6)]) (st' := [.ref 90, .int 0]) (w' := (fw z)) (cs' := 0) (ss' := 0) ?_ (fun _ _ => rfl)
  refine go_seg 8 (pc' := 74) (ls' := [(4, .int 59), (3, .int 0), (0, .ref 90), (1, .int 2), (2, .int 6)]) (st' := [.int 0, .int 0]) (w' := (fw z)) (cs' := 0) (ss' := 0) ?_ (fun _ _ => rfl)
  refine go_seg 8 (pc' := 55) (ls' := [(4, .int 60), (3, .int 0), (0, .ref 90), (1, .int 2), (2, .int 6)]) (st' := [.int 0]) (w' := (fw z)) (cs' := 0) (ss' := 0) ?_ (fun _ _ => rfl)
  refine go_seg 8 (pc' := 73) (ls' := [(4, .int 60), (3, .int 0), (0, .ref 90), (1, .int 2), (2, .int 6)]) (st' := [.int 0]) (w' := (fw z)) (cs' := 0) (ss' := 0) ?_ (fun _ _ => rfl)
  refine go_seg 8 (pc' := 54) (ls' := [(4, .int 61), (3, .int 0), (0, .ref 90), (1, .int 2), (2, .int 6)]) (st' := []) (w' := (fw z)) (cs' := 0) (ss' := 0) ?_ (fun _ _ => rfl)
  refine go_seg 8 (pc' := 66) (ls' := [(4, .int 61), (3, .int 0), (0, .ref 90), (1, .int 2), (2, .int 6)]) (st' := [.int 2, .int (-1), .int 0]) (w' := (fw z)) (cs' := 0) (ss' := 0) ?_ (fun _ _ => rfl)
  refine go_seg 8 (pc' := 51) (ls' := [(4, .int 62), (3, .int 0), (0, .ref 90), (1, .int 2), (2, .int 6)]) (st' := [.int 64, .int 62]) (w' := (fw z)) (cs' := 0) (ss' := 0) ?_ (fun _ _ => rfl)
  refine go_seg 8 (pc' := 65) (ls' := [(4, .int 62), (3, .int 0), (0, .ref 90), (1, .int 2), (2, .int 6)]) (st' := [.int (-1), .int 0]) (w' := (fw z)) (cs' := 0) (ss' := 0) ?_ (fun _ _ => rfl)
  refine go_seg 8 (pc' := 49) (ls' := [(4, .int 63), (3, .int 0), (0, .ref 90), (1, .int 2), (2, .int 6)]) (st' := [.int 63]) (w' := (fw z)) (cs' := 0) (ss' := 0) ?_ (fun _ _ => rfl)
  refine go_seg 8 (pc' := 64) (ls' := [(4, .int 63), (3, .int 0), (0, .ref 90), (1, .int 2), (2, .int 6)]) (st' := [.int 73, .ref 91, .int 0]) (w' := (fw z)) (cs' := 0) (ss' := 0) ?_ (fun _ _ => rfl)
  refine go_seg 8 (pc' := 47) (ls' := [(4, .int 64), (3, .int 0), (0, .ref 90), (1, .int 2), (2, .int 6)]) (st' := []) (w' := (fw z)) (cs' := 0) (ss' := 0) ?_ (fun _ _ => rfl)
  refine go_seg 8 (pc' := 94) (ls' := [(4, .int 64), (3, .int 0), (0, .ref 90), (1, .int 2), (2, .int 6)]) (st' := [.int 6, .int 6]) (w' := (fw z)) (cs' := 0) (ss' := 0) ?_ (fun _ _ => rfl)
  refine go_seg 3 (pc' := 99) (ls' := [(4, .int 64), (3, .int 0), (0, .ref 90), (1, .int 2), (2, .int 6)]) (st' := [.int 2, .ref 90]) (w' := (fw z)) (cs' := 0) (ss' := 0) ?_ (fun _ _ => rfl)
  refine go_cl (k := 2) (st' := [.int 0]) (cs' := 0) (ss' := 0) rfl rfl rfl rfl rfl rfl rfl (ro_477 z) ?_
  exact go_end 2 (fun _ _ => rfl)
theorem lf_4_1129 (a0 : Int32) (a3 : Int32) (a4 : Int32) (a5 : Int32) : ∃ w', pq_Go 20 pm_law 370 [(3, .int 0), (2, .ref 90), (1, .ref 1), (0, .ref 0)] [] (fw (sz a0 2 6 a3 a4 a5)) 109 12668 (some (.int 1), w') := by
  refine ⟨(fw (sz a0 2 6 a3 a4 a5)), ?_⟩
  refine go_seg 8 (pc' := 378) (ls' := [(3, .int 0), (2, .ref 90), (1, .ref 1), (0, .ref 0)]) (st' := [.int 0, .ref 0, .int 2, .ref 1]) (w' := (fw (sz a0 2 6 a3 a4 a5))) (cs' := 109) (ss' := 12668) ?_ (fun _ _ => rfl)
  refine go_seg 3 (pc' := 381) (ls' := [(3, .int 0), (2, .ref 90), (1, .ref 1), (0, .ref 0)]) (st' := [.int 6, .int 2, .ref 1]) (w' := (fw (sz a0 2 6 a3 a4 a5))) (cs' := 109) (ss' := 12668) ?_ (fun _ _ => rfl)
  refine go_cl (k := 20) (st' := [.int 0]) (cs' := 109) (ss' := 12668) rfl rfl rfl rfl rfl rfl rfl (ro_1127 (sz a0 2 6 a3 a4 a5)) ?_
  refine go_seg 8 (pc' := 392) (ls' := [(3, .int 0), (2, .ref 90), (1, .ref 1), (0, .ref 0)]) (st' := [.int 0, .ref 0, .int 2, .ref 90, .int 0]) (w' := (fw (sz a0 2 6 a3 a4 a5))) (cs' := 109) (ss' := 12668) ?_ (fun _ _ => rfl)
  refine go_seg 3 (pc' := 395) (ls' := [(3, .int 0), (2, .ref 90), (1, .ref 1), (0, .ref 0)]) (st' := [.int 6, .int 2, .ref 90, .int 0]) (w' := (fw (sz a0 2 6 a3 a4 a5))) (cs' := 109) (ss' := 12668) ?_ (fun _ _ => rfl)
  refine go_cl (k := 20) (st' := [.int 0, .int 0]) (cs' := 109) (ss' := 12668) rfl rfl rfl rfl rfl rfl rfl (ro_1128 (sz a0 2 6 a3 a4 a5)) ?_
  refine go_cmp true rfl (br_self _) ?_
  exact law_tail (f := sc a0 2 6 a3 a4 a5) rfl
theorem ro_1130 (z : pq_C) : pq_Ru 2 27 [.ref 11, .int 3] (fw z) (some (.int 0), (fw z)) := by
  refine ru_of (k := 1) (M := pm_27) rfl rfl ?_
  refine go_seg 8 (pc' := 11) (ls' := [(3, .int 0), (2, .int 0), (0, .ref 11), (1, .int 3)]) (st' := [.int 3]) (w' := (fw z)) (cs' := 0) (ss' := 0) ?_ (fun _ _ => rfl)
  refine go_cl (k := 1) (st' := [.int 1]) (cs' := 0) (ss' := 0) rfl rfl rfl rfl rfl rfl rfl (ro_576 z) ?_
  refine go_seg 8 (pc' := 27) (ls' := [(3, .int 0), (2, .int 0), (0, .ref 11), (1, .int 3)]) (st' := [.int 3, .int 0, .ref 14, .int 0]) (w' := (fw z)) (cs' := 0) (ss' := 0) ?_ (fun _ _ => rfl)
  refine go_seg 8 (pc' := 7) (ls' := [(3, .int 1), (2, .int 0), (0, .ref 11), (1, .int 3)]) (st' := [.int 8, .int 1]) (w' := (fw z)) (cs' := 0) (ss' := 0) ?_ (fun _ _ => rfl)
  refine go_seg 2 (pc' := 11) (ls' := [(3, .int 1), (2, .int 0), (0, .ref 11), (1, .int 3)]) (st' := [.int 3]) (w' := (fw z)) (cs' := 0) (ss' := 0) ?_ (fun _ _ => rfl)
  refine go_cl (k := 1) (st' := [.int 1]) (cs' := 0) (ss' := 0) rfl rfl rfl rfl rfl rfl rfl (ro_576 z) ?_
  refine go_seg 8 (pc' := 27) (ls' := [(3, .int 1), (2, .int 0), (0, .ref 11), (1, .int 3)]) (st' := [.int 3, .int 8, .ref 14, .int 0]) (w' := (fw z)) (cs' := 0) (ss' := 0) ?_ (fun _ _ => rfl)
  refine go_seg 8 (pc' := 7) (ls' := [(3, .int 2), (2, .int 0), (0, .ref 11), (1, .int 3)]) (st' := [.int 8, .int 2]) (w' := (fw z)) (cs' := 0) (ss' := 0) ?_ (fun _ _ => rfl)
  refine go_seg 2 (pc' := 11) (ls' := [(3, .int 2), (2, .int 0), (0, .ref 11), (1, .int 3)]) (st' := [.int 3]) (w' := (fw z)) (cs' := 0) (ss' := 0) ?_ (fun _ _ => rfl)
  refine go_cl (k := 1) (st' := [.int 1]) (cs' := 0) (ss' := 0) rfl rfl rfl rfl rfl rfl rfl (ro_576 z) ?_
  refine go_seg 8 (pc' := 27) (ls' := [(3, .int 2), (2, .int 0), (0, .ref 11), (1, .int 3)]) (st' := [.int 3, .int 16, .ref 14, .int 0]) (w' := (fw z)) (cs' := 0) (ss' := 0) ?_ (fun _ _ => rfl)
  refine go_seg 8 (pc' := 7) (ls' := [(3, .int 3), (2, .int 0), (0, .ref 11), (1, .int 3)]) (st' := [.int 8, .int 3]) (w' := (fw z)) (cs' := 0) (ss' := 0) ?_ (fun _ _ => rfl)
  refine go_seg 2 (pc' := 11) (ls' := [(3, .int 3), (2, .int 0), (0, .ref 11), (1, .int 3)]) (st' := [.int 3]) (w' := (fw z)) (cs' := 0) (ss' := 0) ?_ (fun _ _ => rfl)
  refine go_cl (k := 1) (st' := [.int 1]) (cs' := 0) (ss' := 0) rfl rfl rfl rfl rfl rfl rfl (ro_576 z) ?_
  refine go_seg 8 (pc' := 27) (ls' := [(3, .int 3), (2, .int 0), (0, .ref 11), (1, .int 3)]) (st' := [.int 3, .int 24, .ref 14, .int 0]) (w' := (fw z)) (cs' := 0) (ss' := 0) ?_ (fun _ _ => rfl)
  refine go_seg 8 (pc' := 7) (ls' := [(3, .int 4), (2, .int 0), (0, .ref 11), (1, .int 3)]) (st' := [.int 8, .int 4]) (w' := (fw z)) (cs' := 0) (ss' := 0) ?_ (fun _ _ => rfl)
  refine go_seg 2 (pc' := 11) (ls' := [(3, .int 4), (2, .int 0), (0, .ref 11), (1, .int 3)]) (st' := [.int 3]) (w' := (fw z)) (cs' := 0) (ss' := 0) ?_ (fun _ _ => rfl)
  refine go_cl (k := 1) (st' := [.int 1]) (cs' := 0) (ss' := 0) rfl rfl rfl rfl rfl rfl rfl (ro_576 z) ?_
  refine go_seg 8 (pc' := 27) (ls' := [(3, .int 4), (2, .int 0), (0, .ref 11), (1, .int 3)]) (st' := [.int 3, .int 32, .ref 14, .int 0]) (w' := (fw z)) (cs' := 0) (ss' := 0) ?_ (fun _ _ => rfl)
  refine go_seg 8 (pc' := 7) (ls' := [(3, .int 5), (2, .int 0), (0, .ref 11), (1, .int 3)]) (st' := [.int 8, .int 5]) (w' := (fw z)) (cs' := 0) (ss' := 0) ?_ (fun _ _ => rfl)
  refine go_seg 2 (pc' := 11) (ls' := [(3, .int 5), (2, .int 0), (0, .ref 11), (1, .int 3)]) (st' := [.int 3]) (w' := (fw z)) (cs' := 0) (ss' := 0) ?_ (fun _ _ => rfl)
  refine go_cl (k := 1) (st' := [.int 1]) (cs' := 0) (ss' := 0) rfl rfl rfl rfl rfl rfl rfl (ro_576 z) ?_
  refine go_seg 8 (pc' := 27) (ls' := [(3, .int 5), (2, .int 0), (0, .ref 11), (1, .int 3)]) (st' := [.int 3, .int 40, .ref 14, .int 0]) (w' := (fw z)) (cs' := 0) (ss' := 0) ?_ (fun _ _ => rfl)
  refine go_seg 8 (pc' := 7) (ls' := [(3, .int 6), (2, .int 0), (0, .ref 11), (1, .int 3)]) (st' := [.int 8, .int 6]) (w' := (fw z)) (cs' := 0) (ss' := 0) ?_ (fun _ _ => rfl)
  refine go_seg 2 (pc' := 11) (ls' := [(3, .int 6), (2, .int 0), (0, .ref 11), (1, .int 3)]) (st' := [.int 3]) (w' := (fw z)) (cs' := 0) (ss' := 0) ?_ (fun _ _ => rfl)
  refine go_cl (k := 1) (st' := [.int 1]) (cs' := 0) (ss' := 0) rfl rfl rfl rfl rfl rfl rfl (ro_576 z) ?_
  refine go_seg 8 (pc' := 27) (ls' := [(3, .int 6), (2, .int 0), (0, .ref 11), (1, .int 3)]) (st' := [.int 3, .int 48, .ref 14, .int 0]) (w' := (fw z)) (cs' := 0) (ss' := 0) ?_ (fun _ _ => rfl)
  refine go_seg 8 (pc' := 7) (ls' := [(3, .int 7), (2, .int 0), (0, .ref 11), (1, .int 3)]) (st' := [.int 8, .int 7]) (w' := (fw z)) (cs' := 0) (ss' := 0) ?_ (fun _ _ => rfl)
  refine go_seg 2 (pc' := 11) (ls' := [(3, .int 7), (2, .int 0), (0, .ref 11), (1, .int 3)]) (st' := [.int 3]) (w' := (fw z)) (cs' := 0) (ss' := 0) ?_ (fun _ _ => rfl)
  refine go_cl (k := 1) (st' := [.int 1]) (cs' := 0) (ss' := 0) rfl rfl rfl rfl rfl rfl rfl (ro_576 z) ?_
  refine go_seg 8 (pc' := 27) (ls' := [(3, .int 7), (2, .int 0), (0, .ref 11), (1, .int 3)]) (st' := [.int 3, .int 56, .ref 14, .int 0]) (w' := (fw z)) (cs' := 0) (ss' := 0) ?_ (fun _ _ => rfl)
  refine go_seg 8 (pc' := 7) (ls' := [(3, .int 8), (2, .int 0), (0, .ref 11), (1, .int 3)]) (st' := [.int 8, .int 8]) (w' := (fw z)) (cs' := 0) (ss' := 0) ?_ (fun _ _ => rfl)
  exact go_end 3 (fun _ _ => rfl)
theorem ro_1131 (z : pq_C) : pq_Ru 3 25 [.ref 1, .int 3, .int 6] (fw z) (some (.int 0), (fw z)) := by
  refine ru_of (k := 2) (M := pm_25) rfl rfl ?_
  refine go_seg 1 (pc' := 1) (ls' := [(0, .ref 1), (1, .int 3), (2, .int 6)]) (st' := [.int 3]) (w' := (fw z)) (cs' := 0) (ss' := 0) ?_ (fun _ _ => rfl)
  refine go_cl (k := 2) (st' := [.int 1]) (cs' := 0) (ss' := 0) rfl rfl rfl rfl rfl rfl rfl (ro_576 z) ?_
  refine go_seg 6 (pc' := 124) (ls' := [(0, .ref 1), (1, .int 3), (2, .int 6)]) (st' := [.int 3, .ref 11]) (w' := (fw z)) (cs' := 0) (ss' := 0) ?_ (fun _ _ => rfl)
  refine go_cl (k := 2) (st' := [.int 0]) (cs' := 0) (ss' := 0) rfl rfl rfl rfl rfl rfl rfl (ro_1130 z) ?_
  exact go_end 1 (fun _ _ => rfl)
theorem ro_1132 (z : pq_C) : pq_Ru 3 169 [.ref 90, .int 3, .int 6] (fw z) (some (.int 0), (fw z)) := by
  refine ru_of (k := 2) (M := pm_169) rfl rfl ?_
  refine go_seg 1 (pc' := 1) (ls' := [(0, .ref 90), (1, .int 3), (2, .int 6)]) (st' := [.int 3]) (w' := (fw z)) (cs' := 0) (ss' := 0) ?_ (fun _ _ => rfl)
  refine go_cl (k := 2) (st' := [.int 1]) (cs' := 0) (ss' := 0) rfl rfl rfl rfl rfl rfl rfl (ro_958 z) ?_
  refine go_seg 5 (pc' := 13) (ls' := [(0, .ref 90), (1, .int 3), (2, .int 6)]) (st' := [.long 7, .long 0, .long 6]) (w' := (fw z)) (cs' := 0) (ss' := 0) ?_ (fun _ _ => rfl)
  refine go_cl (k := 2) (st' := [.int 1]) (cs' := 0) (ss' := 0) rfl rfl rfl rfl rfl rfl rfl (ro_975 z) ?_
  refine go_seg 8 (pc' := 47) (ls' := [(4, .int 0), (3, .int 0), (0, .ref 90), (1, .int 3), (2, .int 6)]) (st' := []) (w' := (fw z)) (cs' := 0) (ss' := 0) ?_ (fun _ _ => rfl)
  refine go_seg 8 (pc' := 63) (ls' := [(4, .int 0), (3, .int 0), (0, .ref 90), (1, .int 3), (2, .int 6)]) (st' := [.int 0, .int 10, .ref 91, .int 0]) (w' := (fw z)) (cs' := 0) (ss' := 0) ?_ (fun _ _ => rfl)
  refine go_seg 8 (pc' := 79) (ls' := [(4, .int 1), (3, .int 0), (0, .ref 90), (1, .int 3), (2, .int 6)]) (st' := []) (w' := (fw z)) (cs' := 0) (ss' := 0) ?_ (fun _ _ => rfl)
  refine go_seg 8 (pc' := 61) (ls' := [(4, .int 1), (3, .int 0), (0, .ref 90), (1, .int 3), (2, .int 6)]) (st' := [.int 10, .ref 91, .int 0]) (w' := (fw z)) (cs' := 0) (ss' := 0) ?_ (fun _ _ => rfl)
  refine go_seg 8 (pc' := 76) (ls' := [(3, .int 0), (4, .int 1), (0, .ref 90), (1, .int 3), (2, .int 6)]) (st' := []) (w' := (fw z)) (cs' := 0) (ss' := 0) ?_ (fun _ _ => rfl)
  refine go_seg 8 (pc' := 59) (ls' := [(4, .int 2), (3, .int 0), (0, .ref 90), (1, .int 3), (2, .int 6)]) (st' := [.ref 91, .int 0]) (w' := (fw z)) (cs' := 0) (ss' := 0) ?_ (fun _ _ => rfl)
  refine go_seg 8 (pc' := 75) (ls' := [(4, .int 2), (3, .int 0), (0, .ref 90), (1, .int 3), (2, .int 6)]) (st' := [.int 0]) (w' := (fw z)) (cs' := 0) (ss' := 0) ?_ (fun _ _ => rfl)
  refine go_seg 8 (pc' := 56) (ls' := [(4, .int 3), (3, .int 0), (0, .ref 90), (1, .int 3), (2, .int 6)]) (st' := [.ref 90, .int 0]) (w' := (fw z)) (cs' := 0) (ss' := 0) ?_ (fun _ _ => rfl)
  refine go_seg 8 (pc' := 74) (ls' := [(4, .int 3), (3, .int 0), (0, .ref 90), (1, .int 3), (2, .int 6)]) (st' := [.int 0, .int 0]) (w' := (fw z)) (cs' := 0) (ss' := 0) ?_ (fun _ _ => rfl)
  refine go_seg 8 (pc' := 55) (ls' := [(4, .int 4), (3, .int 0), (0, .ref 90), (1, .int 3), (2, .int 6)]) (st' := [.int 0]) (w' := (fw z)) (cs' := 0) (ss' := 0) ?_ (fun _ _ => rfl)
  refine go_seg 8 (pc' := 73) (ls' := [(4, .int 4), (3, .int 0), (0, .ref 90), (1, .int 3), (2, .int 6)]) (st' := [.int 0]) (w' := (fw z)) (cs' := 0) (ss' := 0) ?_ (fun _ _ => rfl)
  refine go_seg 8 (pc' := 54) (ls' := [(4, .int 5), (3, .int 0), (0, .ref 90), (1, .int 3), (2, .int 6)]) (st' := []) (w' := (fw z)) (cs' := 0) (ss' := 0) ?_ (fun _ _ => rfl)
  refine go_seg 8 (pc' := 66) (ls' := [(4, .int 5), (3, .int 0), (0, .ref 90), (1, .int 3), (2, .int 6)]) (st' := [.int 3, .int (-1), .int 0]) (w' := (fw z)) (cs' := 0) (ss' := 0) ?_ (fun _ _ => rfl)
  refine go_seg 8 (pc' := 51) (ls' := [(4, .int 6), (3, .int 0), (0, .ref 90), (1, .int 3), (2, .int 6)]) (st' := [.int 64, .int 6]) (w' := (fw z)) (cs' := 0) (ss' := 0) ?_ (fun _ _ => rfl)
  refine go_seg 8 (pc' := 65) (ls' := [(4, .int 6), (3, .int 0), (0, .ref 90), (1, .int 3), (2, .int 6)]) (st' := [.int (-1), .int 0]) (w' := (fw z)) (cs' := 0) (ss' := 0) ?_ (fun _ _ => rfl)
  refine go_seg 8 (pc' := 49) (ls' := [(4, .int 7), (3, .int 0), (0, .ref 90), (1, .int 3), (2, .int 6)]) (st' := [.int 7]) (w' := (fw z)) (cs' := 0) (ss' := 0) ?_ (fun _ _ => rfl)
  refine go_seg 8 (pc' := 64) (ls' := [(4, .int 7), (3, .int 0), (0, .ref 90), (1, .int 3), (2, .int 6)]) (st' := [.int 17, .ref 91, .int 0]) (w' := (fw z)) (cs' := 0) (ss' := 0) ?_ (fun _ _ => rfl)
  refine go_seg 8 (pc' := 47) (ls' := [(4, .int 8), (3, .int 0), (0, .ref 90), (1, .int 3), (2, .int 6)]) (st' := []) (w' := (fw z)) (cs' := 0) (ss' := 0) ?_ (fun _ _ => rfl)
  refine go_seg 8 (pc' := 63) (ls' := [(4, .int 8), (3, .int 0), (0, .ref 90), (1, .int 3), (2, .int 6)]) (st' := [.int 8, .int 10, .ref 91, .int 0]) (w' := (fw z)) (cs' := 0) (ss' := 0) ?_ (fun _ _ => rfl)
  refine go_seg 8 (pc' := 79) (ls' := [(4, .int 9), (3, .int 0), (0, .ref 90), (1, .int 3), (2, .int 6)]) (st' := []) (w' := (fw z)) (cs' := 0) (ss' := 0) ?_ (fun _ _ => rfl)
  refine go_seg 8 (pc' := 61) (ls' := [(4, .int 9), (3, .int 0), (0, .ref 90), (1, .int 3), (2, .int 6)]) (st' := [.int 10, .ref 91, .int 0]) (w' := (fw z)) (cs' := 0) (ss' := 0) ?_ (fun _ _ => rfl)
  refine go_seg 8 (pc' := 76) (ls' := [(3, .int 0), (4, .int 9), (0, .ref 90), (1, .int 3), (2, .int 6)]) (st' := []) (w' := (fw z)) (cs' := 0) (ss' := 0) ?_ (fun _ _ => rfl)
  refine go_seg 8 (pc' := 59) (ls' := [(4, .int 10), (3, .int 0), (0, .ref 90), (1, .int 3), (2, .int 6)]) (st' := [.ref 91, .int 0]) (w' := (fw z)) (cs' := 0) (ss' := 0) ?_ (fun _ _ => rfl)
  refine go_seg 8 (pc' := 75) (ls' := [(4, .int 10), (3, .int 0), (0, .ref 90), (1, .int 3), (2, .int 6)]) (st' := [.int 0]) (w' := (fw z)) (cs' := 0) (ss' := 0) ?_ (fun _ _ => rfl)
  refine go_seg 8 (pc' := 56) (ls' := [(4, .int 11), (3, .int 0), (0, .ref 90), (1, .int 3), (2, .int 6)]) (st' := [.ref 90, .int 0]) (w' := (fw z)) (cs' := 0) (ss' := 0) ?_ (fun _ _ => rfl)
  refine go_seg 8 (pc' := 74) (ls' := [(4, .int 11), (3, .int 0), (0, .ref 90), (1, .int 3), (2, .int 6)]) (st' := [.int 0, .int 0]) (w' := (fw z)) (cs' := 0) (ss' := 0) ?_ (fun _ _ => rfl)
  refine go_seg 8 (pc' := 55) (ls' := [(4, .int 12), (3, .int 0), (0, .ref 90), (1, .int 3), (2, .int 6)]) (st' := [.int 0]) (w' := (fw z)) (cs' := 0) (ss' := 0) ?_ (fun _ _ => rfl)
  refine go_seg 8 (pc' := 73) (ls' := [(4, .int 12), (3, .int 0), (0, .ref 90), (1, .int 3), (2, .int 6)]) (st' := [.int 0]) (w' := (fw z)) (cs' := 0) (ss' := 0) ?_ (fun _ _ => rfl)
  refine go_seg 8 (pc' := 54) (ls' := [(4, .int 13), (3, .int 0), (0, .ref 90), (1, .int 3), (2, .int 6)]) (st' := []) (w' := (fw z)) (cs' := 0) (ss' := 0) ?_ (fun _ _ => rfl)
  refine go_seg 8 (pc' := 66) (ls' := [(4, .int 13), (3, .int 0), (0, .ref 90), (1, .int 3), (2, .int 6)]) (st' := [.int 3, .int (-1), .int 0]) (w' := (fw z)) (cs' := 0) (ss' := 0) ?_ (fun _ _ => rfl)
  refine go_seg 8 (pc' := 51) (ls' := [(4, .int 14), (3, .int 0), (0, .ref 90), (1, .int 3), (2, .int 6)]) (st' := [.int 64, .int 14]) (w' := (fw z)) (cs' := 0) (ss' := 0) ?_ (fun _ _ => rfl)
  refine go_seg 8 (pc' := 65) (ls' := [(4, .int 14), (3, .int 0), (0, .ref 90), (1, .int 3), (2, .int 6)]) (st' := [.int (-1), .int 0]) (w' := (fw z)) (cs' := 0) (ss' := 0) ?_ (fun _ _ => rfl)
  refine go_seg 8 (pc' := 49) (ls' := [(4, .int 15), (3, .int 0), (0, .ref 90), (1, .int 3), (2, .int 6)]) (st' := [.int 15]) (w' := (fw z)) (cs' := 0) (ss' := 0) ?_ (fun _ _ => rfl)
  refine go_seg 8 (pc' := 64) (ls' := [(4, .int 15), (3, .int 0), (0, .ref 90), (1, .int 3), (2, .int 6)]) (st' := [.int 25, .ref 91, .int 0]) (w' := (fw z)) (cs' := 0) (ss' := 0) ?_ (fun _ _ => rfl)
  refine go_seg 8 (pc' := 47) (ls' := [(4, .int 16), (3, .int 0), (0, .ref 90), (1, .int 3), (2, .int 6)]) (st' := []) (w' := (fw z)) (cs' := 0) (ss' := 0) ?_ (fun _ _ => rfl)
  refine go_seg 8 (pc' := 63) (ls' := [(4, .int 16), (3, .int 0), (0, .ref 90), (1, .int 3), (2, .int 6)]) (st' := [.int 16, .int 10, .ref 91, .int 0]) (w' := (fw z)) (cs' := 0) (ss' := 0) ?_ (fun _ _ => rfl)
  refine go_seg 8 (pc' := 79) (ls' := [(4, .int 17), (3, .int 0), (0, .ref 90), (1, .int 3), (2, .int 6)]) (st' := []) (w' := (fw z)) (cs' := 0) (ss' := 0) ?_ (fun _ _ => rfl)
  refine go_seg 8 (pc' := 61) (ls' := [(4, .int 17), (3, .int 0), (0, .ref 90), (1, .int 3), (2, .int 6)]) (st' := [.int 10, .ref 91, .int 0]) (w' := (fw z)) (cs' := 0) (ss' := 0) ?_ (fun _ _ => rfl)
  refine go_seg 8 (pc' := 76) (ls' := [(3, .int 0), (4, .int 17), (0, .ref 90), (1, .int 3), (2, .int 6)]) (st' := []) (w' := (fw z)) (cs' := 0) (ss' := 0) ?_ (fun _ _ => rfl)
  refine go_seg 8 (pc' := 59) (ls' := [(4, .int 18), (3, .int 0), (0, .ref 90), (1, .int 3), (2, .int 6)]) (st' := [.ref 91, .int 0]) (w' := (fw z)) (cs' := 0) (ss' := 0) ?_ (fun _ _ => rfl)
  refine go_seg 8 (pc' := 75) (ls' := [(4, .int 18), (3, .int 0), (0, .ref 90), (1, .int 3), (2, .int 6)]) (st' := [.int 0]) (w' := (fw z)) (cs' := 0) (ss' := 0) ?_ (fun _ _ => rfl)
  refine go_seg 8 (pc' := 56) (ls' := [(4, .int 19), (3, .int 0), (0, .ref 90), (1, .int 3), (2, .int 6)]) (st' := [.ref 90, .int 0]) (w' := (fw z)) (cs' := 0) (ss' := 0) ?_ (fun _ _ => rfl)
  refine go_seg 8 (pc' := 74) (ls' := [(4, .int 19), (3, .int 0), (0, .ref 90), (1, .int 3), (2, .int 6)]) (st' := [.int 0, .int 0]) (w' := (fw z)) (cs' := 0) (ss' := 0) ?_ (fun _ _ => rfl)
  refine go_seg 8 (pc' := 55) (ls' := [(4, .int 20), (3, .int 0), (0, .ref 90), (1, .int 3), (2, .int 6)]) (st' := [.int 0]) (w' := (fw z)) (cs' := 0) (ss' := 0) ?_ (fun _ _ => rfl)
  refine go_seg 8 (pc' := 73) (ls' := [(4, .int 20), (3, .int 0), (0, .ref 90), (1, .int 3), (2, .int 6)]) (st' := [.int 0]) (w' := (fw z)) (cs' := 0) (ss' := 0) ?_ (fun _ _ => rfl)
  refine go_seg 8 (pc' := 54) (ls' := [(4, .int 21), (3, .int 0), (0, .ref 90), (1, .int 3), (2, .int 6)]) (st' := []) (w' := (fw z)) (cs' := 0) (ss' := 0) ?_ (fun _ _ => rfl)
  refine go_seg 8 (pc' := 66) (ls' := [(4, .int 21), (3, .int 0), (0, .ref 90), (1, .int 3), (2, .int 6)]) (st' := [.int 3, .int (-1), .int 0]) (w' := (fw z)) (cs' := 0) (ss' := 0) ?_ (fun _ _ => rfl)
  refine go_seg 8 (pc' := 51) (ls' := [(4, .int 22), (3, .int 0), (0, .ref 90), (1, .int 3), (2, .int 6)]) (st' := [.int 64, .int 22]) (w' := (fw z)) (cs' := 0) (ss' := 0) ?_ (fun _ _ => rfl)
  refine go_seg 8 (pc' := 65) (ls' := [(4, .int 22), (3, .int 0), (0, .ref 90), (1, .int 3), (2, .int 6)]) (st' := [.int (-1), .int 0]) (w' := (fw z)) (cs' := 0) (ss' := 0) ?_ (fun _ _ => rfl)
  refine go_seg 8 (pc' := 49) (ls' := [(4, .int 23), (3, .int 0), (0, .ref 90), (1, .int 3), (2, .int 6)]) (st' := [.int 23]) (w' := (fw z)) (cs' := 0) (ss' := 0) ?_ (fun _ _ => rfl)
  refine go_seg 8 (pc' := 64) (ls' := [(4, .int 23), (3, .int 0), (0, .ref 90), (1, .int 3), (2, .int 6)]) (st' := [.int 33, .ref 91, .int 0]) (w' := (fw z)) (cs' := 0) (ss' := 0) ?_ (fun _ _ => rfl)
  refine go_seg 8 (pc' := 47) (ls' := [(4, .int 24), (3, .int 0), (0, .ref 90), (1, .int 3), (2, .int 6)]) (st' := []) (w' := (fw z)) (cs' := 0) (ss' := 0) ?_ (fun _ _ => rfl)
  refine go_seg 8 (pc' := 63) (ls' := [(4, .int 24), (3, .int 0), (0, .ref 90), (1, .int 3), (2, .int 6)]) (st' := [.int 24, .int 10, .ref 91, .int 0]) (w' := (fw z)) (cs' := 0) (ss' := 0) ?_ (fun _ _ => rfl)
  refine go_seg 8 (pc' := 79) (ls' := [(4, .int 25), (3, .int 0), (0, .ref 90), (1, .int 3), (2, .int 6)]) (st' := []) (w' := (fw z)) (cs' := 0) (ss' := 0) ?_ (fun _ _ => rfl)
  refine go_seg 8 (pc' := 61) (ls' := [(4, .int 25), (3, .int 0), (0, .ref 90), (1, .int 3), (2, .int 6)]) (st' := [.int 10, .ref 91, .int 0]) (w' := (fw z)) (cs' := 0) (ss' := 0) ?_ (fun _ _ => rfl)
  refine go_seg 8 (pc' := 76) (ls' := [(3, .int 0), (4, .int 25), (0, .ref 90), (1, .int 3), (2, .int 6)]) (st' := []) (w' := (fw z)) (cs' := 0) (ss' := 0) ?_ (fun _ _ => rfl)
  refine go_seg 8 (pc' := 59) (ls' := [(4, .int 26), (3, .int 0), (0, .ref 90), (1, .int 3), (2, .int 6)]) (st' := [.ref 91, .int 0]) (w' := (fw z)) (cs' := 0) (ss' := 0) ?_ (fun _ _ => rfl)
  refine go_seg 8 (pc' := 75) (ls' := [(4, .int 26), (3, .int 0), (0, .ref 90), (1, .int 3), (2, .int 6)]) (st' := [.int 0]) (w' := (fw z)) (cs' := 0) (ss' := 0) ?_ (fun _ _ => rfl)
  refine go_seg 8 (pc' := 56) (ls' := [(4, .int 27), (3, .int 0), (0, .ref 90), (1, .int 3), (2, .int 6)]) (st' := [.ref 90, .int 0]) (w' := (fw z)) (cs' := 0) (ss' := 0) ?_ (fun _ _ => rfl)
  refine go_seg 8 (pc' := 74) (ls' := [(4, .int 27), (3, .int 0), (0, .ref 90), (1, .int 3), (2, .int 6)]) (st' := [.int 0, .int 0]) (w' := (fw z)) (cs' := 0) (ss' := 0) ?_ (fun _ _ => rfl)
  refine go_seg 8 (pc' := 55) (ls' := [(4, .int 28), (3, .int 0), (0, .ref 90), (1, .int 3), (2, .int 6)]) (st' := [.int 0]) (w' := (fw z)) (cs' := 0) (ss' := 0) ?_ (fun _ _ => rfl)
  refine go_seg 8 (pc' := 73) (ls' := [(4, .int 28), (3, .int 0), (0, .ref 90), (1, .int 3), (2, .int 6)]) (st' := [.int 0]) (w' := (fw z)) (cs' := 0) (ss' := 0) ?_ (fun _ _ => rfl)
  refine go_seg 8 (pc' := 54) (ls' := [(4, .int 29), (3, .int 0), (0, .ref 90), (1, .int 3), (2, .int 6)]) (st' := []) (w' := (fw z)) (cs' := 0) (ss' := 0) ?_ (fun _ _ => rfl)
  refine go_seg 8 (pc' := 66) (ls' := [(4, .int 29), (3, .int 0), (0, .ref 90), (1, .int 3), (2, .int 6)]) (st' := [.int 3, .int (-1), .int 0]) (w' := (fw z)) (cs' := 0) (ss' := 0) ?_ (fun _ _ => rfl)
  refine go_seg 8 (pc' := 51) (ls' := [(4, .int 30), (3, .int 0), (0, .ref 90), (1, .int 3), (2, .int 6)]) (st' := [.int 64, .int 30]) (w' := (fw z)) (cs' := 0) (ss' := 0) ?_ (fun _ _ => rfl)
  refine go_seg 8 (pc' := 65) (ls' := [(4, .int 30), (3, .int 0), (0, .ref 90), (1, .int 3), (2, .int 6)]) (st' := [.int (-1), .int 0]) (w' := (fw z)) (cs' := 0) (ss' := 0) ?_ (fun _ _ => rfl)
  refine go_seg 8 (pc' := 49) (ls' := [(4, .int 31), (3, .int 0), (0, .ref 90), (1, .int 3), (2, .int 6)]) (st' := [.int 31]) (w' := (fw z)) (cs' := 0) (ss' := 0) ?_ (fun _ _ => rfl)
  refine go_seg 8 (pc' := 64) (ls' := [(4, .int 31), (3, .int 0), (0, .ref 90), (1, .int 3), (2, .int 6)]) (st' := [.int 41, .ref 91, .int 0]) (w' := (fw z)) (cs' := 0) (ss' := 0) ?_ (fun _ _ => rfl)
  refine go_seg 8 (pc' := 47) (ls' := [(4, .int 32), (3, .int 0), (0, .ref 90), (1, .int 3), (2, .int 6)]) (st' := []) (w' := (fw z)) (cs' := 0) (ss' := 0) ?_ (fun _ _ => rfl)
  refine go_seg 8 (pc' := 63) (ls' := [(4, .int 32), (3, .int 0), (0, .ref 90), (1, .int 3), (2, .int 6)]) (st' := [.int 32, .int 10, .ref 91, .int 0]) (w' := (fw z)) (cs' := 0) (ss' := 0) ?_ (fun _ _ => rfl)
  refine go_seg 8 (pc' := 79) (ls' := [(4, .int 33), (3, .int 0), (0, .ref 90), (1, .int 3), (2, .int 6)]) (st' := []) (w' := (fw z)) (cs' := 0) (ss' := 0) ?_ (fun _ _ => rfl)
  refine go_seg 8 (pc' := 61) (ls' := [(4, .int 33), (3, .int 0), (0, .ref 90), (1, .int 3), (2, .int 6)]) (st' := [.int 10, .ref 91, .int 0]) (w' := (fw z)) (cs' := 0) (ss' := 0) ?_ (fun _ _ => rfl)
  refine go_seg 8 (pc' := 76) (ls' := [(3, .int 0), (4, .int 33), (0, .ref 90), (1, .int 3), (2, .int 6)]) (st' := []) (w' := (fw z)) (cs' := 0) (ss' := 0) ?_ (fun _ _ => rfl)
  refine go_seg 8 (pc' := 59) (ls' := [(4, .int 34), (3, .int 0), (0, .ref 90), (1, .int 3), (2, .int 6)]) (st' := [.ref 91, .int 0]) (w' := (fw z)) (cs' := 0) (ss' := 0) ?_ (fun _ _ => rfl)
  refine go_seg 8 (pc' := 75) (ls' := [(4, .int 34), (3, .int 0), (0, .ref 90), (1, .int 3), (2, .int 6)]) (st' := [.int 0]) (w' := (fw z)) (cs' := 0) (ss' := 0) ?_ (fun _ _ => rfl)
  refine go_seg 8 (pc' := 56) (ls' := [(4, .int 35), (3, .int 0), (0, .ref 90), (1, .int 3), (2, .int 6)]) (st' := [.ref 90, .int 0]) (w' := (fw z)) (cs' := 0) (ss' := 0) ?_ (fun _ _ => rfl)
  refine go_seg 8 (pc' := 74) (ls' := [(4, .int 35), (3, .int 0), (0, .ref 90), (1, .int 3), (2, .int 6)]) (st' := [.int 0, .int 0]) (w' := (fw z)) (cs' := 0) (ss' := 0) ?_ (fun _ _ => rfl)
  refine go_seg 8 (pc' := 55) (ls' := [(4, .int 36), (3, .int 0), (0, .ref 90), (1, .int 3), (2, .int 6)]) (st' := [.int 0]) (w' := (fw z)) (cs' := 0) (ss' := 0) ?_ (fun _ _ => rfl)
  refine go_seg 8 (pc' := 73) (ls' := [(4, .int 36), (3, .int 0), (0, .ref 90), (1, .int 3), (2, .int 6)]) (st' := [.int 0]) (w' := (fw z)) (cs' := 0) (ss' := 0) ?_ (fun _ _ => rfl)
  refine go_seg 8 (pc' := 54) (ls' := [(4, .int 37), (3, .int 0), (0, .ref 90), (1, .int 3), (2, .int 6)]) (st' := []) (w' := (fw z)) (cs' := 0) (ss' := 0) ?_ (fun _ _ => rfl)
  refine go_seg 8 (pc' := 66) (ls' := [(4, .int 37), (3, .int 0), (0, .ref 90), (1, .int 3), (2, .int 6)]) (st' := [.int 3, .int (-1), .int 0]) (w' := (fw z)) (cs' := 0) (ss' := 0) ?_ (fun _ _ => rfl)
  refine go_seg 8 (pc' := 51) (ls' := [(4, .int 38), (3, .int 0), (0, .ref 90), (1, .int 3), (2, .int 6)]) (st' := [.int 64, .int 38]) (w' := (fw z)) (cs' := 0) (ss' := 0) ?_ (fun _ _ => rfl)
  refine go_seg 8 (pc' := 65) (ls' := [(4, .int 38), (3, .int 0), (0, .ref 90), (1, .int 3), (2, .int 6)]) (st' := [.int (-1), .int 0]) (w' := (fw z)) (cs' := 0) (ss' := 0) ?_ (fun _ _ => rfl)
  refine go_seg 8 (pc' := 49) (ls' := [(4, .int 39), (3, .int 0), (0, .ref 90), (1, .int 3), (2, .int 6)]) (st' := [.int 39]) (w' := (fw z)) (cs' := 0) (ss' := 0) ?_ (fun _ _ => rfl)
  refine go_seg 8 (pc' := 64) (ls' := [(4, .int 39), (3, .int 0), (0, .ref 90), (1, .int 3), (2, .int 6)]) (st' := [.int 49, .ref 91, .int 0]) (w' := (fw z)) (cs' := 0) (ss' := 0) ?_ (fun _ _ => rfl)
  refine go_seg 8 (pc' := 47) (ls' := [(4, .int 40), (3, .int 0), (0, .ref 90), (1, .int 3), (2, .int 6)]) (st' := []) (w' := (fw z)) (cs' := 0) (ss' := 0) ?_ (fun _ _ => rfl)
  refine go_seg 8 (pc' := 63) (ls' := [(4, .int 40), (3, .int 0), (0, .ref 90), (1, .int 3), (2, .int 6)]) (st' := [.int 40, .int 10, .ref 91, .int 0]) (w' := (fw z)) (cs' := 0) (ss' := 0) ?_ (fun _ _ => rfl)
  refine go_seg 8 (pc' := 79) (ls' := [(4, .int 41), (3, .int 0), (0, .ref 90), (1, .int 3), (2, .int 6)]) (st' := []) (w' := (fw z)) (cs' := 0) (ss' := 0) ?_ (fun _ _ => rfl)
  refine go_seg 8 (pc' := 61) (ls' := [(4, .int 41), (3, .int 0), (0, .ref 90), (1, .int 3), (2, .int 6)]) (st' := [.int 10, .ref 91, .int 0]) (w' := (fw z)) (cs' := 0) (ss' := 0) ?_ (fun _ _ => rfl)
  refine go_seg 8 (pc' := 76) (ls' := [(3, .int 0), (4, .int 41), (0, .ref 90), (1, .int 3), (2, .int 6)]) (st' := []) (w' := (fw z)) (cs' := 0) (ss' := 0) ?_ (fun _ _ => rfl)
  refine go_seg 8 (pc' := 59) (ls' := [(4, .int 42), (3, .int 0), (0, .ref 90), (1, .int 3), (2, .int 6)]) (st' := [.ref 91, .int 0]) (w' := (fw z)) (cs' := 0) (ss' := 0) ?_ (fun _ _ => rfl)
  refine go_seg 8 (pc' := 75) (ls' := [(4, .int 42), (3, .int 0), (0, .ref 90), (1, .int 3), (2, .int 6)]) (st' := [.int 0]) (w' := (fw z)) (cs' := 0) (ss' := 0) ?_ (fun _ _ => rfl)
  refine go_seg 8 (pc' := 56) (ls' := [(4, .int 43), (3, .int 0), (0, .ref 90), (1, .int 3), (2, .int 6)]) (st' := [.ref 90, .int 0]) (w' := (fw z)) (cs' := 0) (ss' := 0) ?_ (fun _ _ => rfl)
  refine go_seg 8 (pc' := 74) (ls' := [(4, .int 43), (3, .int 0), (0, .ref 90), (1, .int 3), (2, .int 6)]) (st' := [.int 0, .int 0]) (w' := (fw z)) (cs' := 0) (ss' := 0) ?_ (fun _ _ => rfl)
  refine go_seg 8 (pc' := 55) (ls' := [(4, .int 44), (3, .int 0), (0, .ref 90), (1, .int 3), (2, .int 6)]) (st' := [.int 0]) (w' := (fw z)) (cs' := 0) (ss' := 0) ?_ (fun _ _ => rfl)
  refine go_seg 8 (pc' := 73) (ls' := [(4, .int 44), (3, .int 0), (0, .ref 90), (1, .int 3), (2, .int 6)]) (st' := [.int 0]) (w' := (fw z)) (cs' := 0) (ss' := 0) ?_ (fun _ _ => rfl)
  refine go_seg 8 (pc' := 54) (ls' := [(4, .int 45), (3, .int 0), (0, .ref 90), (1, .int 3), (2, .int 6)]) (st' := []) (w' := (fw z)) (cs' := 0) (ss' := 0) ?_ (fun _ _ => rfl)
  refine go_seg 8 (pc' := 66) (ls' := [(4, .int 45), (3, .int 0), (0, .ref 90), (1, .int 3), (2, .int 6)]) (st' := [.int 3, .int (-1), .int 0]) (w' := (fw z)) (cs' := 0) (ss' := 0) ?_ (fun _ _ => rfl)
  refine go_seg 8 (pc' := 51) (ls' := [(4, .int 46), (3, .int 0), (0, .ref 90), (1, .int 3), (2, .int 6)]) (st' := [.int 64, .int 46]) (w' := (fw z)) (cs' := 0) (ss' := 0) ?_ (fun _ _ => rfl)
  refine go_seg 8 (pc' := 65) (ls' := [(4, .int 46), (3, .int 0), (0, .ref 90), (1, .int 3), (2, .int 6)]) (st' := [.int (-1), .int 0]) (w' := (fw z)) (cs' := 0) (ss' := 0) ?_ (fun _ _ => rfl)
  refine go_seg 8 (pc' := 49) (ls' := [(4, .int 47), (3, .int 0), (0, .ref 90), (1, .int 3), (2, .int 6)]) (st' := [.int 47]) (w' := (fw z)) (cs' := 0) (ss' := 0) ?_ (fun _ _ => rfl)
  refine go_seg 8 (pc' := 64) (ls' := [(4, .int 47), (3, .int 0), (0, .ref 90), (1, .int 3), (2, .int 6)]) (st' := [.int 57, .ref 91, .int 0]) (w' := (fw z)) (cs' := 0) (ss' := 0) ?_ (fun _ _ => rfl)
  refine go_seg 8 (pc' := 47) (ls' := [(4, .int 48), (3, .int 0), (0, .ref 90), (1, .int 3), (2, .int 6)]) (st' := []) (w' := (fw z)) (cs' := 0) (ss' := 0) ?_ (fun _ _ => rfl)
  refine go_seg 8 (pc' := 63) (ls' := [(4, .int 48), (3, .int 0), (0, .ref 90), (1, .int 3), (2, .int 6)]) (st' := [.int 48, .int 10, .ref 91, .int 0]) (w' := (fw z)) (cs' := 0) (ss' := 0) ?_ (fun _ _ => rfl)
  refine go_seg 8 (pc' := 79) (ls' := [(4, .int 49), (3, .int 0), (0, .ref 90), (1, .int 3), (2, .int 6)]) (st' := []) (w' := (fw z)) (cs' := 0) (ss' := 0) ?_ (fun _ _ => rfl)
  refine go_seg 8 (pc' := 61) (ls' := [(4, .int 49), (3, .int 0), (0, .ref 90), (1, .int 3), (2, .int 6)]) (st' := [.int 10, .ref 91, .int 0]) (w' := (fw z)) (cs' := 0) (ss' := 0) ?_ (fun _ _ => rfl)
  refine go_seg 8 (pc' := 76) (ls' := [(3, .int 0), (4, .int 49), (0, .ref 90), (1, .int 3), (2, .int 6)]) (st' := []) (w' := (fw z)) (cs' := 0) (ss' := 0) ?_ (fun _ _ => rfl)
  refine go_seg 8 (pc' := 59) (ls' := [(4, .int 50), (3, .int 0), (0, .ref 90), (1, .int 3), (2, .int 6)]) (st' := [.ref 91, .int 0]) (w' := (fw z)) (cs' := 0) (ss' := 0) ?_ (fun _ _ => rfl)
  refine go_seg 8 (pc' := 75) (ls' := [(4, .int 50), (3, .int 0), (0, .ref 90), (1, .int 3), (2, .int 6)]) (st' := [.int 0]) (w' := (fw z)) (cs' := 0) (ss' := 0) ?_ (fun _ _ => rfl)
  refine go_seg 8 (pc' := 56) (ls' := [(4, .int 51), (3, .int 0), (0, .ref 90), (1, .int 3), (2, .int 6)]) (st' := [.ref 90, .int 0]) (w' := (fw z)) (cs' := 0) (ss' := 0) ?_ (fun _ _ => rfl)
  refine go_seg 8 (pc' := 74) (ls' := [(4, .int 51), (3, .int 0), (0, .ref 90), (1, .int 3), (2, .int 6)]) (st' := [.int 0, .int 0]) (w' := (fw z)) (cs' := 0) (ss' := 0) ?_ (fun _ _ => rfl)
  refine go_seg 8 (pc' := 55) (ls' := [(4, .int 52), (3, .int 0), (0, .ref 90), (1, .int 3), (2, .int 6)]) (st' := [.int 0]) (w' := (fw z)) (cs' := 0) (ss' := 0) ?_ (fun _ _ => rfl)
  refine go_seg 8 (pc' := 73) (ls' := [(4, .int 52), (3, .int 0), (0, .ref 90), (1, .int 3), (2, .int 6)]) (st' := [.int 0]) (w' := (fw z)) (cs' := 0) (ss' := 0) ?_ (fun _ _ => rfl)
  refine go_seg 8 (pc' := 54) (ls' := [(4, .int 53), (3, .int 0), (0, .ref 90), (1, .int 3), (2, .int 6)]) (st' := []) (w' := (fw z)) (cs' := 0) (ss' := 0) ?_ (fun _ _ => rfl)
  refine go_seg 8 (pc' := 66) (ls' := [(4, .int 53), (3, .int 0), (0, .ref 90), (1, .int 3), (2, .int 6)]) (st' := [.int 3, .int (-1), .int 0]) (w' := (fw z)) (cs' := 0) (ss' := 0) ?_ (fun _ _ => rfl)
  refine go_seg 8 (pc' := 51) (ls' := [(4, .int 54), (3, .int 0), (0, .ref 90), (1, .int 3), (2, .int 6)]) (st' := [.int 64, .int 54]) (w' := (fw z)) (cs' := 0) (ss' := 0) ?_ (fun _ _ => rfl)
  refine go_seg 8 (pc' := 65) (ls' := [(4, .int 54), (3, .int 0), (0, .ref 90), (1, .int 3), (2, .int 6)]) (st' := [.int (-1), .int 0]) (w' := (fw z)) (cs' := 0) (ss' := 0) ?_ (fun _ _ => rfl)
  refine go_seg 8 (pc' := 49) (ls' := [(4, .int 55), (3, .int 0), (0, .ref 90), (1, .int 3), (2, .int 6)]) (st' := [.int 55]) (w' := (fw z)) (cs' := 0) (ss' := 0) ?_ (fun _ _ => rfl)
  refine go_seg 8 (pc' := 64) (ls' := [(4, .int 55), (3, .int 0), (0, .ref 90), (1, .int 3), (2, .int 6)]) (st' := [.int 65, .ref 91, .int 0]) (w' := (fw z)) (cs' := 0) (ss' := 0) ?_ (fun _ _ => rfl)
  refine go_seg 8 (pc' := 47) (ls' := [(4, .int 56), (3, .int 0), (0, .ref 90), (1, .int 3), (2, .int 6)]) (st' := []) (w' := (fw z)) (cs' := 0) (ss' := 0) ?_ (fun _ _ => rfl)
  refine go_seg 8 (pc' := 63) (ls' := [(4, .int 56), (3, .int 0), (0, .ref 90), (1, .int 3), (2, .int 6)]) (st' := [.int 56, .int 10, .ref 91, .int 0]) (w' := (fw z)) (cs' := 0) (ss' := 0) ?_ (fun _ _ => rfl)
  refine go_seg 8 (pc' := 79) (ls' := [(4, .int 57), (3, .int 0), (0, .ref 90), (1, .int 3), (2, .int 6)]) (st' := []) (w' := (fw z)) (cs' := 0) (ss' := 0) ?_ (fun _ _ => rfl)
  refine go_seg 8 (pc' := 61) (ls' := [(4, .int 57), (3, .int 0), (0, .ref 90), (1, .int 3), (2, .int 6)]) (st' := [.int 10, .ref 91, .int 0]) (w' := (fw z)) (cs' := 0) (ss' := 0) ?_ (fun _ _ => rfl)
  refine go_seg 8 (pc' := 76) (ls' := [(3, .int 0), (4, .int 57), (0, .ref 90), (1, .int 3), (2, .int 6)]) (st' := []) (w' := (fw z)) (cs' := 0) (ss' := 0) ?_ (fun _ _ => rfl)
  refine go_seg 8 (pc' := 59) (ls' := [(4, .int 58), (3, .int 0), (0, .ref 90), (1, .int 3), (2, .int 6)]) (st' := [.ref 91, .int 0]) (w' := (fw z)) (cs' := 0) (ss' := 0) ?_ (fun _ _ => rfl)
  refine go_seg 8 (pc' := 75) (ls' := [(4, .int 58), (3, .int 0), (0, .ref 90), (1, .int 3), (2, .int 6)]) (st' := [.int 0]) (w' := (fw z)) (cs' := 0) (ss' := 0) ?_ (fun _ _ => rfl)
  refine go_seg 8 (pc' := 56) (ls' := [(4, .int 59), (3, .int 0), (0, .ref 90), (1, .int 3), (2, .int 6)]) (st' := [.ref 90, .int 0]) (w' := (fw z)) (cs' := 0) (ss' := 0) ?_ (fun _ _ => rfl)
  refine go_seg 8 (pc' := 74) (ls' := [(4, .int 59), (3, .int 0), (0, .ref 90), (1, .int 3), (2, .int 6)]) (st' := [.int 0, .int 0]) (w' := (fw z)) (cs' := 0) (ss' := 0) ?_ (fun _ _ => rfl)
  refine go_seg 8 (pc' := 55) (ls' := [(4, .int 60), (3, .int 0), (0, .ref 90), (1, .int 3), (2, .int 6)]) (st' := [.int 0]) (w' := (fw z)) (cs' := 0) (ss' := 0) ?_ (fun _ _ => rfl)
  refine go_seg 8 (pc' := 73) (ls' := [(4, .int 60), (3, .int 0), (0, .ref 90), (1, .int 3), (2, .int 6)]) (st' := [.int 0]) (w' := (fw z)) (cs' := 0) (ss' := 0) ?_ (fun _ _ => rfl)
  refine go_seg 8 (pc' := 54) (ls' := [(4, .int 61), (3, .int 0), (0, .ref 90), (1, .int 3), (2, .int 6)]) (st' := []) (w' := (fw z)) (cs' := 0) (ss' := 0) ?_ (fun _ _ => rfl)
  refine go_seg 8 (pc' := 66) (ls' := [(4, .int 61), (3, .int 0), (0, .ref 90), (1, .int 3), (2, .int 6)]) (st' := [.int 3, .int (-1), .int 0]) (w' := (fw z)) (cs' := 0) (ss' := 0) ?_ (fun _ _ => rfl)
  refine go_seg 8 (pc' := 51) (ls' := [(4, .int 62), (3, .int 0), (0, .ref 90), (1, .int 3), (2, .int 6)]) (st' := [.int 64, .int 62]) (w' := (fw z)) (cs' := 0) (ss' := 0) ?_ (fun _ _ => rfl)
  refine go_seg 8 (pc' := 65) (ls' := [(4, .int 62), (3, .int 0), (0, .ref 90), (1, .int 3), (2, .int 6)]) (st' := [.int (-1), .int 0]) (w' := (fw z)) (cs' := 0) (ss' := 0) ?_ (fun _ _ => rfl)
  refine go_seg 8 (pc' := 49) (ls' := [(4, .int 63), (3, .int 0), (0, .ref 90), (1, .int 3), (2, .int 6)]) (st' := [.int 63]) (w' := (fw z)) (cs' := 0) (ss' := 0) ?_ (fun _ _ => rfl)
  refine go_seg 8 (pc' := 64) (ls' := [(4, .int 63), (3, .int 0), (0, .ref 90), (1, .int 3), (2, .int 6)]) (st' := [.int 73, .ref 91, .int 0]) (w' := (fw z)) (cs' := 0) (ss' := 0) ?_ (fun _ _ => rfl)
  refine go_seg 8 (pc' := 47) (ls' := [(4, .int 64), (3, .int 0), (0, .ref 90), (1, .int 3), (2, .int 6)]) (st' := []) (w' := (fw z)) (cs' := 0) (ss' := 0) ?_ (fun _ _ => rfl)
  refine go_seg 8 (pc' := 94) (ls' := [(4, .int 64), (3, .int 0), (0, .ref 90), (1, .int 3), (2, .int 6)]) (st' := [.int 6, .int 6]) (w' := (fw z)) (cs' := 0) (ss' := 0) ?_ (fun _ _ => rfl)
  refine go_seg 3 (pc' := 99) (ls' := [(4, .int 64), (3, .int 0), (0, .ref 90), (1, .int 3), (2, .int 6)]) (st' := [.int 3, .ref 90]) (w' := (fw z)) (cs' := 0) (ss' := 0) ?_ (fun _ _ => rfl)
  refine go_cl (k := 2) (st' := [.int 0]) (cs' := 0) (ss' := 0) rfl rfl rfl rfl rfl rfl rfl (ro_478 z) ?_
  exact go_end 2 (fun _ _ => rfl)
theorem lf_4_1133 (a0 : Int32) (a3 : Int32) (a4 : Int32) (a5 : Int32) : ∃ w', pq_Go 20 pm_law 370 [(3, .int 0), (2, .ref 90), (1, .ref 1), (0, .ref 0)] [] (fw (sz a0 3 6 a3 a4 a5)) 109 12668 (some (.int 1), w') := by
  refine ⟨(fw (sz a0 3 6 a3 a4 a5)), ?_⟩
  refine go_seg 8 (pc' := 378) (ls' := [(3, .int 0), (2, .ref 90), (1, .ref 1), (0, .ref 0)]) (st' := [.int 0, .ref 0, .int 3, .ref 1]) (w' := (fw (sz a0 3 6 a3 a4 a5))) (cs' := 109) (ss' := 12668) ?_ (fun _ _ => rfl)
  refine go_seg 3 (pc' := 381) (ls' := [(3, .int 0), (2, .ref 90), (1, .ref 1), (0, .ref 0)]) (st' := [.int 6, .int 3, .ref 1]) (w' := (fw (sz a0 3 6 a3 a4 a5))) (cs' := 109) (ss' := 12668) ?_ (fun _ _ => rfl)
  refine go_cl (k := 20) (st' := [.int 0]) (cs' := 109) (ss' := 12668) rfl rfl rfl rfl rfl rfl rfl (ro_1131 (sz a0 3 6 a3 a4 a5)) ?_
  refine go_seg 8 (pc' := 392) (ls' := [(3, .int 0), (2, .ref 90), (1, .ref 1), (0, .ref 0)]) (st' := [.int 0, .ref 0, .int 3, .ref 90, .int 0]) (w' := (fw (sz a0 3 6 a3 a4 a5))) (cs' := 109) (ss' := 12668) ?_ (fun _ _ => rfl)
  refine go_seg 3 (pc' := 395) (ls' := [(3, .int 0), (2, .ref 90), (1, .ref 1), (0, .ref 0)]) (st' := [.int 6, .int 3, .ref 90, .int 0]) (w' := (fw (sz a0 3 6 a3 a4 a5))) (cs' := 109) (ss' := 12668) ?_ (fun _ _ => rfl)
  refine go_cl (k := 20) (st' := [.int 0, .int 0]) (cs' := 109) (ss' := 12668) rfl rfl rfl rfl rfl rfl rfl (ro_1132 (sz a0 3 6 a3 a4 a5)) ?_
  refine go_cmp true rfl (br_self _) ?_
  exact law_tail (f := sc a0 3 6 a3 a4 a5) rfl
theorem ro_1134 (z : pq_C) : pq_Ru 2 27 [.ref 11, .int 4] (fw z) (some (.int 0), (fw z)) := by
  refine ru_of (k := 1) (M := pm_27) rfl rfl ?_
  refine go_seg 8 (pc' := 11) (ls' := [(3, .int 0), (2, .int 0), (0, .ref 11), (1, .int 4)]) (st' := [.int 4]) (w' := (fw z)) (cs' := 0) (ss' := 0) ?_ (fun _ _ => rfl)
  refine go_cl (k := 1) (st' := [.int 1]) (cs' := 0) (ss' := 0) rfl rfl rfl rfl rfl rfl rfl (ro_585 z) ?_
  refine go_seg 8 (pc' := 27) (ls' := [(3, .int 0), (2, .int 0), (0, .ref 11), (1, .int 4)]) (st' := [.int 4, .int 0, .ref 14, .int 0]) (w' := (fw z)) (cs' := 0) (ss' := 0) ?_ (fun _ _ => rfl)
  refine go_seg 8 (pc' := 7) (ls' := [(3, .int 1), (2, .int 0), (0, .ref 11), (1, .int 4)]) (st' := [.int 8, .int 1]) (w' := (fw z)) (cs' := 0) (ss' := 0) ?_ (fun _ _ => rfl)
  refine go_seg 2 (pc' := 11) (ls' := [(3, .int 1), (2, .int 0), (0, .ref 11), (1, .int 4)]) (st' := [.int 4]) (w' := (fw z)) (cs' := 0) (ss' := 0) ?_ (fun _ _ => rfl)
  refine go_cl (k := 1) (st' := [.int 1]) (cs' := 0) (ss' := 0) rfl rfl rfl rfl rfl rfl rfl (ro_585 z) ?_
  refine go_seg 8 (pc' := 27) (ls' := [(3, .int 1), (2, .int 0), (0, .ref 11), (1, .int 4)]) (st' := [.int 4, .int 8, .ref 14, .int 0]) (w' := (fw z)) (cs' := 0) (ss' := 0) ?_ (fun _ _ => rfl)
  refine go_seg 8 (pc' := 7) (ls' := [(3, .int 2), (2, .int 0), (0, .ref 11), (1, .int 4)]) (st' := [.int 8, .int 2]) (w' := (fw z)) (cs' := 0) (ss' := 0) ?_ (fun _ _ => rfl)
  refine go_seg 2 (pc' := 11) (ls' := [(3, .int 2), (2, .int 0), (0, .ref 11), (1, .int 4)]) (st' := [.int 4]) (w' := (fw z)) (cs' := 0) (ss' := 0) ?_ (fun _ _ => rfl)
  refine go_cl (k := 1) (st' := [.int 1]) (cs' := 0) (ss' := 0) rfl rfl rfl rfl rfl rfl rfl (ro_585 z) ?_
  refine go_seg 8 (pc' := 27) (ls' := [(3, .int 2), (2, .int 0), (0, .ref 11), (1, .int 4)]) (st' := [.int 4, .int 16, .ref 14, .int 0]) (w' := (fw z)) (cs' := 0) (ss' := 0) ?_ (fun _ _ => rfl)
  refine go_seg 8 (pc' := 7) (ls' := [(3, .int 3), (2, .int 0), (0, .ref 11), (1, .int 4)]) (st' := [.int 8, .int 3]) (w' := (fw z)) (cs' := 0) (ss' := 0) ?_ (fun _ _ => rfl)
  refine go_seg 2 (pc' := 11) (ls' := [(3, .int 3), (2, .int 0), (0, .ref 11), (1, .int 4)]) (st' := [.int 4]) (w' := (fw z)) (cs' := 0) (ss' := 0) ?_ (fun _ _ => rfl)
  refine go_cl (k := 1) (st' := [.int 1]) (cs' := 0) (ss' := 0) rfl rfl rfl rfl rfl rfl rfl (ro_585 z) ?_
  refine go_seg 8 (pc' := 27) (ls' := [(3, .int 3), (2, .int 0), (0, .ref 11), (1, .int 4)]) (st' := [.int 4, .int 24, .ref 14, .int 0]) (w' := (fw z)) (cs' := 0) (ss' := 0) ?_ (fun _ _ => rfl)
  refine go_seg 8 (pc' := 7) (ls' := [(3, .int 4), (2, .int 0), (0, .ref 11), (1, .int 4)]) (st' := [.int 8, .int 4]) (w' := (fw z)) (cs' := 0) (ss' := 0) ?_ (fun _ _ => rfl)
  refine go_seg 2 (pc' := 11) (ls' := [(3, .int 4), (2, .int 0), (0, .ref 11), (1, .int 4)]) (st' := [.int 4]) (w' := (fw z)) (cs' := 0) (ss' := 0) ?_ (fun _ _ => rfl)
  refine go_cl (k := 1) (st' := [.int 1]) (cs' := 0) (ss' := 0) rfl rfl rfl rfl rfl rfl rfl (ro_585 z) ?_
  refine go_seg 8 (pc' := 27) (ls' := [(3, .int 4), (2, .int 0), (0, .ref 11), (1, .int 4)]) (st' := [.int 4, .int 32, .ref 14, .int 0]) (w' := (fw z)) (cs' := 0) (ss' := 0) ?_ (fun _ _ => rfl)
  refine go_seg 8 (pc' := 7) (ls' := [(3, .int 5), (2, .int 0), (0, .ref 11), (1, .int 4)]) (st' := [.int 8, .int 5]) (w' := (fw z)) (cs' := 0) (ss' := 0) ?_ (fun _ _ => rfl)
  refine go_seg 2 (pc' := 11) (ls' := [(3, .int 5), (2, .int 0), (0, .ref 11), (1, .int 4)]) (st' := [.int 4]) (w' := (fw z)) (cs' := 0) (ss' := 0) ?_ (fun _ _ => rfl)
  refine go_cl (k := 1) (st' := [.int 1]) (cs' := 0) (ss' := 0) rfl rfl rfl rfl rfl rfl rfl (ro_585 z) ?_
  refine go_seg 8 (pc' := 27) (ls' := [(3, .int 5), (2, .int 0), (0, .ref 11), (1, .int 4)]) (st' := [.int 4, .int 40, .ref 14, .int 0]) (w' := (fw z)) (cs' := 0) (ss' := 0) ?_ (fun _ _ => rfl)
  refine go_seg 8 (pc' := 7) (ls' := [(3, .int 6), (2, .int 0), (0, .ref 11), (1, .int 4)]) (st' := [.int 8, .int 6]) (w' := (fw z)) (cs' := 0) (ss' := 0) ?_ (fun _ _ => rfl)
  refine go_seg 2 (pc' := 11) (ls' := [(3, .int 6), (2, .int 0), (0, .ref 11), (1, .int 4)]) (st' := [.int 4]) (w' := (fw z)) (cs' := 0) (ss' := 0) ?_ (fun _ _ => rfl)
  refine go_cl (k := 1) (st' := [.int 1]) (cs' := 0) (ss' := 0) rfl rfl rfl rfl rfl rfl rfl (ro_585 z) ?_
  refine go_seg 8 (pc' := 27) (ls' := [(3, .int 6), (2, .int 0), (0, .ref 11), (1, .int 4)]) (st' := [.int 4, .int 48, .ref 14, .int 0]) (w' := (fw z)) (cs' := 0) (ss' := 0) ?_ (fun _ _ => rfl)
  refine go_seg 8 (pc' := 7) (ls' := [(3, .int 7), (2, .int 0), (0, .ref 11), (1, .int 4)]) (st' := [.int 8, .int 7]) (w' := (fw z)) (cs' := 0) (ss' := 0) ?_ (fun _ _ => rfl)
  refine go_seg 2 (pc' := 11) (ls' := [(3, .int 7), (2, .int 0), (0, .ref 11), (1, .int 4)]) (st' := [.int 4]) (w' := (fw z)) (cs' := 0) (ss' := 0) ?_ (fun _ _ => rfl)
  refine go_cl (k := 1) (st' := [.int 1]) (cs' := 0) (ss' := 0) rfl rfl rfl rfl rfl rfl rfl (ro_585 z) ?_
  refine go_seg 8 (pc' := 27) (ls' := [(3, .int 7), (2, .int 0), (0, .ref 11), (1, .int 4)]) (st' := [.int 4, .int 56, .ref 14, .int 0]) (w' := (fw z)) (cs' := 0) (ss' := 0) ?_ (fun _ _ => rfl)
  refine go_seg 8 (pc' := 7) (ls' := [(3, .int 8), (2, .int 0), (0, .ref 11), (1, .int 4)]) (st' := [.int 8, .int 8]) (w' := (fw z)) (cs' := 0) (ss' := 0) ?_ (fun _ _ => rfl)
  exact go_end 3 (fun _ _ => rfl)
theorem ro_1135 (z : pq_C) : pq_Ru 3 25 [.ref 1, .int 4, .int 6] (fw z) (some (.int 0), (fw z)) := by
  refine ru_of (k := 2) (M := pm_25) rfl rfl ?_
  refine go_seg 1 (pc' := 1) (ls' := [(0, .ref 1), (1, .int 4), (2, .int 6)]) (st' := [.int 4]) (w' := (fw z)) (cs' := 0) (ss' := 0) ?_ (fun _ _ => rfl)
  refine go_cl (k := 2) (st' := [.int 1]) (cs' := 0) (ss' := 0) rfl rfl rfl rfl rfl rfl rfl (ro_585 z) ?_
  refine go_seg 6 (pc' := 124) (ls' := [(0, .ref 1), (1, .int 4), (2, .int 6)]) (st' := [.int 4, .ref 11]) (w' := (fw z)) (cs' := 0) (ss' := 0) ?_ (fun _ _ => rfl)
  refine go_cl (k := 2) (st' := [.int 0]) (cs' := 0) (ss' := 0) rfl rfl rfl rfl rfl rfl rfl (ro_1134 z) ?_
  exact go_end 1 (fun _ _ => rfl)
theorem ro_1136 (z : pq_C) : pq_Ru 3 169 [.ref 90, .int 4, .int 6] (fw z) (some (.int 0), (fw z)) := by
  refine ru_of (k := 2) (M := pm_169) rfl rfl ?_
  refine go_seg 1 (pc' := 1) (ls' := [(0, .ref 90), (1, .int 4), (2, .int 6)]) (st' := [.int 4]) (w' := (fw z)) (cs' := 0) (ss' := 0) ?_ (fun _ _ => rfl)
  refine go_cl (k := 2) (st' := [.int 1]) (cs' := 0) (ss' := 0) rfl rfl rfl rfl rfl rfl rfl (ro_964 z) ?_
  refine go_seg 5 (pc' := 13) (ls' := [(0, .ref 90), (1, .int 4), (2, .int 6)]) (st' := [.long 7, .long 0, .long 6]) (w' := (fw z)) (cs' := 0) (ss' := 0) ?_ (fun _ _ => rfl)
  refine go_cl (k := 2) (st' := [.int 1]) (cs' := 0) (ss' := 0) rfl rfl rfl rfl rfl rfl rfl (ro_975 z) ?_
  refine go_seg 8 (pc' := 47) (ls' := [(4, .int 0), (3, .int 0), (0, .ref 90), (1, .int 4), (2, .int 6)]) (st' := []) (w' := (fw z)) (cs' := 0) (ss' := 0) ?_ (fun _ _ => rfl)
  refine go_seg 8 (pc' := 63) (ls' := [(4, .int 0), (3, .int 0), (0, .ref 90), (1, .int 4), (2, .int 6)]) (st' := [.int 0, .int 10, .ref 91, .int 0]) (w' := (fw z)) (cs' := 0) (ss' := 0) ?_ (fun _ _ => rfl)
  refine go_seg 8 (pc' := 79) (ls' := [(4, .int 1), (3, .int 0), (0, .ref 90), (1, .int 4), (2, .int 6)]) (st' := []) (w' := (fw z)) (cs' := 0) (ss' := 0) ?_ (fun _ _ => rfl)
  refine go_seg 8 (pc' := 61) (ls' := [(4, .int 1), (3, .int 0), (0, .ref 90), (1, .int 4), (2, .int 6)]) (st' := [.int 10, .ref 91, .int 0]) (w' := (fw z)) (cs' := 0) (ss' := 0) ?_ (fun _ _ => rfl)
  refine go_seg 8 (pc' := 76) (ls' := [(3, .int 0), (4, .int 1), (0, .ref 90), (1, .int 4), (2, .int 6)]) (st' := []) (w' := (fw z)) (cs' := 0) (ss' := 0) ?_ (fun _ _ => rfl)
  refine go_seg 8 (pc' := 59) (ls' := [(4, .int 2), (3, .int 0), (0, .ref 90), (1, .int 4), (2, .int 6)]) (st' := [.ref 91, .int 0]) (w' := (fw z)) (cs' := 0) (ss' := 0) ?_ (fun _ _ => rfl)
  refine go_seg 8 (pc' := 75) (ls' := [(4, .int 2), (3, .int 0), (0, .ref 90), (1, .int 4), (2, .int 6)]) (st' := [.int 0]) (w' := (fw z)) (cs' := 0) (ss' := 0) ?_ (fun _ _ => rfl)
  refine go_seg 8 (pc' := 56) (ls' := [(4, .int 3), (3, .int 0), (0, .ref 90), (1, .int 4), (2, .int 6)]) (st' := [.ref 90, .int 0]) (w' := (fw z)) (cs' := 0) (ss' := 0) ?_ (fun _ _ => rfl)
  refine go_seg 8 (pc' := 74) (ls' := [(4, .int 3), (3, .int 0), (0, .ref 90), (1, .int 4), (2, .int 6)]) (st' := [.int 0, .int 0]) (w' := (fw z)) (cs' := 0) (ss' := 0) ?_ (fun _ _ => rfl)
  refine go_seg 8 (pc' := 55) (ls' := [(4, .int 4), (3, .int 0), (0, .ref 90), (1, .int 4), (2, .int 6)]) (st' := [.int 0]) (w' := (fw z)) (cs' := 0) (ss' := 0) ?_ (fun _ _ => rfl)
  refine go_seg 8 (pc' := 73) (ls' := [(4, .int 4), (3, .int 0), (0, .ref 90), (1, .int 4), (2, .int 6)]) (st' := [.int 0]) (w' := (fw z)) (cs' := 0) (ss' := 0) ?_ (fun _ _ => rfl)
  refine go_seg 8 (pc' := 54) (ls' := [(4, .int 5), (3, .int 0), (0, .ref 90), (1, .int 4), (2, .int 6)]) (st' := []) (w' := (fw z)) (cs' := 0) (ss' := 0) ?_ (fun _ _ => rfl)
  refine go_seg 8 (pc' := 66) (ls' := [(4, .int 5), (3, .int 0), (0, .ref 90), (1, .int 4), (2, .int 6)]) (st' := [.int 4, .int (-1), .int 0]) (w' := (fw z)) (cs' := 0) (ss' := 0) ?_ (fun _ _ => rfl)
  refine go_seg 8 (pc' := 51) (ls' := [(4, .int 6), (3, .int 0), (0, .ref 90), (1, .int 4), (2, .int 6)]) (st' := [.int 64, .int 6]) (w' := (fw z)) (cs' := 0) (ss' := 0) ?_ (fun _ _ => rfl)
  refine go_seg 8 (pc' := 65) (ls' := [(4, .int 6), (3, .int 0), (0, .ref 90), (1, .int 4), (2, .int 6)]) (st' := [.int (-1), .int 0]) (w' := (fw z)) (cs' := 0) (ss' := 0) ?_ (fun _ _ => rfl)
  refine go_seg 8 (pc' := 49) (ls' := [(4, .int 7), (3, .int 0), (0, .ref 90), (1, .int 4), (2, .int 6)]) (st' := [.int 7]) (w' := (fw z)) (cs' := 0) (ss' := 0) ?_ (fun _ _ => rfl)
  refine go_seg 8 (pc' := 64) (ls' := [(4, .int 7), (3, .int 0), (0, .ref 90), (1, .int 4), (2, .int 6)]) (st' := [.int 17, .ref 91, .int 0]) (w' := (fw z)) (cs' := 0) (ss' := 0) ?_ (fun _ _ => rfl)
  refine go_seg 8 (pc' := 47) (ls' := [(4, .int 8), (3, .int 0), (0, .ref 90), (1, .int 4), (2, .int 6)]) (st' := []) (w' := (fw z)) (cs' := 0) (ss' := 0) ?_ (fun _ _ => rfl)
  refine go_seg 8 (pc' := 63) (ls' := [(4, .int 8), (3, .int 0), (0, .ref 90), (1, .int 4), (2, .int 6)]) (st' := [.int 8, .int 10, .ref 91, .int 0]) (w' := (fw z)) (cs' := 0) (ss' := 0) ?_ (fun _ _ => rfl)
  refine go_seg 8 (pc' := 79) (ls' := [(4, .int 9), (3, .int 0), (0, .ref 90), (1, .int 4), (2, .int 6)]) (st' := []) (w' := (fw z)) (cs' := 0) (ss' := 0) ?_ (fun _ _ => rfl)
  refine go_seg 8 (pc' := 61) (ls' := [(4, .int 9), (3, .int 0), (0, .ref 90), (1, .int 4), (2, .int 6)]) (st' := [.int 10, .ref 91, .int 0]) (w' := (fw z)) (cs' := 0) (ss' := 0) ?_ (fun _ _ => rfl)
  refine go_seg 8 (pc' := 76) (ls' := [(3, .int 0), (4, .int 9), (0, .ref 90), (1, .int 4), (2, .int 6)]) (st' := []) (w' := (fw z)) (cs' := 0) (ss' := 0) ?_ (fun _ _ => rfl)
  refine go_seg 8 (pc' := 59) (ls' := [(4, .int 10), (3, .int 0), (0, .ref 90), (1, .int 4), (2, .int 6)]) (st' := [.ref 91, .int 0]) (w' := (fw z)) (cs' := 0) (ss' := 0) ?_ (fun _ _ => rfl)
  refine go_seg 8 (pc' := 75) (ls' := [(4, .int 10), (3, .int 0), (0, .ref 90), (1, .int 4), (2, .int 6)]) (st' := [.int 0]) (w' := (fw z)) (cs' := 0) (ss' := 0) ?_ (fun _ _ => rfl)
  refine go_seg 8 (pc' := 56) (ls' := [(4, .int 11), (3, .int 0), (0, .ref 90), (1, .int 4), (2, .int 6)]) (st' := [.ref 90, .int 0]) (w' := (fw z)) (cs' := 0) (ss' := 0) ?_ (fun _ _ => rfl)
  refine go_seg 8 (pc' := 74) (ls' := [(4, .int 11), (3, .int 0), (0, .ref 90), (1, .int 4), (2, .int 6)]) (st' := [.int 0, .int 0]) (w' := (fw z)) (cs' := 0) (ss' := 0) ?_ (fun _ _ => rfl)
  refine go_seg 8 (pc' := 55) (ls' := [(4, .int 12), (3, .int 0), (0, .ref 90), (1, .int 4), (2, .int 6)]) (st' := [.int 0]) (w' := (fw z)) (cs' := 0) (ss' := 0) ?_ (fun _ _ => rfl)
  refine go_seg 8 (pc' := 73) (ls' := [(4, .int 12), (3, .int 0), (0, .ref 90), (1, .int 4), (2, .int 6)]) (st' := [.int 0]) (w' := (fw z)) (cs' := 0) (ss' := 0) ?_ (fun _ _ => rfl)
  refine go_seg 8 (pc' := 54) (ls' := [(4, .int 13), (3, .int 0), (0, .ref 90), (1, .int 4), (2, .int 6)]) (st' := []) (w' := (fw z)) (cs' := 0) (ss' := 0) ?_ (fun _ _ => rfl)
  refine go_seg 8 (pc' := 66) (ls' := [(4, .int 13), (3, .int 0), (0, .ref 90), (1, .int 4), (2, .int 6)]) (st' := [.int 4, .int (-1), .int 0]) (w' := (fw z)) (cs' := 0) (ss' := 0) ?_ (fun _ _ => rfl)
  refine go_seg 8 (pc' := 51) (ls' := [(4, .int 14), (3, .int 0), (0, .ref 90), (1, .int 4), (2, .int 6)]) (st' := [.int 64, .int 14]) (w' := (fw z)) (cs' := 0) (ss' := 0) ?_ (fun _ _ => rfl)
  refine go_seg 8 (pc' := 65) (ls' := [(4, .int 14), (3, .int 0), (0, .ref 90), (1, .int 4), (2, .int 6)]) (st' := [.int (-1), .int 0]) (w' := (fw z)) (cs' := 0) (ss' := 0) ?_ (fun _ _ => rfl)
  refine go_seg 8 (pc' := 49) (ls' := [(4, .int 15), (3, .int 0), (0, .ref 90), (1, .int 4), (2, .int 6)]) (st' := [.int 15]) (w' := (fw z)) (cs' := 0) (ss' := 0) ?_ (fun _ _ => rfl)
  refine go_seg 8 (pc' := 64) (ls' := [(4, .int 15), (3, .int 0), (0, .ref 90), (1, .int 4), (2, .int 6)]) (st' := [.int 25, .ref 91, .int 0]) (w' := (fw z)) (cs' := 0) (ss' := 0) ?_ (fun _ _ => rfl)
  refine go_seg 8 (pc' := 47) (ls' := [(4, .int 16), (3, .int 0), (0, .ref 90), (1, .int 4), (2, .int 6)]) (st' := []) (w' := (fw z)) (cs' := 0) (ss' := 0) ?_ (fun _ _ => rfl)
  refine go_seg 8 (pc' := 63) (ls' := [(4, .int 16), (3, .int 0), (0, .ref 90), (1, .int 4), (2, .int 6)]) (st' := [.int 16, .int 10, .ref 91, .int 0]) (w' := (fw z)) (cs' := 0) (ss' := 0) ?_ (fun _ _ => rfl)
  refine go_seg 8 (pc' := 79) (ls' := [(4, .int 17), (3, .int 0), (0, .ref 90), (1, .int 4), (2, .int 6)]) (st' := []) (w' := (fw z)) (cs' := 0) (ss' := 0) ?_ (fun _ _ => rfl)
  refine go_seg 8 (pc' := 61) (ls' := [(4, .int 17), (3, .int 0), (0, .ref 90), (1, .int 4), (2, .int 6)]) (st' := [.int 10, .ref 91, .int 0]) (w' := (fw z)) (cs' := 0) (ss' := 0) ?_ (fun _ _ => rfl)
  refine go_seg 8 (pc' := 76) (ls' := [(3, .int 0), (4, .int 17), (0, .ref 90), (1, .int 4), (2, .int 6)]) (st' := []) (w' := (fw z)) (cs' := 0) (ss' := 0) ?_ (fun _ _ => rfl)
  refine go_seg 8 (pc' := 59) (ls' := [(4, .int 18), (3, .int 0), (0, .ref 90), (1, .int 4), (2, .int 6)]) (st' := [.ref 91, .int 0]) (w' := (fw z)) (cs' := 0) (ss' := 0) ?_ (fun _ _ => rfl)
  refine go_seg 8 (pc' := 75) (ls' := [(4, .int 18), (3, .int 0), (0, .ref 90), (1, .int 4), (2, .int 6)]) (st' := [.int 0]) (w' := (fw z)) (cs' := 0) (ss' := 0) ?_ (fun _ _ => rfl)
  refine go_seg 8 (pc' := 56) (ls' := [(4, .int 19), (3, .int 0), (0, .ref 90), (1, .int 4), (2, .int 6)]) (st' := [.ref 90, .int 0]) (w' := (fw z)) (cs' := 0) (ss' := 0) ?_ (fun _ _ => rfl)
  refine go_seg 8 (pc' := 74) (ls' := [(4, .int 19), (3, .int 0), (0, .ref 90), (1, .int 4), (2, .int 6)]) (st' := [.int 0, .int 0]) (w' := (fw z)) (cs' := 0) (ss' := 0) ?_ (fun _ _ => rfl)
  refine go_seg 8 (pc' := 55) (ls' := [(4, .int 20), (3, .int 0), (0, .ref 90), (1, .int 4), (2, .int 6)]) (st' := [.int 0]) (w' := (fw z)) (cs' := 0) (ss' := 0) ?_ (fun _ _ => rfl)
  refine go_seg 8 (pc' := 73) (ls' := [(4, .int 20), (3, .int 0), (0, .ref 90), (1, .int 4), (2, .int 6)]) (st' := [.int 0]) (w' := (fw z)) (cs' := 0) (ss' := 0) ?_ (fun _ _ => rfl)
  refine go_seg 8 (pc' := 54) (ls' := [(4, .int 21), (3, .int 0), (0, .ref 90), (1, .int 4), (2, .int 6)]) (st' := []) (w' := (fw z)) (cs' := 0) (ss' := 0) ?_ (fun _ _ => rfl)
  refine go_seg 8 (pc' := 66) (ls' := [(4, .int 21), (3, .int 0), (0, .ref 90), (1, .int 4), (2, .int 6)]) (st' := [.int 4, .int (-1), .int 0]) (w' := (fw z)) (cs' := 0) (ss' := 0) ?_ (fun _ _ => rfl)
  refine go_seg 8 (pc' := 51) (ls' := [(4, .int 22), (3, .int 0), (0, .ref 90), (1, .int 4), (2, .int 6)]) (st' := [.int 64, .int 22]) (w' := (fw z)) (cs' := 0) (ss' := 0) ?_ (fun _ _ => rfl)
  refine go_seg 8 (pc' := 65) (ls' := [(4, .int 22), (3, .int 0), (0, .ref 90), (1, .int 4), (2, .int 6)]) (st' := [.int (-1), .int 0]) (w' := (fw z)) (cs' := 0) (ss' := 0) ?_ (fun _ _ => rfl)
  refine go_seg 8 (pc' := 49) (ls' := [(4, .int 23), (3, .int 0), (0, .ref 90), (1, .int 4), (2, .int 6)]) (st' := [.int 23]) (w' := (fw z)) (cs' := 0) (ss' := 0) ?_ (fun _ _ => rfl)
  refine go_seg 8 (pc' := 64) (ls' := [(4, .int 23), (3, .int 0), (0, .ref 90), (1, .int 4), (2, .int 6)]) (st' := [.int 33, .ref 91, .int 0]) (w' := (fw z)) (cs' := 0) (ss' := 0) ?_ (fun _ _ => rfl)
  refine go_seg 8 (pc' := 47) (ls' := [(4, .int 24), (3, .int 0), (0, .ref 90), (1, .int 4), (2, .int 6)]) (st' := []) (w' := (fw z)) (cs' := 0) (ss' := 0) ?_ (fun _ _ => rfl)
  refine go_seg 8 (pc' := 63) (ls' := [(4, .int 24), (3, .int 0), (0, .ref 90), (1, .int 4), (2, .int 6)]) (st' := [.int 24, .int 10, .ref 91, .int 0]) (w' := (fw z)) (cs' := 0) (ss' := 0) ?_ (fun _ _ => rfl)
  refine go_seg 8 (pc' := 79) (ls' := [(4, .int 25), (3, .int 0), (0, .ref 90), (1, .int 4), (2, .int 6)]) (st' := []) (w' := (fw z)) (cs' := 0) (ss' := 0) ?_ (fun _ _ => rfl)
  refine go_seg 8 (pc' := 61) (ls' := [(4, .int 25), (3, .int 0), (0, .ref 90), (1, .int 4), (2, .int 6)]) (st' := [.int 10, .ref 91, .int 0]) (w' := (fw z)) (cs' := 0) (ss' := 0) ?_ (fun _ _ => rfl)
  refine go_seg 8 (pc' := 76) (ls' := [(3, .int 0), (4, .int 25), (0, .ref 90), (1, .int 4), (2, .int 6)]) (st' := []) (w' := (fw z)) (cs' := 0) (ss' := 0) ?_ (fun _ _ => rfl)
  refine go_seg 8 (pc' := 59) (ls' := [(4, .int 26), (3, .int 0), (0, .ref 90), (1, .int 4), (2, .int 6)]) (st' := [.ref 91, .int 0]) (w' := (fw z)) (cs' := 0) (ss' := 0) ?_ (fun _ _ => rfl)
  refine go_seg 8 (pc' := 75) (ls' := [(4, .int 26), (3, .int 0), (0, .ref 90), (1, .int 4), (2, .int 6)]) (st' := [.int 0]) (w' := (fw z)) (cs' := 0) (ss' := 0) ?_ (fun _ _ => rfl)
  refine go_seg 8 (pc' := 56) (ls' := [(4, .int 27), (3, .int 0), (0, .ref 90), (1, .int 4), (2, .int 6)]) (st' := [.ref 90, .int 0]) (w' := (fw z)) (cs' := 0) (ss' := 0) ?_ (fun _ _ => rfl)
  refine go_seg 8 (pc' := 74) (ls' := [(4, .int 27), (3, .int 0), (0, .ref 90), (1, .int 4), (2, .int 6)]) (st' := [.int 0, .int 0]) (w' := (fw z)) (cs' := 0) (ss' := 0) ?_ (fun _ _ => rfl)
  refine go_seg 8 (pc' := 55) (ls' := [(4, .int 28), (3, .int 0), (0, .ref 90), (1, .int 4), (2, .int 6)]) (st' := [.int 0]) (w' := (fw z)) (cs' := 0) (ss' := 0) ?_ (fun _ _ => rfl)
  refine go_seg 8 (pc' := 73) (ls' := [(4, .int 28), (3, .int 0), (0, .ref 90), (1, .int 4), (2, .int 6)]) (st' := [.int 0]) (w' := (fw z)) (cs' := 0) (ss' := 0) ?_ (fun _ _ => rfl)
  refine go_seg 8 (pc' := 54) (ls' := [(4, .int 29), (3, .int 0), (0, .ref 90), (1, .int 4), (2, .int 6)]) (st' := []) (w' := (fw z)) (cs' := 0) (ss' := 0) ?_ (fun _ _ => rfl)
  refine go_seg 8 (pc' := 66) (ls' := [(4, .int 29), (3, .int 0), (0, .ref 90), (1, .int 4), (2, .int 6)]) (st' := [.int 4, .int (-1), .int 0]) (w' := (fw z)) (cs' := 0) (ss' := 0) ?_ (fun _ _ => rfl)
  refine go_seg 8 (pc' := 51) (ls' := [(4, .int 30), (3, .int 0), (0, .ref 90), (1, .int 4), (2, .int 6)]) (st' := [.int 64, .int 30]) (w' := (fw z)) (cs' := 0) (ss' := 0) ?_ (fun _ _ => rfl)
  refine go_seg 8 (pc' := 65) (ls' := [(4, .int 30), (3, .int 0), (0, .ref 90), (1, .int 4), (2, .int 6)]) (st' := [.int (-1), .int 0]) (w' := (fw z)) (cs' := 0) (ss' := 0) ?_ (fun _ _ => rfl)
  refine go_seg 8 (pc' := 49) (ls' := [(4, .int 31), (3, .int 0), (0, .ref 90), (1, .int 4), (2, .int 6)]) (st' := [.int 31]) (w' := (fw z)) (cs' := 0) (ss' := 0) ?_ (fun _ _ => rfl)
  refine go_seg 8 (pc' := 64) (ls' := [(4, .int 31), (3, .int 0), (0, .ref 90), (1, .int 4), (2, .int 6)]) (st' := [.int 41, .ref 91, .int 0]) (w' := (fw z)) (cs' := 0) (ss' := 0) ?_ (fun _ _ => rfl)
  refine go_seg 8 (pc' := 47) (ls' := [(4, .int 32), (3, .int 0), (0, .ref 90), (1, .int 4), (2, .int 6)]) (st' := []) (w' := (fw z)) (cs' := 0) (ss' := 0) ?_ (fun _ _ => rfl)
  refine go_seg 8 (pc' := 63) (ls' := [(4, .int 32), (3, .int 0), (0, .ref 90), (1, .int 4), (2, .int 6)]) (st' := [.int 32, .int 10, .ref 91, .int 0]) (w' := (fw z)) (cs' := 0) (ss' := 0) ?_ (fun _ _ => rfl)
  refine go_seg 8 (pc' := 79) (ls' := [(4, .int 33), (3, .int 0), (0, .ref 90), (1, .int 4), (2, .int 6)]) (st' := []) (w' := (fw z)) (cs' := 0) (ss' := 0) ?_ (fun _ _ => rfl)
  refine go_seg 8 (pc' := 61) (ls' := [(4, .int 33), (3, .int 0), (0, .ref 90), (1, .int 4), (2, .int 6)]) (st' := [.int 10, .ref 91, .int 0]) (w' := (fw z)) (cs' := 0) (ss' := 0) ?_ (fun _ _ => rfl)
  refine go_seg 8 (pc' := 76) (ls' := [(3, .int 0), (4, .int 33), (0, .ref 90), (1, .int 4), (2, .int 6)]) (st' := []) (w' := (fw z)) (cs' := 0) (ss' := 0) ?_ (fun _ _ => rfl)
  refine go_seg 8 (pc' := 59) (ls' := [(4, .int 34), (3, .int 0), (0, .ref 90), (1, .int 4), (2, .int 6)]) (st' := [.ref 91, .int 0]) (w' := (fw z)) (cs' := 0) (ss' := 0) ?_ (fun _ _ => rfl)
  refine go_seg 8 (pc' := 75) (ls' := [(4, .int 34), (3, .int 0), (0, .ref 90), (1, .int 4), (2, .int 6)]) (st' := [.int 0]) (w' := (fw z)) (cs' := 0) (ss' := 0) ?_ (fun _ _ => rfl)
  refine go_seg 8 (pc' := 56) (ls' := [(4, .int 35), (3, .int 0), (0, .ref 90), (1, .int 4), (2, .int 6)]) (st' := [.ref 90, .int 0]) (w' := (fw z)) (cs' := 0) (ss' := 0) ?_ (fun _ _ => rfl)
  refine go_seg 8 (pc' := 74) (ls' := [(4, .int 35), (3, .int 0), (0, .ref 90), (1, .int 4), (2, .int 6)]) (st' := [.int 0, .int 0]) (w' := (fw z)) (cs' := 0) (ss' := 0) ?_ (fun _ _ => rfl)
  refine go_seg 8 (pc' := 55) (ls' := [(4, .int 36), (3, .int 0), (0, .ref 90), (1, .int 4), (2, .int 6)]) (st' := [.int 0]) (w' := (fw z)) (cs' := 0) (ss' := 0) ?_ (fun _ _ => rfl)
  refine go_seg 8 (pc' := 73) (ls' := [(4, .int 36), (3, .int 0), (0, .ref 90), (1, .int 4), (2, .int 6)]) (st' := [.int 0]) (w' := (fw z)) (cs' := 0) (ss' := 0) ?_ (fun _ _ => rfl)
  refine go_seg 8 (pc' := 54) (ls' := [(4, .int 37), (3, .int 0), (0, .ref 90), (1, .int 4), (2, .int 6)]) (st' := []) (w' := (fw z)) (cs' := 0) (ss' := 0) ?_ (fun _ _ => rfl)
  refine go_seg 8 (pc' := 66) (ls' := [(4, .int 37), (3, .int 0), (0, .ref 90), (1, .int 4), (2, .int 6)]) (st' := [.int 4, .int (-1), .int 0]) (w' := (fw z)) (cs' := 0) (ss' := 0) ?_ (fun _ _ => rfl)
  refine go_seg 8 (pc' := 51) (ls' := [(4, .int 38), (3, .int 0), (0, .ref 90), (1, .int 4), (2, .int 6)]) (st' := [.int 64, .int 38]) (w' := (fw z)) (cs' := 0) (ss' := 0) ?_ (fun _ _ => rfl)
  refine go_seg 8 (pc' := 65) (ls' := [(4, .int 38), (3, .int 0), (0, .ref 90), (1, .int 4), (2, .int 6)]) (st' := [.int (-1), .int 0]) (w' := (fw z)) (cs' := 0) (ss' := 0) ?_ (fun _ _ => rfl)
  refine go_seg 8 (pc' := 49) (ls' := [(4, .int 39), (3, .int 0), (0, .ref 90), (1, .int 4), (2, .int 6)]) (st' := [.int 39]) (w' := (fw z)) (cs' := 0) (ss' := 0) ?_ (fun _ _ => rfl)
  refine go_seg 8 (pc' := 64) (ls' := [(4, .int 39), (3, .int 0), (0, .ref 90), (1, .int 4), (2, .int 6)]) (st' := [.int 49, .ref 91, .int 0]) (w' := (fw z)) (cs' := 0) (ss' := 0) ?_ (fun _ _ => rfl)
  refine go_seg 8 (pc' := 47) (ls' := [(4, .int 40), (3, .int 0), (0, .ref 90), (1, .int 4), (2, .int 6)]) (st' := []) (w' := (fw z)) (cs' := 0) (ss' := 0) ?_ (fun _ _ => rfl)
  refine go_seg 8 (pc' := 63) (ls' := [(4, .int 40), (3, .int 0), (0, .ref 90), (1, .int 4), (2, .int 6)]) (st' := [.int 40, .int 10, .ref 91, .int 0]) (w' := (fw z)) (cs' := 0) (ss' := 0) ?_ (fun _ _ => rfl)
  refine go_seg 8 (pc' := 79) (ls' := [(4, .int 41), (3, .int 0), (0, .ref 90), (1, .int 4), (2, .int 6)]) (st' := []) (w' := (fw z)) (cs' := 0) (ss' := 0) ?_ (fun _ _ => rfl)
  refine go_seg 8 (pc' := 61) (ls' := [(4, .int 41), (3, .int 0), (0, .ref 90), (1, .int 4), (2, .int 6)]) (st' := [.int 10, .ref 91, .int 0]) (w' := (fw z)) (cs' := 0) (ss' := 0) ?_ (fun _ _ => rfl)
  refine go_seg 8 (pc' := 76) (ls' := [(3, .int 0), (4, .int 41), (0, .ref 90), (1, .int 4), (2, .int 6)]) (st' := []) (w' := (fw z)) (cs' := 0) (ss' := 0) ?_ (fun _ _ => rfl)
  refine go_seg 8 (pc' := 59) (ls' := [(4, .int 42), (3, .int 0), (0, .ref 90), (1, .int 4), (2, .int 6)]) (st' := [.ref 91, .int 0]) (w' := (fw z)) (cs' := 0) (ss' := 0) ?_ (fun _ _ => rfl)
  refine go_seg 8 (pc' := 75) (ls' := [(4, .int 42), (3, .int 0), (0, .ref 90), (1, .int 4), (2, .int 6)]) (st' := [.int 0]) (w' := (fw z)) (cs' := 0) (ss' := 0) ?_ (fun _ _ => rfl)
  refine go_seg 8 (pc' := 56) (ls' := [(4, .int 43), (3, .int 0), (0, .ref 90), (1, .int 4), (2, .int 6)]) (st' := [.ref 90, .int 0]) (w' := (fw z)) (cs' := 0) (ss' := 0) ?_ (fun _ _ => rfl)
  refine go_seg 8 (pc' := 74) (ls' := [(4, .int 43), (3, .int 0), (0, .ref 90), (1, .int 4), (2, .int 6)]) (st' := [.int 0, .int 0]) (w' := (fw z)) (cs' := 0) (ss' := 0) ?_ (fun _ _ => rfl)
  refine go_seg 8 (pc' := 55) (ls' := [(4, .int 44), (3, .int 0), (0, .ref 90), (1, .int 4), (2, .int 6)]) (st' := [.int 0]) (w' := (fw z)) (cs' := 0) (ss' := 0) ?_ (fun _ _ => rfl)
  refine go_seg 8 (pc' := 73) (ls' := [(4, .int 44), (3, .int 0), (0, .ref 90), (1, .int 4), (2, .int 6)]) (st' := [.int 0]) (w' := (fw z)) (cs' := 0) (ss' := 0) ?_ (fun _ _ => rfl)
  refine go_seg 8 (pc' := 54) (ls' := [(4, .int 45), (3, .int 0), (0, .ref 90), (1, .int 4), (2, .int 6)]) (st' := []) (w' := (fw z)) (cs' := 0) (ss' := 0) ?_ (fun _ _ => rfl)
  refine go_seg 8 (pc' := 66) (ls' := [(4, .int 45), (3, .int 0), (0, .ref 90), (1, .int 4), (2, .int 6)]) (st' := [.int 4, .int (-1), .int 0]) (w' := (fw z)) (cs' := 0) (ss' := 0) ?_ (fun _ _ => rfl)
  refine go_seg 8 (pc' := 51) (ls' := [(4, .int 46), (3, .int 0), (0, .ref 90), (1, .int 4), (2, .int 6)]) (st' := [.int 64, .int 46]) (w' := (fw z)) (cs' := 0) (ss' := 0) ?_ (fun _ _ => rfl)
  refine go_seg 8 (pc' := 65) (ls' := [(4, .int 46), (3, .int 0), (0, .ref 90), (1, .int 4), (2, .int 6)]) (st' := [.int (-1), .int 0]) (w' := (fw z)) (cs' := 0) (ss' := 0) ?_ (fun _ _ => rfl)
  refine go_seg 8 (pc' := 49) (ls' := [(4, .int 47), (3, .int 0), (0, .ref 90), (1, .int 4), (2, .int 6)]) (st' := [.int 47]) (w' := (fw z)) (cs' := 0) (ss' := 0) ?_ (fun _ _ => rfl)
  refine go_seg 8 (pc' := 64) (ls' := [(4, .int 47), (3, .int 0), (0, .ref 90), (1, .int 4), (2, .int 6)]) (st' := [.int 57, .ref 91, .int 0]) (w' := (fw z)) (cs' := 0) (ss' := 0) ?_ (fun _ _ => rfl)
  refine go_seg 8 (pc' := 47) (ls' := [(4, .int 48), (3, .int 0), (0, .ref 90), (1, .int 4), (2, .int 6)]) (st' := []) (w' := (fw z)) (cs' := 0) (ss' := 0) ?_ (fun _ _ => rfl)
  refine go_seg 8 (pc' := 63) (ls' := [(4, .int 48), (3, .int 0), (0, .ref 90), (1, .int 4), (2, .int 6)]) (st' := [.int 48, .int 10, .ref 91, .int 0]) (w' := (fw z)) (cs' := 0) (ss' := 0) ?_ (fun _ _ => rfl)
  refine go_seg 8 (pc' := 79) (ls' := [(4, .int 49), (3, .int 0), (0, .ref 90), (1, .int 4), (2, .int 6)]) (st' := []) (w' := (fw z)) (cs' := 0) (ss' := 0) ?_ (fun _ _ => rfl)
  refine go_seg 8 (pc' := 61) (ls' := [(4, .int 49), (3, .int 0), (0, .ref 90), (1, .int 4), (2, .int 6)]) (st' := [.int 10, .ref 91, .int 0]) (w' := (fw z)) (cs' := 0) (ss' := 0) ?_ (fun _ _ => rfl)
  refine go_seg 8 (pc' := 76) (ls' := [(3, .int 0), (4, .int 49), (0, .ref 90), (1, .int 4), (2, .int 6)]) (st' := []) (w' := (fw z)) (cs' := 0) (ss' := 0) ?_ (fun _ _ => rfl)
  refine go_seg 8 (pc' := 59) (ls' := [(4, .int 50), (3, .int 0), (0, .ref 90), (1, .int 4), (2, .int 6)]) (st' := [.ref 91, .int 0]) (w' := (fw z)) (cs' := 0) (ss' := 0) ?_ (fun _ _ => rfl)
  refine go_seg 8 (pc' := 75) (ls' := [(4, .int 50), (3, .int 0), (0, .ref 90), (1, .int 4), (2, .int 6)]) (st' := [.int 0]) (w' := (fw z)) (cs' := 0) (ss' := 0) ?_ (fun _ _ => rfl)
  refine go_seg 8 (pc' := 56) (ls' := [(4, .int 51), (3, .int 0), (0, .ref 90), (1, .int 4), (2, .int 6)]) (st' := [.ref 90, .int 0]) (w' := (fw z)) (cs' := 0) (ss' := 0) ?_ (fun _ _ => rfl)
  refine go_seg 8 (pc' := 74) (ls' := [(4, .int 51), (3, .int 0), (0, .ref 90), (1, .int 4), (2, .int 6)]) (st' := [.int 0, .int 0]) (w' := (fw z)) (cs' := 0) (ss' := 0) ?_ (fun _ _ => rfl)
  refine go_seg 8 (pc' := 55) (ls' := [(4, .int 52), (3, .int 0), (0, .ref 90), (1, .int 4), (2, .int 6)]) (st' := [.int 0]) (w' := (fw z)) (cs' := 0) (ss' := 0) ?_ (fun _ _ => rfl)
  refine go_seg 8 (pc' := 73) (ls' := [(4, .int 52), (3, .int 0), (0, .ref 90), (1, .int 4), (2, .int 6)]) (st' := [.int 0]) (w' := (fw z)) (cs' := 0) (ss' := 0) ?_ (fun _ _ => rfl)
  refine go_seg 8 (pc' := 54) (ls' := [(4, .int 53), (3, .int 0), (0, .ref 90), (1, .int 4), (2, .int 6)]) (st' := []) (w' := (fw z)) (cs' := 0) (ss' := 0) ?_ (fun _ _ => rfl)
  refine go_seg 8 (pc' := 66) (ls' := [(4, .int 53), (3, .int 0), (0, .ref 90), (1, .int 4), (2, .int 6)]) (st' := [.int 4, .int (-1), .int 0]) (w' := (fw z)) (cs' := 0) (ss' := 0) ?_ (fun _ _ => rfl)
  refine go_seg 8 (pc' := 51) (ls' := [(4, .int 54), (3, .int 0), (0, .ref 90), (1, .int 4), (2, .int 6)]) (st' := [.int 64, .int 54]) (w' := (fw z)) (cs' := 0) (ss' := 0) ?_ (fun _ _ => rfl)
  refine go_seg 8 (pc' := 65) (ls' := [(4, .int 54), (3, .int 0), (0, .ref 90), (1, .int 4), (2, .int 6)]) (st' := [.int (-1), .int 0]) (w' := (fw z)) (cs' := 0) (ss' := 0) ?_ (fun _ _ => rfl)
  refine go_seg 8 (pc' := 49) (ls' := [(4, .int 55), (3, .int 0), (0, .ref 90), (1, .int 4), (2, .int 6)]) (st' := [.int 55]) (w' := (fw z)) (cs' := 0) (ss' := 0) ?_ (fun _ _ => rfl)
  refine go_seg 8 (pc' := 64) (ls' := [(4, .int 55), (3, .int 0), (0, .ref 90), (1, .int 4), (2, .int 6)]) (st' := [.int 65, .ref 91, .int 0]) (w' := (fw z)) (cs' := 0) (ss' := 0) ?_ (fun _ _ => rfl)
  refine go_seg 8 (pc' := 47) (ls' := [(4, .int 56), (3, .int 0), (0, .ref 90), (1, .int 4), (2, .int 6)]) (st' := []) (w' := (fw z)) (cs' := 0) (ss' := 0) ?_ (fun _ _ => rfl)
  refine go_seg 8 (pc' := 63) (ls' := [(4, .int 56), (3, .int 0), (0, .ref 90), (1, .int 4), (2, .int 6)]) (st' := [.int 56, .int 10, .ref 91, .int 0]) (w' := (fw z)) (cs' := 0) (ss' := 0) ?_ (fun _ _ => rfl)
  refine go_seg 8 (pc' := 79) (ls' := [(4, .int 57), (3, .int 0), (0, .ref 90), (1, .int 4), (2, .int 6)]) (st' := []) (w' := (fw z)) (cs' := 0) (ss' := 0) ?_ (fun _ _ => rfl)
  refine go_seg 8 (pc' := 61) (ls' := [(4, .int 57), (3, .int 0), (0, .ref 90), (1, .int 4), (2, .int 6)]) (st' := [.int 10, .ref 91, .int 0]) (w' := (fw z)) (cs' := 0) (ss' := 0) ?_ (fun _ _ => rfl)
  refine go_seg 8 (pc' := 76) (ls' := [(3, .int 0), (4, .int 57), (0, .ref 90), (1, .int 4), (2, .int 6)]) (st' := []) (w' := (fw z)) (cs' := 0) (ss' := 0) ?_ (fun _ _ => rfl)
  refine go_seg 8 (pc' := 59) (ls' := [(4, .int 58), (3, .int 0), (0, .ref 90), (1, .int 4), (2, .int 6)]) (st' := [.ref 91, .int 0]) (w' := (fw z)) (cs' := 0) (ss' := 0) ?_ (fun _ _ => rfl)
  refine go_seg 8 (pc' := 75) (ls' := [(4, .int 58), (3, .int 0), (0, .ref 90), (1, .int 4), (2, .int 6)]) (st' := [.int 0]) (w' := (fw z)) (cs' := 0) (ss' := 0) ?_ (fun _ _ => rfl)
  refine go_seg 8 (pc' := 56) (ls' := [(4, .int 59), (3, .int 0), (0, .ref 90), (1, .int 4), (2, .int 6)]) (st' := [.ref 90, .int 0]) (w' := (fw z)) (cs' := 0) (ss' := 0) ?_ (fun _ _ => rfl)
  refine go_seg 8 (pc' := 74) (ls' := [(4, .int 59), (3, .int 0), (0, .ref 90), (1, .int 4), (2, .int 6)]) (st' := [.int 0, .int 0]) (w' := (fw z)) (cs' := 0) (ss' := 0) ?_ (fun _ _ => rfl)
  refine go_seg 8 (pc' := 55) (ls' := [(4, .int 60), (3, .int 0), (0, .ref 90), (1, .int 4), (2, .int 6)]) (st' := [.int 0]) (w' := (fw z)) (cs' := 0) (ss' := 0) ?_ (fun _ _ => rfl)
  refine go_seg 8 (pc' := 73) (ls' := [(4, .int 60), (3, .int 0), (0, .ref 90), (1, .int 4), (2, .int 6)]) (st' := [.int 0]) (w' := (fw z)) (cs' := 0) (ss' := 0) ?_ (fun _ _ => rfl)
  refine go_seg 8 (pc' := 54) (ls' := [(4, .int 61), (3, .int 0), (0, .ref 90), (1, .int 4), (2, .int 6)]) (st' := []) (w' := (fw z)) (cs' := 0) (ss' := 0) ?_ (fun _ _ => rfl)
  refine go_seg 8 (pc' := 66) (ls' := [(4, .int 61), (3, .int 0), (0, .ref 90), (1, .int 4), (2, .int 6)]) (st' := [.int 4, .int (-1), .int 0]) (w' := (fw z)) (cs' := 0) (ss' := 0) ?_ (fun _ _ => rfl)
  refine go_seg 8 (pc' := 51) (ls' := [(4, .int 62), (3, .int 0), (0, .ref 90), (1, .int 4), (2, .int 6)]) (st' := [.int 64, .int 62]) (w' := (fw z)) (cs' := 0) (ss' := 0) ?_ (fun _ _ => rfl)
  refine go_seg 8 (pc' := 65) (ls' := [(4, .int 62), (3, .int 0), (0, .ref 90), (1, .int 4), (2, .int 6)]) (st' := [.int (-1), .int 0]) (w' := (fw z)) (cs' := 0) (ss' := 0) ?_ (fun _ _ => rfl)
  refine go_seg 8 (pc' := 49) (ls' := [(4, .int 63), (3, .int 0), (0, .ref 90), (1, .int 4), (2, .int 6)]) (st' := [.int 63]) (w' := (fw z)) (cs' := 0) (ss' := 0) ?_ (fun _ _ => rfl)
  refine go_seg 8 (pc' := 64) (ls' := [(4, .int 63), (3, .int 0), (0, .ref 90), (1, .int 4), (2, .int 6)]) (st' := [.int 73, .ref 91, .int 0]) (w' := (fw z)) (cs' := 0) (ss' := 0) ?_ (fun _ _ => rfl)
  refine go_seg 8 (pc' := 47) (ls' := [(4, .int 64), (3, .int 0), (0, .ref 90), (1, .int 4), (2, .int 6)]) (st' := []) (w' := (fw z)) (cs' := 0) (ss' := 0) ?_ (fun _ _ => rfl)
  refine go_seg 8 (pc' := 94) (ls' := [(4, .int 64), (3, .int 0), (0, .ref 90), (1, .int 4), (2, .int 6)]) (st' := [.int 6, .int 6]) (w' := (fw z)) (cs' := 0) (ss' := 0) ?_ (fun _ _ => rfl)
  refine go_seg 3 (pc' := 99) (ls' := [(4, .int 64), (3, .int 0), (0, .ref 90), (1, .int 4), (2, .int 6)]) (st' := [.int 4, .ref 90]) (w' := (fw z)) (cs' := 0) (ss' := 0) ?_ (fun _ _ => rfl)
  refine go_cl (k := 2) (st' := [.int 0]) (cs' := 0) (ss' := 0) rfl rfl rfl rfl rfl rfl rfl (ro_479 z) ?_
  exact go_end 2 (fun _ _ => rfl)
theorem lf_4_1137 (a0 : Int32) (a3 : Int32) (a4 : Int32) (a5 : Int32) : ∃ w', pq_Go 20 pm_law 370 [(3, .int 0), (2, .ref 90), (1, .ref 1), (0, .ref 0)] [] (fw (sz a0 4 6 a3 a4 a5)) 109 12668 (some (.int 1), w') := by
  refine ⟨(fw (sz a0 4 6 a3 a4 a5)), ?_⟩
  refine go_seg 8 (pc' := 378) (ls' := [(3, .int 0), (2, .ref 90), (1, .ref 1), (0, .ref 0)]) (st' := [.int 0, .ref 0, .int 4, .ref 1]) (w' := (fw (sz a0 4 6 a3 a4 a5))) (cs' := 109) (ss' := 12668) ?_ (fun _ _ => rfl)
  refine go_seg 3 (pc' := 381) (ls' := [(3, .int 0), (2, .ref 90), (1, .ref 1), (0, .ref 0)]) (st' := [.int 6, .int 4, .ref 1]) (w' := (fw (sz a0 4 6 a3 a4 a5))) (cs' := 109) (ss' := 12668) ?_ (fun _ _ => rfl)
  refine go_cl (k := 20) (st' := [.int 0]) (cs' := 109) (ss' := 12668) rfl rfl rfl rfl rfl rfl rfl (ro_1135 (sz a0 4 6 a3 a4 a5)) ?_
  refine go_seg 8 (pc' := 392) (ls' := [(3, .int 0), (2, .ref 90), (1, .ref 1), (0, .ref 0)]) (st' := [.int 0, .ref 0, .int 4, .ref 90, .int 0]) (w' := (fw (sz a0 4 6 a3 a4 a5))) (cs' := 109) (ss' := 12668) ?_ (fun _ _ => rfl)
  refine go_seg 3 (pc' := 395) (ls' := [(3, .int 0), (2, .ref 90), (1, .ref 1), (0, .ref 0)]) (st' := [.int 6, .int 4, .ref 90, .int 0]) (w' := (fw (sz a0 4 6 a3 a4 a5))) (cs' := 109) (ss' := 12668) ?_ (fun _ _ => rfl)
  refine go_cl (k := 20) (st' := [.int 0, .int 0]) (cs' := 109) (ss' := 12668) rfl rfl rfl rfl rfl rfl rfl (ro_1136 (sz a0 4 6 a3 a4 a5)) ?_
  refine go_cmp true rfl (br_self _) ?_
  exact law_tail (f := sc a0 4 6 a3 a4 a5) rfl
theorem ro_1138 (z : pq_C) : pq_Ru 2 27 [.ref 11, .int 5] (fw z) (some (.int 0), (fw z)) := by
  refine ru_of (k := 1) (M := pm_27) rfl rfl ?_
  refine go_seg 8 (pc' := 11) (ls' := [(3, .int 0), (2, .int 0), (0, .ref 11), (1, .int 5)]) (st' := [.int 5]) (w' := (fw z)) (cs' := 0) (ss' := 0) ?_ (fun _ _ => rfl)
  refine go_cl (k := 1) (st' := [.int 1]) (cs' := 0) (ss' := 0) rfl rfl rfl rfl rfl rfl rfl (ro_594 z) ?_
  refine go_seg 8 (pc' := 27) (ls' := [(3, .int 0), (2, .int 0), (0, .ref 11), (1, .int 5)]) (st' := [.int 5, .int 0, .ref 14, .int 0]) (w' := (fw z)) (cs' := 0) (ss' := 0) ?_ (fun _ _ => rfl)
  refine go_seg 8 (pc' := 7) (ls' := [(3, .int 1), (2, .int 0), (0, .ref 11), (1, .int 5)]) (st' := [.int 8, .int 1]) (w' := (fw z)) (cs' := 0) (ss' := 0) ?_ (fun _ _ => rfl)
  refine go_seg 2 (pc' := 11) (ls' := [(3, .int 1), (2, .int 0), (0, .ref 11), (1, .int 5)]) (st' := [.int 5]) (w' := (fw z)) (cs' := 0) (ss' := 0) ?_ (fun _ _ => rfl)
  refine go_cl (k := 1) (st' := [.int 1]) (cs' := 0) (ss' := 0) rfl rfl rfl rfl rfl rfl rfl (ro_594 z) ?_
  refine go_seg 8 (pc' := 27) (ls' := [(3, .int 1), (2, .int 0), (0, .ref 11), (1, .int 5)]) (st' := [.int 5, .int 8, .ref 14, .int 0]) (w' := (fw z)) (cs' := 0) (ss' := 0) ?_ (fun _ _ => rfl)
  refine go_seg 8 (pc' := 7) (ls' := [(3, .int 2), (2, .int 0), (0, .ref 11), (1, .int 5)]) (st' := [.int 8, .int 2]) (w' := (fw z)) (cs' := 0) (ss' := 0) ?_ (fun _ _ => rfl)
  refine go_seg 2 (pc' := 11) (ls' := [(3, .int 2), (2, .int 0), (0, .ref 11), (1, .int 5)]) (st' := [.int 5]) (w' := (fw z)) (cs' := 0) (ss' := 0) ?_ (fun _ _ => rfl)
  refine go_cl (k := 1) (st' := [.int 1]) (cs' := 0) (ss' := 0) rfl rfl rfl rfl rfl rfl rfl (ro_594 z) ?_
  refine go_seg 8 (pc' := 27) (ls' := [(3, .int 2), (2, .int 0), (0, .ref 11), (1, .int 5)]) (st' := [.int 5, .int 16, .ref 14, .int 0]) (w' := (fw z)) (cs' := 0) (ss' := 0) ?_ (fun _ _ => rfl)
  refine go_seg 8 (pc' := 7) (ls' := [(3, .int 3), (2, .int 0), (0, .ref 11), (1, .int 5)]) (st' := [.int 8, .int 3]) (w' := (fw z)) (cs' := 0) (ss' := 0) ?_ (fun _ _ => rfl)
  refine go_seg 2 (pc' := 11) (ls' := [(3, .int 3), (2, .int 0), (0, .ref 11), (1, .int 5)]) (st' := [.int 5]) (w' := (fw z)) (cs' := 0) (ss' := 0) ?_ (fun _ _ => rfl)
  refine go_cl (k := 1) (st' := [.int 1]) (cs' := 0) (ss' := 0) rfl rfl rfl rfl rfl rfl rfl (ro_594 z) ?_
  refine go_seg 8 (pc' := 27) (ls' := [(3, .int 3), (2, .int 0), (0, .ref 11), (1, .int 5)]) (st' := [.int 5, .int 24, .ref 14, .int 0]) (w' := (fw z)) (cs' := 0) (ss' := 0) ?_ (fun _ _ => rfl)
  refine go_seg 8 (pc' := 7) (ls' := [(3, .int 4), (2, .int 0), (0, .ref 11), (1, .int 5)]) (st' := [.int 8, .int 4]) (w' := (fw z)) (cs' := 0) (ss' := 0) ?_ (fun _ _ => rfl)
  refine go_seg 2 (pc' := 11) (ls' := [(3, .int 4), (2, .int 0), (0, .ref 11), (1, .int 5)]) (st' := [.int 5]) (w' := (fw z)) (cs' := 0) (ss' := 0) ?_ (fun _ _ => rfl)
  refine go_cl (k := 1) (st' := [.int 1]) (cs' := 0) (ss' := 0) rfl rfl rfl rfl rfl rfl rfl (ro_594 z) ?_
  refine go_seg 8 (pc' := 27) (ls' := [(3, .int 4), (2, .int 0), (0, .ref 11), (1, .int 5)]) (st' := [.int 5, .int 32, .ref 14, .int 0]) (w' := (fw z)) (cs' := 0) (ss' := 0) ?_ (fun _ _ => rfl)
  refine go_seg 8 (pc' := 7) (ls' := [(3, .int 5), (2, .int 0), (0, .ref 11), (1, .int 5)]) (st' := [.int 8, .int 5]) (w' := (fw z)) (cs' := 0) (ss' := 0) ?_ (fun _ _ => rfl)
  refine go_seg 2 (pc' := 11) (ls' := [(3, .int 5), (2, .int 0), (0, .ref 11), (1, .int 5)]) (st' := [.int 5]) (w' := (fw z)) (cs' := 0) (ss' := 0) ?_ (fun _ _ => rfl)
  refine go_cl (k := 1) (st' := [.int 1]) (cs' := 0) (ss' := 0) rfl rfl rfl rfl rfl rfl rfl (ro_594 z) ?_
  refine go_seg 8 (pc' := 27) (ls' := [(3, .int 5), (2, .int 0), (0, .ref 11), (1, .int 5)]) (st' := [.int 5, .int 40, .ref 14, .int 0]) (w' := (fw z)) (cs' := 0) (ss' := 0) ?_ (fun _ _ => rfl)
  refine go_seg 8 (pc' := 7) (ls' := [(3, .int 6), (2, .int 0), (0, .ref 11), (1, .int 5)]) (st' := [.int 8, .int 6]) (w' := (fw z)) (cs' := 0) (ss' := 0) ?_ (fun _ _ => rfl)
  refine go_seg 2 (pc' := 11) (ls' := [(3, .int 6), (2, .int 0), (0, .ref 11), (1, .int 5)]) (st' := [.int 5]) (w' := (fw z)) (cs' := 0) (ss' := 0) ?_ (fun _ _ => rfl)
  refine go_cl (k := 1) (st' := [.int 1]) (cs' := 0) (ss' := 0) rfl rfl rfl rfl rfl rfl rfl (ro_594 z) ?_
  refine go_seg 8 (pc' := 27) (ls' := [(3, .int 6), (2, .int 0), (0, .ref 11), (1, .int 5)]) (st' := [.int 5, .int 48, .ref 14, .int 0]) (w' := (fw z)) (cs' := 0) (ss' := 0) ?_ (fun _ _ => rfl)
  refine go_seg 8 (pc' := 7) (ls' := [(3, .int 7), (2, .int 0), (0, .ref 11), (1, .int 5)]) (st' := [.int 8, .int 7]) (w' := (fw z)) (cs' := 0) (ss' := 0) ?_ (fun _ _ => rfl)
  refine go_seg 2 (pc' := 11) (ls' := [(3, .int 7), (2, .int 0), (0, .ref 11), (1, .int 5)]) (st' := [.int 5]) (w' := (fw z)) (cs' := 0) (ss' := 0) ?_ (fun _ _ => rfl)
  refine go_cl (k := 1) (st' := [.int 1]) (cs' := 0) (ss' := 0) rfl rfl rfl rfl rfl rfl rfl (ro_594 z) ?_
  refine go_seg 8 (pc' := 27) (ls' := [(3, .int 7), (2, .int 0), (0, .ref 11), (1, .int 5)]) (st' := [.int 5, .int 56, .ref 14, .int 0]) (w' := (fw z)) (cs' := 0) (ss' := 0) ?_ (fun _ _ => rfl)
  refine go_seg 8 (pc' := 7) (ls' := [(3, .int 8), (2, .int 0), (0, .ref 11), (1, .int 5)]) (st' := [.int 8, .int 8]) (w' := (fw z)) (cs' := 0) (ss' := 0) ?_ (fun _ _ => rfl)
  exact go_end 3 (fun _ _ => rfl)
theorem ro_1139 (z : pq_C) : pq_Ru 3 25 [.ref 1, .int 5, .int 6] (fw z) (some (.int 0), (fw z)) := by
  refine ru_of (k := 2) (M := pm_25) rfl rfl ?_
  refine go_seg 1 (pc' := 1) (ls' := [(0, .ref 1), (1, .int 5), (2, .int 6)]) (st' := [.int 5]) (w' := (fw z)) (cs' := 0) (ss' := 0) ?_ (fun _ _ => rfl)
  refine go_cl (k := 2) (st' := [.int 1]) (cs' := 0) (ss' := 0) rfl rfl rfl rfl rfl rfl rfl (ro_594 z) ?_
  refine go_seg 6 (pc' := 124) (ls' := [(0, .ref 1), (1, .int 5), (2, .int 6)]) (st' := [.int 5, .ref 11]) (w' := (fw z)) (cs' := 0) (ss' := 0) ?_ (fun _ _ => rfl)
  refine go_cl (k := 2) (st' := [.int 0]) (cs' := 0) (ss' := 0) rfl rfl rfl rfl rfl rfl rfl (ro_1138 z) ?_
  exact go_end 1 (fun _ _ => rfl)
theorem ro_1140 (z : pq_C) : pq_Ru 3 169 [.ref 90, .int 5, .int 6] (fw z) (some (.int 0), (fw z)) := by
  refine ru_of (k := 2) (M := pm_169) rfl rfl ?_
  refine go_seg 1 (pc' := 1) (ls' := [(0, .ref 90), (1, .int 5), (2, .int 6)]) (st' := [.int 5]) (w' := (fw z)) (cs' := 0) (ss' := 0) ?_ (fun _ _ => rfl)
  refine go_cl (k := 2) (st' := [.int 1]) (cs' := 0) (ss' := 0) rfl rfl rfl rfl rfl rfl rfl (ro_970 z) ?_
  refine go_seg 5 (pc' := 13) (ls' := [(0, .ref 90), (1, .int 5), (2, .int 6)]) (st' := [.long 7, .long 0, .long 6]) (w' := (fw z)) (cs' := 0) (ss' := 0) ?_ (fun _ _ => rfl)
  refine go_cl (k := 2) (st' := [.int 1]) (cs' := 0) (ss' := 0) rfl rfl rfl rfl rfl rfl rfl (ro_975 z) ?_
  refine go_seg 8 (pc' := 47) (ls' := [(4, .int 0), (3, .int 0), (0, .ref 90), (1, .int 5), (2, .int 6)]) (st' := []) (w' := (fw z)) (cs' := 0) (ss' := 0) ?_ (fun _ _ => rfl)
  refine go_seg 8 (pc' := 63) (ls' := [(4, .int 0), (3, .int 0), (0, .ref 90), (1, .int 5), (2, .int 6)]) (st' := [.int 0, .int 10, .ref 91, .int 0]) (w' := (fw z)) (cs' := 0) (ss' := 0) ?_ (fun _ _ => rfl)
  refine go_seg 8 (pc' := 79) (ls' := [(4, .int 1), (3, .int 0), (0, .ref 90), (1, .int 5), (2, .int 6)]) (st' := []) (w' := (fw z)) (cs' := 0) (ss' := 0) ?_ (fun _ _ => rfl)
  refine go_seg 8 (pc' := 61) (ls' := [(4, .int 1), (3, .int 0), (0, .ref 90), (1, .int 5), (2, .int 6)]) (st' := [.int 10, .ref 91, .int 0]) (w' := (fw z)) (cs' := 0) (ss' := 0) ?_ (fun _ _ => rfl)
  refine go_seg 8 (pc' := 76) (ls' := [(3, .int 0), (4, .int 1), (0, .ref 90), (1, .int 5), (2, .int 6)]) (st' := []) (w' := (fw z)) (cs' := 0) (ss' := 0) ?_ (fun _ _ => rfl)
  refine go_seg 8 (pc' := 59) (ls' := [(4, .int 2), (3, .int 0), (0, .ref 90), (1, .int 5), (2, .int 6)]) (st' := [.ref 91, .int 0]) (w' := (fw z)) (cs' := 0) (ss' := 0) ?_ (fun _ _ => rfl)
  refine go_seg 8 (pc' := 75) (ls' := [(4, .int 2), (3, .int 0), (0, .ref 90), (1, .int 5), (2, .int 6)]) (st' := [.int 0]) (w' := (fw z)) (cs' := 0) (ss' := 0) ?_ (fun _ _ => rfl)
  refine go_seg 8 (pc' := 56) (ls' := [(4, .int 3), (3, .int 0), (0, .ref 90), (1, .int 5), (2, .int 6)]) (st' := [.ref 90, .int 0]) (w' := (fw z)) (cs' := 0) (ss' := 0) ?_ (fun _ _ => rfl)
  refine go_seg 8 (pc' := 74) (ls' := [(4, .int 3), (3, .int 0), (0, .ref 90), (1, .int 5), (2, .int 6)]) (st' := [.int 0, .int 0]) (w' := (fw z)) (cs' := 0) (ss' := 0) ?_ (fun _ _ => rfl)
  refine go_seg 8 (pc' := 55) (ls' := [(4, .int 4), (3, .int 0), (0, .ref 90), (1, .int 5), (2, .int 6)]) (st' := [.int 0]) (w' := (fw z)) (cs' := 0) (ss' := 0) ?_ (fun _ _ => rfl)
  refine go_seg 8 (pc' := 73) (ls' := [(4, .int 4), (3, .int 0), (0, .ref 90), (1, .int 5), (2, .int 6)]) (st' := [.int 0]) (w' := (fw z)) (cs' := 0) (ss' := 0) ?_ (fun _ _ => rfl)
  refine go_seg 8 (pc' := 54) (ls' := [(4, .int 5), (3, .int 0), (0, .ref 90), (1, .int 5), (2, .int 6)]) (st' := []) (w' := (fw z)) (cs' := 0) (ss' := 0) ?_ (fun _ _ => rfl)
  refine go_seg 8 (pc' := 66) (ls' := [(4, .int 5), (3, .int 0), (0, .ref 90), (1, .int 5), (2, .int 6)]) (st' := [.int 5, .int (-1), .int 0]) (w' := (fw z)) (cs' := 0) (ss' := 0) ?_ (fun _ _ => rfl)
  refine go_seg 8 (pc' := 51) (ls' := [(4, .int 6), (3, .int 0), (0, .ref 90), (1, .int 5), (2, .int 6)]) (st' := [.int 64, .int 6]) (w' := (fw z)) (cs' := 0) (ss' := 0) ?_ (fun _ _ => rfl)
  refine go_seg 8 (pc' := 65) (ls' := [(4, .int 6), (3, .int 0), (0, .ref 90), (1, .int 5), (2, .int 6)]) (st' := [.int (-1), .int 0]) (w' := (fw z)) (cs' := 0) (ss' := 0) ?_ (fun _ _ => rfl)
  refine go_seg 8 (pc' := 49) (ls' := [(4, .int 7), (3, .int 0), (0, .ref 90), (1, .int 5), (2, .int 6)]) (st' := [.int 7]) (w' := (fw z)) (cs' := 0) (ss' := 0) ?_ (fun _ _ => rfl)
  refine go_seg 8 (pc' := 64) (ls' := [(4, .int 7), (3, .int 0), (0, .ref 90), (1, .int 5), (2, .int 6)]) (st' := [.int 17, .ref 91, .int 0]) (w' := (fw z)) (cs' := 0) (ss' := 0) ?_ (fun _ _ => rfl)
  refine go_seg 8 (pc' := 47) (ls' := [(4, .int 8), (3, .int 0), (0, .ref 90), (1, .int 5), (2, .int 6)]) (st' := []) (w' := (fw z)) (cs' := 0) (ss' := 0) ?_ (fun _ _ => rfl)
  refine go_seg 8 (pc' := 63) (ls' := [(4, .int 8), (3, .int 0), (0, .ref 90), (1, .int 5), (2, .int 6)]) (st' := [.int 8, .int 10, .ref 91, .int 0]) (w' := (fw z)) (cs' := 0) (ss' := 0) ?_ (fun _ _ => rfl)
  refine go_seg 8 (pc' := 79) (ls' := [(4, .int 9), (3, .int 0), (0, .ref 90), (1, .int 5), (2, .int 6)]) (st' := []) (w' := (fw z)) (cs' := 0) (ss' := 0) ?_ (fun _ _ => rfl)
  refine go_seg 8 (pc' := 61) (ls' := [(4, .int 9), (3, .int 0), (0, .ref 90), (1, .int 5), (2, .int 6)]) (st' := [.int 10, .ref 91, .int 0]) (w' := (fw z)) (cs' := 0) (ss' := 0) ?_ (fun _ _ => rfl)
  refine go_seg 8 (pc' := 76) (ls' := [(3, .int 0), (4, .int 9), (0, .ref 90), (1, .int 5), (2, .int 6)]) (st' := []) (w' := (fw z)) (cs' := 0) (ss' := 0) ?_ (fun _ _ => rfl)
  refine go_seg 8 (pc' := 59) (ls' := [(4, .int 10), (3, .int 0), (0, .ref 90), (1, .int 5), (2, .int 6)]) (st' := [.ref 91, .int 0]) (w' := (fw z)) (cs' := 0) (ss' := 0) ?_ (fun _ _ => rfl)
  refine go_seg 8 (pc' := 75) (ls' := [(4, .int 10), (3, .int 0), (0, .ref 90), (1, .int 5), (2, .int 6)]) (st' := [.int 0]) (w' := (fw z)) (cs' := 0) (ss' := 0) ?_ (fun _ _ => rfl)
  refine go_seg 8 (pc' := 56) (ls' := [(4, .int 11), (3, .int 0), (0, .ref 90), (1, .int 5), (2, .int 6)]) (st' := [.ref 90, .int 0]) (w' := (fw z)) (cs' := 0) (ss' := 0) ?_ (fun _ _ => rfl)
  refine go_seg 8 (pc' := 74) (ls' := [(4, .int 11), (3, .int 0), (0, .ref 90), (1, .int 5), (2, .int 6)]) (st' := [.int 0, .int 0]) (w' := (fw z)) (cs' := 0) (ss' := 0) ?_ (fun _ _ => rfl)
  refine go_seg 8 (pc' := 55) (ls' := [(4, .int 12), (3, .int 0), (0, .ref 90), (1, .int 5), (2, .int 6)]) (st' := [.int 0]) (w' := (fw z)) (cs' := 0) (ss' := 0) ?_ (fun _ _ => rfl)
  refine go_seg 8 (pc' := 73) (ls' := [(4, .int 12), (3, .int 0), (0, .ref 90), (1, .int 5), (2, .int 6)]) (st' := [.int 0]) (w' := (fw z)) (cs' := 0) (ss' := 0) ?_ (fun _ _ => rfl)
  refine go_seg 8 (pc' := 54) (ls' := [(4, .int 13), (3, .int 0), (0, .ref 90), (1, .int 5), (2, .int 6)]) (st' := []) (w' := (fw z)) (cs' := 0) (ss' := 0) ?_ (fun _ _ => rfl)
  refine go_seg 8 (pc' := 66) (ls' := [(4, .int 13), (3, .int 0), (0, .ref 90), (1, .int 5), (2, .int 6)]) (st' := [.int 5, .int (-1), .int 0]) (w' := (fw z)) (cs' := 0) (ss' := 0) ?_ (fun _ _ => rfl)
  refine go_seg 8 (pc' := 51) (ls' := [(4, .int 14), (3, .int 0), (0, .ref 90), (1, .int 5), (2, .int 6)]) (st' := [.int 64, .int 14]) (w' := (fw z)) (cs' := 0) (ss' := 0) ?_ (fun _ _ => rfl)
  refine go_seg 8 (pc' := 65) (ls' := [(4, .int 14), (3, .int 0), (0, .ref 90), (1, .int 5), (2, .int 6)]) (st' := [.int (-1), .int 0]) (w' := (fw z)) (cs' := 0) (ss' := 0) ?_ (fun _ _ => rfl)
  refine go_seg 8 (pc' := 49) (ls' := [(4, .int 15), (3, .int 0), (0, .ref 90), (1, .int 5), (2, .int 6)]) (st' := [.int 15]) (w' := (fw z)) (cs' := 0) (ss' := 0) ?_ (fun _ _ => rfl)
  refine go_seg 8 (pc' := 64) (ls' := [(4, .int 15), (3, .int 0), (0, .ref 90), (1, .int 5), (2, .int 6)]) (st' := [.int 25, .ref 91, .int 0]) (w' := (fw z)) (cs' := 0) (ss' := 0) ?_ (fun _ _ => rfl)
  refine go_seg 8 (pc' := 47) (ls' := [(4, .int 16), (3, .int 0), (0, .ref 90), (1, .int 5), (2, .int 6)]) (st' := []) (w' := (fw z)) (cs' := 0) (ss' := 0) ?_ (fun _ _ => rfl)
  refine go_seg 8 (pc' := 63) (ls' := [(4, .int 16), (3, .int 0), (0, .ref 90), (1, .int 5), (2, .int 6)]) (st' := [.int 16, .int 10, .ref 91, .int 0]) (w' := (fw z)) (cs' := 0) (ss' := 0) ?_ (fun _ _ => rfl)
  refine go_seg 8 (pc' := 79) (ls' := [(4, .int 17), (3, .int 0), (0, .ref 90), (1, .int 5), (2, .int 6)]) (st' := []) (w' := (fw z)) (cs' := 0) (ss' := 0) ?_ (fun _ _ => rfl)
  refine go_seg 8 (pc' := 61) (ls' := [(4, .int 17), (3, .int 0), (0, .ref 90), (1, .int 5), (2, .int 6)]) (st' := [.int 10, .ref 91, .int 0]) (w' := (fw z)) (cs' := 0) (ss' := 0) ?_ (fun _ _ => rfl)
  refine go_seg 8 (pc' := 76) (ls' := [(3, .int 0), (4, .int 17), (0, .ref 90), (1, .int 5), (2, .int 6)]) (st' := []) (w' := (fw z)) (cs' := 0) (ss' := 0) ?_ (fun _ _ => rfl)
  refine go_seg 8 (pc' := 59) (ls' := [(4, .int 18), (3, .int 0), (0, .ref 90), (1, .int 5), (2, .int 6)]) (st' := [.ref 91, .int 0]) (w' := (fw z)) (cs' := 0) (ss' := 0) ?_ (fun _ _ => rfl)
  refine go_seg 8 (pc' := 75) (ls' := [(4, .int 18), (3, .int 0), (0, .ref 90), (1, .int 5), (2, .int 6)]) (st' := [.int 0]) (w' := (fw z)) (cs' := 0) (ss' := 0) ?_ (fun _ _ => rfl)
  refine go_seg 8 (pc' := 56) (ls' := [(4, .int 19), (3, .int 0), (0, .ref 90), (1, .int 5), (2, .int 6)]) (st' := [.ref 90, .int 0]) (w' := (fw z)) (cs' := 0) (ss' := 0) ?_ (fun _ _ => rfl)
  refine go_seg 8 (pc' := 74) (ls' := [(4, .int 19), (3, .int 0), (0, .ref 90), (1, .int 5), (2, .int 6)]) (st' := [.int 0, .int 0]) (w' := (fw z)) (cs' := 0) (ss' := 0) ?_ (fun _ _ => rfl)
  refine go_seg 8 (pc' := 55) (ls' := [(4, .int 20), (3, .int 0), (0, .ref 90), (1, .int 5), (2, .int 6)]) (st' := [.int 0]) (w' := (fw z)) (cs' := 0) (ss' := 0) ?_ (fun _ _ => rfl)
  refine go_seg 8 (pc' := 73) (ls' := [(4, .int 20), (3, .int 0), (0, .ref 90), (1, .int 5), (2, .int 6)]) (st' := [.int 0]) (w' := (fw z)) (cs' := 0) (ss' := 0) ?_ (fun _ _ => rfl)
  refine go_seg 8 (pc' := 54) (ls' := [(4, .int 21), (3, .int 0), (0, .ref 90), (1, .int 5), (2, .int 6)]) (st' := []) (w' := (fw z)) (cs' := 0) (ss' := 0) ?_ (fun _ _ => rfl)
  refine go_seg 8 (pc' := 66) (ls' := [(4, .int 21), (3, .int 0), (0, .ref 90), (1, .int 5), (2, .int 6)]) (st' := [.int 5, .int (-1), .int 0]) (w' := (fw z)) (cs' := 0) (ss' := 0) ?_ (fun _ _ => rfl)
  refine go_seg 8 (pc' := 51) (ls' := [(4, .int 22), (3, .int 0), (0, .ref 90), (1, .int 5), (2, .int 6)]) (st' := [.int 64, .int 22]) (w' := (fw z)) (cs' := 0) (ss' := 0) ?_ (fun _ _ => rfl)
  refine go_seg 8 (pc' := 65) (ls' := [(4, .int 22), (3, .int 0), (0, .ref 90), (1, .int 5), (2, .int 6)]) (st' := [.int (-1), .int 0]) (w' := (fw z)) (cs' := 0) (ss' := 0) ?_ (fun _ _ => rfl)
  refine go_seg 8 (pc' := 49) (ls' := [(4, .int 23), (3, .int 0), (0, .ref 90), (1, .int 5), (2, .int 6)]) (st' := [.int 23]) (w' := (fw z)) (cs' := 0) (ss' := 0) ?_ (fun _ _ => rfl)
  refine go_seg 8 (pc' := 64) (ls' := [(4, .int 23), (3, .int 0), (0, .ref 90), (1, .int 5), (2, .int 6)]) (st' := [.int 33, .ref 91, .int 0]) (w' := (fw z)) (cs' := 0) (ss' := 0) ?_ (fun _ _ => rfl)
  refine go_seg 8 (pc' := 47) (ls' := [(4, .int 24), (3, .int 0), (0, .ref 90), (1, .int 5), (2, .int 6)]) (st' := []) (w' := (fw z)) (cs' := 0) (ss' := 0) ?_ (fun _ _ => rfl)
  refine go_seg 8 (pc' := 63) (ls' := [(4, .int 24), (3, .int 0), (0, .ref 90), (1, .int 5), (2, .int 6)]) (st' := [.int 24, .int 10, .ref 91, .int 0]) (w' := (fw z)) (cs' := 0) (ss' := 0) ?_ (fun _ _ => rfl)
  refine go_seg 8 (pc' := 79) (ls' := [(4, .int 25), (3, .int 0), (0, .ref 90), (1, .int 5), (2, .int 6)]) (st' := []) (w' := (fw z)) (cs' := 0) (ss' := 0) ?_ (fun _ _ => rfl)
  refine go_seg 8 (pc' := 61) (ls' := [(4, .int 25), (3, .int 0), (0, .ref 90), (1, .int 5), (2, .int 6)]) (st' := [.int 10, .ref 91, .int 0]) (w' := (fw z)) (cs' := 0) (ss' := 0) ?_ (fun _ _ => rfl)
  refine go_seg 8 (pc' := 76) (ls' := [(3, .int 0), (4, .int 25), (0, .ref 90), (1, .int 5), (2, .int 6)]) (st' := []) (w' := (fw z)) (cs' := 0) (ss' := 0) ?_ (fun _ _ => rfl)
  refine go_seg 8 (pc' := 59) (ls' := [(4, .int 26), (3, .int 0), (0, .ref 90), (1, .int 5), (2, .int 6)]) (st' := [.ref 91, .int 0]) (w' := (fw z)) (cs' := 0) (ss' := 0) ?_ (fun _ _ => rfl)
  refine go_seg 8 (pc' := 75) (ls' := [(4, .int 26), (3, .int 0), (0, .ref 90), (1, .int 5), (2, .int 6)]) (st' := [.int 0]) (w' := (fw z)) (cs' := 0) (ss' := 0) ?_ (fun _ _ => rfl)
  refine go_seg 8 (pc' := 56) (ls' := [(4, .int 27), (3, .int 0), (0, .ref 90), (1, .int 5), (2, .int 6)]) (st' := [.ref 90, .int 0]) (w' := (fw z)) (cs' := 0) (ss' := 0) ?_ (fun _ _ => rfl)
  refine go_seg 8 (pc' := 74) (ls' := [(4, .int 27), (3, .int 0), (0, .ref 90), (1, .int 5), (2, .int 6)]) (st' := [.int 0, .int 0]) (w' := (fw z)) (cs' := 0) (ss' := 0) ?_ (fun _ _ => rfl)
  refine go_seg 8 (pc' := 55) (ls' := [(4, .int 28), (3, .int 0), (0, .ref 90), (1, .int 5), (2, .int 6)]) (st' := [.int 0]) (w' := (fw z)) (cs' := 0) (ss' := 0) ?_ (fun _ _ => rfl)
  refine go_seg 8 (pc' := 73) (ls' := [(4, .int 28), (3, .int 0), (0, .ref 90), (1, .int 5), (2, .int 6)]) (st' := [.int 0]) (w' := (fw z)) (cs' := 0) (ss' := 0) ?_ (fun _ _ => rfl)
  refine go_seg 8 (pc' := 54) (ls' := [(4, .int 29), (3, .int 0), (0, .ref 90), (1, .int 5), (2, .int 6)]) (st' := []) (w' := (fw z)) (cs' := 0) (ss' := 0) ?_ (fun _ _ => rfl)
  refine go_seg 8 (pc' := 66) (ls' := [(4, .int 29), (3, .int 0), (0, .ref 90), (1, .int 5), (2, .int 6)]) (st' := [.int 5, .int (-1), .int 0]) (w' := (fw z)) (cs' := 0) (ss' := 0) ?_ (fun _ _ => rfl)
  refine go_seg 8 (pc' := 51) (ls' := [(4, .int 30), (3, .int 0), (0, .ref 90), (1, .int 5), (2, .int 6)]) (st' := [.int 64, .int 30]) (w' := (fw z)) (cs' := 0) (ss' := 0) ?_ (fun _ _ => rfl)
  refine go_seg 8 (pc' := 65) (ls' := [(4, .int 30), (3, .int 0), (0, .ref 90), (1, .int 5), (2, .int 6)]) (st' := [.int (-1), .int 0]) (w' := (fw z)) (cs' := 0) (ss' := 0) ?_ (fun _ _ => rfl)
  refine go_seg 8 (pc' := 49) (ls' := [(4, .int 31), (3, .int 0), (0, .ref 90), (1, .int 5), (2, .int 6)]) (st' := [.int 31]) (w' := (fw z)) (cs' := 0) (ss' := 0) ?_ (fun _ _ => rfl)
  refine go_seg 8 (pc' := 64) (ls' := [(4, .int 31), (3, .int 0), (0, .ref 90), (1, .int 5), (2, .int 6)]) (st' := [.int 41, .ref 91, .int 0]) (w' := (fw z)) (cs' := 0) (ss' := 0) ?_ (fun _ _ => rfl)
  refine go_seg 8 (pc' := 47) (ls' := [(4, .int 32), (3, .int 0), (0, .ref 90), (1, .int 5), (2, .int 6)]) (st' := []) (w' := (fw z)) (cs' := 0) (ss' := 0) ?_ (fun _ _ => rfl)
  refine go_seg 8 (pc' := 63) (ls' := [(4, .int 32), (3, .int 0), (0, .ref 90), (1, .int 5), (2, .int 6)]) (st' := [.int 32, .int 10, .ref 91, .int 0]) (w' := (fw z)) (cs' := 0) (ss' := 0) ?_ (fun _ _ => rfl)
  refine go_seg 8 (pc' := 79) (ls' := [(4, .int 33), (3, .int 0), (0, .ref 90), (1, .int 5), (2, .int 6)]) (st' := []) (w' := (fw z)) (cs' := 0) (ss' := 0) ?_ (fun _ _ => rfl)
  refine go_seg 8 (pc' := 61) (ls' := [(4, .int 33), (3, .int 0), (0, .ref 90), (1, .int 5), (2, .int 6)]) (st' := [.int 10, .ref 91, .int 0]) (w' := (fw z)) (cs' := 0) (ss' := 0) ?_ (fun _ _ => rfl)
  refine go_seg 8 (pc' := 76) (ls' := [(3, .int 0), (4, .int 33), (0, .ref 90), (1, .int 5), (2, .int 6)]) (st' := []) (w' := (fw z)) (cs' := 0) (ss' := 0) ?_ (fun _ _ => rfl)
  refine go_seg 8 (pc' := 59) (ls' := [(4, .int 34), (3, .int 0), (0, .ref 90), (1, .int 5), (2, .int 6)]) (st' := [.ref 91, .int 0]) (w' := (fw z)) (cs' := 0) (ss' := 0) ?_ (fun _ _ => rfl)
  refine go_seg 8 (pc' := 75) (ls' := [(4, .int 34), (3, .int 0), (0, .ref 90), (1, .int 5), (2, .int 6)]) (st' := [.int 0]) (w' := (fw z)) (cs' := 0) (ss' := 0) ?_ (fun _ _ => rfl)
  refine go_seg 8 (pc' := 56) (ls' := [(4, .int 35), (3, .int 0), (0, .ref 90), (1, .int 5), (2, .int 6)]) (st' := [.ref 90, .int 0]) (w' := (fw z)) (cs' := 0) (ss' := 0) ?_ (fun _ _ => rfl)
  refine go_seg 8 (pc' := 74) (ls' := [(4, .int 35), (3, .int 0), (0, .ref 90), (1, .int 5), (2, .int 6)]) (st' := [.int 0, .int 0]) (w' := (fw z)) (cs' := 0) (ss' := 0) ?_ (fun _ _ => rfl)
  refine go_seg 8 (pc' := 55) (ls' := [(4, .int 36), (3, .int 0), (0, .ref 90), (1, .int 5), (2, .int 6)]) (st' := [.int 0]) (w' := (fw z)) (cs' := 0) (ss' := 0) ?_ (fun _ _ => rfl)
  refine go_seg 8 (pc' := 73) (ls' := [(4, .int 36), (3, .int 0), (0, .ref 90), (1, .int 5), (2, .int 6)]) (st' := [.int 0]) (w' := (fw z)) (cs' := 0) (ss' := 0) ?_ (fun _ _ => rfl)
  refine go_seg 8 (pc' := 54) (ls' := [(4, .int 37), (3, .int 0), (0, .ref 90), (1, .int 5), (2, .int 6)]) (st' := []) (w' := (fw z)) (cs' := 0) (ss' := 0) ?_ (fun _ _ => rfl)
  refine go_seg 8 (pc' := 66) (ls' := [(4, .int 37), (3, .int 0), (0, .ref 90), (1, .int 5), (2, .int 6)]) (st' := [.int 5, .int (-1), .int 0]) (w' := (fw z)) (cs' := 0) (ss' := 0) ?_ (fun _ _ => rfl)
  refine go_seg 8 (pc' := 51) (ls' := [(4, .int 38), (3, .int 0), (0, .ref 90), (1, .int 5), (2, .int 6)]) (st' := [.int 64, .int 38]) (w' := (fw z)) (cs' := 0) (ss' := 0) ?_ (fun _ _ => rfl)
  refine go_seg 8 (pc' := 65) (ls' := [(4, .int 38), (3, .int 0), (0, .ref 90), (1, .int 5), (2, .int 6)]) (st' := [.int (-1), .int 0]) (w' := (fw z)) (cs' := 0) (ss' := 0) ?_ (fun _ _ => rfl)
  refine go_seg 8 (pc' := 49) (ls' := [(4, .int 39), (3, .int 0), (0, .ref 90), (1, .int 5), (2, .int 6)]) (st' := [.int 39]) (w' := (fw z)) (cs' := 0) (ss' := 0) ?_ (fun _ _ => rfl)
  refine go_seg 8 (pc' := 64) (ls' := [(4, .int 39), (3, .int 0), (0, .ref 90), (1, .int 5), (2, .int 6)]) (st' := [.int 49, .ref 91, .int 0]) (w' := (fw z)) (cs' := 0) (ss' := 0) ?_ (fun _ _ => rfl)
  refine go_seg 8 (pc' := 47) (ls' := [(4, .int 40), (3, .int 0), (0, .ref 90), (1, .int 5), (2, .int 6)]) (st' := []) (w' := (fw z)) (cs' := 0) (ss' := 0) ?_ (fun _ _ => rfl)
  refine go_seg 8 (pc' := 63) (ls' := [(4, .int 40), (3, .int 0), (0, .ref 90), (1, .int 5), (2, .int 6)]) (st' := [.int 40, .int 10, .ref 91, .int 0]) (w' := (fw z)) (cs' := 0) (ss' := 0) ?_ (fun _ _ => rfl)
  refine go_seg 8 (pc' := 79) (ls' := [(4, .int 41), (3, .int 0), (0, .ref 90), (1, .int 5), (2, .int 6)]) (st' := []) (w' := (fw z)) (cs' := 0) (ss' := 0) ?_ (fun _ _ => rfl)
  refine go_seg 8 (pc' := 61) (ls' := [(4, .int 41), (3, .int 0), (0, .ref 90), (1, .int 5), (2, .int 6)]) (st' := [.int 10, .ref 91, .int 0]) (w' := (fw z)) (cs' := 0) (ss' := 0) ?_ (fun _ _ => rfl)
  refine go_seg 8 (pc' := 76) (ls' := [(3, .int 0), (4, .int 41), (0, .ref 90), (1, .int 5), (2, .int 6)]) (st' := []) (w' := (fw z)) (cs' := 0) (ss' := 0) ?_ (fun _ _ => rfl)
  refine go_seg 8 (pc' := 59) (ls' := [(4, .int 42), (3, .int 0), (0, .ref 90), (1, .int 5), (2, .int 6)]) (st' := [.ref 91, .int 0]) (w' := (fw z)) (cs' := 0) (ss' := 0) ?_ (fun _ _ => rfl)
  refine go_seg 8 (pc' := 75) (ls' := [(4, .int 42), (3, .int 0), (0, .ref 90), (1, .int 5), (2, .int 6)]) (st' := [.int 0]) (w' := (fw z)) (cs' := 0) (ss' := 0) ?_ (fun _ _ => rfl)
  refine go_seg 8 (pc' := 56) (ls' := [(4, .int 43), (3, .int 0), (0, .ref 90), (1, .int 5), (2, .int 6)]) (st' := [.ref 90, .int 0]) (w' := (fw z)) (cs' := 0) (ss' := 0) ?_ (fun _ _ => rfl)
  refine go_seg 8 (pc' := 74) (ls' := [(4, .int 43), (3, .int 0), (0, .ref 90), (1, .int 5), (2, .int 6)]) (st' := [.int 0, .int 0]) (w' := (fw z)) (cs' := 0) (ss' := 0) ?_ (fun _ _ => rfl)
  refine go_seg 8 (pc' := 55) (ls' := [(4, .int 44), (3, .int 0), (0, .ref 90), (1, .int 5), (2, .int 6)]) (st' := [.int 0]) (w' := (fw z)) (cs' := 0) (ss' := 0) ?_ (fun _ _ => rfl)
  refine go_seg 8 (pc' := 73) (ls' := [(4, .int 44), (3, .int 0), (0, .ref 90), (1, .int 5), (2, .int 6)]) (st' := [.int 0]) (w' := (fw z)) (cs' := 0) (ss' := 0) ?_ (fun _ _ => rfl)
  refine go_seg 8 (pc' := 54) (ls' := [(4, .int 45), (3, .int 0), (0, .ref 90), (1, .int 5), (2, .int 6)]) (st' := []) (w' := (fw z)) (cs' := 0) (ss' := 0) ?_ (fun _ _ => rfl)
  refine go_seg 8 (pc' := 66) (ls' := [(4, .int 45), (3, .int 0), (0, .ref 90), (1, .int 5), (2, .int 6)]) (st' := [.int 5, .int (-1), .int 0]) (w' := (fw z)) (cs' := 0) (ss' := 0) ?_ (fun _ _ => rfl)
  refine go_seg 8 (pc' := 51) (ls' := [(4, .int 46), (3, .int 0), (0, .ref 90), (1, .int 5), (2, .int 6)]) (st' := [.int 64, .int 46]) (w' := (fw z)) (cs' := 0) (ss' := 0) ?_ (fun _ _ => rfl)
  refine go_seg 8 (pc' := 65) (ls' := [(4, .int 46), (3, .int 0), (0, .ref 90), (1, .int 5), (2, .int 6)]) (st' := [.int (-1), .int 0]) (w' := (fw z)) (cs' := 0) (ss' := 0) ?_ (fun _ _ => rfl)
  refine go_seg 8 (pc' := 49) (ls' := [(4, .int 47), (3, .int 0), (0, .ref 90), (1, .int 5), (2, .int 6)]) (st' := [.int 47]) (w' := (fw z)) (cs' := 0) (ss' := 0) ?_ (fun _ _ => rfl)
  refine go_seg 8 (pc' := 64) (ls' := [(4, .int 47), (3, .int 0), (0, .ref 90), (1, .int 5), (2, .int 6)]) (st' := [.int 57, .ref 91, .int 0]) (w' := (fw z)) (cs' := 0) (ss' := 0) ?_ (fun _ _ => rfl)
  refine go_seg 8 (pc' := 47) (ls' := [(4, .int 48), (3, .int 0), (0, .ref 90), (1, .int 5), (2, .int 6)]) (st' := []) (w' := (fw z)) (cs' := 0) (ss' := 0) ?_ (fun _ _ => rfl)
  refine go_seg 8 (pc' := 63) (ls' := [(4, .int 48), (3, .int 0), (0, .ref 90), (1, .int 5), (2, .int 6)]) (st' := [.int 48, .int 10, .ref 91, .int 0]) (w' := (fw z)) (cs' := 0) (ss' := 0) ?_ (fun _ _ => rfl)
  refine go_seg 8 (pc' := 79) (ls' := [(4, .int 49), (3, .int 0), (0, .ref 90), (1, .int 5), (2, .int 6)]) (st' := []) (w' := (fw z)) (cs' := 0) (ss' := 0) ?_ (fun _ _ => rfl)
  refine go_seg 8 (pc' := 61) (ls' := [(4, .int 49), (3, .int 0), (0, .ref 90), (1, .int 5), (2, .int 6)]) (st' := [.int 10, .ref 91, .int 0]) (w' := (fw z)) (cs' := 0) (ss' := 0) ?_ (fun _ _ => rfl)
  refine go_seg 8 (pc' := 76) (ls' := [(3, .int 0), (4, .int 49), (0, .ref 90), (1, .int 5), (2, .int 6)]) (st' := []) (w' := (fw z)) (cs' := 0) (ss' := 0) ?_ (fun _ _ => rfl)
  refine go_seg 8 (pc' := 59) (ls' := [(4, .int 50), (3, .int 0), (0, .ref 90), (1, .int 5), (2, .int 6)]) (st' := [.ref 91, .int 0]) (w' := (fw z)) (cs' := 0) (ss' := 0) ?_ (fun _ _ => rfl)
  refine go_seg 8 (pc' := 75) (ls' := [(4, .int 50), (3, .int 0), (0, .ref 90), (1, .int 5), (2, .int 6)]) (st' := [.int 0]) (w' := (fw z)) (cs' := 0) (ss' := 0) ?_ (fun _ _ => rfl)
  refine go_seg 8 (pc' := 56) (ls' := [(4, .int 51), (3, .int 0), (0, .ref 90), (1, .int 5), (2, .int 6)]) (st' := [.ref 90, .int 0]) (w' := (fw z)) (cs' := 0) (ss' := 0) ?_ (fun _ _ => rfl)
  refine go_seg 8 (pc' := 74) (ls' := [(4, .int 51), (3, .int 0), (0, .ref 90), (1, .int 5), (2, .int 6)]) (st' := [.int 0, .int 0]) (w' := (fw z)) (cs' := 0) (ss' := 0) ?_ (fun _ _ => rfl)
  refine go_seg 8 (pc' := 55) (ls' := [(4, .int 52), (3, .int 0), (0, .ref 90), (1, .int 5), (2, .int 6)]) (st' := [.int 0]) (w' := (fw z)) (cs' := 0) (ss' := 0) ?_ (fun _ _ => rfl)
  refine go_seg 8 (pc' := 73) (ls' := [(4, .int 52), (3, .int 0), (0, .ref 90), (1, .int 5), (2, .int 6)]) (st' := [.int 0]) (w' := (fw z)) (cs' := 0) (ss' := 0) ?_ (fun _ _ => rfl)
  refine go_seg 8 (pc' := 54) (ls' := [(4, .int 53), (3, .int 0), (0, .ref 90), (1, .int 5), (2, .int 6)]) (st' := []) (w' := (fw z)) (cs' := 0) (ss' := 0) ?_ (fun _ _ => rfl)
  refine go_seg 8 (pc' := 66) (ls' := [(4, .int 53), (3, .int 0), (0, .ref 90), (1, .int 5), (2, .int 6)]) (st' := [.int 5, .int (-1), .int 0]) (w' := (fw z)) (cs' := 0) (ss' := 0) ?_ (fun _ _ => rfl)
  refine go_seg 8 (pc' := 51) (ls' := [(4, .int 54), (3, .int 0), (0, .ref 90), (1, .int 5), (2, .int 6)]) (st' := [.int 64, .int 54]) (w' := (fw z)) (cs' := 0) (ss' := 0) ?_ (fun _ _ => rfl)
  refine go_seg 8 (pc' := 65) (ls' := [(4, .int 54), (3, .int 0), (0, .ref 90), (1, .int 5), (2, .int 6)]) (st' := [.int (-1), .int 0]) (w' := (fw z)) (cs' := 0) (ss' := 0) ?_ (fun _ _ => rfl)
  refine go_seg 8 (pc' := 49) (ls' := [(4, .int 55), (3, .int 0), (0, .ref 90), (1, .int 5), (2, .int 6)]) (st' := [.int 55]) (w' := (fw z)) (cs' := 0) (ss' := 0) ?_ (fun _ _ => rfl)
  refine go_seg 8 (pc' := 64) (ls' := [(4, .int 55), (3, .int 0), (0, .ref 90), (1, .int 5), (2, .int 6)]) (st' := [.int 65, .ref 91, .int 0]) (w' := (fw z)) (cs' := 0) (ss' := 0) ?_ (fun _ _ => rfl)
  refine go_seg 8 (pc' := 47) (ls' := [(4, .int 56), (3, .int 0), (0, .ref 90), (1, .int 5), (2, .int 6)]) (st' := []) (w' := (fw z)) (cs' := 0) (ss' := 0) ?_ (fun _ _ => rfl)
  refine go_seg 8 (pc' := 63) (ls' := [(4, .int 56), (3, .int 0), (0, .ref 90), (1, .int 5), (2, .int 6)]) (st' := [.int 56, .int 10, .ref 91, .int 0]) (w' := (fw z)) (cs' := 0) (ss' := 0) ?_ (fun _ _ => rfl)
  refine go_seg 8 (pc' := 79) (ls' := [(4, .int 57), (3, .int 0), (0, .ref 90), (1, .int 5), (2, .int 6)]) (st' := []) (w' := (fw z)) (cs' := 0) (ss' := 0) ?_ (fun _ _ => rfl)
  refine go_seg 8 (pc' := 61) (ls' := [(4, .int 57), (3, .int 0), (0, .ref 90), (1, .int 5), (2, .int 6)]) (st' := [.int 10, .ref 91, .int 0]) (w' := (fw z)) (cs' := 0) (ss' := 0) ?_ (fun _ _ => rfl)
  refine go_seg 8 (pc' := 76) (ls' := [(3, .int 0), (4, .int 57), (0, .ref 90), (1, .int 5), (2, .int 6)]) (st' := []) (w' := (fw z)) (cs' := 0) (ss' := 0) ?_ (fun _ _ => rfl)
  refine go_seg 8 (pc' := 59) (ls' := [(4, .int 58), (3, .int 0), (0, .ref 90), (1, .int 5), (2, .int 6)]) (st' := [.ref 91, .int 0]) (w' := (fw z)) (cs' := 0) (ss' := 0) ?_ (fun _ _ => rfl)
  refine go_seg 8 (pc' := 75) (ls' := [(4, .int 58), (3, .int 0), (0, .ref 90), (1, .int 5), (2, .int 6)]) (st' := [.int 0]) (w' := (fw z)) (cs' := 0) (ss' := 0) ?_ (fun _ _ => rfl)
  refine go_seg 8 (pc' := 56) (ls' := [(4, .int 59), (3, .int 0), (0, .ref 90), (1, .int 5), (2, .int 6)]) (st' := [.ref 90, .int 0]) (w' := (fw z)) (cs' := 0) (ss' := 0) ?_ (fun _ _ => rfl)
  refine go_seg 8 (pc' := 74) (ls' := [(4, .int 59), (3, .int 0), (0, .ref 90), (1, .int 5), (2, .int 6)]) (st' := [.int 0, .int 0]) (w' := (fw z)) (cs' := 0) (ss' := 0) ?_ (fun _ _ => rfl)
  refine go_seg 8 (pc' := 55) (ls' := [(4, .int 60), (3, .int 0), (0, .ref 90), (1, .int 5), (2, .int 6)]) (st' := [.int 0]) (w' := (fw z)) (cs' := 0) (ss' := 0) ?_ (fun _ _ => rfl)
  refine go_seg 8 (pc' := 73) (ls' := [(4, .int 60), (3, .int 0), (0, .ref 90), (1, .int 5), (2, .int 6)]) (st' := [.int 0]) (w' := (fw z)) (cs' := 0) (ss' := 0) ?_ (fun _ _ => rfl)
  refine go_seg 8 (pc' := 54) (ls' := [(4, .int 61), (3, .int 0), (0, .ref 90), (1, .int 5), (2, .int 6)]) (st' := []) (w' := (fw z)) (cs' := 0) (ss' := 0) ?_ (fun _ _ => rfl)
  refine go_seg 8 (pc' := 66) (ls' := [(4, .int 61), (3, .int 0), (0, .ref 90), (1, .int 5), (2, .int 6)]) (st' := [.int 5, .int (-1), .int 0]) (w' := (fw z)) (cs' := 0) (ss' := 0) ?_ (fun _ _ => rfl)
  refine go_seg 8 (pc' := 51) (ls' := [(4, .int 62), (3, .int 0), (0, .ref 90), (1, .int 5), (2, .int 6)]) (st' := [.int 64, .int 62]) (w' := (fw z)) (cs' := 0) (ss' := 0) ?_ (fun _ _ => rfl)
  refine go_seg 8 (pc' := 65) (ls' := [(4, .int 62), (3, .int 0), (0, .ref 90), (1, .int 5), (2, .int 6)]) (st' := [.int (-1), .int 0]) (w' := (fw z)) (cs' := 0) (ss' := 0) ?_ (fun _ _ => rfl)
  refine go_seg 8 (pc' := 49) (ls' := [(4, .int 63), (3, .int 0), (0, .ref 90), (1, .int 5), (2, .int 6)]) (st' := [.int 63]) (w' := (fw z)) (cs' := 0) (ss' := 0) ?_ (fun _ _ => rfl)
  refine go_seg 8 (pc' := 64) (ls' := [(4, .int 63), (3, .int 0), (0, .ref 90), (1, .int 5), (2, .int 6)]) (st' := [.int 73, .ref 91, .int 0]) (w' := (fw z)) (cs' := 0) (ss' := 0) ?_ (fun _ _ => rfl)
  refine go_seg 8 (pc' := 47) (ls' := [(4, .int 64), (3, .int 0), (0, .ref 90), (1, .int 5), (2, .int 6)]) (st' := []) (w' := (fw z)) (cs' := 0) (ss' := 0) ?_ (fun _ _ => rfl)
  refine go_seg 8 (pc' := 94) (ls' := [(4, .int 64), (3, .int 0), (0, .ref 90), (1, .int 5), (2, .int 6)]) (st' := [.int 6, .int 6]) (w' := (fw z)) (cs' := 0) (ss' := 0) ?_ (fun _ _ => rfl)
  refine go_seg 3 (pc' := 99) (ls' := [(4, .int 64), (3, .int 0), (0, .ref 90), (1, .int 5), (2, .int 6)]) (st' := [.int 5, .ref 90]) (w' := (fw z)) (cs' := 0) (ss' := 0) ?_ (fun _ _ => rfl)
  refine go_cl (k := 2) (st' := [.int 0]) (cs' := 0) (ss' := 0) rfl rfl rfl rfl rfl rfl rfl (ro_480 z) ?_
  exact go_end 2 (fun _ _ => rfl)
theorem lf_4_1141 (a0 : Int32) (a3 : Int32) (a4 : Int32) (a5 : Int32) : ∃ w', pq_Go 20 pm_law 370 [(3, .int 0), (2, .ref 90), (1, .ref 1), (0, .ref 0)] [] (fw (sz a0 5 6 a3 a4 a5)) 109 12668 (some (.int 1), w') := by
  refine ⟨(fw (sz a0 5 6 a3 a4 a5)), ?_⟩
  refine go_seg 8 (pc' := 378) (ls' := [(3, .int 0), (2, .ref 90), (1, .ref 1), (0, .ref 0)]) (st' := [.int 0, .ref 0, .int 5, .ref 1]) (w' := (fw (sz a0 5 6 a3 a4 a5))) (cs' := 109) (ss' := 12668) ?_ (fun _ _ => rfl)
  refine go_seg 3 (pc' := 381) (ls' := [(3, .int 0), (2, .ref 90), (1, .ref 1), (0, .ref 0)]) (st' := [.int 6, .int 5, .ref 1]) (w' := (fw (sz a0 5 6 a3 a4 a5))) (cs' := 109) (ss' := 12668) ?_ (fun _ _ => rfl)
  refine go_cl (k := 20) (st' := [.int 0]) (cs' := 109) (ss' := 12668) rfl rfl rfl rfl rfl rfl rfl (ro_1139 (sz a0 5 6 a3 a4 a5)) ?_
  refine go_seg 8 (pc' := 392) (ls' := [(3, .int 0), (2, .ref 90), (1, .ref 1), (0, .ref 0)]) (st' := [.int 0, .ref 0, .int 5, .ref 90, .int 0]) (w' := (fw (sz a0 5 6 a3 a4 a5))) (cs' := 109) (ss' := 12668) ?_ (fun _ _ => rfl)
  refine go_seg 3 (pc' := 395) (ls' := [(3, .int 0), (2, .ref 90), (1, .ref 1), (0, .ref 0)]) (st' := [.int 6, .int 5, .ref 90, .int 0]) (w' := (fw (sz a0 5 6 a3 a4 a5))) (cs' := 109) (ss' := 12668) ?_ (fun _ _ => rfl)
  refine go_cl (k := 20) (st' := [.int 0, .int 0]) (cs' := 109) (ss' := 12668) rfl rfl rfl rfl rfl rfl rfl (ro_1140 (sz a0 5 6 a3 a4 a5)) ?_
  refine go_cmp true rfl (br_self _) ?_
  exact law_tail (f := sc a0 5 6 a3 a4 a5) rfl
theorem ro_1142 (z : pq_C) : pq_Ru 2 27 [.ref 11, .int 6] (fw z) (some (.int 0), (fw z)) := by
  refine ru_of (k := 1) (M := pm_27) rfl rfl ?_
  refine go_seg 8 (pc' := 11) (ls' := [(3, .int 0), (2, .int 0), (0, .ref 11), (1, .int 6)]) (st' := [.int 6]) (w' := (fw z)) (cs' := 0) (ss' := 0) ?_ (fun _ _ => rfl)
  refine go_cl (k := 1) (st' := [.int 1]) (cs' := 0) (ss' := 0) rfl rfl rfl rfl rfl rfl rfl (ro_603 z) ?_
  refine go_seg 8 (pc' := 27) (ls' := [(3, .int 0), (2, .int 0), (0, .ref 11), (1, .int 6)]) (st' := [.int 6, .int 0, .ref 14, .int 0]) (w' := (fw z)) (cs' := 0) (ss' := 0) ?_ (fun _ _ => rfl)
  refine go_seg 8 (pc' := 7) (ls' := [(3, .int 1), (2, .int 0), (0, .ref 11), (1, .int 6)]) (st' := [.int 8, .int 1]) (w' := (fw z)) (cs' := 0) (ss' := 0) ?_ (fun _ _ => rfl)
  refine go_seg 2 (pc' := 11) (ls' := [(3, .int 1), (2, .int 0), (0, .ref 11), (1, .int 6)]) (st' := [.int 6]) (w' := (fw z)) (cs' := 0) (ss' := 0) ?_ (fun _ _ => rfl)
  refine go_cl (k := 1) (st' := [.int 1]) (cs' := 0) (ss' := 0) rfl rfl rfl rfl rfl rfl rfl (ro_603 z) ?_
  refine go_seg 8 (pc' := 27) (ls' := [(3, .int 1), (2, .int 0), (0, .ref 11), (1, .int 6)]) (st' := [.int 6, .int 8, .ref 14, .int 0]) (w' := (fw z)) (cs' := 0) (ss' := 0) ?_ (fun _ _ => rfl)
  refine go_seg 8 (pc' := 7) (ls' := [(3, .int 2), (2, .int 0), (0, .ref 11), (1, .int 6)]) (st' := [.int 8, .int 2]) (w' := (fw z)) (cs' := 0) (ss' := 0) ?_ (fun _ _ => rfl)
  refine go_seg 2 (pc' := 11) (ls' := [(3, .int 2), (2, .int 0), (0, .ref 11), (1, .int 6)]) (st' := [.int 6]) (w' := (fw z)) (cs' := 0) (ss' := 0) ?_ (fun _ _ => rfl)
  refine go_cl (k := 1) (st' := [.int 1]) (cs' := 0) (ss' := 0) rfl rfl rfl rfl rfl rfl rfl (ro_603 z) ?_
  refine go_seg 8 (pc' := 27) (ls' := [(3, .int 2), (2, .int 0), (0, .ref 11), (1, .int 6)]) (st' := [.int 6, .int 16, .ref 14, .int 0]) (w' := (fw z)) (cs' := 0) (ss' := 0) ?_ (fun _ _ => rfl)
  refine go_seg 8 (pc' := 7) (ls' := [(3, .int 3), (2, .int 0), (0, .ref 11), (1, .int 6)]) (st' := [.int 8, .int 3]) (w' := (fw z)) (cs' := 0) (ss' := 0) ?_ (fun _ _ => rfl)
  refine go_seg 2 (pc' := 11) (ls' := [(3, .int 3), (2, .int 0), (0, .ref 11), (1, .int 6)]) (st' := [.int 6]) (w' := (fw z)) (cs' := 0) (ss' := 0) ?_ (fun _ _ => rfl)
  refine go_cl (k := 1) (st' := [.int 1]) (cs' := 0) (ss' := 0) rfl rfl rfl rfl rfl rfl rfl (ro_603 z) ?_
  refine go_seg 8 (pc' := 27) (ls' := [(3, .int 3), (2, .int 0), (0, .ref 11), (1, .int 6)]) (st' := [.int 6, .int 24, .ref 14, .int 0]) (w' := (fw z)) (cs' := 0) (ss' := 0) ?_ (fun _ _ => rfl)
  refine go_seg 8 (pc' := 7) (ls' := [(3, .int 4), (2, .int 0), (0, .ref 11), (1, .int 6)]) (st' := [.int 8, .int 4]) (w' := (fw z)) (cs' := 0) (ss' := 0) ?_ (fun _ _ => rfl)
  refine go_seg 2 (pc' := 11) (ls' := [(3, .int 4), (2, .int 0), (0, .ref 11), (1, .int 6)]) (st' := [.int 6]) (w' := (fw z)) (cs' := 0) (ss' := 0) ?_ (fun _ _ => rfl)
  refine go_cl (k := 1) (st' := [.int 1]) (cs' := 0) (ss' := 0) rfl rfl rfl rfl rfl rfl rfl (ro_603 z) ?_
  refine go_seg 8 (pc' := 27) (ls' := [(3, .int 4), (2, .int 0), (0, .ref 11), (1, .int 6)]) (st' := [.int 6, .int 32, .ref 14, .int 0]) (w' := (fw z)) (cs' := 0) (ss' := 0) ?_ (fun _ _ => rfl)
  refine go_seg 8 (pc' := 7) (ls' := [(3, .int 5), (2, .int 0), (0, .ref 11), (1, .int 6)]) (st' := [.int 8, .int 5]) (w' := (fw z)) (cs' := 0) (ss' := 0) ?_ (fun _ _ => rfl)
  refine go_seg 2 (pc' := 11) (ls' := [(3, .int 5), (2, .int 0), (0, .ref 11), (1, .int 6)]) (st' := [.int 6]) (w' := (fw z)) (cs' := 0) (ss' := 0) ?_ (fun _ _ => rfl)
  refine go_cl (k := 1) (st' := [.int 1]) (cs' := 0) (ss' := 0) rfl rfl rfl rfl rfl rfl rfl (ro_603 z) ?_
  refine go_seg 8 (pc' := 27) (ls' := [(3, .int 5), (2, .int 0), (0, .ref 11), (1, .int 6)]) (st' := [.int 6, .int 40, .ref 14, .int 0]) (w' := (fw z)) (cs' := 0) (ss' := 0) ?_ (fun _ _ => rfl)
  refine go_seg 8 (pc' := 7) (ls' := [(3, .int 6), (2, .int 0), (0, .ref 11), (1, .int 6)]) (st' := [.int 8, .int 6]) (w' := (fw z)) (cs' := 0) (ss' := 0) ?_ (fun _ _ => rfl)
  refine go_seg 2 (pc' := 11) (ls' := [(3, .int 6), (2, .int 0), (0, .ref 11), (1, .int 6)]) (st' := [.int 6]) (w' := (fw z)) (cs' := 0) (ss' := 0) ?_ (fun _ _ => rfl)
  refine go_cl (k := 1) (st' := [.int 1]) (cs' := 0) (ss' := 0) rfl rfl rfl rfl rfl rfl rfl (ro_603 z) ?_
  refine go_seg 8 (pc' := 27) (ls' := [(3, .int 6), (2, .int 0), (0, .ref 11), (1, .int 6)]) (st' := [.int 6, .int 48, .ref 14, .int 0]) (w' := (fw z)) (cs' := 0) (ss' := 0) ?_ (fun _ _ => rfl)
  refine go_seg 8 (pc' := 7) (ls' := [(3, .int 7), (2, .int 0), (0, .ref 11), (1, .int 6)]) (st' := [.int 8, .int 7]) (w' := (fw z)) (cs' := 0) (ss' := 0) ?_ (fun _ _ => rfl)
  refine go_seg 2 (pc' := 11) (ls' := [(3, .int 7), (2, .int 0), (0, .ref 11), (1, .int 6)]) (st' := [.int 6]) (w' := (fw z)) (cs' := 0) (ss' := 0) ?_ (fun _ _ => rfl)
  refine go_cl (k := 1) (st' := [.int 1]) (cs' := 0) (ss' := 0) rfl rfl rfl rfl rfl rfl rfl (ro_603 z) ?_
  refine go_seg 8 (pc' := 27) (ls' := [(3, .int 7), (2, .int 0), (0, .ref 11), (1, .int 6)]) (st' := [.int 6, .int 56, .ref 14, .int 0]) (w' := (fw z)) (cs' := 0) (ss' := 0) ?_ (fun _ _ => rfl)
  refine go_seg 8 (pc' := 7) (ls' := [(3, .int 8), (2, .int 0), (0, .ref 11), (1, .int 6)]) (st' := [.int 8, .int 8]) (w' := (fw z)) (cs' := 0) (ss' := 0) ?_ (fun _ _ => rfl)
  exact go_end 3 (fun _ _ => rfl)
theorem ro_1143 (z : pq_C) : pq_Ru 3 25 [.ref 1, .int 6, .int 6] (fw z) (some (.int 0), (fw z)) := by
  refine ru_of (k := 2) (M := pm_25) rfl rfl ?_
  refine go_seg 1 (pc' := 1) (ls' := [(0, .ref 1), (1, .int 6), (2, .int 6)]) (st' := [.int 6]) (w' := (fw z)) (cs' := 0) (ss' := 0) ?_ (fun _ _ => rfl)
  refine go_cl (k := 2) (st' := [.int 1]) (cs' := 0) (ss' := 0) rfl rfl rfl rfl rfl rfl rfl (ro_603 z) ?_
  refine go_seg 6 (pc' := 124) (ls' := [(0, .ref 1), (1, .int 6), (2, .int 6)]) (st' := [.int 6, .ref 11]) (w' := (fw z)) (cs' := 0) (ss' := 0) ?_ (fun _ _ => rfl)
  refine go_cl (k := 2) (st' := [.int 0]) (cs' := 0) (ss' := 0) rfl rfl rfl rfl rfl rfl rfl (ro_1142 z) ?_
  exact go_end 1 (fun _ _ => rfl)
theorem ro_1144 (z : pq_C) : pq_Ru 3 169 [.ref 90, .int 6, .int 6] (fw z) (some (.int 0), (fw z)) := by
  refine ru_of (k := 2) (M := pm_169) rfl rfl ?_
  refine go_seg 1 (pc' := 1) (ls' := [(0, .ref 90), (1, .int 6), (2, .int 6)]) (st' := [.int 6]) (w' := (fw z)) (cs' := 0) (ss' := 0) ?_ (fun _ _ => rfl)
  refine go_cl (k := 2) (st' := [.int 1]) (cs' := 0) (ss' := 0) rfl rfl rfl rfl rfl rfl rfl (ro_976 z) ?_
  refine go_seg 5 (pc' := 13) (ls' := [(0, .ref 90), (1, .int 6), (2, .int 6)]) (st' := [.long 7, .long 0, .long 6]) (w' := (fw z)) (cs' := 0) (ss' := 0) ?_ (fun _ _ => rfl)
  refine go_cl (k := 2) (st' := [.int 1]) (cs' := 0) (ss' := 0) rfl rfl rfl rfl rfl rfl rfl (ro_975 z) ?_
  refine go_seg 8 (pc' := 47) (ls' := [(4, .int 0), (3, .int 0), (0, .ref 90), (1, .int 6), (2, .int 6)]) (st' := []) (w' := (fw z)) (cs' := 0) (ss' := 0) ?_ (fun _ _ => rfl)
  refine go_seg 8 (pc' := 63) (ls' := [(4, .int 0), (3, .int 0), (0, .ref 90), (1, .int 6), (2, .int 6)]) (st' := [.int 0, .int 10, .ref 91, .int 0]) (w' := (fw z)) (cs' := 0) (ss' := 0) ?_ (fun _ _ => rfl)
  refine go_seg 8 (pc' := 79) (ls' := [(4, .int 1), (3, .int 0), (0, .ref 90), (1, .int 6), (2, .int 6)]) (st' := []) (w' := (fw z)) (cs' := 0) (ss' := 0) ?_ (fun _ _ => rfl)
  refine go_seg 8 (pc' := 61) (ls' := [(4, .int 1), (3, .int 0), (0, .ref 90), (1, .int 6), (2, .int 6)]) (st' := [.int 10, .ref 91, .int 0]) (w' := (fw z)) (cs' := 0) (ss' := 0) ?_ (fun _ _ => rfl)
  refine go_seg 8 (pc' := 76) (ls' := [(3, .int 0), (4, .int 1), (0, .ref 90), (1, .int 6), (2, .int 6)]) (st' := []) (w' := (fw z)) (cs' := 0) (ss' := 0) ?_ (fun _ _ => rfl)
  refine go_seg 8 (pc' := 59) (ls' := [(4, .int 2), (3, .int 0), (0, .ref 90), (1, .int 6), (2, .int 6)]) (st' := [.ref 91, .int 0]) (w' := (fw z)) (cs' := 0) (ss' := 0) ?_ (fun _ _ => rfl)
  refine go_seg 8 (pc' := 75) (ls' := [(4, .int 2), (3, .int 0), (0, .ref 90), (1, .int 6), (2, .int 6)]) (st' := [.int 0]) (w' := (fw z)) (cs' := 0) (ss' := 0) ?_ (fun _ _ => rfl)
  refine go_seg 8 (pc' := 56) (ls' := [(4, .int 3), (3, .int 0), (0, .ref 90), (1, .int 6), (2, .int 6)]) (st' := [.ref 90, .int 0]) (w' := (fw z)) (cs' := 0) (ss' := 0) ?_ (fun _ _ => rfl)
  refine go_seg 8 (pc' := 74) (ls' := [(4, .int 3), (3, .int 0), (0, .ref 90), (1, .int 6), (2, .int 6)]) (st' := [.int 0, .int 0]) (w' := (fw z)) (cs' := 0) (ss' := 0) ?_ (fun _ _ => rfl)
  refine go_seg 8 (pc' := 55) (ls' := [(4, .int 4), (3, .int 0), (0, .ref 90), (1, .int 6), (2, .int 6)]) (st' := [.int 0]) (w' := (fw z)) (cs' := 0) (ss' := 0) ?_ (fun _ _ => rfl)
  refine go_seg 8 (pc' := 73) (ls' := [(4, .int 4), (3, .int 0), (0, .ref 90), (1, .int 6), (2, .int 6)]) (st' := [.int 0]) (w' := (fw z)) (cs' := 0) (ss' := 0) ?_ (fun _ _ => rfl)
  refine go_seg 8 (pc' := 54) (ls' := [(4, .int 5), (3, .int 0), (0, .ref 90), (1, .int 6), (2, .int 6)]) (st' := []) (w' := (fw z)) (cs' := 0) (ss' := 0) ?_ (fun _ _ => rfl)
  refine go_seg 8 (pc' := 66) (ls' := [(4, .int 5), (3, .int 0), (0, .ref 90), (1, .int 6), (2, .int 6)]) (st' := [.int 6, .int (-1), .int 0]) (w' := (fw z)) (cs' := 0) (ss' := 0) ?_ (fun _ _ => rfl)
  refine go_seg 8 (pc' := 51) (ls' := [(4, .int 6), (3, .int 0), (0, .ref 90), (1, .int 6), (2, .int 6)]) (st' := [.int 64, .int 6]) (w' := (fw z)) (cs' := 0) (ss' := 0) ?_ (fun _ _ => rfl)
  refine go_seg 8 (pc' := 65) (ls' := [(4, .int 6), (3, .int 0), (0, .ref 90), (1, .int 6), (2, .int 6)]) (st' := [.int (-1), .int 0]) (w' := (fw z)) (cs' := 0) (ss' := 0) ?_ (fun _ _ => rfl)
  refine go_seg 8 (pc' := 49) (ls' := [(4, .int 7), (3, .int 0), (0, .ref 90), (1, .int 6), (2, .int 6)]) (st' := [.int 7]) (w' := (fw z)) (cs' := 0) (ss' := 0) ?_ (fun _ _ => rfl)
  refine go_seg 8 (pc' := 64) (ls' := [(4, .int 7), (3, .int 0), (0, .ref 90), (1, .int 6), (2, .int 6)]) (st' := [.int 17, .ref 91, .int 0]) (w' := (fw z)) (cs' := 0) (ss' := 0) ?_ (fun _ _ => rfl)
  refine go_seg 8 (pc' := 47) (ls' := [(4, .int 8), (3, .int 0), (0, .ref 90), (1, .int 6), (2, .int 6)]) (st' := []) (w' := (fw z)) (cs' := 0) (ss' := 0) ?_ (fun _ _ => rfl)
  refine go_seg 8 (pc' := 63) (ls' := [(4, .int 8), (3, .int 0), (0, .ref 90), (1, .int 6), (2, .int 6)]) (st' := [.int 8, .int 10, .ref 91, .int 0]) (w' := (fw z)) (cs' := 0) (ss' := 0) ?_ (fun _ _ => rfl)
  refine go_seg 8 (pc' := 79) (ls' := [(4, .int 9), (3, .int 0), (0, .ref 90), (1, .int 6), (2, .int 6)]) (st' := []) (w' := (fw z)) (cs' := 0) (ss' := 0) ?_ (fun _ _ => rfl)
  refine go_seg 8 (pc' := 61) (ls' := [(4, .int 9), (3, .int 0), (0, .ref 90), (1, .int 6), (2, .int 6)]) (st' := [.int 10, .ref 91, .int 0]) (w' := (fw z)) (cs' := 0) (ss' := 0) ?_ (fun _ _ => rfl)
  refine go_seg 8 (pc' := 76) (ls' := [(3, .int 0), (4, .int 9), (0, .ref 90), (1, .int 6), (2, .int 6)]) (st' := []) (w' := (fw z)) (cs' := 0) (ss' := 0) ?_ (fun _ _ => rfl)
  refine go_seg 8 (pc' := 59) (ls' := [(4, .int 10), (3, .int 0), (0, .ref 90), (1, .int 6), (2, .int 6)]) (st' := [.ref 91, .int 0]) (w' := (fw z)) (cs' := 0) (ss' := 0) ?_ (fun _ _ => rfl)
  refine go_seg 8 (pc' := 75) (ls' := [(4, .int 10), (3, .int 0), (0, .ref 90), (1, .int 6), (2, .int 6)]) (st' := [.int 0]) (w' := (fw z)) (cs' := 0) (ss' := 0) ?_ (fun _ _ => rfl)
  refine go_seg 8 (pc' := 56) (ls' := [(4, .int 11), (3, .int 0), (0, .ref 90), (1, .int 6), (2, .int 6)]) (st' := [.ref 90, .int 0]) (w' := (fw z)) (cs' := 0) (ss' := 0) ?_ (fun _ _ => rfl)
  refine go_seg 8 (pc' := 74) (ls' := [(4, .int 11), (3, .int 0), (0, .ref 90), (1, .int 6), (2, .int 6)]) (st' := [.int 0, .int 0]) (w' := (fw z)) (cs' := 0) (ss' := 0) ?_ (fun _ _ => rfl)
  refine go_seg 8 (pc' := 55) (ls' := [(4, .int 12), (3, .int 0), (0, .ref 90), (1, .int 6), (2, .int 6)]) (st' := [.int 0]) (w' := (fw z)) (cs' := 0) (ss' := 0) ?_ (fun _ _ => rfl)
  refine go_seg 8 (pc' := 73) (ls' := [(4, .int 12), (3, .int 0), (0, .ref 90), (1, .int 6), (2, .int 6)]) (st' := [.int 0]) (w' := (fw z)) (cs' := 0) (ss' := 0) ?_ (fun _ _ => rfl)
  refine go_seg 8 (pc' := 54) (ls' := [(4, .int 13), (3, .int 0), (0, .ref 90), (1, .int 6), (2, .int 6)]) (st' := []) (w' := (fw z)) (cs' := 0) (ss' := 0) ?_ (fun _ _ => rfl)
  refine go_seg 8 (pc' := 66) (ls' := [(4, .int 13), (3, .int 0), (0, .ref 90), (1, .int 6), (2, .int 6)]) (st' := [.int 6, .int (-1), .int 0]) (w' := (fw z)) (cs' := 0) (ss' := 0) ?_ (fun _ _ => rfl)
  refine go_seg 8 (pc' := 51) (ls' := [(4, .int 14), (3, .int 0), (0, .ref 90), (1, .int 6), (2, .int 6)]) (st' := [.int 64, .int 14]) (w' := (fw z)) (cs' := 0) (ss' := 0) ?_ (fun _ _ => rfl)
  refine go_seg 8 (pc' := 65) (ls' := [(4, .int 14), (3, .int 0), (0, .ref 90), (1, .int 6), (2, .int 6)]) (st' := [.int (-1), .int 0]) (w' := (fw z)) (cs' := 0) (ss' := 0) ?_ (fun _ _ => rfl)
  refine go_seg 8 (pc' := 49) (ls' := [(4, .int 15), (3, .int 0), (0, .ref 90), (1, .int 6), (2, .int 6)]) (st' := [.int 15]) (w' := (fw z)) (cs' := 0) (ss' := 0) ?_ (fun _ _ => rfl)
  refine go_seg 8 (pc' := 64) (ls' := [(4, .int 15), (3, .int 0), (0, .ref 90), (1, .int 6), (2, .int 6)]) (st' := [.int 25, .ref 91, .int 0]) (w' := (fw z)) (cs' := 0) (ss' := 0) ?_ (fun _ _ => rfl)
  refine go_seg 8 (pc' := 47) (ls' := [(4, .int 16), (3, .int 0), (0, .ref 90), (1, .int 6), (2, .int 6)]) (st' := []) (w' := (fw z)) (cs' := 0) (ss' := 0) ?_ (fun _ _ => rfl)
  refine go_seg 8 (pc' := 63) (ls' := [(4, .int 16), (3, .int 0), (0, .ref 90), (1, .int 6), (2, .int 6)]) (st' := [.int 16, .int 10, .ref 91, .int 0]) (w' := (fw z)) (cs' := 0) (ss' := 0) ?_ (fun _ _ => rfl)
  refine go_seg 8 (pc' := 79) (ls' := [(4, .int 17), (3, .int 0), (0, .ref 90), (1, .int 6), (2, .int 6)]) (st' := []) (w' := (fw z)) (cs' := 0) (ss' := 0) ?_ (fun _ _ => rfl)
  refine go_seg 8 (pc' := 61) (ls' := [(4, .int 17), (3, .int 0), (0, .ref 90), (1, .int 6), (2, .int 6)]) (st' := [.int 10, .ref 91, .int 0]) (w' := (fw z)) (cs' := 0) (ss' := 0) ?_ (fun _ _ => rfl)
  refine go_seg 8 (pc' := 76) (ls' := [(3, .int 0), (4, .int 17), (0, .ref 90), (1, .int 6), (2, .int 6)]) (st' := []) (w' := (fw z)) (cs' := 0) (ss' := 0) ?_ (fun _ _ => rfl)
  refine go_seg 8 (pc' := 59) (ls' := [(4, .int 18), (3, .int 0), (0, .ref 90), (1, .int 6), (2, .int 6)]) (st' := [.ref 91, .int 0]) (w' := (fw z)) (cs' := 0) (ss' := 0) ?_ (fun _ _ => rfl)
  refine go_seg 8 (pc' := 75) (ls' := [(4, .int 18), (3, .int 0), (0, .ref 90), (1, .int 6), (2, .int 6)]) (st' := [.int 0]) (w' := (fw z)) (cs' := 0) (ss' := 0) ?_ (fun _ _ => rfl)
  refine go_seg 8 (pc' := 56) (ls' := [(4, .int 19), (3, .int 0), (0, .ref 90), (1, .int 6), (2, .int 6)]) (st' := [.ref 90, .int 0]) (w' := (fw z)) (cs' := 0) (ss' := 0) ?_ (fun _ _ => rfl)
  refine go_seg 8 (pc' := 74) (ls' := [(4, .int 19), (3, .int 0), (0, .ref 90), (1, .int 6), (2, .int 6)]) (st' := [.int 0, .int 0]) (w' := (fw z)) (cs' := 0) (ss' := 0) ?_ (fun _ _ => rfl)
  refine go_seg 8 (pc' := 55) (ls' := [(4, .int 20), (3, .int 0), (0, .ref 90), (1, .int 6), (2, .int 6)]) (st' := [.int 0]) (w' := (fw z)) (cs' := 0) (ss' := 0) ?_ (fun _ _ => rfl)
  refine go_seg 8 (pc' := 73) (ls' := [(4, .int 20), (3, .int 0), (0, .ref 90), (1, .int 6), (2, .int 6)]) (st' := [.int 0]) (w' := (fw z)) (cs' := 0) (ss' := 0) ?_ (fun _ _ => rfl)
  refine go_seg 8 (pc' := 54) (ls' := [(4, .int 21), (3, .int 0), (0, .ref 90), (1, .int 6), (2, .int 6)]) (st' := []) (w' := (fw z)) (cs' := 0) (ss' := 0) ?_ (fun _ _ => rfl)
  refine go_seg 8 (pc' := 66) (ls' := [(4, .int 21), (3, .int 0), (0, .ref 90), (1, .int 6), (2, .int 6)]) (st' := [.int 6, .int (-1), .int 0]) (w' := (fw z)) (cs' := 0) (ss' := 0) ?_ (fun _ _ => rfl)
  refine go_seg 8 (pc' := 51) (ls' := [(4, .int 22), (3, .int 0), (0, .ref 90), (1, .int 6), (2, .int 6)]) (st' := [.int 64, .int 22]) (w' := (fw z)) (cs' := 0) (ss' := 0) ?_ (fun _ _ => rfl)
  refine go_seg 8 (pc' := 65) (ls' := [(4, .int 22), (3, .int 0), (0, .ref 90), (1, .int 6), (2, .int 6)]) (st' := [.int (-1), .int 0]) (w' := (fw z)) (cs' := 0) (ss' := 0) ?_ (fun _ _ => rfl)
  refine go_seg 8 (pc' := 49) (ls' := [(4, .int 23), (3, .int 0), (0, .ref 90), (1, .int 6), (2, .int 6)]) (st' := [.int 23]) (w' := (fw z)) (cs' := 0) (ss' := 0) ?_ (fun _ _ => rfl)
  refine go_seg 8 (pc' := 64) (ls' := [(4, .int 23), (3, .int 0), (0, .ref 90), (1, .int 6), (2, .int 6)]) (st' := [.int 33, .ref 91, .int 0]) (w' := (fw z)) (cs' := 0) (ss' := 0) ?_ (fun _ _ => rfl)
  refine go_seg 8 (pc' := 47) (ls' := [(4, .int 24), (3, .int 0), (0, .ref 90), (1, .int 6), (2, .int 6)]) (st' := []) (w' := (fw z)) (cs' := 0) (ss' := 0) ?_ (fun _ _ => rfl)
  refine go_seg 8 (pc' := 63) (ls' := [(4, .int 24), (3, .int 0), (0, .ref 90), (1, .int 6), (2, .int 6)]) (st' := [.int 24, .int 10, .ref 91, .int 0]) (w' := (fw z)) (cs' := 0) (ss' := 0) ?_ (fun _ _ => rfl)
  refine go_seg 8 (pc' := 79) (ls' := [(4, .int 25), (3, .int 0), (0, .ref 90), (1, .int 6), (2, .int 6)]) (st' := []) (w' := (fw z)) (cs' := 0) (ss' := 0) ?_ (fun _ _ => rfl)
  refine go_seg 8 (pc' := 61) (ls' := [(4, .int 25), (3, .int 0), (0, .ref 90), (1, .int 6), (2, .int 6)]) (st' := [.int 10, .ref 91, .int 0]) (w' := (fw z)) (cs' := 0) (ss' := 0) ?_ (fun _ _ => rfl)
  refine go_seg 8 (pc' := 76) (ls' := [(3, .int 0), (4, .int 25), (0, .ref 90), (1, .int 6), (2, .int 6)]) (st' := []) (w' := (fw z)) (cs' := 0) (ss' := 0) ?_ (fun _ _ => rfl)
  refine go_seg 8 (pc' := 59) (ls' := [(4, .int 26), (3, .int 0), (0, .ref 90), (1, .int 6), (2, .int 6)]) (st' := [.ref 91, .int 0]) (w' := (fw z)) (cs' := 0) (ss' := 0) ?_ (fun _ _ => rfl)
  refine go_seg 8 (pc' := 75) (ls' := [(4, .int 26), (3, .int 0), (0, .ref 90), (1, .int 6), (2, .int 6)]) (st' := [.int 0]) (w' := (fw z)) (cs' := 0) (ss' := 0) ?_ (fun _ _ => rfl)
  refine go_seg 8 (pc' := 56) (ls' := [(4, .int 27), (3, .int 0), (0, .ref 90), (1, .int 6), (2, .int 6)]) (st' := [.ref 90, .int 0]) (w' := (fw z)) (cs' := 0) (ss' := 0) ?_ (fun _ _ => rfl)
  refine go_seg 8 (pc' := 74) (ls' := [(4, .int 27), (3, .int 0), (0, .ref 90), (1, .int 6), (2, .int 6)]) (st' := [.int 0, .int 0]) (w' := (fw z)) (cs' := 0) (ss' := 0) ?_ (fun _ _ => rfl)
  refine go_seg 8 (pc' := 55) (ls' := [(4, .int 28), (3, .int 0), (0, .ref 90), (1, .int 6), (2, .int 6)]) (st' := [.int 0]) (w' := (fw z)) (cs' := 0) (ss' := 0) ?_ (fun _ _ => rfl)
  refine go_seg 8 (pc' := 73) (ls' := [(4, .int 28), (3, .int 0), (0, .ref 90), (1, .int 6), (2, .int 6)]) (st' := [.int 0]) (w' := (fw z)) (cs' := 0) (ss' := 0) ?_ (fun _ _ => rfl)
  refine go_seg 8 (pc' := 54) (ls' := [(4, .int 29), (3, .int 0), (0, .ref 90), (1, .int 6), (2, .int 6)]) (st' := []) (w' := (fw z)) (cs' := 0) (ss' := 0) ?_ (fun _ _ => rfl)
  refine go_seg 8 (pc' := 66) (ls' := [(4, .int 29), (3, .int 0), (0, .ref 90), (1, .int 6), (2, .int 6)]) (st' := [.int 6, .int (-1), .int 0]) (w' := (fw z)) (cs' := 0) (ss' := 0) ?_ (fun _ _ => rfl)
  refine go_seg 8 (pc' := 51) (ls' := [(4, .int 30), (3, .int 0), (0, .ref 90), (1, .int 6), (2, .int 6)]) (st' := [.int 64, .int 30]) (w' := (fw z)) (cs' := 0) (ss' := 0) ?_ (fun _ _ => rfl)
  refine go_seg 8 (pc' := 65) (ls' := [(4, .int 30), (3, .int 0), (0, .ref 90), (1, .int 6), (2, .int 6)]) (st' := [.int (-1), .int 0]) (w' := (fw z)) (cs' := 0) (ss' := 0) ?_ (fun _ _ => rfl)
  refine go_seg 8 (pc' := 49) (ls' := [(4, .int 31), (3, .int 0), (0, .ref 90), (1, .int 6), (2, .int 6)]) (st' := [.int 31]) (w' := (fw z)) (cs' := 0) (ss' := 0) ?_ (fun _ _ => rfl)
  refine go_seg 8 (pc' := 64) (ls' := [(4, .int 31), (3, .int 0), (0, .ref 90), (1, .int 6), (2, .int 6)]) (st' := [.int 41, .ref 91, .int 0]) (w' := (fw z)) (cs' := 0) (ss' := 0) ?_ (fun _ _ => rfl)
  refine go_seg 8 (pc' := 47) (ls' := [(4, .int 32), (3, .int 0), (0, .ref 90), (1, .int 6), (2, .int 6)]) (st' := []) (w' := (fw z)) (cs' := 0) (ss' := 0) ?_ (fun _ _ => rfl)
  refine go_seg 8 (pc' := 63) (ls' := [(4, .int 32), (3, .int 0), (0, .ref 90), (1, .int 6), (2, .int 6)]) (st' := [.int 32, .int 10, .ref 91, .int 0]) (w' := (fw z)) (cs' := 0) (ss' := 0) ?_ (fun _ _ => rfl)
  refine go_seg 8 (pc' := 79) (ls' := [(4, .int 33), (3, .int 0), (0, .ref 90), (1, .int 6), (2, .int 6)]) (st' := []) (w' := (fw z)) (cs' := 0) (ss' := 0) ?_ (fun _ _ => rfl)
  refine go_seg 8 (pc' := 61) (ls' := [(4, .int 33), (3, .int 0), (0, .ref 90), (1, .int 6), (2, .int 6)]) (st' := [.int 10, .ref 91, .int 0]) (w' := (fw z)) (cs' := 0) (ss' := 0) ?_ (fun _ _ => rfl)
  refine go_seg 8 (pc' := 76) (ls' := [(3, .int 0), (4, .int 33), (0, .ref 90), (1, .int 6), (2, .int 6)]) (st' := []) (w' := (fw z)) (cs' := 0) (ss' := 0) ?_ (fun _ _ => rfl)
  refine go_seg 8 (pc' := 59) (ls' := [(4, .int 34), (3, .int 0), (0, .ref 90), (1, .int 6), (2, .int 6)]) (st' := [.ref 91, .int 0]) (w' := (fw z)) (cs' := 0) (ss' := 0) ?_ (fun _ _ => rfl)
  refine go_seg 8 (pc' := 75) (ls' := [(4, .int 34), (3, .int 0), (0, .ref 90), (1, .int 6), (2, .int 6)]) (st' := [.int 0]) (w' := (fw z)) (cs' := 0) (ss' := 0) ?_ (fun _ _ => rfl)
  refine go_seg 8 (pc' := 56) (ls' := [(4, .int 35), (3, .int 0), (0, .ref 90), (1, .int 6), (2, .int 6)]) (st' := [.ref 90, .int 0]) (w' := (fw z)) (cs' := 0) (ss' := 0) ?_ (fun _ _ => rfl)
  refine go_seg 8 (pc' := 74) (ls' := [(4, .int 35), (3, .int 0), (0, .ref 90), (1, .int 6), (2, .int 6)]) (st' := [.int 0, .int 0]) (w' := (fw z)) (cs' := 0) (ss' := 0) ?_ (fun _ _ => rfl)
  refine go_seg 8 (pc' := 55) (ls' := [(4, .int 36), (3, .int 0), (0, .ref 90), (1, .int 6), (2, .int 6)]) (st' := [.int 0]) (w' := (fw z)) (cs' := 0) (ss' := 0) ?_ (fun _ _ => rfl)
  refine go_seg 8 (pc' := 73) (ls' := [(4, .int 36), (3, .int 0), (0, .ref 90), (1, .int 6), (2, .int 6)]) (st' := [.int 0]) (w' := (fw z)) (cs' := 0) (ss' := 0) ?_ (fun _ _ => rfl)
  refine go_seg 8 (pc' := 54) (ls' := [(4, .int 37), (3, .int 0), (0, .ref 90), (1, .int 6), (2, .int 6)]) (st' := []) (w' := (fw z)) (cs' := 0) (ss' := 0) ?_ (fun _ _ => rfl)
  refine go_seg 8 (pc' := 66) (ls' := [(4, .int 37), (3, .int 0), (0, .ref 90), (1, .int 6), (2, .int 6)]) (st' := [.int 6, .int (-1), .int 0]) (w' := (fw z)) (cs' := 0) (ss' := 0) ?_ (fun _ _ => rfl)
  refine go_seg 8 (pc' := 51) (ls' := [(4, .int 38), (3, .int 0), (0, .ref 90), (1, .int 6), (2, .int 6)]) (st' := [.int 64, .int 38]) (w' := (fw z)) (cs' := 0) (ss' := 0) ?_ (fun _ _ => rfl)
  refine go_seg 8 (pc' := 65) (ls' := [(4, .int 38), (3, .int 0), (0, .ref 90), (1, .int 6), (2, .int 6)]) (st' := [.int (-1), .int 0]) (w' := (fw z)) (cs' := 0) (ss' := 0) ?_ (fun _ _ => rfl)
  refine go_seg 8 (pc' := 49) (ls' := [(4, .int 39), (3, .int 0), (0, .ref 90), (1, .int 6), (2, .int 6)]) (st' := [.int 39]) (w' := (fw z)) (cs' := 0) (ss' := 0) ?_ (fun _ _ => rfl)
  refine go_seg 8 (pc' := 64) (ls' := [(4, .int 39), (3, .int 0), (0, .ref 90), (1, .int 6), (2, .int 6)]) (st' := [.int 49, .ref 91, .int 0]) (w' := (fw z)) (cs' := 0) (ss' := 0) ?_ (fun _ _ => rfl)
  refine go_seg 8 (pc' := 47) (ls' := [(4, .int 40), (3, .int 0), (0, .ref 90), (1, .int 6), (2, .int 6)]) (st' := []) (w' := (fw z)) (cs' := 0) (ss' := 0) ?_ (fun _ _ => rfl)
  refine go_seg 8 (pc' := 63) (ls' := [(4, .int 40), (3, .int 0), (0, .ref 90), (1, .int 6), (2, .int 6)]) (st' := [.int 40, .int 10, .ref 91, .int 0]) (w' := (fw z)) (cs' := 0) (ss' := 0) ?_ (fun _ _ => rfl)
  refine go_seg 8 (pc' := 79) (ls' := [(4, .int 41), (3, .int 0), (0, .ref 90), (1, .int 6), (2, .int 6)]) (st' := []) (w' := (fw z)) (cs' := 0) (ss' := 0) ?_ (fun _ _ => rfl)
  refine go_seg 8 (pc' := 61) (ls' := [(4, .int 41), (3, .int 0), (0, .ref 90), (1, .int 6), (2, .int 6)]) (st' := [.int 10, .ref 91, .int 0]) (w' := (fw z)) (cs' := 0) (ss' := 0) ?_ (fun _ _ => rfl)
  refine go_seg 8 (pc' := 76) (ls' := [(3, .int 0), (4, .int 41), (0, .ref 90), (1, .int 6), (2, .int 6)]) (st' := []) (w' := (fw z)) (cs' := 0) (ss' := 0) ?_ (fun _ _ => rfl)
  refine go_seg 8 (pc' := 59) (ls' := [(4, .int 42), (3, .int 0), (0, .ref 90), (1, .int 6), (2, .int 6)]) (st' := [.ref 91, .int 0]) (w' := (fw z)) (cs' := 0) (ss' := 0) ?_ (fun _ _ => rfl)
  refine go_seg 8 (pc' := 75) (ls' := [(4, .int 42), (3, .int 0), (0, .ref 90), (1, .int 6), (2, .int 6)]) (st' := [.int 0]) (w' := (fw z)) (cs' := 0) (ss' := 0) ?_ (fun _ _ => rfl)
  refine go_seg 8 (pc' := 56) (ls' := [(4, .int 43), (3, .int 0), (0, .ref 90), (1, .int 6), (2, .int 6)]) (st' := [.ref 90, .int 0]) (w' := (fw z)) (cs' := 0) (ss' := 0) ?_ (fun _ _ => rfl)
  refine go_seg 8 (pc' := 74) (ls' := [(4, .int 43), (3, .int 0), (0, .ref 90), (1, .int 6), (2, .int 6)]) (st' := [.int 0, .int 0]) (w' := (fw z)) (cs' := 0) (ss' := 0) ?_ (fun _ _ => rfl)
  refine go_seg 8 (pc' := 55) (ls' := [(4, .int 44), (3, .int 0), (0, .ref 90), (1, .int 6), (2, .int 6)]) (st' := [.int 0]) (w' := (fw z)) (cs' := 0) (ss' := 0) ?_ (fun _ _ => rfl)
  refine go_seg 8 (pc' := 73) (ls' := [(4, .int 44), (3, .int 0), (0, .ref 90), (1, .int 6), (2, .int 6)]) (st' := [.int 0]) (w' := (fw z)) (cs' := 0) (ss' := 0) ?_ (fun _ _ => rfl)
  refine go_seg 8 (pc' := 54) (ls' := [(4, .int 45), (3, .int 0), (0, .ref 90), (1, .int 6), (2, .int 6)]) (st' := []) (w' := (fw z)) (cs' := 0) (ss' := 0) ?_ (fun _ _ => rfl)
  refine go_seg 8 (pc' := 66) (ls' := [(4, .int 45), (3, .int 0), (0, .ref 90), (1, .int 6), (2, .int 6)]) (st' := [.int 6, .int (-1), .int 0]) (w' := (fw z)) (cs' := 0) (ss' := 0) ?_ (fun _ _ => rfl)
  refine go_seg 8 (pc' := 51) (ls' := [(4, .int 46), (3, .int 0), (0, .ref 90), (1, .int 6), (2, .int 6)]) (st' := [.int 64, .int 46]) (w' := (fw z)) (cs' := 0) (ss' := 0) ?_ (fun _ _ => rfl)
  refine go_seg 8 (pc' := 65) (ls' := [(4, .int 46), (3, .int 0), (0, .ref 90), (1, .int 6), (2, .int 6)]) (st' := [.int (-1), .int 0]) (w' := (fw z)) (cs' := 0) (ss' := 0) ?_ (fun _ _ => rfl)
  refine go_seg 8 (pc' := 49) (ls' := [(4, .int 47), (3, .int 0), (0, .ref 90), (1, .int 6), (2, .int 6)]) (st' := [.int 47]) (w' := (fw z)) (cs' := 0) (ss' := 0) ?_ (fun _ _ => rfl)
  refine go_seg 8 (pc' := 64) (ls' := [(4, .int 47), (3, .int 0), (0, .ref 90), (1, .int 6), (2, .int 6)]) (st' := [.int 57, .ref 91, .int 0]) (w' := (fw z)) (cs' := 0) (ss' := 0) ?_ (fun _ _ => rfl)
  refine go_seg 8 (pc' := 47) (ls' := [(4, .int 48), (3, .int 0), (0, .ref 90), (1, .int 6), (2, .int 6)]) (st' := []) (w' := (fw z)) (cs' := 0) (ss' := 0) ?_ (fun _ _ => rfl)
  refine go_seg 8 (pc' := 63) (ls' := [(4, .int 48), (3, .int 0), (0, .ref 90), (1, .int 6), (2, .int 6)]) (st' := [.int 48, .int 10, .ref 91, .int 0]) (w' := (fw z)) (cs' := 0) (ss' := 0) ?_ (fun _ _ => rfl)
  refine go_seg 8 (pc' := 79) (ls' := [(4, .int 49), (3, .int 0), (0, .ref 90), (1, .int 6), (2, .int 6)]) (st' := []) (w' := (fw z)) (cs' := 0) (ss' := 0) ?_ (fun _ _ => rfl)
  refine go_seg 8 (pc' := 61) (ls' := [(4, .int 49), (3, .int 0), (0, .ref 90), (1, .int 6), (2, .int 6)]) (st' := [.int 10, .ref 91, .int 0]) (w' := (fw z)) (cs' := 0) (ss' := 0) ?_ (fun _ _ => rfl)
  refine go_seg 8 (pc' := 76) (ls' := [(3, .int 0), (4, .int 49), (0, .ref 90), (1, .int 6), (2, .int 6)]) (st' := []) (w' := (fw z)) (cs' := 0) (ss' := 0) ?_ (fun _ _ => rfl)
  refine go_seg 8 (pc' := 59) (ls' := [(4, .int 50), (3, .int 0), (0, .ref 90), (1, .int 6), (2, .int 6)]) (st' := [.ref 91, .int 0]) (w' := (fw z)) (cs' := 0) (ss' := 0) ?_ (fun _ _ => rfl)
  refine go_seg 8 (pc' := 75) (ls' := [(4, .int 50), (3, .int 0), (0, .ref 90), (1, .int 6), (2, .int 6)]) (st' := [.int 0]) (w' := (fw z)) (cs' := 0) (ss' := 0) ?_ (fun _ _ => rfl)
  refine go_seg 8 (pc' := 56) (ls' := [(4, .int 51), (3, .int 0), (0, .ref 90), (1, .int 6), (2, .int 6)]) (st' := [.ref 90, .int 0]) (w' := (fw z)) (cs' := 0) (ss' := 0) ?_ (fun _ _ => rfl)
  refine go_seg 8 (pc' := 74) (ls' := [(4, .int 51), (3, .int 0), (0, .ref 90), (1, .int 6), (2, .int 6)]) (st' := [.int 0, .int 0]) (w' := (fw z)) (cs' := 0) (ss' := 0) ?_ (fun _ _ => rfl)
  refine go_seg 8 (pc' := 55) (ls' := [(4, .int 52), (3, .int 0), (0, .ref 90), (1, .int 6), (2, .int 6)]) (st' := [.int 0]) (w' := (fw z)) (cs' := 0) (ss' := 0) ?_ (fun _ _ => rfl)
  refine go_seg 8 (pc' := 73) (ls' := [(4, .int 52), (3, .int 0), (0, .ref 90), (1, .int 6), (2, .int 6)]) (st' := [.int 0]) (w' := (fw z)) (cs' := 0) (ss' := 0) ?_ (fun _ _ => rfl)
  refine go_seg 8 (pc' := 54) (ls' := [(4, .int 53), (3, .int 0), (0, .ref 90), (1, .int 6), (2, .int 6)]) (st' := []) (w' := (fw z)) (cs' := 0) (ss' := 0) ?_ (fun _ _ => rfl)
  refine go_seg 8 (pc' := 66) (ls' := [(4, .int 53), (3, .int 0), (0, .ref 90), (1, .int 6), (2, .int 6)]) (st' := [.int 6, .int (-1), .int 0]) (w' := (fw z)) (cs' := 0) (ss' := 0) ?_ (fun _ _ => rfl)
  refine go_seg 8 (pc' := 51) (ls' := [(4, .int 54), (3, .int 0), (0, .ref 90), (1, .int 6), (2, .int 6)]) (st' := [.int 64, .int 54]) (w' := (fw z)) (cs' := 0) (ss' := 0) ?_ (fun _ _ => rfl)
  refine go_seg 8 (pc' := 65) (ls' := [(4, .int 54), (3, .int 0), (0, .ref 90), (1, .int 6), (2, .int 6)]) (st' := [.int (-1), .int 0]) (w' := (fw z)) (cs' := 0) (ss' := 0) ?_ (fun _ _ => rfl)
  refine go_seg 8 (pc' := 49) (ls' := [(4, .int 55), (3, .int 0), (0, .ref 90), (1, .int 6), (2, .int 6)]) (st' := [.int 55]) (w' := (fw z)) (cs' := 0) (ss' := 0) ?_ (fun _ _ => rfl)
  refine go_seg 8 (pc' := 64) (ls' := [(4, .int 55), (3, .int 0), (0, .ref 90), (1, .int 6), (2, .int 6)]) (st' := [.int 65, .ref 91, .int 0]) (w' := (fw z)) (cs' := 0) (ss' := 0) ?_ (fun _ _ => rfl)
  refine go_seg 8 (pc' := 47) (ls' := [(4, .int 56), (3, .int 0), (0, .ref 90), (1, .int 6), (2, .int 6)]) (st' := []) (w' := (fw z)) (cs' := 0) (ss' := 0) ?_ (fun _ _ => rfl)
  refine go_seg 8 (pc' := 63) (ls' := [(4, .int 56), (3, .int 0), (0, .ref 90), (1, .int 6), (2, .int 6)]) (st' := [.int 56, .int 10, .ref 91, .int 0]) (w' := (fw z)) (cs' := 0) (ss' := 0) ?_ (fun _ _ => rfl)
  refine go_seg 8 (pc' := 79) (ls' := [(4, .int 57), (3, .int 0), (0, .ref 90), (1, .int 6), (2, .int 6)]) (st' := []) (w' := (fw z)) (cs' := 0) (ss' := 0) ?_ (fun _ _ => rfl)
  refine go_seg 8 (pc' := 61) (ls' := [(4, .int 57), (3, .int 0), (0, .ref 90), (1, .int 6), (2, .int 6)]) (st' := [.int 10, .ref 91, .int 0]) (w' := (fw z)) (cs' := 0) (ss' := 0) ?_ (fun _ _ => rfl)
  refine go_seg 8 (pc' := 76) (ls' := [(3, .int 0), (4, .int 57), (0, .ref 90), (1, .int 6), (2, .int 6)]) (st' := []) (w' := (fw z)) (cs' := 0) (ss' := 0) ?_ (fun _ _ => rfl)
  refine go_seg 8 (pc' := 59) (ls' := [(4, .int 58), (3, .int 0), (0, .ref 90), (1, .int 6), (2, .int 6)]) (st' := [.ref 91, .int 0]) (w' := (fw z)) (cs' := 0) (ss' := 0) ?_ (fun _ _ => rfl)
  refine go_seg 8 (pc' := 75) (ls' := [(4, .int 58), (3, .int 0), (0, .ref 90), (1, .int 6), (2, .int 6)]) (st' := [.int 0]) (w' := (fw z)) (cs' := 0) (ss' := 0) ?_ (fun _ _ => rfl)
  refine go_seg 8 (pc' := 56) (ls' := [(4, .int 59), (3, .int 0), (0, .ref 90), (1, .int 6), (2, .int 6)]) (st' := [.ref 90, .int 0]) (w' := (fw z)) (cs' := 0) (ss' := 0) ?_ (fun _ _ => rfl)
  refine go_seg 8 (pc' := 74) (ls' := [(4, .int 59), (3, .int 0), (0, .ref 90), (1, .int 6), (2, .int 6)]) (st' := [.int 0, .int 0]) (w' := (fw z)) (cs' := 0) (ss' := 0) ?_ (fun _ _ => rfl)
  refine go_seg 8 (pc' := 55) (ls' := [(4, .int 60), (3, .int 0), (0, .ref 90), (1, .int 6), (2, .int 6)]) (st' := [.int 0]) (w' := (fw z)) (cs' := 0) (ss' := 0) ?_ (fun _ _ => rfl)
  refine go_seg 8 (pc' := 73) (ls' := [(4, .int 60), (3, .int 0), (0, .ref 90), (1, .int 6), (2, .int 6)]) (st' := [.int 0]) (w' := (fw z)) (cs' := 0) (ss' := 0) ?_ (fun _ _ => rfl)
  refine go_seg 8 (pc' := 54) (ls' := [(4, .int 61), (3, .int 0), (0, .ref 90), (1, .int 6), (2, .int 6)]) (st' := []) (w' := (fw z)) (cs' := 0) (ss' := 0) ?_ (fun _ _ => rfl)
  refine go_seg 8 (pc' := 66) (ls' := [(4, .int 61), (3, .int 0), (0, .ref 90), (1, .int 6), (2, .int 6)]) (st' := [.int 6, .int (-1), .int 0]) (w' := (fw z)) (cs' := 0) (ss' := 0) ?_ (fun _ _ => rfl)
  refine go_seg 8 (pc' := 51) (ls' := [(4, .int 62), (3, .int 0), (0, .ref 90), (1, .int 6), (2, .int 6)]) (st' := [.int 64, .int 62]) (w' := (fw z)) (cs' := 0) (ss' := 0) ?_ (fun _ _ => rfl)
  refine go_seg 8 (pc' := 65) (ls' := [(4, .int 62), (3, .int 0), (0, .ref 90), (1, .int 6), (2, .int 6)]) (st' := [.int (-1), .int 0]) (w' := (fw z)) (cs' := 0) (ss' := 0) ?_ (fun _ _ => rfl)
  refine go_seg 8 (pc' := 49) (ls' := [(4, .int 63), (3, .int 0), (0, .ref 90), (1, .int 6), (2, .int 6)]) (st' := [.int 63]) (w' := (fw z)) (cs' := 0) (ss' := 0) ?_ (fun _ _ => rfl)
  refine go_seg 8 (pc' := 64) (ls' := [(4, .int 63), (3, .int 0), (0, .ref 90), (1, .int 6), (2, .int 6)]) (st' := [.int 73, .ref 91, .int 0]) (w' := (fw z)) (cs' := 0) (ss' := 0) ?_ (fun _ _ => rfl)
  refine go_seg 8 (pc' := 47) (ls' := [(4, .int 64), (3, .int 0), (0, .ref 90), (1, .int 6), (2, .int 6)]) (st' := []) (w' := (fw z)) (cs' := 0) (ss' := 0) ?_ (fun _ _ => rfl)
  refine go_seg 8 (pc' := 94) (ls' := [(4, .int 64), (3, .int 0), (0, .ref 90), (1, .int 6), (2, .int 6)]) (st' := [.int 6, .int 6]) (w' := (fw z)) (cs' := 0) (ss' := 0) ?_ (fun _ _ => rfl)
  refine go_seg 3 (pc' := 99) (ls' := [(4, .int 64), (3, .int 0), (0, .ref 90), (1, .int 6), (2, .int 6)]) (st' := [.int 6, .ref 90]) (w' := (fw z)) (cs' := 0) (ss' := 0) ?_ (fun _ _ => rfl)
  refine go_cl (k := 2) (st' := [.int 0]) (cs' := 0) (ss' := 0) rfl rfl rfl rfl rfl rfl rfl (ro_481 z) ?_
  exact go_end 2 (fun _ _ => rfl)
theorem lf_4_1145 (a0 : Int32) (a3 : Int32) (a4 : Int32) (a5 : Int32) : ∃ w', pq_Go 20 pm_law 370 [(3, .int 0), (2, .ref 90), (1, .ref 1), (0, .ref 0)] [] (fw (sz a0 6 6 a3 a4 a5)) 109 12668 (some (.int 1), w') := by
  refine ⟨(fw (sz a0 6 6 a3 a4 a5)), ?_⟩
  refine go_seg 8 (pc' := 378) (ls' := [(3, .int 0), (2, .ref 90), (1, .ref 1), (0, .ref 0)]) (st' := [.int 0, .ref 0, .int 6, .ref 1]) (w' := (fw (sz a0 6 6 a3 a4 a5))) (cs' := 109) (ss' := 12668) ?_ (fun _ _ => rfl)
  refine go_seg 3 (pc' := 381) (ls' := [(3, .int 0), (2, .ref 90), (1, .ref 1), (0, .ref 0)]) (st' := [.int 6, .int 6, .ref 1]) (w' := (fw (sz a0 6 6 a3 a4 a5))) (cs' := 109) (ss' := 12668) ?_ (fun _ _ => rfl)
  refine go_cl (k := 20) (st' := [.int 0]) (cs' := 109) (ss' := 12668) rfl rfl rfl rfl rfl rfl rfl (ro_1143 (sz a0 6 6 a3 a4 a5)) ?_
  refine go_seg 8 (pc' := 392) (ls' := [(3, .int 0), (2, .ref 90), (1, .ref 1), (0, .ref 0)]) (st' := [.int 0, .ref 0, .int 6, .ref 90, .int 0]) (w' := (fw (sz a0 6 6 a3 a4 a5))) (cs' := 109) (ss' := 12668) ?_ (fun _ _ => rfl)
  refine go_seg 3 (pc' := 395) (ls' := [(3, .int 0), (2, .ref 90), (1, .ref 1), (0, .ref 0)]) (st' := [.int 6, .int 6, .ref 90, .int 0]) (w' := (fw (sz a0 6 6 a3 a4 a5))) (cs' := 109) (ss' := 12668) ?_ (fun _ _ => rfl)
  refine go_cl (k := 20) (st' := [.int 0, .int 0]) (cs' := 109) (ss' := 12668) rfl rfl rfl rfl rfl rfl rfl (ro_1144 (sz a0 6 6 a3 a4 a5)) ?_
  refine go_cmp true rfl (br_self _) ?_
  exact law_tail (f := sc a0 6 6 a3 a4 a5) rfl
theorem ro_1146 (z : pq_C) : pq_Ru 2 27 [.ref 11, .int 7] (fw z) (some (.int 0), (fw z)) := by
  refine ru_of (k := 1) (M := pm_27) rfl rfl ?_
  refine go_seg 8 (pc' := 11) (ls' := [(3, .int 0), (2, .int 0), (0, .ref 11), (1, .int 7)]) (st' := [.int 7]) (w' := (fw z)) (cs' := 0) (ss' := 0) ?_ (fun _ _ => rfl)
  refine go_cl (k := 1) (st' := [.int 1]) (cs' := 0) (ss' := 0) rfl rfl rfl rfl rfl rfl rfl (ro_612 z) ?_
  refine go_seg 8 (pc' := 27) (ls' := [(3, .int 0), (2, .int 0), (0, .ref 11), (1, .int 7)]) (st' := [.int 7, .int 0, .ref 14, .int 0]) (w' := (fw z)) (cs' := 0) (ss' := 0) ?_ (fun _ _ => rfl)
  refine go_seg 8 (pc' := 7) (ls' := [(3, .int 1), (2, .int 0), (0, .ref 11), (1, .int 7)]) (st' := [.int 8, .int 1]) (w' := (fw z)) (cs' := 0) (ss' := 0) ?_ (fun _ _ => rfl)
  refine go_seg 2 (pc' := 11) (ls' := [(3, .int 1), (2, .int 0), (0, .ref 11), (1, .int 7)]) (st' := [.int 7]) (w' := (fw z)) (cs' := 0) (ss' := 0) ?_ (fun _ _ => rfl)
  refine go_cl (k := 1) (st' := [.int 1]) (cs' := 0) (ss' := 0) rfl rfl rfl rfl rfl rfl rfl (ro_612 z) ?_
  refine go_seg 8 (pc' := 27) (ls' := [(3, .int 1), (2, .int 0), (0, .ref 11), (1, .int 7)]) (st' := [.int 7, .int 8, .ref 14, .int 0]) (w' := (fw z)) (cs' := 0) (ss' := 0) ?_ (fun _ _ => rfl)
  refine go_seg 8 (pc' := 7) (ls' := [(3, .int 2), (2, .int 0), (0, .ref 11), (1, .int 7)]) (st' := [.int 8, .int 2]) (w' := (fw z)) (cs' := 0) (ss' := 0) ?_ (fun _ _ => rfl)
  refine go_seg 2 (pc' := 11) (ls' := [(3, .int 2), (2, .int 0), (0, .ref 11), (1, .int 7)]) (st' := [.int 7]) (w' := (fw z)) (cs' := 0) (ss' := 0) ?_ (fun _ _ => rfl)
  refine go_cl (k := 1) (st' := [.int 1]) (cs' := 0) (ss' := 0) rfl rfl rfl rfl rfl rfl rfl (ro_612 z) ?_
  refine go_seg 8 (pc' := 27) (ls' := [(3, .int 2), (2, .int 0), (0, .ref 11), (1, .int 7)]) (st' := [.int 7, .int 16, .ref 14, .int 0]) (w' := (fw z)) (cs' := 0) (ss' := 0) ?_ (fun _ _ => rfl)
  refine go_seg 8 (pc' := 7) (ls' := [(3, .int 3), (2, .int 0), (0, .ref 11), (1, .int 7)]) (st' := [.int 8, .int 3]) (w' := (fw z)) (cs' := 0) (ss' := 0) ?_ (fun _ _ => rfl)
  refine go_seg 2 (pc' := 11) (ls' := [(3, .int 3), (2, .int 0), (0, .ref 11), (1, .int 7)]) (st' := [.int 7]) (w' := (fw z)) (cs' := 0) (ss' := 0) ?_ (fun _ _ => rfl)
  refine go_cl (k := 1) (st' := [.int 1]) (cs' := 0) (ss' := 0) rfl rfl rfl rfl rfl rfl rfl (ro_612 z) ?_
  refine go_seg 8 (pc' := 27) (ls' := [(3, .int 3), (2, .int 0), (0, .ref 11), (1, .int 7)]) (st' := [.int 7, .int 24, .ref 14, .int 0]) (w' := (fw z)) (cs' := 0) (ss' := 0) ?_ (fun _ _ => rfl)
  refine go_seg 8 (pc' := 7) (ls' := [(3, .int 4), (2, .int 0), (0, .ref 11), (1, .int 7)]) (st' := [.int 8, .int 4]) (w' := (fw z)) (cs' := 0) (ss' := 0) ?_ (fun _ _ => rfl)
  refine go_seg 2 (pc' := 11) (ls' := [(3, .int 4), (2, .int 0), (0, .ref 11), (1, .int 7)]) (st' := [.int 7]) (w' := (fw z)) (cs' := 0) (ss' := 0) ?_ (fun _ _ => rfl)
  refine go_cl (k := 1) (st' := [.int 1]) (cs' := 0) (ss' := 0) rfl rfl rfl rfl rfl rfl rfl (ro_612 z) ?_
  refine go_seg 8 (pc' := 27) (ls' := [(3, .int 4), (2, .int 0), (0, .ref 11), (1, .int 7)]) (st' := [.int 7, .int 32, .ref 14, .int 0]) (w' := (fw z)) (cs' := 0) (ss' := 0) ?_ (fun _ _ => rfl)
  refine go_seg 8 (pc' := 7) (ls' := [(3, .int 5), (2, .int 0), (0, .ref 11), (1, .int 7)]) (st' := [.int 8, .int 5]) (w' := (fw z)) (cs' := 0) (ss' := 0) ?_ (fun _ _ => rfl)
  refine go_seg 2 (pc' := 11) (ls' := [(3, .int 5), (2, .int 0), (0, .ref 11), (1, .int 7)]) (st' := [.int 7]) (w' := (fw z)) (cs' := 0) (ss' := 0) ?_ (fun _ _ => rfl)
  refine go_cl (k := 1) (st' := [.int 1]) (cs' := 0) (ss' := 0) rfl rfl rfl rfl rfl rfl rfl (ro_612 z) ?_
  refine go_seg 8 (pc' := 27) (ls' := [(3, .int 5), (2, .int 0), (0, .ref 11), (1, .int 7)]) (st' := [.int 7, .int 40, .ref 14, .int 0]) (w' := (fw z)) (cs' := 0) (ss' := 0) ?_ (fun _ _ => rfl)
  refine go_seg 8 (pc' := 7) (ls' := [(3, .int 6), (2, .int 0), (0, .ref 11), (1, .int 7)]) (st' := [.int 8, .int 6]) (w' := (fw z)) (cs' := 0) (ss' := 0) ?_ (fun _ _ => rfl)
  refine go_seg 2 (pc' := 11) (ls' := [(3, .int 6), (2, .int 0), (0, .ref 11), (1, .int 7)]) (st' := [.int 7]) (w' := (fw z)) (cs' := 0) (ss' := 0) ?_ (fun _ _ => rfl)
  refine go_cl (k := 1) (st' := [.int 1]) (cs' := 0) (ss' := 0) rfl rfl rfl rfl rfl rfl rfl (ro_612 z) ?_
  refine go_seg 8 (pc' := 27) (ls' := [(3, .int 6), (2, .int 0), (0, .ref 11), (1, .int 7)]) (st' := [.int 7, .int 48, .ref 14, .int 0]) (w' := (fw z)) (cs' := 0) (ss' := 0) ?_ (fun _ _ => rfl)
  refine go_seg 8 (pc' := 7) (ls' := [(3, .int 7), (2, .int 0), (0, .ref 11), (1, .int 7)]) (st' := [.int 8, .int 7]) (w' := (fw z)) (cs' := 0) (ss' := 0) ?_ (fun _ _ => rfl)
  refine go_seg 2 (pc' := 11) (ls' := [(3, .int 7), (2, .int 0), (0, .ref 11), (1, .int 7)]) (st' := [.int 7]) (w' := (fw z)) (cs' := 0) (ss' := 0) ?_ (fun _ _ => rfl)
  refine go_cl (k := 1) (st' := [.int 1]) (cs' := 0) (ss' := 0) rfl rfl rfl rfl rfl rfl rfl (ro_612 z) ?_
  refine go_seg 8 (pc' := 27) (ls' := [(3, .int 7), (2, .int 0), (0, .ref 11), (1, .int 7)]) (st' := [.int 7, .int 56, .ref 14, .int 0]) (w' := (fw z)) (cs' := 0) (ss' := 0) ?_ (fun _ _ => rfl)
  refine go_seg 8 (pc' := 7) (ls' := [(3, .int 8), (2, .int 0), (0, .ref 11), (1, .int 7)]) (st' := [.int 8, .int 8]) (w' := (fw z)) (cs' := 0) (ss' := 0) ?_ (fun _ _ => rfl)
  exact go_end 3 (fun _ _ => rfl)
theorem ro_1147 (z : pq_C) : pq_Ru 3 25 [.ref 1, .int 7, .int 6] (fw z) (some (.int 0), (fw z)) := by
  refine ru_of (k := 2) (M := pm_25) rfl rfl ?_
  refine go_seg 1 (pc' := 1) (ls' := [(0, .ref 1), (1, .int 7), (2, .int 6)]) (st' := [.int 7]) (w' := (fw z)) (cs' := 0) (ss' := 0) ?_ (fun _ _ => rfl)
  refine go_cl (k := 2) (st' := [.int 1]) (cs' := 0) (ss' := 0) rfl rfl rfl rfl rfl rfl rfl (ro_612 z) ?_
  refine go_seg 6 (pc' := 124) (ls' := [(0, .ref 1), (1, .int 7), (2, .int 6)]) (st' := [.int 7, .ref 11]) (w' := (fw z)) (cs' := 0) (ss' := 0) ?_ (fun _ _ => rfl)
  refine go_cl (k := 2) (st' := [.int 0]) (cs' := 0) (ss' := 0) rfl rfl rfl rfl rfl rfl rfl (ro_1146 z) ?_
  exact go_end 1 (fun _ _ => rfl)
theorem ro_1148 (z : pq_C) : pq_Ru 3 169 [.ref 90, .int 7, .int 6] (fw z) (some (.int 0), (fw z)) := by
  refine ru_of (k := 2) (M := pm_169) rfl rfl ?_
  refine go_seg 1 (pc' := 1) (ls' := [(0, .ref 90), (1, .int 7), (2, .int 6)]) (st' := [.int 7]) (w' := (fw z)) (cs' := 0) (ss' := 0) ?_ (fun _ _ => rfl)
  refine go_cl (k := 2) (st' := [.int 1]) (cs' := 0) (ss' := 0) rfl rfl rfl rfl rfl rfl rfl (ro_982 z) ?_
  refine go_seg 5 (pc' := 13) (ls' := [(0, .ref 90), (1, .int 7), (2, .int 6)]) (st' := [.long 7, .long 0, .long 6]) (w' := (fw z)) (cs' := 0) (ss' := 0) ?_ (fun _ _ => rfl)
  refine go_cl (k := 2) (st' := [.int 1]) (cs' := 0) (ss' := 0) rfl rfl rfl rfl rfl rfl rfl (ro_975 z) ?_
  refine go_seg 8 (pc' := 47) (ls' := [(4, .int 0), (3, .int 0), (0, .ref 90), (1, .int 7), (2, .int 6)]) (st' := []) (w' := (fw z)) (cs' := 0) (ss' := 0) ?_ (fun _ _ => rfl)
  refine go_seg 8 (pc' := 63) (ls' := [(4, .int 0), (3, .int 0), (0, .ref 90), (1, .int 7), (2, .int 6)]) (st' := [.int 0, .int 10, .ref 91, .int 0]) (w' := (fw z)) (cs' := 0) (ss' := 0) ?_ (fun _ _ => rfl)
  refine go_seg 8 (pc' := 79) (ls' := [(4, .int 1), (3, .int 0), (0, .ref 90), (1, .int 7), (2, .int 6)]) (st' := []) (w' := (fw z)) (cs' := 0) (ss' := 0) ?_ (fun _ _ => rfl)
  refine go_seg 8 (pc' := 61) (ls' := [(4, .int 1), (3, .int 0), (0, .ref 90), (1, .int 7), (2, .int 6)]) (st' := [.int 10, .ref 91, .int 0]) (w' := (fw z)) (cs' := 0) (ss' := 0) ?_ (fun _ _ => rfl)
  refine go_seg 8 (pc' := 76) (ls' := [(3, .int 0), (4, .int 1), (0, .ref 90), (1, .int 7), (2, .int 6)]) (st' := []) (w' := (fw z)) (cs' := 0) (ss' := 0) ?_ (fun _ _ => rfl)
  refine go_seg 8 (pc' := 59) (ls' := [(4, .int 2), (3, .int 0), (0, .ref 90), (1, .int 7), (2, .int 6)]) (st' := [.ref 91, .int 0]) (w' := (fw z)) (cs' := 0) (ss' := 0) ?_ (fun _ _ => rfl)
  refine go_seg 8 (pc' := 75) (ls' := [(4, .int 2), (3, .int 0), (0, .ref 90), (1, .int 7), (2, .int 6)]) (st' := [.int 0]) (w' := (fw z)) (cs' := 0) (ss' := 0) ?_ (fun _ _ => rfl)
  refine go_seg 8 (pc' := 56) (ls' := [(4, .int 3), (3, .int 0), (0, .ref 90), (1, .int 7), (2, .int 6)]) (st' := [.ref 90, .int 0]) (w' := (fw z)) (cs' := 0) (ss' := 0) ?_ (fun _ _ => rfl)
  refine go_seg 8 (pc' := 74) (ls' := [(4, .int 3), (3, .int 0), (0, .ref 90), (1, .int 7), (2, .int 6)]) (st' := [.int 0, .int 0]) (w' := (fw z)) (cs' := 0) (ss' := 0) ?_ (fun _ _ => rfl)
  refine go_seg 8 (pc' := 55) (ls' := [(4, .int 4), (3, .int 0), (0, .ref 90), (1, .int 7), (2, .int 6)]) (st' := [.int 0]) (w' := (fw z)) (cs' := 0) (ss' := 0) ?_ (fun _ _ => rfl)
  refine go_seg 8 (pc' := 73) (ls' := [(4, .int 4), (3, .int 0), (0, .ref 90), (1, .int 7), (2, .int 6)]) (st' := [.int 0]) (w' := (fw z)) (cs' := 0) (ss' := 0) ?_ (fun _ _ => rfl)
  refine go_seg 8 (pc' := 54) (ls' := [(4, .int 5), (3, .int 0), (0, .ref 90), (1, .int 7), (2, .int 6)]) (st' := []) (w' := (fw z)) (cs' := 0) (ss' := 0) ?_ (fun _ _ => rfl)
  refine go_seg 8 (pc' := 66) (ls' := [(4, .int 5), (3, .int 0), (0, .ref 90), (1, .int 7), (2, .int 6)]) (st' := [.int 7, .int (-1), .int 0]) (w' := (fw z)) (cs' := 0) (ss' := 0) ?_ (fun _ _ => rfl)
  refine go_seg 8 (pc' := 51) (ls' := [(4, .int 6), (3, .int 0), (0, .ref 90), (1, .int 7), (2, .int 6)]) (st' := [.int 64, .int 6]) (w' := (fw z)) (cs' := 0) (ss' := 0) ?_ (fun _ _ => rfl)
  refine go_seg 8 (pc' := 65) (ls' := [(4, .int 6), (3, .int 0), (0, .ref 90), (1, .int 7), (2, .int 6)]) (st' := [.int (-1), .int 0]) (w' := (fw z)) (cs' := 0) (ss' := 0) ?_ (fun _ _ => rfl)
  refine go_seg 8 (pc' := 49) (ls' := [(4, .int 7), (3, .int 0), (0, .ref 90), (1, .int 7), (2, .int 6)]) (st' := [.int 7]) (w' := (fw z)) (cs' := 0) (ss' := 0) ?_ (fun _ _ => rfl)
  refine go_seg 8 (pc' := 64) (ls' := [(4, .int 7), (3, .int 0), (0, .ref 90), (1, .int 7), (2, .int 6)]) (st' := [.int 17, .ref 91, .int 0]) (w' := (fw z)) (cs' := 0) (ss' := 0) ?_ (fun _ _ => rfl)
  refine go_seg 8 (pc' := 47) (ls' := [(4, .int 8), (3, .int 0), (0, .ref 90), (1, .int 7), (2, .int 6)]) (st' := []) (w' := (fw z)) (cs' := 0) (ss' := 0) ?_ (fun _ _ => rfl)
  refine go_seg 8 (pc' := 63) (ls' := [(4, .int 8), (3, .int 0), (0, .ref 90), (1, .int 7), (2, .int 6)]) (st' := [.int 8, .int 10, .ref 91, .int 0]) (w' := (fw z)) (cs' := 0) (ss' := 0) ?_ (fun _ _ => rfl)
  refine go_seg 8 (pc' := 79) (ls' := [(4, .int 9), (3, .int 0), (0, .ref 90), (1, .int 7), (2, .int 6)]) (st' := []) (w' := (fw z)) (cs' := 0) (ss' := 0) ?_ (fun _ _ => rfl)
  refine go_seg 8 (pc' := 61) (ls' := [(4, .int 9), (3, .int 0), (0, .ref 90), (1, .int 7), (2, .int 6)]) (st' := [.int 10, .ref 91, .int 0]) (w' := (fw z)) (cs' := 0) (ss' := 0) ?_ (fun _ _ => rfl)
  refine go_seg 8 (pc' := 76) (ls' := [(3, .int 0), (4, .int 9), (0, .ref 90), (1, .int 7), (2, .int 6)]) (st' := []) (w' := (fw z)) (cs' := 0) (ss' := 0) ?_ (fun _ _ => rfl)
  refine go_seg 8 (pc' := 59) (ls' := [(4, .int 10), (3, .int 0), (0, .ref 90), (1, .int 7), (2, .int 6)]) (st' := [.ref 91, .int 0]) (w' := (fw z)) (cs' := 0) (ss' := 0) ?_ (fun _ _ => rfl)
  refine go_seg 8 (pc' := 75) (ls' := [(4, .int 10), (3, .int 0), (0, .ref 90), (1, .int 7), (2, .int 6)]) (st' := [.int 0]) (w' := (fw z)) (cs' := 0) (ss' := 0) ?_ (fun _ _ => rfl)
  refine go_seg 8 (pc' := 56) (ls' := [(4, .int 11), (3, .int 0), (0, .ref 90), (1, .int 7), (2, .int 6)]) (st' := [.ref 90, .int 0]) (w' := (fw z)) (cs' := 0) (ss' := 0) ?_ (fun _ _ => rfl)
  refine go_seg 8 (pc' := 74) (ls' := [(4, .int 11), (3, .int 0), (0, .ref 90), (1, .int 7), (2, .int 6)]) (st' := [.int 0, .int 0]) (w' := (fw z)) (cs' := 0) (ss' := 0) ?_ (fun _ _ => rfl)
  refine go_seg 8 (pc' := 55) (ls' := [(4, .int 12), (3, .int 0), (0, .ref 90), (1, .int 7), (2, .int 6)]) (st' := [.int 0]) (w' := (fw z)) (cs' := 0) (ss' := 0) ?_ (fun _ _ => rfl)
  refine go_seg 8 (pc' := 73) (ls' := [(4, .int 12), (3, .int 0), (0, .ref 90), (1, .int 7), (2, .int 6)]) (st' := [.int 0]) (w' := (fw z)) (cs' := 0) (ss' := 0) ?_ (fun _ _ => rfl)
  refine go_seg 8 (pc' := 54) (ls' := [(4, .int 13), (3, .int 0), (0, .ref 90), (1, .int 7), (2, .int 6)]) (st' := []) (w' := (fw z)) (cs' := 0) (ss' := 0) ?_ (fun _ _ => rfl)
  refine go_seg 8 (pc' := 66) (ls' := [(4, .int 13), (3, .int 0), (0, .ref 90), (1, .int 7), (2, .int 6)]) (st' := [.int 7, .int (-1), .int 0]) (w' := (fw z)) (cs' := 0) (ss' := 0) ?_ (fun _ _ => rfl)
  refine go_seg 8 (pc' := 51) (ls' := [(4, .int 14), (3, .int 0), (0, .ref 90), (1, .int 7), (2, .int 6)]) (st' := [.int 64, .int 14]) (w' := (fw z)) (cs' := 0) (ss' := 0) ?_ (fun _ _ => rfl)
  refine go_seg 8 (pc' := 65) (ls' := [(4, .int 14), (3, .int 0), (0, .ref 90), (1, .int 7), (2, .int 6)]) (st' := [.int (-1), .int 0]) (w' := (fw z)) (cs' := 0) (ss' := 0) ?_ (fun _ _ => rfl)
  refine go_seg 8 (pc' := 49) (ls' := [(4, .int 15), (3, .int 0), (0, .ref 90), (1, .int 7), (2, .int 6)]) (st' := [.int 15]) (w' := (fw z)) (cs' := 0) (ss' := 0) ?_ (fun _ _ => rfl)
  refine go_seg 8 (pc' := 64) (ls' := [(4, .int 15), (3, .int 0), (0, .ref 90), (1, .int 7), (2, .int 6)]) (st' := [.int 25, .ref 91, .int 0]) (w' := (fw z)) (cs' := 0) (ss' := 0) ?_ (fun _ _ => rfl)
  refine go_seg 8 (pc' := 47) (ls' := [(4, .int 16), (3, .int 0), (0, .ref 90), (1, .int 7), (2, .int 6)]) (st' := []) (w' := (fw z)) (cs' := 0) (ss' := 0) ?_ (fun _ _ => rfl)
  refine go_seg 8 (pc' := 63) (ls' := [(4, .int 16), (3, .int 0), (0, .ref 90), (1, .int 7), (2, .int 6)]) (st' := [.int 16, .int 10, .ref 91, .int 0]) (w' := (fw z)) (cs' := 0) (ss' := 0) ?_ (fun _ _ => rfl)
  refine go_seg 8 (pc' := 79) (ls' := [(4, .int 17), (3, .int 0), (0, .ref 90), (1, .int 7), (2, .int 6)]) (st' := []) (w' := (fw z)) (cs' := 0) (ss' := 0) ?_ (fun _ _ => rfl)
  refine go_seg 8 (pc' := 61) (ls' := [(4, .int 17), (3, .int 0), (0, .ref 90), (1, .int 7), (2, .int 6)]) (st' := [.int 10, .ref 91, .int 0]) (w' := (fw z)) (cs' := 0) (ss' := 0) ?_ (fun _ _ => rfl)
  refine go_seg 8 (pc' := 76) (ls' := [(3, .int 0), (4, .int 17), (0, .ref 90), (1, .int 7), (2, .int 6)]) (st' := []) (w' := (fw z)) (cs' := 0) (ss' := 0) ?_ (fun _ _ => rfl)
  refine go_seg 8 (pc' := 59) (ls' := [(4, .int 18), (3, .int 0), (0, .ref 90), (1, .int 7), (2, .int 6)]) (st' := [.ref 91, .int 0]) (w' := (fw z)) (cs' := 0) (ss' := 0) ?_ (fun _ _ => rfl)
  refine go_seg 8 (pc' := 75) (ls' := [(4, .int 18), (3, .int 0), (0, .ref 90), (1, .int 7), (2, .int 6)]) (st' := [.int 0]) (w' := (fw z)) (cs' := 0) (ss' := 0) ?_ (fun _ _ => rfl)
  refine go_seg 8 (pc' := 56) (ls' := [(4, .int 19), (3, .int 0), (0, .ref 90), (1, .int 7), (2, .int 6)]) (st' := [.ref 90, .int 0]) (w' := (fw z)) (cs' := 0) (ss' := 0) ?_ (fun _ _ => rfl)
  refine go_seg 8 (pc' := 74) (ls' := [(4, .int 19), (3, .int 0), (0, .ref 90), (1, .int 7), (2, .int 6)]) (st' := [.int 0, .int 0]) (w' := (fw z)) (cs' := 0) (ss' := 0) ?_ (fun _ _ => rfl)
  refine go_seg 8 (pc' := 55) (ls' := [(4, .int 20), (3, .int 0), (0, .ref 90), (1, .int 7), (2, .int 6)]) (st' := [.int 0]) (w' := (fw z)) (cs' := 0) (ss' := 0) ?_ (fun _ _ => rfl)
  refine go_seg 8 (pc' := 73) (ls' := [(4, .int 20), (3, .int 0), (0, .ref 90), (1, .int 7), (2, .int 6)]) (st' := [.int 0]) (w' := (fw z)) (cs' := 0) (ss' := 0) ?_ (fun _ _ => rfl)
  refine go_seg 8 (pc' := 54) (ls' := [(4, .int 21), (3, .int 0), (0, .ref 90), (1, .int 7), (2, .int 6)]) (st' := []) (w' := (fw z)) (cs' := 0) (ss' := 0) ?_ (fun _ _ => rfl)
  refine go_seg 8 (pc' := 66) (ls' := [(4, .int 21), (3, .int 0), (0, .ref 90), (1, .int 7), (2, .int 6)]) (st' := [.int 7, .int (-1), .int 0]) (w' := (fw z)) (cs' := 0) (ss' := 0) ?_ (fun _ _ => rfl)
  refine go_seg 8 (pc' := 51) (ls' := [(4, .int 22), (3, .int 0), (0, .ref 90), (1, .int 7), (2, .int 6)]) (st' := [.int 64, .int 22]) (w' := (fw z)) (cs' := 0) (ss' := 0) ?_ (fun _ _ => rfl)
  refine go_seg 8 (pc' := 65) (ls' := [(4, .int 22), (3, .int 0), (0, .ref 90), (1, .int 7), (2, .int 6)]) (st' := [.int (-1), .int 0]) (w' := (fw z)) (cs' := 0) (ss' := 0) ?_ (fun _ _ => rfl)
  refine go_seg 8 (pc' := 49) (ls' := [(4, .int 23), (3, .int 0), (0, .ref 90), (1, .int 7), (2, .int 6)]) (st' := [.int 23]) (w' := (fw z)) (cs' := 0) (ss' := 0) ?_ (fun _ _ => rfl)
  refine go_seg 8 (pc' := 64) (ls' := [(4, .int 23), (3, .int 0), (0, .ref 90), (1, .int 7), (2, .int 6)]) (st' := [.int 33, .ref 91, .int 0]) (w' := (fw z)) (cs' := 0) (ss' := 0) ?_ (fun _ _ => rfl)
  refine go_seg 8 (pc' := 47) (ls' := [(4, .int 24), (3, .int 0), (0, .ref 90), (1, .int 7), (2, .int 6)]) (st' := []) (w' := (fw z)) (cs' := 0) (ss' := 0) ?_ (fun _ _ => rfl)
  refine go_seg 8 (pc' := 63) (ls' := [(4, .int 24), (3, .int 0), (0, .ref 90), (1, .int 7), (2, .int 6)]) (st' := [.int 24, .int 10, .ref 91, .int 0]) (w' := (fw z)) (cs' := 0) (ss' := 0) ?_ (fun _ _ => rfl)
  refine go_seg 8 (pc' := 79) (ls' := [(4, .int 25), (3, .int 0), (0, .ref 90), (1, .int 7), (2, .int 6)]) (st' := []) (w' := (fw z)) (cs' := 0) (ss' := 0) ?_ (fun _ _ => rfl)
  refine go_seg 8 (pc' := 61) (ls' := [(4, .int 25), (3, .int 0), (0, .ref 90), (1, .int 7), (2, .int 6)]) (st' := [.int 10, .ref 91, .int 0]) (w' := (fw z)) (cs' := 0) (ss' := 0) ?_ (fun _ _ => rfl)
  refine go_seg 8 (pc' := 76) (ls' := [(3, .int 0), (4, .int 25), (0, .ref 90), (1, .int 7), (2, .int 6)]) (st' := []) (w' := (fw z)) (cs' := 0) (ss' := 0) ?_ (fun _ _ => rfl)
  refine go_seg 8 (pc' := 59) (ls' := [(4, .int 26), (3, .int 0), (0, .ref 90), (1, .int 7), (2, .int 6)]) (st' := [.ref 91, .int 0]) (w' := (fw z)) (cs' := 0) (ss' := 0) ?_ (fun _ _ => rfl)
  refine go_seg 8 (pc' := 75) (ls' := [(4, .int 26), (3, .int 0), (0, .ref 90), (1, .int 7), (2, .int 6)]) (st' := [.int 0]) (w' := (fw z)) (cs' := 0) (ss' := 0) ?_ (fun _ _ => rfl)
  refine go_seg 8 (pc' := 56) (ls' := [(4, .int 27), (3, .int 0), (0, .ref 90), (1, .int 7), (2, .int 6)]) (st' := [.ref 90, .int 0]) (w' := (fw z)) (cs' := 0) (ss' := 0) ?_ (fun _ _ => rfl)
  refine go_seg 8 (pc' := 74) (ls' := [(4, .int 27), (3, .int 0), (0, .ref 90), (1, .int 7), (2, .int 6)]) (st' := [.int 0, .int 0]) (w' := (fw z)) (cs' := 0) (ss' := 0) ?_ (fun _ _ => rfl)
  refine go_seg 8 (pc' := 55) (ls' := [(4, .int 28), (3, .int 0), (0, .ref 90), (1, .int 7), (2, .int 6)]) (st' := [.int 0]) (w' := (fw z)) (cs' := 0) (ss' := 0) ?_ (fun _ _ => rfl)
  refine go_seg 8 (pc' := 73) (ls' := [(4, .int 28), (3, .int 0), (0, .ref 90), (1, .int 7), (2, .int 6)]) (st' := [.int 0]) (w' := (fw z)) (cs' := 0) (ss' := 0) ?_ (fun _ _ => rfl)
  refine go_seg 8 (pc' := 54) (ls' := [(4, .int 29), (3, .int 0), (0, .ref 90), (1, .int 7), (2, .int 6)]) (st' := []) (w' := (fw z)) (cs' := 0) (ss' := 0) ?_ (fun _ _ => rfl)
  refine go_seg 8 (pc' := 66) (ls' := [(4, .int 29), (3, .int 0), (0, .ref 90), (1, .int 7), (2, .int 6)]) (st' := [.int 7, .int (-1), .int 0]) (w' := (fw z)) (cs' := 0) (ss' := 0) ?_ (fun _ _ => rfl)
  refine go_seg 8 (pc' := 51) (ls' := [(4, .int 30), (3, .int 0), (0, .ref 90), (1, .int 7), (2, .int 6)]) (st' := [.int 64, .int 30]) (w' := (fw z)) (cs' := 0) (ss' := 0) ?_ (fun _ _ => rfl)
  refine go_seg 8 (pc' := 65) (ls' := [(4, .int 30), (3, .int 0), (0, .ref 90), (1, .int 7), (2, .int 6)]) (st' := [.int (-1), .int 0]) (w' := (fw z)) (cs' := 0) (ss' := 0) ?_ (fun _ _ => rfl)
  refine go_seg 8 (pc' := 49) (ls' := [(4, .int 31), (3, .int 0), (0, .ref 90), (1, .int 7), (2, .int 6)]) (st' := [.int 31]) (w' := (fw z)) (cs' := 0) (ss' := 0) ?_ (fun _ _ => rfl)
  refine go_seg 8 (pc' := 64) (ls' := [(4, .int 31), (3, .int 0), (0, .ref 90), (1, .int 7), (2, .int 6)]) (st' := [.int 41, .ref 91, .int 0]) (w' := (fw z)) (cs' := 0) (ss' := 0) ?_ (fun _ _ => rfl)
  refine go_seg 8 (pc' := 47) (ls' := [(4, .int 32), (3, .int 0), (0, .ref 90), (1, .int 7), (2, .int 6)]) (st' := []) (w' := (fw z)) (cs' := 0) (ss' := 0) ?_ (fun _ _ => rfl)
  refine go_seg 8 (pc' := 63) (ls' := [(4, .int 32), (3, .int 0), (0, .ref 90), (1, .int 7), (2, .int 6)]) (st' := [.int 32, .int 10, .ref 91, .int 0]) (w' := (fw z)) (cs' := 0) (ss' := 0) ?_ (fun _ _ => rfl)
  refine go_seg 8 (pc' := 79) (ls' := [(4, .int 33), (3, .int 0), (0, .ref 90), (1, .int 7), (2, .int 6)]) (st' := []) (w' := (fw z)) (cs' := 0) (ss' := 0) ?_ (fun _ _ => rfl)
  refine go_seg 8 (pc' := 61) (ls' := [(4, .int 33), (3, .int 0), (0, .ref 90), (1, .int 7), (2, .int 6)]) (st' := [.int 10, .ref 91, .int 0]) (w' := (fw z)) (cs' := 0) (ss' := 0) ?_ (fun _ _ => rfl)
  refine go_seg 8 (pc' := 76) (ls' := [(3, .int 0), (4, .int 33), (0, .ref 90), (1, .int 7), (2, .int 6)]) (st' := []) (w' := (fw z)) (cs' := 0) (ss' := 0) ?_ (fun _ _ => rfl)
  refine go_seg 8 (pc' := 59) (ls' := [(4, .int 34), (3, .int 0), (0, .ref 90), (1, .int 7), (2, .int 6)]) (st' := [.ref 91, .int 0]) (w' := (fw z)) (cs' := 0) (ss' := 0) ?_ (fun _ _ => rfl)
  refine go_seg 8 (pc' := 75) (ls' := [(4, .int 34), (3, .int 0), (0, .ref 90), (1, .int 7), (2, .int 6)]) (st' := [.int 0]) (w' := (fw z)) (cs' := 0) (ss' := 0) ?_ (fun _ _ => rfl)
  refine go_seg 8 (pc' := 56) (ls' := [(4, .int 35), (3, .int 0), (0, .ref 90), (1, .int 7), (2, .int 6)]) (st' := [.ref 90, .int 0]) (w' := (fw z)) (cs' := 0) (ss' := 0) ?_ (fun _ _ => rfl)
  refine go_seg 8 (pc' := 74) (ls' := [(4, .int 35), (3, .int 0), (0, .ref 90), (1, .int 7), (2, .int 6)]) (st' := [.int 0, .int 0]) (w' := (fw z)) (cs' := 0) (ss' := 0) ?_ (fun _ _ => rfl)
  refine go_seg 8 (pc' := 55) (ls' := [(4, .int 36), (3, .int 0), (0, .ref 90), (1, .int 7), (2, .int 6)]) (st' := [.int 0]) (w' := (fw z)) (cs' := 0) (ss' := 0) ?_ (fun _ _ => rfl)
  refine go_seg 8 (pc' := 73) (ls' := [(4, .int 36), (3, .int 0), (0, .ref 90), (1, .int 7), (2, .int 6)]) (st' := [.int 0]) (w' := (fw z)) (cs' := 0) (ss' := 0) ?_ (fun _ _ => rfl)
  refine go_seg 8 (pc' := 54) (ls' := [(4, .int 37), (3, .int 0), (0, .ref 90), (1, .int 7), (2, .int 6)]) (st' := []) (w' := (fw z)) (cs' := 0) (ss' := 0) ?_ (fun _ _ => rfl)
  refine go_seg 8 (pc' := 66) (ls' := [(4, .int 37), (3, .int 0), (0, .ref 90), (1, .int 7), (2, .int 6)]) (st' := [.int 7, .int (-1), .int 0]) (w' := (fw z)) (cs' := 0) (ss' := 0) ?_ (fun _ _ => rfl)
  refine go_seg 8 (pc' := 51) (ls' := [(4, .int 38), (3, .int 0), (0, .ref 90), (1, .int 7), (2, .int 6)]) (st' := [.int 64, .int 38]) (w' := (fw z)) (cs' := 0) (ss' := 0) ?_ (fun _ _ => rfl)
  refine go_seg 8 (pc' := 65) (ls' := [(4, .int 38), (3, .int 0), (0, .ref 90), (1, .int 7), (2, .int 6)]) (st' := [.int (-1), .int 0]) (w' := (fw z)) (cs' := 0) (ss' := 0) ?_ (fun _ _ => rfl)
  refine go_seg 8 (pc' := 49) (ls' := [(4, .int 39), (3, .int 0), (0, .ref 90), (1, .int 7), (2, .int 6)]) (st' := [.int 39]) (w' := (fw z)) (cs' := 0) (ss' := 0) ?_ (fun _ _ => rfl)
  refine go_seg 8 (pc' := 64) (ls' := [(4, .int 39), (3, .int 0), (0, .ref 90), (1, .int 7), (2, .int 6)]) (st' := [.int 49, .ref 91, .int 0]) (w' := (fw z)) (cs' := 0) (ss' := 0) ?_ (fun _ _ => rfl)
  refine go_seg 8 (pc' := 47) (ls' := [(4, .int 40), (3, .int 0), (0, .ref 90), (1, .int 7), (2, .int 6)]) (st' := []) (w' := (fw z)) (cs' := 0) (ss' := 0) ?_ (fun _ _ => rfl)
  refine go_seg 8 (pc' := 63) (ls' := [(4, .int 40), (3, .int 0), (0, .ref 90), (1, .int 7), (2, .int 6)]) (st' := [.int 40, .int 10, .ref 91, .int 0]) (w' := (fw z)) (cs' := 0) (ss' := 0) ?_ (fun _ _ => rfl)
  refine go_seg 8 (pc' := 79) (ls' := [(4, .int 41), (3, .int 0), (0, .ref 90), (1, .int 7), (2, .int 6)]) (st' := []) (w' := (fw z)) (cs' := 0) (ss' := 0) ?_ (fun _ _ => rfl)
  refine go_seg 8 (pc' := 61) (ls' := [(4, .int 41), (3, .int 0), (0, .ref 90), (1, .int 7), (2, .int 6)]) (st' := [.int 10, .ref 91, .int 0]) (w' := (fw z)) (cs' := 0) (ss' := 0) ?_ (fun _ _ => rfl)
  refine go_seg 8 (pc' := 76) (ls' := [(3, .int 0), (4, .int 41), (0, .ref 90), (1, .int 7), (2, .int 6)]) (st' := []) (w' := (fw z)) (cs' := 0) (ss' := 0) ?_ (fun _ _ => rfl)
  refine go_seg 8 (pc' := 59) (ls' := [(4, .int 42), (3, .int 0), (0, .ref 90), (1, .int 7), (2, .int 6)]) (st' := [.ref 91, .int 0]) (w' := (fw z)) (cs' := 0) (ss' := 0) ?_ (fun _ _ => rfl)
  refine go_seg 8 (pc' := 75) (ls' := [(4, .int 42), (3, .int 0), (0, .ref 90), (1, .int 7), (2, .int 6)]) (st' := [.int 0]) (w' := (fw z)) (cs' := 0) (ss' := 0) ?_ (fun _ _ => rfl)
  refine go_seg 8 (pc' := 56) (ls' := [(4, .int 43), (3, .int 0), (0, .ref 90), (1, .int 7), (2, .int 6)]) (st' := [.ref 90, .int 0]) (w' := (fw z)) (cs' := 0) (ss' := 0) ?_ (fun _ _ => rfl)
  refine go_seg 8 (pc' := 74) (ls' := [(4, .int 43), (3, .int 0), (0, .ref 90), (1, .int 7), (2, .int 6)]) (st' := [.int 0, .int 0]) (w' := (fw z)) (cs' := 0) (ss' := 0) ?_ (fun _ _ => rfl)
  refine go_seg 8 (pc' := 55) (ls' := [(4, .int 44), (3, .int 0), (0, .ref 90), (1, .int 7), (2, .int 6)]) (st' := [.int 0]) (w' := (fw z)) (cs' := 0) (ss' := 0) ?_ (fun _ _ => rfl)
  refine go_seg 8 (pc' := 73) (ls' := [(4, .int 44), (3, .int 0), (0, .ref 90), (1, .int 7), (2, .int 6)]) (st' := [.int 0]) (w' := (fw z)) (cs' := 0) (ss' := 0) ?_ (fun _ _ => rfl)
  refine go_seg 8 (pc' := 54) (ls' := [(4, .int 45), (3, .int 0), (0, .ref 90), (1, .int 7), (2, .int 6)]) (st' := []) (w' := (fw z)) (cs' := 0) (ss' := 0) ?_ (fun _ _ => rfl)
  refine go_seg 8 (pc' := 66) (ls' := [(4, .int 45), (3, .int 0), (0, .ref 90), (1, .int 7), (2, .int 6)]) (st' := [.int 7, .int (-1), .int 0]) (w' := (fw z)) (cs' := 0) (ss' := 0) ?_ (fun _ _ => rfl)
  refine go_seg 8 (pc' := 51) (ls' := [(4, .int 46), (3, .int 0), (0, .ref 90), (1, .int 7), (2, .int 6)]) (st' := [.int 64, .int 46]) (w' := (fw z)) (cs' := 0) (ss' := 0) ?_ (fun _ _ => rfl)
  refine go_seg 8 (pc' := 65) (ls' := [(4, .int 46), (3, .int 0), (0, .ref 90), (1, .int 7), (2, .int 6)]) (st' := [.int (-1), .int 0]) (w' := (fw z)) (cs' := 0) (ss' := 0) ?_ (fun _ _ => rfl)
  refine go_seg 8 (pc' := 49) (ls' := [(4, .int 47), (3, .int 0), (0, .ref 90), (1, .int 7), (2, .int 6)]) (st' := [.int 47]) (w' := (fw z)) (cs' := 0) (ss' := 0) ?_ (fun _ _ => rfl)
  refine go_seg 8 (pc' := 64) (ls' := [(4, .int 47), (3, .int 0), (0, .ref 90), (1, .int 7), (2, .int 6)]) (st' := [.int 57, .ref 91, .int 0]) (w' := (fw z)) (cs' := 0) (ss' := 0) ?_ (fun _ _ => rfl)
  refine go_seg 8 (pc' := 47) (ls' := [(4, .int 48), (3, .int 0), (0, .ref 90), (1, .int 7), (2, .int 6)]) (st' := []) (w' := (fw z)) (cs' := 0) (ss' := 0) ?_ (fun _ _ => rfl)
  refine go_seg 8 (pc' := 63) (ls' := [(4, .int 48), (3, .int 0), (0, .ref 90), (1, .int 7), (2, .int 6)]) (st' := [.int 48, .int 10, .ref 91, .int 0]) (w' := (fw z)) (cs' := 0) (ss' := 0) ?_ (fun _ _ => rfl)
  refine go_seg 8 (pc' := 79) (ls' := [(4, .int 49), (3, .int 0), (0, .ref 90), (1, .int 7), (2, .int 6)]) (st' := []) (w' := (fw z)) (cs' := 0) (ss' := 0) ?_ (fun _ _ => rfl)
  refine go_seg 8 (pc' := 61) (ls' := [(4, .int 49), (3, .int 0), (0, .ref 90), (1, .int 7), (2, .int 6)]) (st' := [.int 10, .ref 91, .int 0]) (w' := (fw z)) (cs' := 0) (ss' := 0) ?_ (fun _ _ => rfl)
  refine go_seg 8 (pc' := 76) (ls' := [(3, .int 0), (4, .int 49), (0, .ref 90), (1, .int 7), (2, .int 6)]) (st' := []) (w' := (fw z)) (cs' := 0) (ss' := 0) ?_ (fun _ _ => rfl)
  refine go_seg 8 (pc' := 59) (ls' := [(4, .int 50), (3, .int 0), (0, .ref 90), (1, .int 7), (2, .int 6)]) (st' := [.ref 91, .int 0]) (w' := (fw z)) (cs' := 0) (ss' := 0) ?_ (fun _ _ => rfl)
  refine go_seg 8 (pc' := 75) (ls' := [(4, .int 50), (3, .int 0), (0, .ref 90), (1, .int 7), (2, .int 6)]) (st' := [.int 0]) (w' := (fw z)) (cs' := 0) (ss' := 0) ?_ (fun _ _ => rfl)
  refine go_seg 8 (pc' := 56) (ls' := [(4, .int 51), (3, .int 0), (0, .ref 90), (1, .int 7), (2, .int 6)]) (st' := [.ref 90, .int 0]) (w' := (fw z)) (cs' := 0) (ss' := 0) ?_ (fun _ _ => rfl)
  refine go_seg 8 (pc' := 74) (ls' := [(4, .int 51), (3, .int 0), (0, .ref 90), (1, .int 7), (2, .int 6)]) (st' := [.int 0, .int 0]) (w' := (fw z)) (cs' := 0) (ss' := 0) ?_ (fun _ _ => rfl)
  refine go_seg 8 (pc' := 55) (ls' := [(4, .int 52), (3, .int 0), (0, .ref 90), (1, .int 7), (2, .int 6)]) (st' := [.int 0]) (w' := (fw z)) (cs' := 0) (ss' := 0) ?_ (fun _ _ => rfl)
  refine go_seg 8 (pc' := 73) (ls' := [(4, .int 52), (3, .int 0), (0, .ref 90), (1, .int 7), (2, .int 6)]) (st' := [.int 0]) (w' := (fw z)) (cs' := 0) (ss' := 0) ?_ (fun _ _ => rfl)
  refine go_seg 8 (pc' := 54) (ls' := [(4, .int 53), (3, .int 0), (0, .ref 90), (1, .int 7), (2, .int 6)]) (st' := []) (w' := (fw z)) (cs' := 0) (ss' := 0) ?_ (fun _ _ => rfl)
  refine go_seg 8 (pc' := 66) (ls' := [(4, .int 53), (3, .int 0), (0, .ref 90), (1, .int 7), (2, .int 6)]) (st' := [.int 7, .int (-1), .int 0]) (w' := (fw z)) (cs' := 0) (ss' := 0) ?_ (fun _ _ => rfl)
  refine go_seg 8 (pc' := 51) (ls' := [(4, .int 54), (3, .int 0), (0, .ref 90), (1, .int 7), (2, .int 6)]) (st' := [.int 64, .int 54]) (w' := (fw z)) (cs' := 0) (ss' := 0) ?_ (fun _ _ => rfl)
  refine go_seg 8 (pc' := 65) (ls' := [(4, .int 54), (3, .int 0), (0, .ref 90), (1, .int 7), (2, .int 6)]) (st' := [.int (-1), .int 0]) (w' := (fw z)) (cs' := 0) (ss' := 0) ?_ (fun _ _ => rfl)
  refine go_seg 8 (pc' := 49) (ls' := [(4, .int 55), (3, .int 0), (0, .ref 90), (1, .int 7), (2, .int 6)]) (st' := [.int 55]) (w' := (fw z)) (cs' := 0) (ss' := 0) ?_ (fun _ _ => rfl)
  refine go_seg 8 (pc' := 64) (ls' := [(4, .int 55), (3, .int 0), (0, .ref 90), (1, .int 7), (2, .int 6)]) (st' := [.int 65, .ref 91, .int 0]) (w' := (fw z)) (cs' := 0) (ss' := 0) ?_ (fun _ _ => rfl)
  refine go_seg 8 (pc' := 47) (ls' := [(4, .int 56), (3, .int 0), (0, .ref 90), (1, .int 7), (2, .int 6)]) (st' := []) (w' := (fw z)) (cs' := 0) (ss' := 0) ?_ (fun _ _ => rfl)
  refine go_seg 8 (pc' := 63) (ls' := [(4, .int 56), (3, .int 0), (0, .ref 90), (1, .int 7), (2, .int 6)]) (st' := [.int 56, .int 10, .ref 91, .int 0]) (w' := (fw z)) (cs' := 0) (ss' := 0) ?_ (fun _ _ => rfl)
  refine go_seg 8 (pc' := 79) (ls' := [(4, .int 57), (3, .int 0), (0, .ref 90), (1, .int 7), (2, .int 6)]) (st' := []) (w' := (fw z)) (cs' := 0) (ss' := 0) ?_ (fun _ _ => rfl)
  refine go_seg 8 (pc' := 61) (ls' := [(4, .int 57), (3, .int 0), (0, .ref 90), (1, .int 7), (2, .int 6)]) (st' := [.int 10, .ref 91, .int 0]) (w' := (fw z)) (cs' := 0) (ss' := 0) ?_ (fun _ _ => rfl)
  refine go_seg 8 (pc' := 76) (ls' := [(3, .int 0), (4, .int 57), (0, .ref 90), (1, .int 7), (2, .int 6)]) (st' := []) (w' := (fw z)) (cs' := 0) (ss' := 0) ?_ (fun _ _ => rfl)
  refine go_seg 8 (pc' := 59) (ls' := [(4, .int 58), (3, .int 0), (0, .ref 90), (1, .int 7), (2, .int 6)]) (st' := [.ref 91, .int 0]) (w' := (fw z)) (cs' := 0) (ss' := 0) ?_ (fun _ _ => rfl)
  refine go_seg 8 (pc' := 75) (ls' := [(4, .int 58), (3, .int 0), (0, .ref 90), (1, .int 7), (2, .int 6)]) (st' := [.int 0]) (w' := (fw z)) (cs' := 0) (ss' := 0) ?_ (fun _ _ => rfl)
  refine go_seg 8 (pc' := 56) (ls' := [(4, .int 59), (3, .int 0), (0, .ref 90), (1, .int 7), (2, .int 6)]) (st' := [.ref 90, .int 0]) (w' := (fw z)) (cs' := 0) (ss' := 0) ?_ (fun _ _ => rfl)
  refine go_seg 8 (pc' := 74) (ls' := [(4, .int 59), (3, .int 0), (0, .ref 90), (1, .int 7), (2, .int 6)]) (st' := [.int 0, .int 0]) (w' := (fw z)) (cs' := 0) (ss' := 0) ?_ (fun _ _ => rfl)
  refine go_seg 8 (pc' := 55) (ls' := [(4, .int 60), (3, .int 0), (0, .ref 90), (1, .int 7), (2, .int 6)]) (st' := [.int 0]) (w' := (fw z)) (cs' := 0) (ss' := 0) ?_ (fun _ _ => rfl)
  refine go_seg 8 (pc' := 73) (ls' := [(4, .int 60), (3, .int 0), (0, .ref 90), (1, .int 7), (2, .int 6)]) (st' := [.int 0]) (w' := (fw z)) (cs' := 0) (ss' := 0) ?_ (fun _ _ => rfl)
  refine go_seg 8 (pc' := 54) (ls' := [(4, .int 61), (3, .int 0), (0, .ref 90), (1, .int 7), (2, .int 6)]) (st' := []) (w' := (fw z)) (cs' := 0) (ss' := 0) ?_ (fun _ _ => rfl)
  refine go_seg 8 (pc' := 66) (ls' := [(4, .int 61), (3, .int 0), (0, .ref 90), (1, .int 7), (2, .int 6)]) (st' := [.int 7, .int (-1), .int 0]) (w' := (fw z)) (cs' := 0) (ss' := 0) ?_ (fun _ _ => rfl)
  refine go_seg 8 (pc' := 51) (ls' := [(4, .int 62), (3, .int 0), (0, .ref 90), (1, .int 7), (2, .int 6)]) (st' := [.int 64, .int 62]) (w' := (fw z)) (cs' := 0) (ss' := 0) ?_ (fun _ _ => rfl)
  refine go_seg 8 (pc' := 65) (ls' := [(4, .int 62), (3, .int 0), (0, .ref 90), (1, .int 7), (2, .int 6)]) (st' := [.int (-1), .int 0]) (w' := (fw z)) (cs' := 0) (ss' := 0) ?_ (fun _ _ => rfl)
  refine go_seg 8 (pc' := 49) (ls' := [(4, .int 63), (3, .int 0), (0, .ref 90), (1, .int 7), (2, .int 6)]) (st' := [.int 63]) (w' := (fw z)) (cs' := 0) (ss' := 0) ?_ (fun _ _ => rfl)
  refine go_seg 8 (pc' := 64) (ls' := [(4, .int 63), (3, .int 0), (0, .ref 90), (1, .int 7), (2, .int 6)]) (st' := [.int 73, .ref 91, .int 0]) (w' := (fw z)) (cs' := 0) (ss' := 0) ?_ (fun _ _ => rfl)
  refine go_seg 8 (pc' := 47) (ls' := [(4, .int 64), (3, .int 0), (0, .ref 90), (1, .int 7), (2, .int 6)]) (st' := []) (w' := (fw z)) (cs' := 0) (ss' := 0) ?_ (fun _ _ => rfl)
  refine go_seg 8 (pc' := 94) (ls' := [(4, .int 64), (3, .int 0), (0, .ref 90), (1, .int 7), (2, .int 6)]) (st' := [.int 6, .int 6]) (w' := (fw z)) (cs' := 0) (ss' := 0) ?_ (fun _ _ => rfl)
  refine go_seg 3 (pc' := 99) (ls' := [(4, .int 64), (3, .int 0), (0, .ref 90), (1, .int 7), (2, .int 6)]) (st' := [.int 7, .ref 90]) (w' := (fw z)) (cs' := 0) (ss' := 0) ?_ (fun _ _ => rfl)
  refine go_cl (k := 2) (st' := [.int 0]) (cs' := 0) (ss' := 0) rfl rfl rfl rfl rfl rfl rfl (ro_482 z) ?_
  exact go_end 2 (fun _ _ => rfl)
theorem lf_4_1149 (a0 : Int32) (a3 : Int32) (a4 : Int32) (a5 : Int32) : ∃ w', pq_Go 20 pm_law 370 [(3, .int 0), (2, .ref 90), (1, .ref 1), (0, .ref 0)] [] (fw (sz a0 7 6 a3 a4 a5)) 109 12668 (some (.int 1), w') := by
  refine ⟨(fw (sz a0 7 6 a3 a4 a5)), ?_⟩
  refine go_seg 8 (pc' := 378) (ls' := [(3, .int 0), (2, .ref 90), (1, .ref 1), (0, .ref 0)]) (st' := [.int 0, .ref 0, .int 7, .ref 1]) (w' := (fw (sz a0 7 6 a3 a4 a5))) (cs' := 109) (ss' := 12668) ?_ (fun _ _ => rfl)
  refine go_seg 3 (pc' := 381) (ls' := [(3, .int 0), (2, .ref 90), (1, .ref 1), (0, .ref 0)]) (st' := [.int 6, .int 7, .ref 1]) (w' := (fw (sz a0 7 6 a3 a4 a5))) (cs' := 109) (ss' := 12668) ?_ (fun _ _ => rfl)
  refine go_cl (k := 20) (st' := [.int 0]) (cs' := 109) (ss' := 12668) rfl rfl rfl rfl rfl rfl rfl (ro_1147 (sz a0 7 6 a3 a4 a5)) ?_
  refine go_seg 8 (pc' := 392) (ls' := [(3, .int 0), (2, .ref 90), (1, .ref 1), (0, .ref 0)]) (st' := [.int 0, .ref 0, .int 7, .ref 90, .int 0]) (w' := (fw (sz a0 7 6 a3 a4 a5))) (cs' := 109) (ss' := 12668) ?_ (fun _ _ => rfl)
  refine go_seg 3 (pc' := 395) (ls' := [(3, .int 0), (2, .ref 90), (1, .ref 1), (0, .ref 0)]) (st' := [.int 6, .int 7, .ref 90, .int 0]) (w' := (fw (sz a0 7 6 a3 a4 a5))) (cs' := 109) (ss' := 12668) ?_ (fun _ _ => rfl)
  refine go_cl (k := 20) (st' := [.int 0, .int 0]) (cs' := 109) (ss' := 12668) rfl rfl rfl rfl rfl rfl rfl (ro_1148 (sz a0 7 6 a3 a4 a5)) ?_
  refine go_cmp true rfl (br_self _) ?_
  exact law_tail (f := sc a0 7 6 a3 a4 a5) rfl
theorem ro_1150 (z : pq_C) : pq_Ru 2 25 [.ref 1, .int 0, .int 7] (fw z) (some (.int 0), (fw z)) := by
  refine ru_of (k := 1) (M := pm_25) rfl rfl ?_
  refine go_seg 1 (pc' := 1) (ls' := [(0, .ref 1), (1, .int 0), (2, .int 7)]) (st' := [.int 0]) (w' := (fw z)) (cs' := 0) (ss' := 0) ?_ (fun _ _ => rfl)
  refine go_cl (k := 1) (st' := [.int 1]) (cs' := 0) (ss' := 0) rfl rfl rfl rfl rfl rfl rfl (ro_548 z) ?_
  refine go_seg 8 (pc' := 137) (ls' := [(0, .ref 1), (1, .int 0), (2, .int 7)]) (st' := [.int 0]) (w' := (fw z)) (cs' := 0) (ss' := 0) ?_ (fun _ _ => rfl)
  exact go_end 1 (fun _ _ => rfl)
theorem ro_1151 (z : pq_C) : pq_Ru 3 169 [.ref 90, .int 0, .int 7] (fw z) (some (.int 0), (fw z)) := by
  refine ru_of (k := 2) (M := pm_169) rfl rfl ?_
  refine go_seg 1 (pc' := 1) (ls' := [(0, .ref 90), (1, .int 0), (2, .int 7)]) (st' := [.int 0]) (w' := (fw z)) (cs' := 0) (ss' := 0) ?_ (fun _ _ => rfl)
  refine go_cl (k := 2) (st' := [.int 1]) (cs' := 0) (ss' := 0) rfl rfl rfl rfl rfl rfl rfl (ro_940 z) ?_
  refine go_seg 5 (pc' := 13) (ls' := [(0, .ref 90), (1, .int 0), (2, .int 7)]) (st' := [.long 7, .long 0, .long 7]) (w' := (fw z)) (cs' := 0) (ss' := 0) ?_ (fun _ _ => rfl)
  refine go_cl (k := 2) (st' := [.int 1]) (cs' := 0) (ss' := 0) rfl rfl rfl rfl rfl rfl rfl (ro_981 z) ?_
  refine go_seg 8 (pc' := 47) (ls' := [(4, .int 0), (3, .int 0), (0, .ref 90), (1, .int 0), (2, .int 7)]) (st' := []) (w' := (fw z)) (cs' := 0) (ss' := 0) ?_ (fun _ _ => rfl)
  refine go_seg 8 (pc' := 63) (ls' := [(4, .int 0), (3, .int 0), (0, .ref 90), (1, .int 0), (2, .int 7)]) (st' := [.int 0, .int 10, .ref 91, .int 0]) (w' := (fw z)) (cs' := 0) (ss' := 0) ?_ (fun _ _ => rfl)
  refine go_seg 8 (pc' := 79) (ls' := [(4, .int 1), (3, .int 0), (0, .ref 90), (1, .int 0), (2, .int 7)]) (st' := []) (w' := (fw z)) (cs' := 0) (ss' := 0) ?_ (fun _ _ => rfl)
  refine go_seg 8 (pc' := 61) (ls' := [(4, .int 1), (3, .int 0), (0, .ref 90), (1, .int 0), (2, .int 7)]) (st' := [.int 10, .ref 91, .int 0]) (w' := (fw z)) (cs' := 0) (ss' := 0) ?_ (fun _ _ => rfl)
  refine go_seg 8 (pc' := 76) (ls' := [(3, .int 0), (4, .int 1), (0, .ref 90), (1, .int 0), (2, .int 7)]) (st' := []) (w' := (fw z)) (cs' := 0) (ss' := 0) ?_ (fun _ _ => rfl)
  refine go_seg 8 (pc' := 59) (ls' := [(4, .int 2), (3, .int 0), (0, .ref 90), (1, .int 0), (2, .int 7)]) (st' := [.ref 91, .int 0]) (w' := (fw z)) (cs' := 0) (ss' := 0) ?_ (fun _ _ => rfl)
  refine go_seg 8 (pc' := 75) (ls' := [(4, .int 2), (3, .int 0), (0, .ref 90), (1, .int 0), (2, .int 7)]) (st' := [.int 0]) (w' := (fw z)) (cs' := 0) (ss' := 0) ?_ (fun _ _ => rfl)
  refine go_seg 8 (pc' := 56) (ls' := [(4, .int 3), (3, .int 0), (0, .ref 90), (1, .int 0), (2, .int 7)]) (st' := [.ref 90, .int 0]) (w' := (fw z)) (cs' := 0) (ss' := 0) ?_ (fun _ _ => rfl)
  refine go_seg 8 (pc' := 74) (ls' := [(4, .int 3), (3, .int 0), (0, .ref 90), (1, .int 0), (2, .int 7)]) (st' := [.int 0, .int 0]) (w' := (fw z)) (cs' := 0) (ss' := 0) ?_ (fun _ _ => rfl)
  refine go_seg 8 (pc' := 55) (ls' := [(4, .int 4), (3, .int 0), (0, .ref 90), (1, .int 0), (2, .int 7)]) (st' := [.int 0]) (w' := (fw z)) (cs' := 0) (ss' := 0) ?_ (fun _ _ => rfl)
  refine go_seg 8 (pc' := 73) (ls' := [(4, .int 4), (3, .int 0), (0, .ref 90), (1, .int 0), (2, .int 7)]) (st' := [.int 0]) (w' := (fw z)) (cs' := 0) (ss' := 0) ?_ (fun _ _ => rfl)
  refine go_seg 8 (pc' := 54) (ls' := [(4, .int 5), (3, .int 0), (0, .ref 90), (1, .int 0), (2, .int 7)]) (st' := []) (w' := (fw z)) (cs' := 0) (ss' := 0) ?_ (fun _ _ => rfl)
  refine go_seg 8 (pc' := 66) (ls' := [(4, .int 5), (3, .int 0), (0, .ref 90), (1, .int 0), (2, .int 7)]) (st' := [.int 0, .int (-1), .int 0]) (w' := (fw z)) (cs' := 0) (ss' := 0) ?_ (fun _ _ => rfl)
  refine go_seg 8 (pc' := 51) (ls' := [(4, .int 6), (3, .int 0), (0, .ref 90), (1, .int 0), (2, .int 7)]) (st' := [.int 64, .int 6]) (w' := (fw z)) (cs' := 0) (ss' := 0) ?_ (fun _ _ => rfl)
  refine go_seg 8 (pc' := 65) (ls' := [(4, .int 6), (3, .int 0), (0, .ref 90), (1, .int 0), (2, .int 7)]) (st' := [.int (-1), .int 0]) (w' := (fw z)) (cs' := 0) (ss' := 0) ?_ (fun _ _ => rfl)
  refine go_seg 8 (pc' := 49) (ls' := [(4, .int 7), (3, .int 0), (0, .ref 90), (1, .int 0), (2, .int 7)]) (st' := [.int 7]) (w' := (fw z)) (cs' := 0) (ss' := 0) ?_ (fun _ _ => rfl)
  refine go_seg 8 (pc' := 64) (ls' := [(4, .int 7), (3, .int 0), (0, .ref 90), (1, .int 0), (2, .int 7)]) (st' := [.int 17, .ref 91, .int 0]) (w' := (fw z)) (cs' := 0) (ss' := 0) ?_ (fun _ _ => rfl)
  refine go_seg 8 (pc' := 47) (ls' := [(4, .int 8), (3, .int 0), (0, .ref 90), (1, .int 0), (2, .int 7)]) (st' := []) (w' := (fw z)) (cs' := 0) (ss' := 0) ?_ (fun _ _ => rfl)
  refine go_seg 8 (pc' := 63) (ls' := [(4, .int 8), (3, .int 0), (0, .ref 90), (1, .int 0), (2, .int 7)]) (st' := [.int 8, .int 10, .ref 91, .int 0]) (w' := (fw z)) (cs' := 0) (ss' := 0) ?_ (fun _ _ => rfl)
  refine go_seg 8 (pc' := 79) (ls' := [(4, .int 9), (3, .int 0), (0, .ref 90), (1, .int 0), (2, .int 7)]) (st' := []) (w' := (fw z)) (cs' := 0) (ss' := 0) ?_ (fun _ _ => rfl)
  refine go_seg 8 (pc' := 61) (ls' := [(4, .int 9), (3, .int 0), (0, .ref 90), (1, .int 0), (2, .int 7)]) (st' := [.int 10, .ref 91, .int 0]) (w' := (fw z)) (cs' := 0) (ss' := 0) ?_ (fun _ _ => rfl)
  refine go_seg 8 (pc' := 76) (ls' := [(3, .int 0), (4, .int 9), (0, .ref 90), (1, .int 0), (2, .int 7)]) (st' := []) (w' := (fw z)) (cs' := 0) (ss' := 0) ?_ (fun _ _ => rfl)
  refine go_seg 8 (pc' := 59) (ls' := [(4, .int 10), (3, .int 0), (0, .ref 90), (1, .int 0), (2, .int 7)]) (st' := [.ref 91, .int 0]) (w' := (fw z)) (cs' := 0) (ss' := 0) ?_ (fun _ _ => rfl)
  refine go_seg 8 (pc' := 75) (ls' := [(4, .int 10), (3, .int 0), (0, .ref 90), (1, .int 0), (2, .int 7)]) (st' := [.int 0]) (w' := (fw z)) (cs' := 0) (ss' := 0) ?_ (fun _ _ => rfl)
  refine go_seg 8 (pc' := 56) (ls' := [(4, .int 11), (3, .int 0), (0, .ref 90), (1, .int 0), (2, .int 7)]) (st' := [.ref 90, .int 0]) (w' := (fw z)) (cs' := 0) (ss' := 0) ?_ (fun _ _ => rfl)
  refine go_seg 8 (pc' := 74) (ls' := [(4, .int 11), (3, .int 0), (0, .ref 90), (1, .int 0), (2, .int 7)]) (st' := [.int 0, .int 0]) (w' := (fw z)) (cs' := 0) (ss' := 0) ?_ (fun _ _ => rfl)
  refine go_seg 8 (pc' := 55) (ls' := [(4, .int 12), (3, .int 0), (0, .ref 90), (1, .int 0), (2, .int 7)]) (st' := [.int 0]) (w' := (fw z)) (cs' := 0) (ss' := 0) ?_ (fun _ _ => rfl)
  refine go_seg 8 (pc' := 73) (ls' := [(4, .int 12), (3, .int 0), (0, .ref 90), (1, .int 0), (2, .int 7)]) (st' := [.int 0]) (w' := (fw z)) (cs' := 0) (ss' := 0) ?_ (fun _ _ => rfl)
  refine go_seg 8 (pc' := 54) (ls' := [(4, .int 13), (3, .int 0), (0, .ref 90), (1, .int 0), (2, .int 7)]) (st' := []) (w' := (fw z)) (cs' := 0) (ss' := 0) ?_ (fun _ _ => rfl)
  refine go_seg 8 (pc' := 66) (ls' := [(4, .int 13), (3, .int 0), (0, .ref 90), (1, .int 0), (2, .int 7)]) (st' := [.int 0, .int (-1), .int 0]) (w' := (fw z)) (cs' := 0) (ss' := 0) ?_ (fun _ _ => rfl)
  refine go_seg 8 (pc' := 51) (ls' := [(4, .int 14), (3, .int 0), (0, .ref 90), (1, .int 0), (2, .int 7)]) (st' := [.int 64, .int 14]) (w' := (fw z)) (cs' := 0) (ss' := 0) ?_ (fun _ _ => rfl)
  refine go_seg 8 (pc' := 65) (ls' := [(4, .int 14), (3, .int 0), (0, .ref 90), (1, .int 0), (2, .int 7)]) (st' := [.int (-1), .int 0]) (w' := (fw z)) (cs' := 0) (ss' := 0) ?_ (fun _ _ => rfl)
  refine go_seg 8 (pc' := 49) (ls' := [(4, .int 15), (3, .int 0), (0, .ref 90), (1, .int 0), (2, .int 7)]) (st' := [.int 15]) (w' := (fw z)) (cs' := 0) (ss' := 0) ?_ (fun _ _ => rfl)
  refine go_seg 8 (pc' := 64) (ls' := [(4, .int 15), (3, .int 0), (0, .ref 90), (1, .int 0), (2, .int 7)]) (st' := [.int 25, .ref 91, .int 0]) (w' := (fw z)) (cs' := 0) (ss' := 0) ?_ (fun _ _ => rfl)
  refine go_seg 8 (pc' := 47) (ls' := [(4, .int 16), (3, .int 0), (0, .ref 90), (1, .int 0), (2, .int 7)]) (st' := []) (w' := (fw z)) (cs' := 0) (ss' := 0) ?_ (fun _ _ => rfl)
  refine go_seg 8 (pc' := 63) (ls' := [(4, .int 16), (3, .int 0), (0, .ref 90), (1, .int 0), (2, .int 7)]) (st' := [.int 16, .int 10, .ref 91, .int 0]) (w' := (fw z)) (cs' := 0) (ss' := 0) ?_ (fun _ _ => rfl)
  refine go_seg 8 (pc' := 79) (ls' := [(4, .int 17), (3, .int 0), (0, .ref 90), (1, .int 0), (2, .int 7)]) (st' := []) (w' := (fw z)) (cs' := 0) (ss' := 0) ?_ (fun _ _ => rfl)
  refine go_seg 8 (pc' := 61) (ls' := [(4, .int 17), (3, .int 0), (0, .ref 90), (1, .int 0), (2, .int 7)]) (st' := [.int 10, .ref 91, .int 0]) (w' := (fw z)) (cs' := 0) (ss' := 0) ?_ (fun _ _ => rfl)
  refine go_seg 8 (pc' := 76) (ls' := [(3, .int 0), (4, .int 17), (0, .ref 90), (1, .int 0), (2, .int 7)]) (st' := []) (w' := (fw z)) (cs' := 0) (ss' := 0) ?_ (fun _ _ => rfl)
  refine go_seg 8 (pc' := 59) (ls' := [(4, .int 18), (3, .int 0), (0, .ref 90), (1, .int 0), (2, .int 7)]) (st' := [.ref 91, .int 0]) (w' := (fw z)) (cs' := 0) (ss' := 0) ?_ (fun _ _ => rfl)
  refine go_seg 8 (pc' := 75) (ls' := [(4, .int 18), (3, .int 0), (0, .ref 90), (1, .int 0), (2, .int 7)]) (st' := [.int 0]) (w' := (fw z)) (cs' := 0) (ss' := 0) ?_ (fun _ _ => rfl)
  refine go_seg 8 (pc' := 56) (ls' := [(4, .int 19), (3, .int 0), (0, .ref 90), (1, .int 0), (2, .int 7)]) (st' := [.ref 90, .int 0]) (w' := (fw z)) (cs' := 0) (ss' := 0) ?_ (fun _ _ => rfl)
  refine go_seg 8 (pc' := 74) (ls' := [(4, .int 19), (3, .int 0), (0, .ref 90), (1, .int 0), (2, .int 7)]) (st' := [.int 0, .int 0]) (w' := (fw z)) (cs' := 0) (ss' := 0) ?_ (fun _ _ => rfl)
  refine go_seg 8 (pc' := 55) (ls' := [(4, .int 20), (3, .int 0), (0, .ref 90), (1, .int 0), (2, .int 7)]) (st' := [.int 0]) (w' := (fw z)) (cs' := 0) (ss' := 0) ?_ (fun _ _ => rfl)
  refine go_seg 8 (pc' := 73) (ls' := [(4, .int 20), (3, .int 0), (0, .ref 90), (1, .int 0), (2, .int 7)]) (st' := [.int 0]) (w' := (fw z)) (cs' := 0) (ss' := 0) ?_ (fun _ _ => rfl)
  refine go_seg 8 (pc' := 54) (ls' := [(4, .int 21), (3, .int 0), (0, .ref 90), (1, .int 0), (2, .int 7)]) (st' := []) (w' := (fw z)) (cs' := 0) (ss' := 0) ?_ (fun _ _ => rfl)
  refine go_seg 8 (pc' := 66) (ls' := [(4, .int 21), (3, .int 0), (0, .ref 90), (1, .int 0), (2, .int 7)]) (st' := [.int 0, .int (-1), .int 0]) (w' := (fw z)) (cs' := 0) (ss' := 0) ?_ (fun _ _ => rfl)
  refine go_seg 8 (pc' := 51) (ls' := [(4, .int 22), (3, .int 0), (0, .ref 90), (1, .int 0), (2, .int 7)]) (st' := [.int 64, .int 22]) (w' := (fw z)) (cs' := 0) (ss' := 0) ?_ (fun _ _ => rfl)
  refine go_seg 8 (pc' := 65) (ls' := [(4, .int 22), (3, .int 0), (0, .ref 90), (1, .int 0), (2, .int 7)]) (st' := [.int (-1), .int 0]) (w' := (fw z)) (cs' := 0) (ss' := 0) ?_ (fun _ _ => rfl)
  refine go_seg 8 (pc' := 49) (ls' := [(4, .int 23), (3, .int 0), (0, .ref 90), (1, .int 0), (2, .int 7)]) (st' := [.int 23]) (w' := (fw z)) (cs' := 0) (ss' := 0) ?_ (fun _ _ => rfl)
  refine go_seg 8 (pc' := 64) (ls' := [(4, .int 23), (3, .int 0), (0, .ref 90), (1, .int 0), (2, .int 7)]) (st' := [.int 33, .ref 91, .int 0]) (w' := (fw z)) (cs' := 0) (ss' := 0) ?_ (fun _ _ => rfl)
  refine go_seg 8 (pc' := 47) (ls' := [(4, .int 24), (3, .int 0), (0, .ref 90), (1, .int 0), (2, .int 7)]) (st' := []) (w' := (fw z)) (cs' := 0) (ss' := 0) ?_ (fun _ _ => rfl)
  refine go_seg 8 (pc' := 63) (ls' := [(4, .int 24), (3, .int 0), (0, .ref 90), (1, .int 0), (2, .int 7)]) (st' := [.int 24, .int 10, .ref 91, .int 0]) (w' := (fw z)) (cs' := 0) (ss' := 0) ?_ (fun _ _ => rfl)
  refine go_seg 8 (pc' := 79) (ls' := [(4, .int 25), (3, .int 0), (0, .ref 90), (1, .int 0), (2, .int 7)]) (st' := []) (w' := (fw z)) (cs' := 0) (ss' := 0) ?_ (fun _ _ => rfl)
  refine go_seg 8 (pc' := 61) (ls' := [(4, .int 25), (3, .int 0), (0, .ref 90), (1, .int 0), (2, .int 7)]) (st' := [.int 10, .ref 91, .int 0]) (w' := (fw z)) (cs' := 0) (ss' := 0) ?_ (fun _ _ => rfl)
  refine go_seg 8 (pc' := 76) (ls' := [(3, .int 0), (4, .int 25), (0, .ref 90), (1, .int 0), (2, .int 7)]) (st' := []) (w' := (fw z)) (cs' := 0) (ss' := 0) ?_ (fun _ _ => rfl)
  refine go_seg 8 (pc' := 59) (ls' := [(4, .int 26), (3, .int 0), (0, .ref 90), (1, .int 0), (2, .int 7)]) (st' := [.ref 91, .int 0]) (w' := (fw z)) (cs' := 0) (ss' := 0) ?_ (fun _ _ => rfl)
  refine go_seg 8 (pc' := 75) (ls' := [(4, .int 26), (3, .int 0), (0, .ref 90), (1, .int 0), (2, .int 7)]) (st' := [.int 0]) (w' := (fw z)) (cs' := 0) (ss' := 0) ?_ (fun _ _ => rfl)
  refine go_seg 8 (pc' := 56) (ls' := [(4, .int 27), (3, .int 0), (0, .ref 90), (1, .int 0), (2, .int 7)]) (st' := [.ref 90, .int 0]) (w' := (fw z)) (cs' := 0) (ss' := 0) ?_ (fun _ _ => rfl)
  refine go_seg 8 (pc' := 74) (ls' := [(4, .int 27), (3, .int 0), (0, .ref 90), (1, .int 0), (2, .int 7)]) (st' := [.int 0, .int 0]) (w' := (fw z)) (cs' := 0) (ss' := 0) ?_ (fun _ _ => rfl)
  refine go_seg 8 (pc' := 55) (ls' := [(4, .int 28), (3, .int 0), (0, .ref 90), (1, .int 0), (2, .int 7)]) (st' := [.int 0]) (w' := (fw z)) (cs' := 0) (ss' := 0) ?_ (fun _ _ => rfl)
  refine go_seg 8 (pc' := 73) (ls' := [(4, .int 28), (3, .int 0), (0, .ref 90), (1, .int 0), (2, .int 7)]) (st' := [.int 0]) (w' := (fw z)) (cs' := 0) (ss' := 0) ?_ (fun _ _ => rfl)
  refine go_seg 8 (pc' := 54) (ls' := [(4, .int 29), (3, .int 0), (0, .ref 90), (1, .int 0), (2, .int 7)]) (st' := []) (w' := (fw z)) (cs' := 0) (ss' := 0) ?_ (fun _ _ => rfl)
  refine go_seg 8 (pc' := 66) (ls' := [(4, .int 29), (3, .int 0), (0, .ref 90), (1, .int 0), (2, .int 7)]) (st' := [.int 0, .int (-1), .int 0]) (w' := (fw z)) (cs' := 0) (ss' := 0) ?_ (fun _ _ => rfl)
  refine go_seg 8 (pc' := 51) (ls' := [(4, .int 30), (3, .int 0), (0, .ref 90), (1, .int 0), (2, .int 7)]) (st' := [.int 64, .int 30]) (w' := (fw z)) (cs' := 0) (ss' := 0) ?_ (fun _ _ => rfl)
  refine go_seg 8 (pc' := 65) (ls' := [(4, .int 30), (3, .int 0), (0, .ref 90), (1, .int 0), (2, .int 7)]) (st' := [.int (-1), .int 0]) (w' := (fw z)) (cs' := 0) (ss' := 0) ?_ (fun _ _ => rfl)
  refine go_seg 8 (pc' := 49) (ls' := [(4, .int 31), (3, .int 0), (0, .ref 90), (1, .int 0), (2, .int 7)]) (st' := [.int 31]) (w' := (fw z)) (cs' := 0) (ss' := 0) ?_ (fun _ _ => rfl)
  refine go_seg 8 (pc' := 64) (ls' := [(4, .int 31), (3, .int 0), (0, .ref 90), (1, .int 0), (2, .int 7)]) (st' := [.int 41, .ref 91, .int 0]) (w' := (fw z)) (cs' := 0) (ss' := 0) ?_ (fun _ _ => rfl)
  refine go_seg 8 (pc' := 47) (ls' := [(4, .int 32), (3, .int 0), (0, .ref 90), (1, .int 0), (2, .int 7)]) (st' := []) (w' := (fw z)) (cs' := 0) (ss' := 0) ?_ (fun _ _ => rfl)
  refine go_seg 8 (pc' := 63) (ls' := [(4, .int 32), (3, .int 0), (0, .ref 90), (1, .int 0), (2, .int 7)]) (st' := [.int 32, .int 10, .ref 91, .int 0]) (w' := (fw z)) (cs' := 0) (ss' := 0) ?_ (fun _ _ => rfl)
  refine go_seg 8 (pc' := 79) (ls' := [(4, .int 33), (3, .int 0), (0, .ref 90), (1, .int 0), (2, .int 7)]) (st' := []) (w' := (fw z)) (cs' := 0) (ss' := 0) ?_ (fun _ _ => rfl)
  refine go_seg 8 (pc' := 61) (ls' := [(4, .int 33), (3, .int 0), (0, .ref 90), (1, .int 0), (2, .int 7)]) (st' := [.int 10, .ref 91, .int 0]) (w' := (fw z)) (cs' := 0) (ss' := 0) ?_ (fun _ _ => rfl)
  refine go_seg 8 (pc' := 76) (ls' := [(3, .int 0), (4, .int 33), (0, .ref 90), (1, .int 0), (2, .int 7)]) (st' := []) (w' := (fw z)) (cs' := 0) (ss' := 0) ?_ (fun _ _ => rfl)
  refine go_seg 8 (pc' := 59) (ls' := [(4, .int 34), (3, .int 0), (0, .ref 90), (1, .int 0), (2, .int 7)]) (st' := [.ref 91, .int 0]) (w' := (fw z)) (cs' := 0) (ss' := 0) ?_ (fun _ _ => rfl)
  refine go_seg 8 (pc' := 75) (ls' := [(4, .int 34), (3, .int 0), (0, .ref 90), (1, .int 0), (2, .int 7)]) (st' := [.int 0]) (w' := (fw z)) (cs' := 0) (ss' := 0) ?_ (fun _ _ => rfl)
  refine go_seg 8 (pc' := 56) (ls' := [(4, .int 35), (3, .int 0), (0, .ref 90), (1, .int 0), (2, .int 7)]) (st' := [.ref 90, .int 0]) (w' := (fw z)) (cs' := 0) (ss' := 0) ?_ (fun _ _ => rfl)
  refine go_seg 8 (pc' := 74) (ls' := [(4, .int 35), (3, .int 0), (0, .ref 90), (1, .int 0), (2, .int 7)]) (st' := [.int 0, .int 0]) (w' := (fw z)) (cs' := 0) (ss' := 0) ?_ (fun _ _ => rfl)
  refine go_seg 8 (pc' := 55) (ls' := [(4, .int 36), (3, .int 0), (0, .ref 90), (1, .int 0), (2, .int 7)]) (st' := [.int 0]) (w' := (fw z)) (cs' := 0) (ss' := 0) ?_ (fun _ _ => rfl)
  refine go_seg 8 (pc' := 73) (ls' := [(4, .int 36), (3, .int 0), (0, .ref 90), (1, .int 0), (2, .int 7)]) (st' := [.int 0]) (w' := (fw z)) (cs' := 0) (ss' := 0) ?_ (fun _ _ => rfl)
  refine go_seg 8 (pc' := 54) (ls' := [(4, .int 37), (3, .int 0), (0, .ref 90), (1, .int 0), (2, .int 7)]) (st' := []) (w' := (fw z)) (cs' := 0) (ss' := 0) ?_ (fun _ _ => rfl)
  refine go_seg 8 (pc' := 66) (ls' := [(4, .int 37), (3, .int 0), (0, .ref 90), (1, .int 0), (2, .int 7)]) (st' := [.int 0, .int (-1), .int 0]) (w' := (fw z)) (cs' := 0) (ss' := 0) ?_ (fun _ _ => rfl)
  refine go_seg 8 (pc' := 51) (ls' := [(4, .int 38), (3, .int 0), (0, .ref 90), (1, .int 0), (2, .int 7)]) (st' := [.int 64, .int 38]) (w' := (fw z)) (cs' := 0) (ss' := 0) ?_ (fun _ _ => rfl)
  refine go_seg 8 (pc' := 65) (ls' := [(4, .int 38), (3, .int 0), (0, .ref 90), (1, .int 0), (2, .int 7)]) (st' := [.int (-1), .int 0]) (w' := (fw z)) (cs' := 0) (ss' := 0) ?_ (fun _ _ => rfl)
  refine go_seg 8 (pc' := 49) (ls' := [(4, .int 39), (3, .int 0), (0, .ref 90), (1, .int 0), (2, .int 7)]) (st' := [.int 39]) (w' := (fw z)) (cs' := 0) (ss' := 0) ?_ (fun _ _ => rfl)
  refine go_seg 8 (pc' := 64) (ls' := [(4, .int 39), (3, .int 0), (0, .ref 90), (1, .int 0), (2, .int 7)]) (st' := [.int 49, .ref 91, .int 0]) (w' := (fw z)) (cs' := 0) (ss' := 0) ?_ (fun _ _ => rfl)
  refine go_seg 8 (pc' := 47) (ls' := [(4, .int 40), (3, .int 0), (0, .ref 90), (1, .int 0), (2, .int 7)]) (st' := []) (w' := (fw z)) (cs' := 0) (ss' := 0) ?_ (fun _ _ => rfl)
  refine go_seg 8 (pc' := 63) (ls' := [(4, .int 40), (3, .int 0), (0, .ref 90), (1, .int 0), (2, .int 7)]) (st' := [.int 40, .int 10, .ref 91, .int 0]) (w' := (fw z)) (cs' := 0) (ss' := 0) ?_ (fun _ _ => rfl)
  refine go_seg 8 (pc' := 79) (ls' := [(4, .int 41), (3, .int 0), (0, .ref 90), (1, .int 0), (2, .int 7)]) (st' := []) (w' := (fw z)) (cs' := 0) (ss' := 0) ?_ (fun _ _ => rfl)
  refine go_seg 8 (pc' := 61) (ls' := [(4, .int 41), (3, .int 0), (0, .ref 90), (1, .int 0), (2, .int 7)]) (st' := [.int 10, .ref 91, .int 0]) (w' := (fw z)) (cs' := 0) (ss' := 0) ?_ (fun _ _ => rfl)
  refine go_seg 8 (pc' := 76) (ls' := [(3, .int 0), (4, .int 41), (0, .ref 90), (1, .int 0), (2, .int 7)]) (st' := []) (w' := (fw z)) (cs' := 0) (ss' := 0) ?_ (fun _ _ => rfl)
  refine go_seg 8 (pc' := 59) (ls' := [(4, .int 42), (3, .int 0), (0, .ref 90), (1, .int 0), (2, .int 7)]) (st' := [.ref 91, .int 0]) (w' := (fw z)) (cs' := 0) (ss' := 0) ?_ (fun _ _ => rfl)
  refine go_seg 8 (pc' := 75) (ls' := [(4, .int 42), (3, .int 0), (0, .ref 90), (1, .int 0), (2, .int 7)]) (st' := [.int 0]) (w' := (fw z)) (cs' := 0) (ss' := 0) ?_ (fun _ _ => rfl)
  refine go_seg 8 (pc' := 56) (ls' := [(4, .int 43), (3, .int 0), (0, .ref 90), (1, .int 0), (2, .int 7)]) (st' := [.ref 90, .int 0]) (w' := (fw z)) (cs' := 0) (ss' := 0) ?_ (fun _ _ => rfl)
  refine go_seg 8 (pc' := 74) (ls' := [(4, .int 43), (3, .int 0), (0, .ref 90), (1, .int 0), (2, .int 7)]) (st' := [.int 0, .int 0]) (w' := (fw z)) (cs' := 0) (ss' := 0) ?_ (fun _ _ => rfl)
  refine go_seg 8 (pc' := 55) (ls' := [(4, .int 44), (3, .int 0), (0, .ref 90), (1, .int 0), (2, .int 7)]) (st' := [.int 0]) (w' := (fw z)) (cs' := 0) (ss' := 0) ?_ (fun _ _ => rfl)
  refine go_seg 8 (pc' := 73) (ls' := [(4, .int 44), (3, .int 0), (0, .ref 90), (1, .int 0), (2, .int 7)]) (st' := [.int 0]) (w' := (fw z)) (cs' := 0) (ss' := 0) ?_ (fun _ _ => rfl)
  refine go_seg 8 (pc' := 54) (ls' := [(4, .int 45), (3, .int 0), (0, .ref 90), (1, .int 0), (2, .int 7)]) (st' := []) (w' := (fw z)) (cs' := 0) (ss' := 0) ?_ (fun _ _ => rfl)
  refine go_seg 8 (pc' := 66) (ls' := [(4, .int 45), (3, .int 0), (0, .ref 90), (1, .int 0), (2, .int 7)]) (st' := [.int 0, .int (-1), .int 0]) (w' := (fw z)) (cs' := 0) (ss' := 0) ?_ (fun _ _ => rfl)
  refine go_seg 8 (pc' := 51) (ls' := [(4, .int 46), (3, .int 0), (0, .ref 90), (1, .int 0), (2, .int 7)]) (st' := [.int 64, .int 46]) (w' := (fw z)) (cs' := 0) (ss' := 0) ?_ (fun _ _ => rfl)
  refine go_seg 8 (pc' := 65) (ls' := [(4, .int 46), (3, .int 0), (0, .ref 90), (1, .int 0), (2, .int 7)]) (st' := [.int (-1), .int 0]) (w' := (fw z)) (cs' := 0) (ss' := 0) ?_ (fun _ _ => rfl)
  refine go_seg 8 (pc' := 49) (ls' := [(4, .int 47), (3, .int 0), (0, .ref 90), (1, .int 0), (2, .int 7)]) (st' := [.int 47]) (w' := (fw z)) (cs' := 0) (ss' := 0) ?_ (fun _ _ => rfl)
  refine go_seg 8 (pc' := 64) (ls' := [(4, .int 47), (3, .int 0), (0, .ref 90), (1, .int 0), (2, .int 7)]) (st' := [.int 57, .ref 91, .int 0]) (w' := (fw z)) (cs' := 0) (ss' := 0) ?_ (fun _ _ => rfl)
  refine go_seg 8 (pc' := 47) (ls' := [(4, .int 48), (3, .int 0), (0, .ref 90), (1, .int 0), (2, .int 7)]) (st' := []) (w' := (fw z)) (cs' := 0) (ss' := 0) ?_ (fun _ _ => rfl)
  refine go_seg 8 (pc' := 63) (ls' := [(4, .int 48), (3, .int 0), (0, .ref 90), (1, .int 0), (2, .int 7)]) (st' := [.int 48, .int 10, .ref 91, .int 0]) (w' := (fw z)) (cs' := 0) (ss' := 0) ?_ (fun _ _ => rfl)
  refine go_seg 8 (pc' := 79) (ls' := [(4, .int 49), (3, .int 0), (0, .ref 90), (1, .int 0), (2, .int 7)]) (st' := []) (w' := (fw z)) (cs' := 0) (ss' := 0) ?_ (fun _ _ => rfl)
  refine go_seg 8 (pc' := 61) (ls' := [(4, .int 49), (3, .int 0), (0, .ref 90), (1, .int 0), (2, .int 7)]) (st' := [.int 10, .ref 91, .int 0]) (w' := (fw z)) (cs' := 0) (ss' := 0) ?_ (fun _ _ => rfl)
  refine go_seg 8 (pc' := 76) (ls' := [(3, .int 0), (4, .int 49), (0, .ref 90), (1, .int 0), (2, .int 7)]) (st' := []) (w' := (fw z)) (cs' := 0) (ss' := 0) ?_ (fun _ _ => rfl)
  refine go_seg 8 (pc' := 59) (ls' := [(4, .int 50), (3, .int 0), (0, .ref 90), (1, .int 0), (2, .int 7)]) (st' := [.ref 91, .int 0]) (w' := (fw z)) (cs' := 0) (ss' := 0) ?_ (fun _ _ => rfl)
  refine go_seg 8 (pc' := 75) (ls' := [(4, .int 50), (3, .int 0), (0, .ref 90), (1, .int 0), (2, .int 7)]) (st' := [.int 0]) (w' := (fw z)) (cs' := 0) (ss' := 0) ?_ (fun _ _ => rfl)
  refine go_seg 8 (pc' := 56) (ls' := [(4, .int 51), (3, .int 0), (0, .ref 90), (1, .int 0), (2, .int 7)]) (st' := [.ref 90, .int 0]) (w' := (fw z)) (cs' := 0) (ss' := 0) ?_ (fun _ _ => rfl)
  refine go_seg 8 (pc' := 74) (ls' := [(4, .int 51), (3, .int 0), (0, .ref 90), (1, .int 0), (2, .int 7)]) (st' := [.int 0, .int 0]) (w' := (fw z)) (cs' := 0) (ss' := 0) ?_ (fun _ _ => rfl)
  refine go_seg 8 (pc' := 55) (ls' := [(4, .int 52), (3, .int 0), (0, .ref 90), (1, .int 0), (2, .int 7)]) (st' := [.int 0]) (w' := (fw z)) (cs' := 0) (ss' := 0) ?_ (fun _ _ => rfl)
  refine go_seg 8 (pc' := 73) (ls' := [(4, .int 52), (3, .int 0), (0, .ref 90), (1, .int 0), (2, .int 7)]) (st' := [.int 0]) (w' := (fw z)) (cs' := 0) (ss' := 0) ?_ (fun _ _ => rfl)
  refine go_seg 8 (pc' := 54) (ls' := [(4, .int 53), (3, .int 0), (0, .ref 90), (1, .int 0), (2, .int 7)]) (st' := []) (w' := (fw z)) (cs' := 0) (ss' := 0) ?_ (fun _ _ => rfl)
  refine go_seg 8 (pc' := 66) (ls' := [(4, .int 53), (3, .int 0), (0, .ref 90), (1, .int 0), (2, .int 7)]) (st' := [.int 0, .int (-1), .int 0]) (w' := (fw z)) (cs' := 0) (ss' := 0) ?_ (fun _ _ => rfl)
  refine go_seg 8 (pc' := 51) (ls' := [(4, .int 54), (3, .int 0), (0, .ref 90), (1, .int 0), (2, .int 7)]) (st' := [.int 64, .int 54]) (w' := (fw z)) (cs' := 0) (ss' := 0) ?_ (fun _ _ => rfl)
  refine go_seg 8 (pc' := 65) (ls' := [(4, .int 54), (3, .int 0), (0, .ref 90), (1, .int 0), (2, .int 7)]) (st' := [.int (-1), .int 0]) (w' := (fw z)) (cs' := 0) (ss' := 0) ?_ (fun _ _ => rfl)
  refine go_seg 8 (pc' := 49) (ls' := [(4, .int 55), (3, .int 0), (0, .ref 90), (1, .int 0), (2, .int 7)]) (st' := [.int 55]) (w' := (fw z)) (cs' := 0) (ss' := 0) ?_ (fun _ _ => rfl)
  refine go_seg 8 (pc' := 64) (ls' := [(4, .int 55), (3, .int 0), (0, .ref 90), (1, .int 0), (2, .int 7)]) (st' := [.int 65, .ref 91, .int 0]) (w' := (fw z)) (cs' := 0) (ss' := 0) ?_ (fun _ _ => rfl)
  refine go_seg 8 (pc' := 47) (ls' := [(4, .int 56), (3, .int 0), (0, .ref 90), (1, .int 0), (2, .int 7)]) (st' := []) (w' := (fw z)) (cs' := 0) (ss' := 0) ?_ (fun _ _ => rfl)
  refine go_seg 8 (pc' := 63) (ls' := [(4, .int 56), (3, .int 0), (0, .ref 90), (1, .int 0), (2, .int 7)]) (st' := [.int 56, .int 10, .ref 91, .int 0]) (w' := (fw z)) (cs' := 0) (ss' := 0) ?_ (fun _ _ => rfl)
  refine go_seg 8 (pc' := 79) (ls' := [(4, .int 57), (3, .int 0), (0, .ref 90), (1, .int 0), (2, .int 7)]) (st' := []) (w' := (fw z)) (cs' := 0) (ss' := 0) ?_ (fun _ _ => rfl)
  refine go_seg 8 (pc' := 61) (ls' := [(4, .int 57), (3, .int 0), (0, .ref 90), (1, .int 0), (2, .int 7)]) (st' := [.int 10, .ref 91, .int 0]) (w' := (fw z)) (cs' := 0) (ss' := 0) ?_ (fun _ _ => rfl)
  refine go_seg 8 (pc' := 76) (ls' := [(3, .int 0), (4, .int 57), (0, .ref 90), (1, .int 0), (2, .int 7)]) (st' := []) (w' := (fw z)) (cs' := 0) (ss' := 0) ?_ (fun _ _ => rfl)
  refine go_seg 8 (pc' := 59) (ls' := [(4, .int 58), (3, .int 0), (0, .ref 90), (1, .int 0), (2, .int 7)]) (st' := [.ref 91, .int 0]) (w' := (fw z)) (cs' := 0) (ss' := 0) ?_ (fun _ _ => rfl)
  refine go_seg 8 (pc' := 75) (ls' := [(4, .int 58), (3, .int 0), (0, .ref 90), (1, .int 0), (2, .int 7)]) (st' := [.int 0]) (w' := (fw z)) (cs' := 0) (ss' := 0) ?_ (fun _ _ => rfl)
  refine go_seg 8 (pc' := 56) (ls' := [(4, .int 59), (3, .int 0), (0, .ref 90), (1, .int 0), (2, .int 7)]) (st' := [.ref 90, .int 0]) (w' := (fw z)) (cs' := 0) (ss' := 0) ?_ (fun _ _ => rfl)
  refine go_seg 8 (pc' := 74) (ls' := [(4, .int 59), (3, .int 0), (0, .ref 90), (1, .int 0), (2, .int 7)]) (st' := [.int 0, .int 0]) (w' := (fw z)) (cs' := 0) (ss' := 0) ?_ (fun _ _ => rfl)
  refine go_seg 8 (pc' := 55) (ls' := [(4, .int 60), (3, .int 0), (0, .ref 90), (1, .int 0), (2, .int 7)]) (st' := [.int 0]) (w' := (fw z)) (cs' := 0) (ss' := 0) ?_ (fun _ _ => rfl)
  refine go_seg 8 (pc' := 73) (ls' := [(4, .int 60), (3, .int 0), (0, .ref 90), (1, .int 0), (2, .int 7)]) (st' := [.int 0]) (w' := (fw z)) (cs' := 0) (ss' := 0) ?_ (fun _ _ => rfl)
  refine go_seg 8 (pc' := 54) (ls' := [(4, .int 61), (3, .int 0), (0, .ref 90), (1, .int 0), (2, .int 7)]) (st' := []) (w' := (fw z)) (cs' := 0) (ss' := 0) ?_ (fun _ _ => rfl)
  refine go_seg 8 (pc' := 66) (ls' := [(4, .int 61), (3, .int 0), (0, .ref 90), (1, .int 0), (2, .int 7)]) (st' := [.int 0, .int (-1), .int 0]) (w' := (fw z)) (cs' := 0) (ss' := 0) ?_ (fun _ _ => rfl)
  refine go_seg 8 (pc' := 51) (ls' := [(4, .int 62), (3, .int 0), (0, .ref 90), (1, .int 0), (2, .int 7)]) (st' := [.int 64, .int 62]) (w' := (fw z)) (cs' := 0) (ss' := 0) ?_ (fun _ _ => rfl)
  refine go_seg 8 (pc' := 65) (ls' := [(4, .int 62), (3, .int 0), (0, .ref 90), (1, .int 0), (2, .int 7)]) (st' := [.int (-1), .int 0]) (w' := (fw z)) (cs' := 0) (ss' := 0) ?_ (fun _ _ => rfl)
  refine go_seg 8 (pc' := 49) (ls' := [(4, .int 63), (3, .int 0), (0, .ref 90), (1, .int 0), (2, .int 7)]) (st' := [.int 63]) (w' := (fw z)) (cs' := 0) (ss' := 0) ?_ (fun _ _ => rfl)
  refine go_seg 8 (pc' := 64) (ls' := [(4, .int 63), (3, .int 0), (0, .ref 90), (1, .int 0), (2, .int 7)]) (st' := [.int 73, .ref 91, .int 0]) (w' := (fw z)) (cs' := 0) (ss' := 0) ?_ (fun _ _ => rfl)
  refine go_seg 8 (pc' := 47) (ls' := [(4, .int 64), (3, .int 0), (0, .ref 90), (1, .int 0), (2, .int 7)]) (st' := []) (w' := (fw z)) (cs' := 0) (ss' := 0) ?_ (fun _ _ => rfl)
  refine go_seg 8 (pc' := 94) (ls' := [(4, .int 64), (3, .int 0), (0, .ref 90), (1, .int 0), (2, .int 7)]) (st' := [.int 6, .int 7]) (w' := (fw z)) (cs' := 0) (ss' := 0) ?_ (fun _ _ => rfl)
  refine go_seg 5 (pc' := 111) (ls' := [(4, .int 64), (3, .int 0), (0, .ref 90), (1, .int 0), (2, .int 7)]) (st' := [.int 5, .int 0, .ref 91]) (w' := (fw z)) (cs' := 0) (ss' := 0) ?_ (fun _ _ => rfl)
  refine go_cl (k := 2) (st' := [.int 143, .ref 91]) (cs' := 0) (ss' := 0) rfl rfl rfl rfl rfl rfl rfl (ro_487 z) ?_
  exact go_end 2 (fun _ _ => rfl)
theorem lf_4_1152 (a0 : Int32) (a3 : Int32) (a4 : Int32) (a5 : Int32) : ∃ w', pq_Go 20 pm_law 370 [(3, .int 0), (2, .ref 90), (1, .ref 1), (0, .ref 0)] [] (fw (sz a0 0 7 a3 a4 a5)) 109 12668 (some (.int 1), w') := by
  refine ⟨(fw (sz a0 0 7 a3 a4 a5)), ?_⟩
  refine go_seg 8 (pc' := 378) (ls' := [(3, .int 0), (2, .ref 90), (1, .ref 1), (0, .ref 0)]) (st' := [.int 0, .ref 0, .int 0, .ref 1]) (w' := (fw (sz a0 0 7 a3 a4 a5))) (cs' := 109) (ss' := 12668) ?_ (fun _ _ => rfl)
  refine go_seg 3 (pc' := 381) (ls' := [(3, .int 0), (2, .ref 90), (1, .ref 1), (0, .ref 0)]) (st' := [.int 7, .int 0, .ref 1]) (w' := (fw (sz a0 0 7 a3 a4 a5))) (cs' := 109) (ss' := 12668) ?_ (fun _ _ => rfl)
  refine go_cl (k := 20) (st' := [.int 0]) (cs' := 109) (ss' := 12668) rfl rfl rfl rfl rfl rfl rfl (ro_1150 (sz a0 0 7 a3 a4 a5)) ?_
  refine go_seg 8 (pc' := 392) (ls' := [(3, .int 0), (2, .ref 90), (1, .ref 1), (0, .ref 0)]) (st' := [.int 0, .ref 0, .int 0, .ref 90, .int 0]) (w' := (fw (sz a0 0 7 a3 a4 a5))) (cs' := 109) (ss' := 12668) ?_ (fun _ _ => rfl)
  refine go_seg 3 (pc' := 395) (ls' := [(3, .int 0), (2, .ref 90), (1, .ref 1), (0, .ref 0)]) (st' := [.int 7, .int 0, .ref 90, .int 0]) (w' := (fw (sz a0 0 7 a3 a4 a5))) (cs' := 109) (ss' := 12668) ?_ (fun _ _ => rfl)
  refine go_cl (k := 20) (st' := [.int 0, .int 0]) (cs' := 109) (ss' := 12668) rfl rfl rfl rfl rfl rfl rfl (ro_1151 (sz a0 0 7 a3 a4 a5)) ?_
  refine go_cmp true rfl (br_self _) ?_
  exact law_tail (f := sc a0 0 7 a3 a4 a5) rfl
theorem ro_1153 (z : pq_C) : pq_Ru 2 25 [.ref 1, .int 1, .int 7] (fw z) (some (.int 0), (fw z)) := by
  refine ru_of (k := 1) (M := pm_25) rfl rfl ?_
  refine go_seg 1 (pc' := 1) (ls' := [(0, .ref 1), (1, .int 1), (2, .int 7)]) (st' := [.int 1]) (w' := (fw z)) (cs' := 0) (ss' := 0) ?_ (fun _ _ => rfl)
  refine go_cl (k := 1) (st' := [.int 1]) (cs' := 0) (ss' := 0) rfl rfl rfl rfl rfl rfl rfl (ro_558 z) ?_
  refine go_seg 8 (pc' := 137) (ls' := [(0, .ref 1), (1, .int 1), (2, .int 7)]) (st' := [.int 0]) (w' := (fw z)) (cs' := 0) (ss' := 0) ?_ (fun _ _ => rfl)
  exact go_end 1 (fun _ _ => rfl)
theorem ro_1154 (z : pq_C) : pq_Ru 3 169 [.ref 90, .int 1, .int 7] (fw z) (some (.int 0), (fw z)) := by
  refine ru_of (k := 2) (M := pm_169) rfl rfl ?_
  refine go_seg 1 (pc' := 1) (ls' := [(0, .ref 90), (1, .int 1), (2, .int 7)]) (st' := [.int 1]) (w' := (fw z)) (cs' := 0) (ss' := 0) ?_ (fun _ _ => rfl)
  refine go_cl (k := 2) (st' := [.int 1]) (cs' := 0) (ss' := 0) rfl rfl rfl rfl rfl rfl rfl (ro_946 z) ?_
  refine go_seg 5 (pc' := 13) (ls' := [(0, .ref 90), (1, .int 1), (2, .int 7)]) (st' := [.long 7, .long 0, .long 7]) (w' := (fw z)) (cs' := 0) (ss' := 0) ?_ (fun _ _ => rfl)
  refine go_cl (k := 2) (st' := [.int 1]) (cs' := 0) (ss' := 0) rfl rfl rfl rfl rfl rfl rfl (ro_981 z) ?_
  refine go_seg 8 (pc' := 47) (ls' := [(4, .int 0), (3, .int 0), (0, .ref 90), (1, .int 1), (2, .int 7)]) (st' := []) (w' := (fw z)) (cs' := 0) (ss' := 0) ?_ (fun _ _ => rfl)
  refine go_seg 8 (pc' := 63) (ls' := [(4, .int 0), (3, .int 0), (0, .ref 90), (1, .int 1), (2, .int 7)]) (st' := [.int 0, .int 10, .ref 91, .int 0]) (w' := (fw z)) (cs' := 0) (ss' := 0) ?_ (fun _ _ => rfl)
  refine go_seg 8 (pc' := 79) (ls' := [(4, .int 1), (3, .int 0), (0, .ref 90), (1, .int 1), (2, .int 7)]) (st' := []) (w' := (fw z)) (cs' := 0) (ss' := 0) ?_ (fun _ _ => rfl)
  refine go_seg 8 (pc' := 61) (ls' := [(4, .int 1), (3, .int 0), (0, .ref 90), (1, .int 1), (2, .int 7)]) (st' := [.int 10, .ref 91, .int 0]) (w' := (fw z)) (cs' := 0) (ss' := 0) ?_ (fun _ _ => rfl)
  refine go_seg 8 (pc' := 76) (ls' := [(3, .int 0), (4, .int 1), (0, .ref 90), (1, .int 1), (2, .int 7)]) (st' := []) (w' := (fw z)) (cs' := 0) (ss' := 0) ?_ (fun _ _ => rfl)
  refine go_seg 8 (pc' := 59) (ls' := [(4, .int 2), (3, .int 0), (0, .ref 90), (1, .int 1), (2, .int 7)]) (st' := [.ref 91, .int 0]) (w' := (fw z)) (cs' := 0) (ss' := 0) ?_ (fun _ _ => rfl)
  refine go_seg 8 (pc' := 75) (ls' := [(4, .int 2), (3, .int 0), (0, .ref 90), (1, .int 1), (2, .int 7)]) (st' := [.int 0]) (w' := (fw z)) (cs' := 0) (ss' := 0) ?_ (fun _ _ => rfl)
  refine go_seg 8 (pc' := 56) (ls' := [(4, .int 3), (3, .int 0), (0, .ref 90), (1, .int 1), (2, .int 7)]) (st' := [.ref 90, .int 0]) (w' := (fw z)) (cs' := 0) (ss' := 0) ?_ (fun _ _ => rfl)
  refine go_seg 8 (pc' := 74) (ls' := [(4, .int 3), (3, .int 0), (0, .ref 90), (1, .int 1), (2, .int 7)]) (st' := [.int 0, .int 0]) (w' := (fw z)) (cs' := 0) (ss' := 0) ?_ (fun _ _ => rfl)
  refine go_seg 8 (pc' := 55) (ls' := [(4, .int 4), (3, .int 0), (0, .ref 90), (1, .int 1), (2, .int 7)]) (st' := [.int 0]) (w' := (fw z)) (cs' := 0) (ss' := 0) ?_ (fun _ _ => rfl)
  refine go_seg 8 (pc' := 73) (ls' := [(4, .int 4), (3, .int 0), (0, .ref 90), (1, .int 1), (2, .int 7)]) (st' := [.int 0]) (w' := (fw z)) (cs' := 0) (ss' := 0) ?_ (fun _ _ => rfl)
  refine go_seg 8 (pc' := 54) (ls' := [(4, .int 5), (3, .int 0), (0, .ref 90), (1, .int 1), (2, .int 7)]) (st' := []) (w' := (fw z)) (cs' := 0) (ss' := 0) ?_ (fun _ _ => rfl)
  refine go_seg 8 (pc' := 66) (ls' := [(4, .int 5), (3, .int 0), (0, .ref 90), (1, .int 1), (2, .int 7)]) (st' := [.int 1, .int (-1), .int 0]) (w' := (fw z)) (cs' := 0) (ss' := 0) ?_ (fun _ _ => rfl)
  refine go_seg 8 (pc' := 51) (ls' := [(4, .int 6), (3, .int 0), (0, .ref 90), (1, .int 1), (2, .int 7)]) (st' := [.int 64, .int 6]) (w' := (fw z)) (cs' := 0) (ss' := 0) ?_ (fun _ _ => rfl)
  refine go_seg 8 (pc' := 65) (ls' := [(4, .int 6), (3, .int 0), (0, .ref 90), (1, .int 1), (2, .int 7)]) (st' := [.int (-1), .int 0]) (w' := (fw z)) (cs' := 0) (ss' := 0) ?_ (fun _ _ => rfl)
  refine go_seg 8 (pc' := 49) (ls' := [(4, .int 7), (3, .int 0), (0, .ref 90), (1, .int 1), (2, .int 7)]) (st' := [.int 7]) (w' := (fw z)) (cs' := 0) (ss' := 0) ?_ (fun _ _ => rfl)
  refine go_seg 8 (pc' := 64) (ls' := [(4, .int 7), (3, .int 0), (0, .ref 90), (1, .int 1), (2, .int 7)]) (st' := [.int 17, .ref 91, .int 0]) (w' := (fw z)) (cs' := 0) (ss' := 0) ?_ (fun _ _ => rfl)
  refine go_seg 8 (pc' := 47) (ls' := [(4, .int 8), (3, .int 0), (0, .ref 90), (1, .int 1), (2, .int 7)]) (st' := []) (w' := (fw z)) (cs' := 0) (ss' := 0) ?_ (fun _ _ => rfl)
  refine go_seg 8 (pc' := 63) (ls' := [(4, .int 8), (3, .int 0), (0, .ref 90), (1, .int 1), (2, .int 7)]) (st' := [.int 8, .int 10, .ref 91, .int 0]) (w' := (fw z)) (cs' := 0) (ss' := 0) ?_ (fun _ _ => rfl)
  refine go_seg 8 (pc' := 79) (ls' := [(4, .int 9), (3, .int 0), (0, .ref 90), (1, .int 1), (2, .int 7)]) (st' := []) (w' := (fw z)) (cs' := 0) (ss' := 0) ?_ (fun _ _ => rfl)
  refine go_seg 8 (pc' := 61) (ls' := [(4, .int 9), (3, .int 0), (0, .ref 90), (1, .int 1), (2, .int 7)]) (st' := [.int 10, .ref 91, .int 0]) (w' := (fw z)) (cs' := 0) (ss' := 0) ?_ (fun _ _ => rfl)
  refine go_seg 8 (pc' := 76) (ls' := [(3, .int 0), (4, .int 9), (0, .ref 90), (1, .int 1), (2, .int 7)]) (st' := []) (w' := (fw z)) (cs' := 0) (ss' := 0) ?_ (fun _ _ => rfl)
  refine go_seg 8 (pc' := 59) (ls' := [(4, .int 10), (3, .int 0), (0, .ref 90), (1, .int 1), (2, .int 7)]) (st' := [.ref 91, .int 0]) (w' := (fw z)) (cs' := 0) (ss' := 0) ?_ (fun _ _ => rfl)
  refine go_seg 8 (pc' := 75) (ls' := [(4, .int 10), (3, .int 0), (0, .ref 90), (1, .int 1), (2, .int 7)]) (st' := [.int 0]) (w' := (fw z)) (cs' := 0) (ss' := 0) ?_ (fun _ _ => rfl)
  refine go_seg 8 (pc' := 56) (ls' := [(4, .int 11), (3, .int 0), (0, .ref 90), (1, .int 1), (2, .int 7)]) (st' := [.ref 90, .int 0]) (w' := (fw z)) (cs' := 0) (ss' := 0) ?_ (fun _ _ => rfl)
  refine go_seg 8 (pc' := 74) (ls' := [(4, .int 11), (3, .int 0), (0, .ref 90), (1, .int 1), (2, .int 7)]) (st' := [.int 0, .int 0]) (w' := (fw z)) (cs' := 0) (ss' := 0) ?_ (fun _ _ => rfl)
  refine go_seg 8 (pc' := 55) (ls' := [(4, .int 12), (3, .int 0), (0, .ref 90), (1, .int 1), (2, .int 7)]) (st' := [.int 0]) (w' := (fw z)) (cs' := 0) (ss' := 0) ?_ (fun _ _ => rfl)
  refine go_seg 8 (pc' := 73) (ls' := [(4, .int 12), (3, .int 0), (0, .ref 90), (1, .int 1), (2, .int 7)]) (st' := [.int 0]) (w' := (fw z)) (cs' := 0) (ss' := 0) ?_ (fun _ _ => rfl)
  refine go_seg 8 (pc' := 54) (ls' := [(4, .int 13), (3, .int 0), (0, .ref 90), (1, .int 1), (2, .int 7)]) (st' := []) (w' := (fw z)) (cs' := 0) (ss' := 0) ?_ (fun _ _ => rfl)
  refine go_seg 8 (pc' := 66) (ls' := [(4, .int 13), (3, .int 0), (0, .ref 90), (1, .int 1), (2, .int 7)]) (st' := [.int 1, .int (-1), .int 0]) (w' := (fw z)) (cs' := 0) (ss' := 0) ?_ (fun _ _ => rfl)
  refine go_seg 8 (pc' := 51) (ls' := [(4, .int 14), (3, .int 0), (0, .ref 90), (1, .int 1), (2, .int 7)]) (st' := [.int 64, .int 14]) (w' := (fw z)) (cs' := 0) (ss' := 0) ?_ (fun _ _ => rfl)
  refine go_seg 8 (pc' := 65) (ls' := [(4, .int 14), (3, .int 0), (0, .ref 90), (1, .int 1), (2, .int 7)]) (st' := [.int (-1), .int 0]) (w' := (fw z)) (cs' := 0) (ss' := 0) ?_ (fun _ _ => rfl)
  refine go_seg 8 (pc' := 49) (ls' := [(4, .int 15), (3, .int 0), (0, .ref 90), (1, .int 1), (2, .int 7)]) (st' := [.int 15]) (w' := (fw z)) (cs' := 0) (ss' := 0) ?_ (fun _ _ => rfl)
  refine go_seg 8 (pc' := 64) (ls' := [(4, .int 15), (3, .int 0), (0, .ref 90), (1, .int 1), (2, .int 7)]) (st' := [.int 25, .ref 91, .int 0]) (w' := (fw z)) (cs' := 0) (ss' := 0) ?_ (fun _ _ => rfl)
  refine go_seg 8 (pc' := 47) (ls' := [(4, .int 16), (3, .int 0), (0, .ref 90), (1, .int 1), (2, .int 7)]) (st' := []) (w' := (fw z)) (cs' := 0) (ss' := 0) ?_ (fun _ _ => rfl)
  refine go_seg 8 (pc' := 63) (ls' := [(4, .int 16), (3, .int 0), (0, .ref 90), (1, .int 1), (2, .int 7)]) (st' := [.int 16, .int 10, .ref 91, .int 0]) (w' := (fw z)) (cs' := 0) (ss' := 0) ?_ (fun _ _ => rfl)
  refine go_seg 8 (pc' := 79) (ls' := [(4, .int 17), (3, .int 0), (0, .ref 90), (1, .int 1), (2, .int 7)]) (st' := []) (w' := (fw z)) (cs' := 0) (ss' := 0) ?_ (fun _ _ => rfl)
  refine go_seg 8 (pc' := 61) (ls' := [(4, .int 17), (3, .int 0), (0, .ref 90), (1, .int 1), (2, .int 7)]) (st' := [.int 10, .ref 91, .int 0]) (w' := (fw z)) (cs' := 0) (ss' := 0) ?_ (fun _ _ => rfl)
  refine go_seg 8 (pc' := 76) (ls' := [(3, .int 0), (4, .int 17), (0, .ref 90), (1, .int 1), (2, .int 7)]) (st' := []) (w' := (fw z)) (cs' := 0) (ss' := 0) ?_ (fun _ _ => rfl)
  refine go_seg 8 (pc' := 59) (ls' := [(4, .int 18), (3, .int 0), (0, .ref 90), (1, .int 1), (2, .int 7)]) (st' := [.ref 91, .int 0]) (w' := (fw z)) (cs' := 0) (ss' := 0) ?_ (fun _ _ => rfl)
  refine go_seg 8 (pc' := 75) (ls' := [(4, .int 18), (3, .int 0), (0, .ref 90), (1, .int 1), (2, .int 7)]) (st' := [.int 0]) (w' := (fw z)) (cs' := 0) (ss' := 0) ?_ (fun _ _ => rfl)
  refine go_seg 8 (pc' := 56) (ls' := [(4, .int 19), (3, .int 0), (0, .ref 90), (1, .int 1), (2, .int 7)]) (st' := [.ref 90, .int 0]) (w' := (fw z)) (cs' := 0) (ss' := 0) ?_ (fun _ _ => rfl)
  refine go_seg 8 (pc' := 74) (ls' := [(4, .int 19), (3, .int 0), (0, .ref 90), (1, .int 1), (2, .int 7)]) (st' := [.int 0, .int 0]) (w' := (fw z)) (cs' := 0) (ss' := 0) ?_ (fun _ _ => rfl)
  refine go_seg 8 (pc' := 55) (ls' := [(4, .int 20), (3, .int 0), (0, .ref 90), (1, .int 1), (2, .int 7)]) (st' := [.int 0]) (w' := (fw z)) (cs' := 0) (ss' := 0) ?_ (fun _ _ => rfl)
  refine go_seg 8 (pc' := 73) (ls' := [(4, .int 20), (3, .int 0), (0, .ref 90), (1, .int 1), (2, .int 7)]) (st' := [.int 0]) (w' := (fw z)) (cs' := 0) (ss' := 0) ?_ (fun _ _ => rfl)
  refine go_seg 8 (pc' := 54) (ls' := [(4, .int 21), (3, .int 0), (0, .ref 90), (1, .int 1), (2, .int 7)]) (st' := []) (w' := (fw z)) (cs' := 0) (ss' := 0) ?_ (fun _ _ => rfl)
  refine go_seg 8 (pc' := 66) (ls' := [(4, .int 21), (3, .int 0), (0, .ref 90), (1, .int 1), (2, .int 7)]) (st' := [.int 1, .int (-1), .int 0]) (w' := (fw z)) (cs' := 0) (ss' := 0) ?_ (fun _ _ => rfl)
  refine go_seg 8 (pc' := 51) (ls' := [(4, .int 22), (3, .int 0), (0, .ref 90), (1, .int 1), (2, .int 7)]) (st' := [.int 64, .int 22]) (w' := (fw z)) (cs' := 0) (ss' := 0) ?_ (fun _ _ => rfl)
  refine go_seg 8 (pc' := 65) (ls' := [(4, .int 22), (3, .int 0), (0, .ref 90), (1, .int 1), (2, .int 7)]) (st' := [.int (-1), .int 0]) (w' := (fw z)) (cs' := 0) (ss' := 0) ?_ (fun _ _ => rfl)
  refine go_seg 8 (pc' := 49) (ls' := [(4, .int 23), (3, .int 0), (0, .ref 90), (1, .int 1), (2, .int 7)]) (st' := [.int 23]) (w' := (fw z)) (cs' := 0) (ss' := 0) ?_ (fun _ _ => rfl)
  refine go_seg 8 (pc' := 64) (ls' := [(4, .int 23), (3, .int 0), (0, .ref 90), (1, .int 1), (2, .int 7)]) (st' := [.int 33, .ref 91, .int 0]) (w' := (fw z)) (cs' := 0) (ss' := 0) ?_ (fun _ _ => rfl)
  refine go_seg 8 (pc' := 47) (ls' := [(4, .int 24), (3, .int 0), (0, .ref 90), (1, .int 1), (2, .int 7)]) (st' := []) (w' := (fw z)) (cs' := 0) (ss' := 0) ?_ (fun _ _ => rfl)
  refine go_seg 8 (pc' := 63) (ls' := [(4, .int 24), (3, .int 0), (0, .ref 90), (1, .int 1), (2, .int 7)]) (st' := [.int 24, .int 10, .ref 91, .int 0]) (w' := (fw z)) (cs' := 0) (ss' := 0) ?_ (fun _ _ => rfl)
  refine go_seg 8 (pc' := 79) (ls' := [(4, .int 25), (3, .int 0), (0, .ref 90), (1, .int 1), (2, .int 7)]) (st' := []) (w' := (fw z)) (cs' := 0) (ss' := 0) ?_ (fun _ _ => rfl)
  refine go_seg 8 (pc' := 61) (ls' := [(4, .int 25), (3, .int 0), (0, .ref 90), (1, .int 1), (2, .int 7)]) (st' := [.int 10, .ref 91, .int 0]) (w' := (fw z)) (cs' := 0) (ss' := 0) ?_ (fun _ _ => rfl)
  refine go_seg 8 (pc' := 76) (ls' := [(3, .int 0), (4, .int 25), (0, .ref 90), (1, .int 1), (2, .int 7)]) (st' := []) (w' := (fw z)) (cs' := 0) (ss' := 0) ?_ (fun _ _ => rfl)
  refine go_seg 8 (pc' := 59) (ls' := [(4, .int 26), (3, .int 0), (0, .ref 90), (1, .int 1), (2, .int 7)]) (st' := [.ref 91, .int 0]) (w' := (fw z)) (cs' := 0) (ss' := 0) ?_ (fun _ _ => rfl)
  refine go_seg 8 (pc' := 75) (ls' := [(4, .int 26), (3, .int 0), (0, .ref 90), (1, .int 1), (2, .int 7)]) (st' := [.int 0]) (w' := (fw z)) (cs' := 0) (ss' := 0) ?_ (fun _ _ => rfl)
  refine go_seg 8 (pc' := 56) (ls' := [(4, .int 27), (3, .int 0), (0, .ref 90), (1, .int 1), (2, .int 7)]) (st' := [.ref 90, .int 0]) (w' := (fw z)) (cs' := 0) (ss' := 0) ?_ (fun _ _ => rfl)
  refine go_seg 8 (pc' := 74) (ls' := [(4, .int 27), (3, .int 0), (0, .ref 90), (1, .int 1), (2, .int 7)]) (st' := [.int 0, .int 0]) (w' := (fw z)) (cs' := 0) (ss' := 0) ?_ (fun _ _ => rfl)
  refine go_seg 8 (pc' := 55) (ls' := [(4, .int 28), (3, .int 0), (0, .ref 90), (1, .int 1), (2, .int 7)]) (st' := [.int 0]) (w' := (fw z)) (cs' := 0) (ss' := 0) ?_ (fun _ _ => rfl)
  refine go_seg 8 (pc' := 73) (ls' := [(4, .int 28), (3, .int 0), (0, .ref 90), (1, .int 1), (2, .int 7)]) (st' := [.int 0]) (w' := (fw z)) (cs' := 0) (ss' := 0) ?_ (fun _ _ => rfl)
  refine go_seg 8 (pc' := 54) (ls' := [(4, .int 29), (3, .int 0), (0, .ref 90), (1, .int 1), (2, .int 7)]) (st' := []) (w' := (fw z)) (cs' := 0) (ss' := 0) ?_ (fun _ _ => rfl)
  refine go_seg 8 (pc' := 66) (ls' := [(4, .int 29), (3, .int 0), (0, .ref 90), (1, .int 1), (2, .int 7)]) (st' := [.int 1, .int (-1), .int 0]) (w' := (fw z)) (cs' := 0) (ss' := 0) ?_ (fun _ _ => rfl)
  refine go_seg 8 (pc' := 51) (ls' := [(4, .int 30), (3, .int 0), (0, .ref 90), (1, .int 1), (2, .int 7)]) (st' := [.int 64, .int 30]) (w' := (fw z)) (cs' := 0) (ss' := 0) ?_ (fun _ _ => rfl)
  refine go_seg 8 (pc' := 65) (ls' := [(4, .int 30), (3, .int 0), (0, .ref 90), (1, .int 1), (2, .int 7)]) (st' := [.int (-1), .int 0]) (w' := (fw z)) (cs' := 0) (ss' := 0) ?_ (fun _ _ => rfl)
  refine go_seg 8 (pc' := 49) (ls' := [(4, .int 31), (3, .int 0), (0, .ref 90), (1, .int 1), (2, .int 7)]) (st' := [.int 31]) (w' := (fw z)) (cs' := 0) (ss' := 0) ?_ (fun _ _ => rfl)
  refine go_seg 8 (pc' := 64) (ls' := [(4, .int 31), (3, .int 0), (0, .ref 90), (1, .int 1), (2, .int 7)]) (st' := [.int 41, .ref 91, .int 0]) (w' := (fw z)) (cs' := 0) (ss' := 0) ?_ (fun _ _ => rfl)
  refine go_seg 8 (pc' := 47) (ls' := [(4, .int 32), (3, .int 0), (0, .ref 90), (1, .int 1), (2, .int 7)]) (st' := []) (w' := (fw z)) (cs' := 0) (ss' := 0) ?_ (fun _ _ => rfl)
  refine go_seg 8 (pc' := 63) (ls' := [(4, .int 32), (3, .int 0), (0, .ref 90), (1, .int 1), (2, .int 7)]) (st' := [.int 32, .int 10, .ref 91, .int 0]) (w' := (fw z)) (cs' := 0) (ss' := 0) ?_ (fun _ _ => rfl)
  refine go_seg 8 (pc' := 79) (ls' := [(4, .int 33), (3, .int 0), (0, .ref 90), (1, .int 1), (2, .int 7)]) (st' := []) (w' := (fw z)) (cs' := 0) (ss' := 0) ?_ (fun _ _ => rfl)
  refine go_seg 8 (pc' := 61) (ls' := [(4, .int 33), (3, .int 0), (0, .ref 90), (1, .int 1), (2, .int 7)]) (st' := [.int 10, .ref 91, .int 0]) (w' := (fw z)) (cs' := 0) (ss' := 0) ?_ (fun _ _ => rfl)
  refine go_seg 8 (pc' := 76) (ls' := [(3, .int 0), (4, .int 33), (0, .ref 90), (1, .int 1), (2, .int 7)]) (st' := []) (w' := (fw z)) (cs' := 0) (ss' := 0) ?_ (fun _ _ => rfl)
  refine go_seg 8 (pc' := 59) (ls' := [(4, .int 34), (3, .int 0), (0, .ref 90), (1, .int 1), (2, .int 7)]) (st' := [.ref 91, .int 0]) (w' := (fw z)) (cs' := 0) (ss' := 0) ?_ (fun _ _ => rfl)
  refine go_seg 8 (pc' := 75) (ls' := [(4, .int 34), (3, .int 0), (0, .ref 90), (1, .int 1), (2, .int 7)]) (st' := [.int 0]) (w' := (fw z)) (cs' := 0) (ss' := 0) ?_ (fun _ _ => rfl)
  refine go_seg 8 (pc' := 56) (ls' := [(4, .int 35), (3, .int 0), (0, .ref 90), (1, .int 1), (2, .int 7)]) (st' := [.ref 90, .int 0]) (w' := (fw z)) (cs' := 0) (ss' := 0) ?_ (fun _ _ => rfl)
  refine go_seg 8 (pc' := 74) (ls' := [(4, .int 35), (3, .int 0), (0, .ref 90), (1, .int 1), (2, .int 7)]) (st' := [.int 0, .int 0]) (w' := (fw z)) (cs' := 0) (ss' := 0) ?_ (fun _ _ => rfl)
  refine go_seg 8 (pc' := 55) (ls' := [(4, .int 36), (3, .int 0), (0, .ref 90), (1, .int 1), (2, .int 7)]) (st' := [.int 0]) (w' := (fw z)) (cs' := 0) (ss' := 0) ?_ (fun _ _ => rfl)
  refine go_seg 8 (pc' := 73) (ls' := [(4, .int 36), (3, .int 0), (0, .ref 90), (1, .int 1), (2, .int 7)]) (st' := [.int 0]) (w' := (fw z)) (cs' := 0) (ss' := 0) ?_ (fun _ _ => rfl)
  refine go_seg 8 (pc' := 54) (ls' := [(4, .int 37), (3, .int 0), (0, .ref 90), (1, .int 1), (2, .int 7)]) (st' := []) (w' := (fw z)) (cs' := 0) (ss' := 0) ?_ (fun _ _ => rfl)
  refine go_seg 8 (pc' := 66) (ls' := [(4, .int 37), (3, .int 0), (0, .ref 90), (1, .int 1), (2, .int 7)]) (st' := [.int 1, .int (-1), .int 0]) (w' := (fw z)) (cs' := 0) (ss' := 0) ?_ (fun _ _ => rfl)
  refine go_seg 8 (pc' := 51) (ls' := [(4, .int 38), (3, .int 0), (0, .ref 90), (1, .int 1), (2, .int 7)]) (st' := [.int 64, .int 38]) (w' := (fw z)) (cs' := 0) (ss' := 0) ?_ (fun _ _ => rfl)
  refine go_seg 8 (pc' := 65) (ls' := [(4, .int 38), (3, .int 0), (0, .ref 90), (1, .int 1), (2, .int 7)]) (st' := [.int (-1), .int 0]) (w' := (fw z)) (cs' := 0) (ss' := 0) ?_ (fun _ _ => rfl)
  refine go_seg 8 (pc' := 49) (ls' := [(4, .int 39), (3, .int 0), (0, .ref 90), (1, .int 1), (2, .int 7)]) (st' := [.int 39]) (w' := (fw z)) (cs' := 0) (ss' := 0) ?_ (fun _ _ => rfl)
  refine go_seg 8 (pc' := 64) (ls' := [(4, .int 39), (3, .int 0), (0, .ref 90), (1, .int 1), (2, .int 7)]) (st' := [.int 49, .ref 91, .int 0]) (w' := (fw z)) (cs' := 0) (ss' := 0) ?_ (fun _ _ => rfl)
  refine go_seg 8 (pc' := 47) (ls' := [(4, .int 40), (3, .int 0), (0, .ref 90), (1, .int 1), (2, .int 7)]) (st' := []) (w' := (fw z)) (cs' := 0) (ss' := 0) ?_ (fun _ _ => rfl)
  refine go_seg 8 (pc' := 63) (ls' := [(4, .int 40), (3, .int 0), (0, .ref 90), (1, .int 1), (2, .int 7)]) (st' := [.int 40, .int 10, .ref 91, .int 0]) (w' := (fw z)) (cs' := 0) (ss' := 0) ?_ (fun _ _ => rfl)
  refine go_seg 8 (pc' := 79) (ls' := [(4, .int 41), (3, .int 0), (0, .ref 90), (1, .int 1), (2, .int 7)]) (st' := []) (w' := (fw z)) (cs' := 0) (ss' := 0) ?_ (fun _ _ => rfl)
  refine go_seg 8 (pc' := 61) (ls' := [(4, .int 41), (3, .int 0), (0, .ref 90), (1, .int 1), (2, .int 7)]) (st' := [.int 10, .ref 91, .int 0]) (w' := (fw z)) (cs' := 0) (ss' := 0) ?_ (fun _ _ => rfl)
  refine go_seg 8 (pc' := 76) (ls' := [(3, .int 0), (4, .int 41), (0, .ref 90), (1, .int 1), (2, .int 7)]) (st' := []) (w' := (fw z)) (cs' := 0) (ss' := 0) ?_ (fun _ _ => rfl)
  refine go_seg 8 (pc' := 59) (ls' := [(4, .int 42), (3, .int 0), (0, .ref 90), (1, .int 1), (2, .int 7)]) (st' := [.ref 91, .int 0]) (w' := (fw z)) (cs' := 0) (ss' := 0) ?_ (fun _ _ => rfl)
  refine go_seg 8 (pc' := 75) (ls' := [(4, .int 42), (3, .int 0), (0, .ref 90), (1, .int 1), (2, .int 7)]) (st' := [.int 0]) (w' := (fw z)) (cs' := 0) (ss' := 0) ?_ (fun _ _ => rfl)
  refine go_seg 8 (pc' := 56) (ls' := [(4, .int 43), (3, .int 0), (0, .ref 90), (1, .int 1), (2, .int 7)]) (st' := [.ref 90, .int 0]) (w' := (fw z)) (cs' := 0) (ss' := 0) ?_ (fun _ _ => rfl)
  refine go_seg 8 (pc' := 74) (ls' := [(4, .int 43), (3, .int 0), (0, .ref 90), (1, .int 1), (2, .int 7)]) (st' := [.int 0, .int 0]) (w' := (fw z)) (cs' := 0) (ss' := 0) ?_ (fun _ _ => rfl)
  refine go_seg 8 (pc' := 55) (ls' := [(4, .int 44), (3, .int 0), (0, .ref 90), (1, .int 1), (2, .int 7)]) (st' := [.int 0]) (w' := (fw z)) (cs' := 0) (ss' := 0) ?_ (fun _ _ => rfl)
  refine go_seg 8 (pc' := 73) (ls' := [(4, .int 44), (3, .int 0), (0, .ref 90), (1, .int 1), (2, .int 7)]) (st' := [.int 0]) (w' := (fw z)) (cs' := 0) (ss' := 0) ?_ (fun _ _ => rfl)
  refine go_seg 8 (pc' := 54) (ls' := [(4, .int 45), (3, .int 0), (0, .ref 90), (1, .int 1), (2, .int 7)]) (st' := []) (w' := (fw z)) (cs' := 0) (ss' := 0) ?_ (fun _ _ => rfl)
  refine go_seg 8 (pc' := 66) (ls' := [(4, .int 45), (3, .int 0), (0, .ref 90), (1, .int 1), (2, .int 7)]) (st' := [.int 1, .int (-1), .int 0]) (w' := (fw z)) (cs' := 0) (ss' := 0) ?_ (fun _ _ => rfl)
  refine go_seg 8 (pc' := 51) (ls' := [(4, .int 46), (3, .int 0), (0, .ref 90), (1, .int 1), (2, .int 7)]) (st' := [.int 64, .int 46]) (w' := (fw z)) (cs' := 0) (ss' := 0) ?_ (fun _ _ => rfl)
  refine go_seg 8 (pc' := 65) (ls' := [(4, .int 46), (3, .int 0), (0, .ref 90), (1, .int 1), (2, .int 7)]) (st' := [.int (-1), .int 0]) (w' := (fw z)) (cs' := 0) (ss' := 0) ?_ (fun _ _ => rfl)
  refine go_seg 8 (pc' := 49) (ls' := [(4, .int 47), (3, .int 0), (0, .ref 90), (1, .int 1), (2, .int 7)]) (st' := [.int 47]) (w' := (fw z)) (cs' := 0) (ss' := 0) ?_ (fun _ _ => rfl)
  refine go_seg 8 (pc' := 64) (ls' := [(4, .int 47), (3, .int 0), (0, .ref 90), (1, .int 1), (2, .int 7)]) (st' := [.int 57, .ref 91, .int 0]) (w' := (fw z)) (cs' := 0) (ss' := 0) ?_ (fun _ _ => rfl)
  refine go_seg 8 (pc' := 47) (ls' := [(4, .int 48), (3, .int 0), (0, .ref 90), (1, .int 1), (2, .int 7)]) (st' := []) (w' := (fw z)) (cs' := 0) (ss' := 0) ?_ (fun _ _ => rfl)
  refine go_seg 8 (pc' := 63) (ls' := [(4, .int 48), (3, .int 0), (0, .ref 90), (1, .int 1), (2, .int 7)]) (st' := [.int 48, .int 10, .ref 91, .int 0]) (w' := (fw z)) (cs' := 0) (ss' := 0) ?_ (fun _ _ => rfl)
  refine go_seg 8 (pc' := 79) (ls' := [(4, .int 49), (3, .int 0), (0, .ref 90), (1, .int 1), (2, .int 7)]) (st' := []) (w' := (fw z)) (cs' := 0) (ss' := 0) ?_ (fun _ _ => rfl)
  refine go_seg 8 (pc' := 61) (ls' := [(4, .int 49), (3, .int 0), (0, .ref 90), (1, .int 1), (2, .int 7)]) (st' := [.int 10, .ref 91, .int 0]) (w' := (fw z)) (cs' := 0) (ss' := 0) ?_ (fun _ _ => rfl)
  refine go_seg 8 (pc' := 76) (ls' := [(3, .int 0), (4, .int 49), (0, .ref 90), (1, .int 1), (2, .int 7)]) (st' := []) (w' := (fw z)) (cs' := 0) (ss' := 0) ?_ (fun _ _ => rfl)
  refine go_seg 8 (pc' := 59) (ls' := [(4, .int 50), (3, .int 0), (0, .ref 90), (1, .int 1), (2, .int 7)]) (st' := [.ref 91, .int 0]) (w' := (fw z)) (cs' := 0) (ss' := 0) ?_ (fun _ _ => rfl)
  refine go_seg 8 (pc' := 75) (ls' := [(4, .int 50), (3, .int 0), (0, .ref 90), (1, .int 1), (2, .int 7)]) (st' := [.int 0]) (w' := (fw z)) (cs' := 0) (ss' := 0) ?_ (fun _ _ => rfl)
  refine go_seg 8 (pc' := 56) (ls' := [(4, .int 51), (3, .int 0), (0, .ref 90), (1, .int 1), (2, .int 7)]) (st' := [.ref 90, .int 0]) (w' := (fw z)) (cs' := 0) (ss' := 0) ?_ (fun _ _ => rfl)
  refine go_seg 8 (pc' := 74) (ls' := [(4, .int 51), (3, .int 0), (0, .ref 90), (1, .int 1), (2, .int 7)]) (st' := [.int 0, .int 0]) (w' := (fw z)) (cs' := 0) (ss' := 0) ?_ (fun _ _ => rfl)
  refine go_seg 8 (pc' := 55) (ls' := [(4, .int 52), (3, .int 0), (0, .ref 90), (1, .int 1), (2, .int 7)]) (st' := [.int 0]) (w' := (fw z)) (cs' := 0) (ss' := 0) ?_ (fun _ _ => rfl)
  refine go_seg 8 (pc' := 73) (ls' := [(4, .int 52), (3, .int 0), (0, .ref 90), (1, .int 1), (2, .int 7)]) (st' := [.int 0]) (w' := (fw z)) (cs' := 0) (ss' := 0) ?_ (fun _ _ => rfl)
  refine go_seg 8 (pc' := 54) (ls' := [(4, .int 53), (3, .int 0), (0, .ref 90), (1, .int 1), (2, .int 7)]) (st' := []) (w' := (fw z)) (cs' := 0) (ss' := 0) ?_ (fun _ _ => rfl)
  refine go_seg 8 (pc' := 66) (ls' := [(4, .int 53), (3, .int 0), (0, .ref 90), (1, .int 1), (2, .int 7)]) (st' := [.int 1, .int (-1), .int 0]) (w' := (fw z)) (cs' := 0) (ss' := 0) ?_ (fun _ _ => rfl)
  refine go_seg 8 (pc' := 51) (ls' := [(4, .int 54), (3, .int 0), (0, .ref 90), (1, .int 1), (2, .int 7)]) (st' := [.int 64, .int 54]) (w' := (fw z)) (cs' := 0) (ss' := 0) ?_ (fun _ _ => rfl)
  refine go_seg 8 (pc' := 65) (ls' := [(4, .int 54), (3, .int 0), (0, .ref 90), (1, .int 1), (2, .int 7)]) (st' := [.int (-1), .int 0]) (w' := (fw z)) (cs' := 0) (ss' := 0) ?_ (fun _ _ => rfl)
  refine go_seg 8 (pc' := 49) (ls' := [(4, .int 55), (3, .int 0), (0, .ref 90), (1, .int 1), (2, .int 7)]) (st' := [.int 55]) (w' := (fw z)) (cs' := 0) (ss' := 0) ?_ (fun _ _ => rfl)
  refine go_seg 8 (pc' := 64) (ls' := [(4, .int 55), (3, .int 0), (0, .ref 90), (1, .int 1), (2, .int 7)]) (st' := [.int 65, .ref 91, .int 0]) (w' := (fw z)) (cs' := 0) (ss' := 0) ?_ (fun _ _ => rfl)
  refine go_seg 8 (pc' := 47) (ls' := [(4, .int 56), (3, .int 0), (0, .ref 90), (1, .int 1), (2, .int 7)]) (st' := []) (w' := (fw z)) (cs' := 0) (ss' := 0) ?_ (fun _ _ => rfl)
  refine go_seg 8 (pc' := 63) (ls' := [(4, .int 56), (3, .int 0), (0, .ref 90), (1, .int 1), (2, .int 7)]) (st' := [.int 56, .int 10, .ref 91, .int 0]) (w' := (fw z)) (cs' := 0) (ss' := 0) ?_ (fun _ _ => rfl)
  refine go_seg 8 (pc' := 79) (ls' := [(4, .int 57), (3, .int 0), (0, .ref 90), (1, .int 1), (2, .int 7)]) (st' := []) (w' := (fw z)) (cs' := 0) (ss' := 0) ?_ (fun _ _ => rfl)
  refine go_seg 8 (pc' := 61) (ls' := [(4, .int 57), (3, .int 0), (0, .ref 90), (1, .int 1), (2, .int 7)]) (st' := [.int 10, .ref 91, .int 0]) (w' := (fw z)) (cs' := 0) (ss' := 0) ?_ (fun _ _ => rfl)
  refine go_seg 8 (pc' := 76) (ls' := [(3, .int 0), (4, .int 57), (0, .ref 90), (1, .int 1), (2, .int 7)]) (st' := []) (w' := (fw z)) (cs' := 0) (ss' := 0) ?_ (fun _ _ => rfl)
  refine go_seg 8 (pc' := 59) (ls' := [(4, .int 58), (3, .int 0), (0, .ref 90), (1, .int 1), (2, .int 7)]) (st' := [.ref 91, .int 0]) (w' := (fw z)) (cs' := 0) (ss' := 0) ?_ (fun _ _ => rfl)
  refine go_seg 8 (pc' := 75) (ls' := [(4, .int 58), (3, .int 0), (0, .ref 90), (1, .int 1), (2, .int 7)]) (st' := [.int 0]) (w' := (fw z)) (cs' := 0) (ss' := 0) ?_ (fun _ _ => rfl)
  refine go_seg 8 (pc' := 56) (ls' := [(4, .int 59), (3, .int 0), (0, .ref 90), (1, .int 1), (2, .int 7)]) (st' := [.ref 90, .int 0]) (w' := (fw z)) (cs' := 0) (ss' := 0) ?_ (fun _ _ => rfl)
  refine go_seg 8 (pc' := 74) (ls' := [(4, .int 59), (3, .int 0), (0, .ref 90), (1, .int 1), (2, .int 7)]) (st' := [.int 0, .int 0]) (w' := (fw z)) (cs' := 0) (ss' := 0) ?_ (fun _ _ => rfl)
  refine go_seg 8 (pc' := 55) (ls' := [(4, .int 60), (3, .int 0), (0, .ref 90), (1, .int 1), (2, .int 7)]) (st' := [.int 0]) (w' := (fw z)) (cs' := 0) (ss' := 0) ?_ (fun _ _ => rfl)
  refine go_seg 8 (pc' := 73) (ls' := [(4, .int 60), (3, .int 0), (0, .ref 90), (1, .int 1), (2, .int 7)]) (st' := [.int 0]) (w' := (fw z)) (cs' := 0) (ss' := 0) ?_ (fun _ _ => rfl)
  refine go_seg 8 (pc' := 54) (ls' := [(4, .int 61), (3, .int 0), (0, .ref 90), (1, .int 1), (2, .int 7)]) (st' := []) (w' := (fw z)) (cs' := 0) (ss' := 0) ?_ (fun _ _ => rfl)
  refine go_seg 8 (pc' := 66) (ls' := [(4, .int 61), (3, .int 0), (0, .ref 90), (1, .int 1), (2, .int 7)]) (st' := [.int 1, .int (-1), .int 0]) (w' := (fw z)) (cs' := 0) (ss' := 0) ?_ (fun _ _ => rfl)
  refine go_seg 8 (pc' := 51) (ls' := [(4, .int 62), (3, .int 0), (0, .ref 90), (1, .int 1), (2, .int 7)]) (st' := [.int 64, .int 62]) (w' := (fw z)) (cs' := 0) (ss' := 0) ?_ (fun _ _ => rfl)
  refine go_seg 8 (pc' := 65) (ls' := [(4, .int 62), (3, .int 0), (0, .ref 90), (1, .int 1), (2, .int 7)]) (st' := [.int (-1), .int 0]) (w' := (fw z)) (cs' := 0) (ss' := 0) ?_ (fun _ _ => rfl)
  refine go_seg 8 (pc' := 49) (ls' := [(4, .int 63), (3, .int 0), (0, .ref 90), (1, .int 1), (2, .int 7)]) (st' := [.int 63]) (w' := (fw z)) (cs' := 0) (ss' := 0) ?_ (fun _ _ => rfl)
  refine go_seg 8 (pc' := 64) (ls' := [(4, .int 63), (3, .int 0), (0, .ref 90), (1, .int 1), (2, .int 7)]) (st' := [.int 73, .ref 91, .int 0]) (w' := (fw z)) (cs' := 0) (ss' := 0) ?_ (fun _ _ => rfl)
  refine go_seg 8 (pc' := 47) (ls' := [(4, .int 64), (3, .int 0), (0, .ref 90), (1, .int 1), (2, .int 7)]) (st' := []) (w' := (fw z)) (cs' := 0) (ss' := 0) ?_ (fun _ _ => rfl)
  refine go_seg 8 (pc' := 94) (ls' := [(4, .int 64), (3, .int 0), (0, .ref 90), (1, .int 1), (2, .int 7)]) (st' := [.int 6, .int 7]) (w' := (fw z)) (cs' := 0) (ss' := 0) ?_ (fun _ _ => rfl)
  refine go_seg 5 (pc' := 111) (ls' := [(4, .int 64), (3, .int 0), (0, .ref 90), (1, .int 1), (2, .int 7)]) (st' := [.int 5, .int 1, .ref 91]) (w' := (fw z)) (cs' := 0) (ss' := 0) ?_ (fun _ _ => rfl)
  refine go_cl (k := 2) (st' := [.int 149, .ref 91]) (cs' := 0) (ss' := 0) rfl rfl rfl rfl rfl rfl rfl (ro_488 z) ?_
  exact go_end 2 (fun _ _ => rfl)
theorem lf_4_1155 (a0 : Int32) (a3 : Int32) (a4 : Int32) (a5 : Int32) : ∃ w', pq_Go 20 pm_law 370 [(3, .int 0), (2, .ref 90), (1, .ref 1), (0, .ref 0)] [] (fw (sz a0 1 7 a3 a4 a5)) 109 12668 (some (.int 1), w') := by
  refine ⟨(fw (sz a0 1 7 a3 a4 a5)), ?_⟩
  refine go_seg 8 (pc' := 378) (ls' := [(3, .int 0), (2, .ref 90), (1, .ref 1), (0, .ref 0)]) (st' := [.int 0, .ref 0, .int 1, .ref 1]) (w' := (fw (sz a0 1 7 a3 a4 a5))) (cs' := 109) (ss' := 12668) ?_ (fun _ _ => rfl)
  refine go_seg 3 (pc' := 381) (ls' := [(3, .int 0), (2, .ref 90), (1, .ref 1), (0, .ref 0)]) (st' := [.int 7, .int 1, .ref 1]) (w' := (fw (sz a0 1 7 a3 a4 a5))) (cs' := 109) (ss' := 12668) ?_ (fun _ _ => rfl)
  refine go_cl (k := 20) (st' := [.int 0]) (cs' := 109) (ss' := 12668) rfl rfl rfl rfl rfl rfl rfl (ro_1153 (sz a0 1 7 a3 a4 a5)) ?_
  refine go_seg 8 (pc' := 392) (ls' := [(3, .int 0), (2, .ref 90), (1, .ref 1), (0, .ref 0)]) (st' := [.int 0, .ref 0, .int 1, .ref 90, .int 0]) (w' := (fw (sz a0 1 7 a3 a4 a5))) (cs' := 109) (ss' := 12668) ?_ (fun _ _ => rfl)
  refine go_seg 3 (pc' := 395) (ls' := [(3, .int 0), (2, .ref 90), (1, .ref 1), (0, .ref 0)]) (st' := [.int 7, .int 1, .ref 90, .int 0]) (w' := (fw (sz a0 1 7 a3 a4 a5))) (cs' := 109) (ss' := 12668) ?_ (fun _ _ => rfl)
  refine go_cl (k := 20) (st' := [.int 0, .int 0]) (cs' := 109) (ss' := 12668) rfl rfl rfl rfl rfl rfl rfl (ro_1154 (sz a0 1 7 a3 a4 a5)) ?_
  refine go_cmp true rfl (br_self _) ?_
  exact law_tail (f := sc a0 1 7 a3 a4 a5) rfl
theorem ro_1156 (z : pq_C) : pq_Ru 2 25 [.ref 1, .int 2, .int 7] (fw z) (some (.int 0), (fw z)) := by
  refine ru_of (k := 1) (M := pm_25) rfl rfl ?_
  refine go_seg 1 (pc' := 1) (ls' := [(0, .ref 1), (1, .int 2), (2, .int 7)]) (st' := [.int 2]) (w' := (fw z)) (cs' := 0) (ss' := 0) ?_ (fun _ _ => rfl)
  refine go_cl (k := 1) (st' := [.int 1]) (cs' := 0) (ss' := 0) rfl rfl rfl rfl rfl rfl rfl (ro_567 z) ?_
  refine go_seg 8 (pc' := 137) (ls' := [(0, .ref 1), (1, .int 2), (2, .int 7)]) (st' := [.int 0]) (w' := (fw z)) (cs' := 0) (ss' := 0) ?_ (fun _ _ => rfl)
  exact go_end 1 (fun _ _ => rfl)
theorem ro_1157 (z : pq_C) : pq_Ru 3 169 [.ref 90, .int 2, .int 7] (fw z) (some (.int 0), (fw z)) := by
  refine ru_of (k := 2) (M := pm_169) rfl rfl ?_
  refine go_seg 1 (pc' := 1) (ls' := [(0, .ref 90), (1, .int 2), (2, .int 7)]) (st' := [.int 2]) (w' := (fw z)) (cs' := 0) (ss' := 0) ?_ (fun _ _ => rfl)
  refine go_cl (k := 2) (st' := [.int 1]) (cs' := 0) (ss' := 0) rfl rfl rfl rfl rfl rfl rfl (ro_952 z) ?_
  refine go_seg 5 (pc' := 13) (ls' := [(0, .ref 90), (1, .int 2), (2, .int 7)]) (st' := [.long 7, .long 0, .long 7]) (w' := (fw z)) (cs' := 0) (ss' := 0) ?_ (fun _ _ => rfl)
  refine go_cl (k := 2) (st' := [.int 1]) (cs' := 0) (ss' := 0) rfl rfl rfl rfl rfl rfl rfl (ro_981 z) ?_
  refine go_seg 8 (pc' := 47) (ls' := [(4, .int 0), (3, .int 0), (0, .ref 90), (1, .int 2), (2, .int 7)]) (st' := []) (w' := (fw z)) (cs' := 0) (ss' := 0) ?_ (fun _ _ => rfl)
  refine go_seg 8 (pc' := 63) (ls' := [(4, .int 0), (3, .int 0), (0, .ref 90), (1, .int 2), (2, .int 7)]) (st' := [.int 0, .int 10, .ref 91, .int 0]) (w' := (fw z)) (cs' := 0) (ss' := 0) ?_ (fun _ _ => rfl)
  refine go_seg 8 (pc' := 79) (ls' := [(4, .int 1), (3, .int 0), (0, .ref 90), (1, .int 2), (2, .int 7)]) (st' := []) (w' := (fw z)) (cs' := 0) (ss' := 0) ?_ (fun _ _ => rfl)
  refine go_seg 8 (pc' := 61) (ls' := [(4, .int 1), (3, .int 0), (0, .ref 90), (1, .int 2), (2, .int 7)]) (st' := [.int 10, .ref 91, .int 0]) (w' := (fw z)) (cs' := 0) (ss' := 0) ?_ (fun _ _ => rfl)
  refine go_seg 8 (pc' := 76) (ls' := [(3, .int 0), (4, .int 1), (0, .ref 90), (1, .int 2), (2, .int 7)]) (st' := []) (w' := (fw z)) (cs' := 0) (ss' := 0) ?_ (fun _ _ => rfl)
  refine go_seg 8 (pc' := 59) (ls' := [(4, .int 2), (3, .int 0), (0, .ref 90), (1, .int 2), (2, .int 7)]) (st' := [.ref 91, .int 0]) (w' := (fw z)) (cs' := 0) (ss' := 0) ?_ (fun _ _ => rfl)
  refine go_seg 8 (pc' := 75) (ls' := [(4, .int 2), (3, .int 0), (0, .ref 90), (1, .int 2), (2, .int 7)]) (st' := [.int 0]) (w' := (fw z)) (cs' := 0) (ss' := 0) ?_ (fun _ _ => rfl)
  refine go_seg 8 (pc' := 56) (ls' := [(4, .int 3), (3, .int 0), (0, .ref 90), (1, .int 2), (2, .int 7)]) (st' := [.ref 90, .int 0]) (w' := (fw z)) (cs' := 0) (ss' := 0) ?_ (fun _ _ => rfl)
  refine go_seg 8 (pc' := 74) (ls' := [(4, .int 3), (3, .int 0), (0, .ref 90), (1, .int 2), (2, .int 7)]) (st' := [.int 0, .int 0]) (w' := (fw z)) (cs' := 0) (ss' := 0) ?_ (fun _ _ => rfl)
  refine go_seg 8 (pc' := 55) (ls' := [(4, .int 4), (3, .int 0), (0, .ref 90), (1, .int 2), (2, .int 7)]) (st' := [.int 0]) (w' := (fw z)) (cs' := 0) (ss' := 0) ?_ (fun _ _ => rfl)
  refine go_seg 8 (pc' := 73) (ls' := [(4, .int 4), (3, .int 0), (0, .ref 90), (1, .int 2), (2, .int 7)]) (st' := [.int 0]) (w' := (fw z)) (cs' := 0) (ss' := 0) ?_ (fun _ _ => rfl)
  refine go_seg 8 (pc' := 54) (ls' := [(4, .int 5), (3, .int 0), (0, .ref 90), (1, .int 2), (2, .int 7)]) (st' := []) (w' := (fw z)) (cs' := 0) (ss' := 0) ?_ (fun _ _ => rfl)
  refine go_seg 8 (pc' := 66) (ls' := [(4, .int 5), (3, .int 0), (0, .ref 90), (1, .int 2), (2, .int 7)]) (st' := [.int 2, .int (-1), .int 0]) (w' := (fw z)) (cs' := 0) (ss' := 0) ?_ (fun _ _ => rfl)
  refine go_seg 8 (pc' := 51) (ls' := [(4, .int 6), (3, .int 0), (0, .ref 90), (1, .int 2), (2, .int 7)]) (st' := [.int 64, .int 6]) (w' := (fw z)) (cs' := 0) (ss' := 0) ?_ (fun _ _ => rfl)
  refine go_seg 8 (pc' := 65) (ls' := [(4, .int 6), (3, .int 0), (0, .ref 90), (1, .int 2), (2, .int 7)]) (st' := [.int (-1), .int 0]) (w' := (fw z)) (cs' := 0) (ss' := 0) ?_ (fun _ _ => rfl)
  refine go_seg 8 (pc' := 49) (ls' := [(4, .int 7), (3, .int 0), (0, .ref 90), (1, .int 2), (2, .int 7)]) (st' := [.int 7]) (w' := (fw z)) (cs' := 0) (ss' := 0) ?_ (fun _ _ => rfl)
  refine go_seg 8 (pc' := 64) (ls' := [(4, .int 7), (3, .int 0), (0, .ref 90), (1, .int 2), (2, .int 7)]) (st' := [.int 17, .ref 91, .int 0]) (w' := (fw z)) (cs' := 0) (ss' := 0) ?_ (fun _ _ => rfl)
  refine go_seg 8 (pc' := 47) (ls' := [(4, .int 8), (3, .int 0), (0, .ref 90), (1, .int 2), (2, .int 7)]) (st' := []) (w' := (fw z)) (cs' := 0) (ss' := 0) ?_ (fun _ _ => rfl)
  refine go_seg 8 (pc' := 63) (ls' := [(4, .int 8), (3, .int 0), (0, .ref 90), (1, .int 2), (2, .int 7)]) (st' := [.int 8, .int 10, .ref 91, .int 0]) (w' := (fw z)) (cs' := 0) (ss' := 0) ?_ (fun _ _ => rfl)
  refine go_seg 8 (pc' := 79) (ls' := [(4, .int 9), (3, .int 0), (0, .ref 90), (1, .int 2), (2, .int 7)]) (st' := []) (w' := (fw z)) (cs' := 0) (ss' := 0) ?_ (fun _ _ => rfl)
  refine go_seg 8 (pc' := 61) (ls' := [(4, .int 9), (3, .int 0), (0, .ref 90), (1, .int 2), (2, .int 7)]) (st' := [.int 10, .ref 91, .int 0]) (w' := (fw z)) (cs' := 0) (ss' := 0) ?_ (fun _ _ => rfl)
  refine go_seg 8 (pc' := 76) (ls' := [(3, .int 0), (4, .int 9), (0, .ref 90), (1, .int 2), (2, .int 7)]) (st' := []) (w' := (fw z)) (cs' := 0) (ss' := 0) ?_ (fun _ _ => rfl)
  refine go_seg 8 (pc' := 59) (ls' := [(4, .int 10), (3, .int 0), (0, .ref 90), (1, .int 2), (2, .int 7)]) (st' := [.ref 91, .int 0]) (w' := (fw z)) (cs' := 0) (ss' := 0) ?_ (fun _ _ => rfl)
  refine go_seg 8 (pc' := 75) (ls' := [(4, .int 10), (3, .int 0), (0, .ref 90), (1, .int 2), (2, .int 7)]) (st' := [.int 0]) (w' := (fw z)) (cs' := 0) (ss' := 0) ?_ (fun _ _ => rfl)
  refine go_seg 8 (pc' := 56) (ls' := [(4, .int 11), (3, .int 0), (0, .ref 90), (1, .int 2), (2, .int 7)]) (st' := [.ref 90, .int 0]) (w' := (fw z)) (cs' := 0) (ss' := 0) ?_ (fun _ _ => rfl)
  refine go_seg 8 (pc' := 74) (ls' := [(4, .int 11), (3, .int 0), (0, .ref 90), (1, .int 2), (2, .int 7)]) (st' := [.int 0, .int 0]) (w' := (fw z)) (cs' := 0) (ss' := 0) ?_ (fun _ _ => rfl)
  refine go_seg 8 (pc' := 55) (ls' := [(4, .int 12), (3, .int 0), (0, .ref 90), (1, .int 2), (2, .int 7)]) (st' := [.int 0]) (w' := (fw z)) (cs' := 0) (ss' := 0) ?_ (fun _ _ => rfl)
  refine go_seg 8 (pc' := 73) (ls' := [(4, .int 12), (3, .int 0), (0, .ref 90), (1, .int 2), (2, .int 7)]) (st' := [.int 0]) (w' := (fw z)) (cs' := 0) (ss' := 0) ?_ (fun _ _ => rfl)
  refine go_seg 8 (pc' := 54) (ls' := [(4, .int 13), (3, .int 0), (0, .ref 90), (1, .int 2), (2, .int 7)]) (st' := []) (w' := (fw z)) (cs' := 0) (ss' := 0) ?_ (fun _ _ => rfl)
  refine go_seg 8 (pc' := 66) (ls' := [(4, .int 13), (3, .int 0), (0, .ref 90), (1, .int 2), (2, .int 7)]) (st' := [.int 2, .int (-1), .int 0]) (w' := (fw z)) (cs' := 0) (ss' := 0) ?_ (fun _ _ => rfl)
  refine go_seg 8 (pc' := 51) (ls' := [(4, .int 14), (3, .int 0), (0, .ref 90), (1, .int 2), (2, .int 7)]) (st' := [.int 64, .int 14]) (w' := (fw z)) (cs' := 0) (ss' := 0) ?_ (fun _ _ => rfl)
  refine go_seg 8 (pc' := 65) (ls' := [(4, .int 14), (3, .int 0), (0, .ref 90), (1, .int 2), (2, .int 7)]) (st' := [.int (-1), .int 0]) (w' := (fw z)) (cs' := 0) (ss' := 0) ?_ (fun _ _ => rfl)
  refine go_seg 8 (pc' := 49) (ls' := [(4, .int 15), (3, .int 0), (0, .ref 90), (1, .int 2), (2, .int 7)]) (st' := [.int 15]) (w' := (fw z)) (cs' := 0) (ss' := 0) ?_ (fun _ _ => rfl)
  refine go_seg 8 (pc' := 64) (ls' := [(4, .int 15), (3, .int 0), (0, .ref 90), (1, .int 2), (2, .int 7)]) (st' := [.int 25, .ref 91, .int 0]) (w' := (fw z)) (cs' := 0) (ss' := 0) ?_ (fun _ _ => rfl)
  refine go_seg 8 (pc' := 47) (ls' := [(4, .int 16), (3, .int 0), (0, .ref 90), (1, .int 2), (2, .int 7)]) (st' := []) (w' := (fw z)) (cs' := 0) (ss' := 0) ?_ (fun _ _ => rfl)
  refine go_seg 8 (pc' := 63) (ls' := [(4, .int 16), (3, .int 0), (0, .ref 90), (1, .int 2), (2, .int 7)]) (st' := [.int 16, .int 10, .ref 91, .int 0]) (w' := (fw z)) (cs' := 0) (ss' := 0) ?_ (fun _ _ => rfl)
  refine go_seg 8 (pc' := 79) (ls' := [(4, .int 17), (3, .int 0), (0, .ref 90), (1, .int 2), (2, .int 7)]) (st' := []) (w' := (fw z)) (cs' := 0) (ss' := 0) ?_ (fun _ _ => rfl)
  refine go_seg 8 (pc' := 61) (ls' := [(4, .int 17), (3, .int 0), (0, .ref 90), (1, .int 2), (2, .int 7)]) (st' := [.int 10, .ref 91, .int 0]) (w' := (fw z)) (cs' := 0) (ss' := 0) ?_ (fun _ _ => rfl)
  refine go_seg 8 (pc' := 76) (ls' := [(3, .int 0), (4, .int 17), (0, .ref 90), (1, .int 2), (2, .int 7)]) (st' := []) (w' := (fw z)) (cs' := 0) (ss' := 0) ?_ (fun _ _ => rfl)
  refine go_seg 8 (pc' := 59) (ls' := [(4, .int 18), (3, .int 0), (0, .ref 90), (1, .int 2), (2, .int 7)]) (st' := [.ref 91, .int 0]) (w' := (fw z)) (cs' := 0) (ss' := 0) ?_ (fun _ _ => rfl)
  refine go_seg 8 (pc' := 75) (ls' := [(4, .int 18), (3, .int 0), (0, .ref 90), (1, .int 2), (2, .int 7)]) (st' := [.int 0]) (w' := (fw z)) (cs' := 0) (ss' := 0) ?_ (fun _ _ => rfl)
  refine go_seg 8 (pc' := 56) (ls' := [(4, .int 19), (3, .int 0), (0, .ref 90), (1, .int 2), (2, .int 7)]) (st' := [.ref 90, .int 0]) (w' := (fw z)) (cs' := 0) (ss' := 0) ?_ (fun _ _ => rfl)
  refine go_seg 8 (pc' := 74) (ls' := [(4, .int 19), (3, .int 0), (0, .ref 90), (1, .int 2), (2, .int 7)]) (st' := [.int 0, .int 0]) (w' := (fw z)) (cs' := 0) (ss' := 0) ?_ (fun _ _ => rfl)
  refine go_seg 8 (pc' := 55) (ls' := [(4, .int 20), (3, .int 0), (0, .ref 90), (1, .int 2), (2, .int 7)]) (st' := [.int 0]) (w' := (fw z)) (cs' := 0) (ss' := 0) ?_ (fun _ _ => rfl)
  refine go_seg 8 (pc' := 73) (ls' := [(4, .int 20), (3, .int 0), (0, .ref 90), (1, .int 2), (2, .int 7)]) (st' := [.int 0]) (w' := (fw z)) (cs' := 0) (ss' := 0) ?_ (fun _ _ => rfl)
  refine go_seg 8 (pc' := 54) (ls' := [(4, .int 21), (3, .int 0), (0, .ref 90), (1, .int 2), (2, .int 7)]) (st' := []) (w' := (fw z)) (cs' := 0) (ss' := 0) ?_ (fun _ _ => rfl)
  refine go_seg 8 (pc' := 66) (ls' := [(4, .int 21), (3, .int 0), (0, .ref 90), (1, .int 2), (2, .int 7)]) (st' := [.int 2, .int (-1), .int 0]) (w' := (fw z)) (cs' := 0) (ss' := 0) ?_ (fun _ _ => rfl)
  refine go_seg 8 (pc' := 51) (ls' := [(4, .int 22), (3, .int 0), (0, .ref 90), (1, .int 2), (2, .int 7)]) (st' := [.int 64, .int 22]) (w' := (fw z)) (cs' := 0) (ss' := 0) ?_ (fun _ _ => rfl)
  refine go_seg 8 (pc' := 65) (ls' := [(4, .int 22), (3, .int 0), (0, .ref 90), (1, .int 2), (2, .int 7)]) (st' := [.int (-1), .int 0]) (w' := (fw z)) (cs' := 0) (ss' := 0) ?_ (fun _ _ => rfl)
  refine go_seg 8 (pc' := 49) (ls' := [(4, .int 23), (3, .int 0), (0, .ref 90), (1, .int 2), (2, .int 7)]) (st' := [.int 23]) (w' := (fw z)) (cs' := 0) (ss' := 0) ?_ (fun _ _ => rfl)
  refine go_seg 8 (pc' := 64) (ls' := [(4, .int 23), (3, .int 0), (0, .ref 90), (1, .int 2), (2, .int 7)]) (st' := [.int 33, .ref 91, .int 0]) (w' := (fw z)) (cs' := 0) (ss' := 0) ?_ (fun _ _ => rfl)
  refine go_seg 8 (pc' := 47) (ls' := [(4, .int 24), (3, .int 0), (0, .ref 90), (1, .int 2), (2, .int 7)]) (st' := []) (w' := (fw z)) (cs' := 0) (ss' := 0) ?_ (fun _ _ => rfl)
  refine go_seg 8 (pc' := 63) (ls' := [(4, .int 24), (3, .int 0), (0, .ref 90), (1, .int 2), (2, .int 7)]) (st' := [.int 24, .int 10, .ref 91, .int 0]) (w' := (fw z)) (cs' := 0) (ss' := 0) ?_ (fun _ _ => rfl)
  refine go_seg 8 (pc' := 79) (ls' := [(4, .int 25), (3, .int 0), (0, .ref 90), (1, .int 2), (2, .int 7)]) (st' := []) (w' := (fw z)) (cs' := 0) (ss' := 0) ?_ (fun _ _ => rfl)
  refine go_seg 8 (pc' := 61) (ls' := [(4, .int 25), (3, .int 0), (0, .ref 90), (1, .int 2), (2, .int 7)]) (st' := [.int 10, .ref 91, .int 0]) (w' := (fw z)) (cs' := 0) (ss' := 0) ?_ (fun _ _ => rfl)
  refine go_seg 8 (pc' := 76) (ls' := [(3, .int 0), (4, .int 25), (0, .ref 90), (1, .int 2), (2, .int 7)]) (st' := []) (w' := (fw z)) (cs' := 0) (ss' := 0) ?_ (fun _ _ => rfl)
  refine go_seg 8 (pc' := 59) (ls' := [(4, .int 26), (3, .int 0), (0, .ref 90), (1, .int 2), (2, .int 7)]) (st' := [.ref 91, .int 0]) (w' := (fw z)) (cs' := 0) (ss' := 0) ?_ (fun _ _ => rfl)
  refine go_seg 8 (pc' := 75) (ls' := [(4, .int 26), (3, .int 0), (0, .ref 90), (1, .int 2), (2, .int 7)]) (st' := [.int 0]) (w' := (fw z)) (cs' := 0) (ss' := 0) ?_ (fun _ _ => rfl)
  refine go_seg 8 (pc' := 56) (ls' := [(4, .int 27), (3, .int 0), (0, .ref 90), (1, .int 2), (2, .int 7)]) (st' := [.ref 90, .int 0]) (w' := (fw z)) (cs' := 0) (ss' := 0) ?_ (fun _ _ => rfl)
  refine go_seg 8 (pc' := 74) (ls' := [(4, .int 27), (3, .int 0), (0, .ref 90), (1, .int 2), (2, .int 7)]) (st' := [.int 0, .int 0]) (w' := (fw z)) (cs' := 0) (ss' := 0) ?_ (fun _ _ => rfl)
  refine go_seg 8 (pc' := 55) (ls' := [(4, .int 28), (3, .int 0), (0, .ref 90), (1, .int 2), (2, .int 7)]) (st' := [.int 0]) (w' := (fw z)) (cs' := 0) (ss' := 0) ?_ (fun _ _ => rfl)
  refine go_seg 8 (pc' := 73) (ls' := [(4, .int 28), (3, .int 0), (0, .ref 90), (1, .int 2), (2, .int 7)]) (st' := [.int 0]) (w' := (fw z)) (cs' := 0) (ss' := 0) ?_ (fun _ _ => rfl)
  refine go_seg 8 (pc' := 54) (ls' := [(4, .int 29), (3, .int 0), (0, .ref 90), (1, .int 2), (2, .int 7)]) (st' := []) (w' := (fw z)) (cs' := 0) (ss' := 0) ?_ (fun _ _ => rfl)
  refine go_seg 8 (pc' := 66) (ls' := [(4, .int 29), (3, .int 0), (0, .ref 90), (1, .int 2), (2, .int 7)]) (st' := [.int 2, .int (-1), .int 0]) (w' := (fw z)) (cs' := 0) (ss' := 0) ?_ (fun _ _ => rfl)
  refine go_seg 8 (pc' := 51) (ls' := [(4, .int 30), (3, .int 0), (0, .ref 90), (1, .int 2), (2, .int 7)]) (st' := [.int 64, .int 30]) (w' := (fw z)) (cs' := 0) (ss' := 0) ?_ (fun _ _ => rfl)
  refine go_seg 8 (pc' := 65) (ls' := [(4, .int 30), (3, .int 0), (0, .ref 90), (1, .int 2), (2, .int 7)]) (st' := [.int (-1), .int 0]) (w' := (fw z)) (cs' := 0) (ss' := 0) ?_ (fun _ _ => rfl)
  refine go_seg 8 (pc' := 49) (ls' := [(4, .int 31), (3, .int 0), (0, .ref 90), (1, .int 2), (2, .int 7)]) (st' := [.int 31]) (w' := (fw z)) (cs' := 0) (ss' := 0) ?_ (fun _ _ => rfl)
  refine go_seg 8 (pc' := 64) (ls' := [(4, .int 31), (3, .int 0), (0, .ref 90), (1, .int 2), (2, .int 7)]) (st' := [.int 41, .ref 91, .int 0]) (w' := (fw z)) (cs' := 0) (ss' := 0) ?_ (fun _ _ => rfl)
  refine go_seg 8 (pc' := 47) (ls' := [(4, .int 32), (3, .int 0), (0, .ref 90), (1, .int 2), (2, .int 7)]) (st' := []) (w' := (fw z)) (cs' := 0) (ss' := 0) ?_ (fun _ _ => rfl)
  refine go_seg 8 (pc' := 63) (ls' := [(4, .int 32), (3, .int 0), (0, .ref 90), (1, .int 2), (2, .int 7)]) (st' := [.int 32, .int 10, .ref 91, .int 0]) (w' := (fw z)) (cs' := 0) (ss' := 0) ?_ (fun _ _ => rfl)
  refine go_seg 8 (pc' := 79) (ls' := [(4, .int 33), (3, .int 0), (0, .ref 90), (1, .int 2), (2, .int 7)]) (st' := []) (w' := (fw z)) (cs' := 0) (ss' := 0) ?_ (fun _ _ => rfl)
  refine go_seg 8 (pc' := 61) (ls' := [(4, .int 33), (3, .int 0), (0, .ref 90), (1, .int 2), (2, .int 7)]) (st' := [.int 10, .ref 91, .int 0]) (w' := (fw z)) (cs' := 0) (ss' := 0) ?_ (fun _ _ => rfl)
  refine go_seg 8 (pc' := 76) (ls' := [(3, .int 0), (4, .int 33), (0, .ref 90), (1, .int 2), (2, .int 7)]) (st' := []) (w' := (fw z)) (cs' := 0) (ss' := 0) ?_ (fun _ _ => rfl)
  refine go_seg 8 (pc' := 59) (ls' := [(4, .int 34), (3, .int 0), (0, .ref 90), (1, .int 2), (2, .int 7)]) (st' := [.ref 91, .int 0]) (w' := (fw z)) (cs' := 0) (ss' := 0) ?_ (fun _ _ => rfl)
  refine go_seg 8 (pc' := 75) (ls' := [(4, .int 34), (3, .int 0), (0, .ref 90), (1, .int 2), (2, .int 7)]) (st' := [.int 0]) (w' := (fw z)) (cs' := 0) (ss' := 0) ?_ (fun _ _ => rfl)
  refine go_seg 8 (pc' := 56) (ls' := [(4, .int 35), (3, .int 0), (0, .ref 90), (1, .int 2), (2, .int 7)]) (st' := [.ref 90, .int 0]) (w' := (fw z)) (cs' := 0) (ss' := 0) ?_ (fun _ _ => rfl)
  refine go_seg 8 (pc' := 74) (ls' := [(4, .int 35), (3, .int 0), (0, .ref 90), (1, .int 2), (2, .int 7)]) (st' := [.int 0, .int 0]) (w' := (fw z)) (cs' := 0) (ss' := 0) ?_ (fun _ _ => rfl)
  refine go_seg 8 (pc' := 55) (ls' := [(4, .int 36), (3, .int 0), (0, .ref 90), (1, .int 2), (2, .int 7)]) (st' := [.int 0]) (w' := (fw z)) (cs' := 0) (ss' := 0) ?_ (fun _ _ => rfl)
  refine go_seg 8 (pc' := 73) (ls' := [(4, .int 36), (3, .int 0), (0, .ref 90), (1, .int 2), (2, .int 7)]) (st' := [.int 0]) (w' := (fw z)) (cs' := 0) (ss' := 0) ?_ (fun _ _ => rfl)
  refine go_seg 8 (pc' := 54) (ls' := [(4, .int 37), (3, .int 0), (0, .ref 90), (1, .int 2), (2, .int 7)]) (st' := []) (w' := (fw z)) (cs' := 0) (ss' := 0) ?_ (fun _ _ => rfl)
  refine go_seg 8 (pc' := 66) (ls' := [(4, .int 37), (3, .int 0), (0, .ref 90), (1, .int 2), (2, .int 7)]) (st' := [.int 2, .int (-1), .int 0]) (w' := (fw z)) (cs' := 0) (ss' := 0) ?_ (fun _ _ => rfl)
  refine go_seg 8 (pc' := 51) (ls' := [(4, .int 38), (3, .int 0), (0, .ref 90), (1, .int 2), (2, .int 7)]) (st' := [.int 64, .int 38]) (w' := (fw z)) (cs' := 0) (ss' := 0) ?_ (fun _ _ => rfl)
  refine go_seg 8 (pc' := 65) (ls' := [(4, .int 38), (3, .int 0), (0, .ref 90), (1, .int 2), (2, .int 7)]) (st' := [.int (-1), .int 0]) (w' := (fw z)) (cs' := 0) (ss' := 0) ?_ (fun _ _ => rfl)
  refine go_seg 8 (pc' := 49) (ls' := [(4, .int 39), (3, .int 0), (0, .ref 90), (1, .int 2), (2, .int 7)]) (st' := [.int 39]) (w' := (fw z)) (cs' := 0) (ss' := 0) ?_ (fun _ _ => rfl)
  refine go_seg 8 (pc' := 64) (ls' := [(4, .int 39), (3, .int 0), (0, .ref 90), (1, .int 2), (2, .int 7)]) (st' := [.int 49, .ref 91, .int 0]) (w' := (fw z)) (cs' := 0) (ss' := 0) ?_ (fun _ _ => rfl)
  refine go_seg 8 (pc' := 47) (ls' := [(4, .int 40), (3, .int 0), (0, .ref 90), (1, .int 2), (2, .int 7)]) (st' := []) (w' := (fw z)) (cs' := 0) (ss' := 0) ?_ (fun _ _ => rfl)
  refine go_seg 8 (pc' := 63) (ls' := [(4, .int 40), (3, .int 0), (0, .ref 90), (1, .int 2), (2, .int 7)]) (st' := [.int 40, .int 10, .ref 91, .int 0]) (w' := (fw z)) (cs' := 0) (ss' := 0) ?_ (fun _ _ => rfl)
  refine go_seg 8 (pc' := 79) (ls' := [(4, .int 41), (3, .int 0), (0, .ref 90), (1, .int 2), (2, .int 7)]) (st' := []) (w' := (fw z)) (cs' := 0) (ss' := 0) ?_ (fun _ _ => rfl)
  refine go_seg 8 (pc' := 61) (ls' := [(4, .int 41), (3, .int 0), (0, .ref 90), (1, .int 2), (2, .int 7)]) (st' := [.int 10, .ref 91, .int 0]) (w' := (fw z)) (cs' := 0) (ss' := 0) ?_ (fun _ _ => rfl)
  refine go_seg 8 (pc' := 76) (ls' := [(3, .int 0), (4, .int 41), (0, .ref 90), (1, .int 2), (2, .int 7)]) (st' := []) (w' := (fw z)) (cs' := 0) (ss' := 0) ?_ (fun _ _ => rfl)
  refine go_seg 8 (pc' := 59) (ls' := [(4, .int 42), (3, .int 0), (0, .ref 90), (1, .int 2), (2, .int 7)]) (st' := [.ref 91, .int 0]) (w' := (fw z)) (cs' := 0) (ss' := 0) ?_ (fun _ _ => rfl)
  refine go_seg 8 (pc' := 75) (ls' := [(4, .int 42), (3, .int 0), (0, .ref 90), (1, .int 2), (2, .int 7)]) (st' := [.int 0]) (w' := (fw z)) (cs' := 0) (ss' := 0) ?_ (fun _ _ => rfl)
  refine go_seg 8 (pc' := 56) (ls' := [(4, .int 43), (3, .int 0), (0, .ref 90), (1, .int 2), (2, .int 7)]) (st' := [.ref 90, .int 0]) (w' := (fw z)) (cs' := 0) (ss' := 0) ?_ (fun _ _ => rfl)
  refine go_seg 8 (pc' := 74) (ls' := [(4, .int 43), (3, .int 0), (0, .ref 90), (1, .int 2), (2, .int 7)]) (st' := [.int 0, .int 0]) (w' := (fw z)) (cs' := 0) (ss' := 0) ?_ (fun _ _ => rfl)
  refine go_seg 8 (pc' := 55) (ls' := [(4, .int 44), (3, .int 0), (0, .ref 90), (1, .int 2), (2, .int 7)]) (st' := [.int 0]) (w' := (fw z)) (cs' := 0) (ss' := 0) ?_ (fun _ _ => rfl)
  refine go_seg 8 (pc' := 73) (ls' := [(4, .int 44), (3, .int 0), (0, .ref 90), (1, .int 2), (2, .int 7)]) (st' := [.int 0]) (w' := (fw z)) (cs' := 0) (ss' := 0) ?_ (fun _ _ => rfl)
  refine go_seg 8 (pc' := 54) (ls' := [(4, .int 45), (3, .int 0), (0, .ref 90), (1, .int 2), (2, .int 7)]) (st' := []) (w' := (fw z)) (cs' := 0) (ss' := 0) ?_ (fun _ _ => rfl)
  refine go_seg 8 (pc' := 66) (ls' := [(4, .int 45), (3, .int 0), (0, .ref 90), (1, .int 2), (2, .int 7)]) (st' := [.int 2, .int (-1), .int 0]) (w' := (fw z)) (cs' := 0) (ss' := 0) ?_ (fun _ _ => rfl)
  refine go_seg 8 (pc' := 51) (ls' := [(4, .int 46), (3, .int 0), (0, .ref 90), (1, .int 2), (2, .int 7)]) (st' := [.int 64, .int 46]) (w' := (fw z)) (cs' := 0) (ss' := 0) ?_ (fun _ _ => rfl)
  refine go_seg 8 (pc' := 65) (ls' := [(4, .int 46), (3, .int 0), (0, .ref 90), (1, .int 2), (2, .int 7)]) (st' := [.int (-1), .int 0]) (w' := (fw z)) (cs' := 0) (ss' := 0) ?_ (fun _ _ => rfl)
  refine go_seg 8 (pc' := 49) (ls' := [(4, .int 47), (3, .int 0), (0, .ref 90), (1, .int 2), (2, .int 7)]) (st' := [.int 47]) (w' := (fw z)) (cs' := 0) (ss' := 0) ?_ (fun _ _ => rfl)
  refine go_seg 8 (pc' := 64) (ls' := [(4, .int 47), (3, .int 0), (0, .ref 90), (1, .int 2), (2, .int 7)]) (st' := [.int 57, .ref 91, .int 0]) (w' := (fw z)) (cs' := 0) (ss' := 0) ?_ (fun _ _ => rfl)
  refine go_seg 8 (pc' := 47) (ls' := [(4, .int 48), (3, .int 0), (0, .ref 90), (1, .int 2), (2, .int 7)]) (st' := []) (w' := (fw z)) (cs' := 0) (ss' := 0) ?_ (fun _ _ => rfl)
  refine go_seg 8 (pc' := 63) (ls' := [(4, .int 48), (3, .int 0), (0, .ref 90), (1, .int 2), (2, .int 7)]) (st' := [.int 48, .int 10, .ref 91, .int 0]) (w' := (fw z)) (cs' := 0) (ss' := 0) ?_ (fun _ _ => rfl)
  refine go_seg 8 (pc' := 79) (ls' := [(4, .int 49), (3, .int 0), (0, .ref 90), (1, .int 2), (2, .int 7)]) (st' := []) (w' := (fw z)) (cs' := 0) (ss' := 0) ?_ (fun _ _ => rfl)
  refine go_seg 8 (pc' := 61) (ls' := [(4, .int 49), (3, .int 0), (0, .ref 90), (1, .int 2), (2, .int 7)]) (st' := [.int 10, .ref 91, .int 0]) (w' := (fw z)) (cs' := 0) (ss' := 0) ?_ (fun _ _ => rfl)
  refine go_seg 8 (pc' := 76) (ls' := [(3, .int 0), (4, .int 49), (0, .ref 90), (1, .int 2), (2, .int 7)]) (st' := []) (w' := (fw z)) (cs' := 0) (ss' := 0) ?_ (fun _ _ => rfl)
  refine go_seg 8 (pc' := 59) (ls' := [(4, .int 50), (3, .int 0), (0, .ref 90), (1, .int 2), (2, .int 7)]) (st' := [.ref 91, .int 0]) (w' := (fw z)) (cs' := 0) (ss' := 0) ?_ (fun _ _ => rfl)
  refine go_seg 8 (pc' := 75) (ls' := [(4, .int 50), (3, .int 0), (0, .ref 90), (1, .int 2), (2, .int 7)]) (st' := [.int 0]) (w' := (fw z)) (cs' := 0) (ss' := 0) ?_ (fun _ _ => rfl)
  refine go_seg 8 (pc' := 56) (ls' := [(4, .int 51), (3, .int 0), (0, .ref 90), (1, .int 2), (2, .int 7)]) (st' := [.ref 90, .int 0]) (w' := (fw z)) (cs' := 0) (ss' := 0) ?_ (fun _ _ => rfl)
  refine go_seg 8 (pc' := 74) (ls' := [(4, .int 51), (3, .int 0), (0, .ref 90), (1, .int 2), (2, .int 7)]) (st' := [.int 0, .int 0]) (w' := (fw z)) (cs' := 0) (ss' := 0) ?_ (fun _ _ => rfl)
  refine go_seg 8 (pc' := 55) (ls' := [(4, .int 52), (3, .int 0), (0, .ref 90), (1, .int 2), (2, .int 7)]) (st' := [.int 0]) (w' := (fw z)) (cs' := 0) (ss' := 0) ?_ (fun _ _ => rfl)
  refine go_seg 8 (pc' := 73) (ls' := [(4, .int 52), (3, .int 0), (0, .ref 90), (1, .int 2), (2, .int 7)]) (st' := [.int 0]) (w' := (fw z)) (cs' := 0) (ss' := 0) ?_ (fun _ _ => rfl)
  refine go_seg 8 (pc' := 54) (ls' := [(4, .int 53), (3, .int 0), (0, .ref 90), (1, .int 2), (2, .int 7)]) (st' := []) (w' := (fw z)) (cs' := 0) (ss' := 0) ?_ (fun _ _ => rfl)
  refine go_seg 8 (pc' := 66) (ls' := [(4, .int 53), (3, .int 0), (0, .ref 90), (1, .int 2), (2, .int 7)]) (st' := [.int 2, .int (-1), .int 0]) (w' := (fw z)) (cs' := 0) (ss' := 0) ?_ (fun _ _ => rfl)
  refine go_seg 8 (pc' := 51) (ls' := [(4, .int 54), (3, .int 0), (0, .ref 90), (1, .int 2), (2, .int 7)]) (st' := [.int 64, .int 54]) (w' := (fw z)) (cs' := 0) (ss' := 0) ?_ (fun _ _ => rfl)
  refine go_seg 8 (pc' := 65) (ls' := [(4, .int 54), (3, .int 0), (0, .ref 90), (1, .int 2), (2, .int 7)]) (st' := [.int (-1), .int 0]) (w' := (fw z)) (cs' := 0) (ss' := 0) ?_ (fun _ _ => rfl)
  refine go_seg 8 (pc' := 49) (ls' := [(4, .int 55), (3, .int 0), (0, .ref 90), (1, .int 2), (2, .int 7)]) (st' := [.int 55]) (w' := (fw z)) (cs' := 0) (ss' := 0) ?_ (fun _ _ => rfl)
  refine go_seg 8 (pc' := 64) (ls' := [(4, .int 55), (3, .int 0), (0, .ref 90), (1, .int 2), (2, .int 7)]) (st' := [.int 65, .ref 91, .int 0]) (w' := (fw z)) (cs' := 0) (ss' := 0) ?_ (fun _ _ => rfl)
  refine go_seg 8 (pc' := 47) (ls' := [(4, .int 56), (3, .int 0), (0, .ref 90), (1, .int 2), (2, .int 7)]) (st' := []) (w' := (fw z)) (cs' := 0) (ss' := 0) ?_ (fun _ _ => rfl)
  refine go_seg 8 (pc' := 63) (ls' := [(4, .int 56), (3, .int 0), (0, .ref 90), (1, .int 2), (2, .int 7)]) (st' := [.int 56, .int 10, .ref 91, .int 0]) (w' := (fw z)) (cs' := 0) (ss' := 0) ?_ (fun _ _ => rfl)
  refine go_seg 8 (pc' := 79) (ls' := [(4, .int 57), (3, .int 0), (0, .ref 90), (1, .int 2), (2, .int 7)]) (st' := []) (w' := (fw z)) (cs' := 0) (ss' := 0) ?_ (fun _ _ => rfl)
  refine go_seg 8 (pc' := 61) (ls' := [(4, .int 57), (3, .int 0), (0, .ref 90), (1, .int 2), (2, .int 7)]) (st' := [.int 10, .ref 91, .int 0]) (w' := (fw z)) (cs' := 0) (ss' := 0) ?_ (fun _ _ => rfl)
  refine go_seg 8 (pc' := 76) (ls' := [(3, .int 0), (4, .int 57), (0, .ref 90), (1, .int 2), (2, .int 7)]) (st' := []) (w' := (fw z)) (cs' := 0) (ss' := 0) ?_ (fun _ _ => rfl)
  refine go_seg 8 (pc' := 59) (ls' := [(4, .int 58), (3, .int 0), (0, .ref 90), (1, .int 2), (2, .int 7)]) (st' := [.ref 91, .int 0]) (w' := (fw z)) (cs' := 0) (ss' := 0) ?_ (fun _ _ => rfl)
  refine go_seg 8 (pc' := 75) (ls' := [(4, .int 58), (3, .int 0), (0, .ref 90), (1, .int 2), (2, .int 7)]) (st' := [.int 0]) (w' := (fw z)) (cs' := 0) (ss' := 0) ?_ (fun _ _ => rfl)
  refine go_seg 8 (pc' := 56) (ls' := [(4, .int 59), (3, .int 0), (0, .ref 90), (1, .int 2), (2, .int 7)]) (st' := [.ref 90, .int 0]) (w' := (fw z)) (cs' := 0) (ss' := 0) ?_ (fun _ _ => rfl)
  refine go_seg 8 (pc' := 74) (ls' := [(4, .int 59), (3, .int 0), (0, .ref 90), (1, .int 2), (2, .int 7)]) (st' := [.int 0, .int 0]) (w' := (fw z)) (cs' := 0) (ss' := 0) ?_ (fun _ _ => rfl)
  refine go_seg 8 (pc' := 55) (ls' := [(4, .int 60), (3, .int 0), (0, .ref 90), (1, .int 2), (2, .int 7)]) (st' := [.int 0]) (w' := (fw z)) (cs' := 0) (ss' := 0) ?_ (fun _ _ => rfl)
  refine go_seg 8 (pc' := 73) (ls' := [(4, .int 60), (3, .int 0), (0, .ref 90), (1, .int 2), (2, .int 7)]) (st' := [.int 0]) (w' := (fw z)) (cs' := 0) (ss' := 0) ?_ (fun _ _ => rfl)
  refine go_seg 8 (pc' := 54) (ls' := [(4, .int 61), (3, .int 0), (0, .ref 90), (1, .int 2), (2, .int 7)]) (st' := []) (w' := (fw z)) (cs' := 0) (ss' := 0) ?_ (fun _ _ => rfl)
  refine go_seg 8 (pc' := 66) (ls' := [(4, .int 61), (3, .int 0), (0, .ref 90), (1, .int 2), (2, .int 7)]) (st' := [.int 2, .int (-1), .int 0]) (w' := (fw z)) (cs' := 0) (ss' := 0) ?_ (fun _ _ => rfl)
  refine go_seg 8 (pc' := 51) (ls' := [(4, .int 62), (3, .int 0), (0, .ref 90), (1, .int 2), (2, .int 7)]) (st' := [.int 64, .int 62]) (w' := (fw z)) (cs' := 0) (ss' := 0) ?_ (fun _ _ => rfl)
  refine go_seg 8 (pc' := 65) (ls' := [(4, .int 62), (3, .int 0), (0, .ref 90), (1, .int 2), (2, .int 7)]) (st' := [.int (-1), .int 0]) (w' := (fw z)) (cs' := 0) (ss' := 0) ?_ (fun _ _ => rfl)
  refine go_seg 8 (pc' := 49) (ls' := [(4, .int 63), (3, .int 0), (0, .ref 90), (1, .int 2), (2, .int 7)]) (st' := [.int 63]) (w' := (fw z)) (cs' := 0) (ss' := 0) ?_ (fun _ _ => rfl)
  refine go_seg 8 (pc' := 64) (ls' := [(4, .int 63), (3, .int 0), (0, .ref 90), (1, .int 2), (2, .int 7)]) (st' := [.int 73, .ref 91, .int 0]) (w' := (fw z)) (cs' := 0) (ss' := 0) ?_ (fun _ _ => rfl)
  refine go_seg 8 (pc' := 47) (ls' := [(4, .int 64), (3, .int 0), (0, .ref 90), (1, .int 2), (2, .int 7)]) (st' := []) (w' := (fw z)) (cs' := 0) (ss' := 0) ?_ (fun _ _ => rfl)
  refine go_seg 8 (pc' := 94) (ls' := [(4, .int 64), (3, .int 0), (0, .ref 90), (1, .int 2), (2, .int 7)]) (st' := [.int 6, .int 7]) (w' := (fw z)) (cs' := 0) (ss' := 0) ?_ (fun _ _ => rfl)
  refine go_seg 5 (pc' := 111) (ls' := [(4, .int 64), (3, .int 0), (0, .ref 90), (1, .int 2), (2, .int 7)]) (st' := [.int 5, .int 2, .ref 91]) (w' := (fw z)) (cs' := 0) (ss' := 0) ?_ (fun _ _ => rfl)
  refine go_cl (k := 2) (st' := [.int 155, .ref 91]) (cs' := 0) (ss' := 0) rfl rfl rfl rfl rfl rfl rfl (ro_489 z) ?_
  exact go_end 2 (fun _ _ => rfl)
theorem lf_4_1158 (a0 : Int32) (a3 : Int32) (a4 : Int32) (a5 : Int32) : ∃ w', pq_Go 20 pm_law 370 [(3, .int 0), (2, .ref 90), (1, .ref 1), (0, .ref 0)] [] (fw (sz a0 2 7 a3 a4 a5)) 109 12668 (some (.int 1), w') := by
  refine ⟨(fw (sz a0 2 7 a3 a4 a5)), ?_⟩
  refine go_seg 8 (pc' := 378) (ls' := [(3, .int 0), (2, .ref 90), (1, .ref 1), (0, .ref 0)]) (st' := [.int 0, .ref 0, .int 2, .ref 1]) (w' := (fw (sz a0 2 7 a3 a4 a5))) (cs' := 109) (ss' := 12668) ?_ (fun _ _ => rfl)
  refine go_seg 3 (pc' := 381) (ls' := [(3, .int 0), (2, .ref 90), (1, .ref 1), (0, .ref 0)]) (st' := [.int 7, .int 2, .ref 1]) (w' := (fw (sz a0 2 7 a3 a4 a5))) (cs' := 109) (ss' := 12668) ?_ (fun _ _ => rfl)
  refine go_cl (k := 20) (st' := [.int 0]) (cs' := 109) (ss' := 12668) rfl rfl rfl rfl rfl rfl rfl (ro_1156 (sz a0 2 7 a3 a4 a5)) ?_
  refine go_seg 8 (pc' := 392) (ls' := [(3, .int 0), (2, .ref 90), (1, .ref 1), (0, .ref 0)]) (st' := [.int 0, .ref 0, .int 2, .ref 90, .int 0]) (w' := (fw (sz a0 2 7 a3 a4 a5))) (cs' := 109) (ss' := 12668) ?_ (fun _ _ => rfl)
  refine go_seg 3 (pc' := 395) (ls' := [(3, .int 0), (2, .ref 90), (1, .ref 1), (0, .ref 0)]) (st' := [.int 7, .int 2, .ref 90, .int 0]) (w' := (fw (sz a0 2 7 a3 a4 a5))) (cs' := 109) (ss' := 12668) ?_ (fun _ _ => rfl)
  refine go_cl (k := 20) (st' := [.int 0, .int 0]) (cs' := 109) (ss' := 12668) rfl rfl rfl rfl rfl rfl rfl (ro_1157 (sz a0 2 7 a3 a4 a5)) ?_
  refine go_cmp true rfl (br_self _) ?_
  exact law_tail (f := sc a0 2 7 a3 a4 a5) rfl
theorem ro_1159 (z : pq_C) : pq_Ru 2 25 [.ref 1, .int 3, .int 7] (fw z) (some (.int 0), (fw z)) := by
  refine ru_of (k := 1) (M := pm_25) rfl rfl ?_
  refine go_seg 1 (pc' := 1) (ls' := [(0, .ref 1), (1, .int 3), (2, .int 7)]) (st' := [.int 3]) (w' := (fw z)) (cs' := 0) (ss' := 0) ?_ (fun _ _ => rfl)
  refine go_cl (k := 1) (st' := [.int 1]) (cs' := 0) (ss' := 0) rfl rfl rfl rfl rfl rfl rfl (ro_576 z) ?_
  refine go_seg 8 (pc' := 137) (ls' := [(0, .ref 1), (1, .int 3), (2, .int 7)]) (st' := [.int 0]) (w' := (fw z)) (cs' := 0) (ss' := 0) ?_ (fun _ _ => rfl)
  exact go_end 1 (fun _ _ => rfl)
theorem ro_1160 (z : pq_C) : pq_Ru 3 169 [.ref 90, .int 3, .int 7] (fw z) (some (.int 0), (fw z)) := by
  refine ru_of (k := 2) (M := pm_169) rfl rfl ?_
  refine go_seg 1 (pc' := 1) (ls' := [(0, .ref 90), (1, .int 3), (2, .int 7)]) (st' := [.int 3]) (w' := (fw z)) (cs' := 0) (ss' := 0) ?_ (fun _ _ => rfl)
  refine go_cl (k := 2) (st' := [.int 1]) (cs' := 0) (ss' := 0) rfl rfl rfl rfl rfl rfl rfl (ro_958 z) ?_
  refine go_seg 5 (pc' := 13) (ls' := [(0, .ref 90), (1, .int 3), (2, .int 7)]) (st' := [.long 7, .long 0, .long 7]) (w' := (fw z)) (cs' := 0) (ss' := 0) ?_ (fun _ _ => rfl)
  refine go_cl (k := 2) (st' := [.int 1]) (cs' := 0) (ss' := 0) rfl rfl rfl rfl rfl rfl rfl (ro_981 z) ?_
  refine go_seg 8 (pc' := 47) (ls' := [(4, .int 0), (3, .int 0), (0, .ref 90), (1, .int 3), (2, .int 7)]) (st' := []) (w' := (fw z)) (cs' := 0) (ss' := 0) ?_ (fun _ _ => rfl)
  refine go_seg 8 (pc' := 63) (ls' := [(4, .int 0), (3, .int 0), (0, .ref 90), (1, .int 3), (2, .int 7)]) (st' := [.int 0, .int 10, .ref 91, .int 0]) (w' := (fw z)) (cs' := 0) (ss' := 0) ?_ (fun _ _ => rfl)
  refine go_seg 8 (pc' := 79) (ls' := [(4, .int 1), (3, .int 0), (0, .ref 90), (1, .int 3), (2, .int 7)]) (st' := []) (w' := (fw z)) (cs' := 0) (ss' := 0) ?_ (fun _ _ => rfl)
  refine go_seg 8 (pc' := 61) (ls' := [(4, .int 1), (3, .int 0), (0, .ref 90), (1, .int 3), (2, .int 7)]) (st' := [.int 10, .ref 91, .int 0]) (w' := (fw z)) (cs' := 0) (ss' := 0) ?_ (fun _ _ => rfl)
  refine go_seg 8 (pc' := 76) (ls' := [(3, .int 0), (4, .int 1), (0, .ref 90), (1, .int 3), (2, .int 7)]) (st' := []) (w' := (fw z)) (cs' := 0) (ss' := 0) ?_ (fun _ _ => rfl)
  refine go_seg 8 (pc' := 59) (ls' := [(4, .int 2), (3, .int 0), (0, .ref 90), (1, .int 3), (2, .int 7)]) (st' := [.ref 91, .int 0]) (w' := (fw z)) (cs' := 0) (ss' := 0) ?_ (fun _ _ => rfl)
  refine go_seg 8 (pc' := 75) (ls' := [(4, .int 2), (3, .int 0), (0, .ref 90), (1, .int 3), (2, .int 7)]) (st' := [.int 0]) (w' := (fw z)) (cs' := 0) (ss' := 0) ?_ (fun _ _ => rfl)
  refine go_seg 8 (pc' := 56) (ls' := [(4, .int 3), (3, .int 0), (0, .ref 90), (1, .int 3), (2, .int 7)]) (st' := [.ref 90, .int 0]) (w' := (fw z)) (cs' := 0) (ss' := 0) ?_ (fun _ _ => rfl)
  refine go_seg 8 (pc' := 74) (ls' := [(4, .int 3), (3, .int 0), (0, .ref 90), (1, .int 3), (2, .int 7)]) (st' := [.int 0, .int 0]) (w' := (fw z)) (cs' := 0) (ss' := 0) ?_ (fun _ _ => rfl)
  refine go_seg 8 (pc' := 55) (ls' := [(4, .int 4), (3, .int 0), (0, .ref 90), (1, .int 3), (2, .int 7)]) (st' := [.int 0]) (w' := (fw z)) (cs' := 0) (ss' := 0) ?_ (fun _ _ => rfl)
  refine go_seg 8 (pc' := 73) (ls' := [(4, .int 4), (3, .int 0), (0, .ref 90), (1, .int 3), (2, .int 7)]) (st' := [.int 0]) (w' := (fw z)) (cs' := 0) (ss' := 0) ?_ (fun _ _ => rfl)
  refine go_seg 8 (pc' := 54) (ls' := [(4, .int 5), (3, .int 0), (0, .ref 90), (1, .int 3), (2, .int 7)]) (st' := []) (w' := (fw z)) (cs' := 0) (ss' := 0) ?_ (fun _ _ => rfl)
  refine go_seg 8 (pc' := 66) (ls' := [(4, .int 5), (3, .int 0), (0, .ref 90), (1, .int 3), (2, .int 7)]) (st' := [.int 3, .int (-1), .int 0]) (w' := (fw z)) (cs' := 0) (ss' := 0) ?_ (fun _ _ => rfl)
  refine go_seg 8 (pc' := 51) (ls' := [(4, .int 6), (3, .int 0), (0, .ref 90), (1, .int 3), (2, .int 7)]) (st' := [.int 64, .int 6]) (w' := (fw z)) (cs' := 0) (ss' := 0) ?_ (fun _ _ => rfl)
  refine go_seg 8 (pc' := 65) (ls' := [(4, .int 6), (3, .int 0), (0, .ref 90), (1, .int 3), (2, .int 7)]) (st' := [.int (-1), .int 0]) (w' := (fw z)) (cs' := 0) (ss' := 0) ?_ (fun _ _ => rfl)
  refine go_seg 8 (pc' := 49) (ls' := [(4, .int 7), (3, .int 0), (0, .ref 90), (1, .int 3), (2, .int 7)]) (st' := [.int 7]) (w' := (fw z)) (cs' := 0) (ss' := 0) ?_ (fun _ _ => rfl)
  refine go_seg 8 (pc' := 64) (ls' := [(4, .int 7), (3, .int 0), (0, .ref 90), (1, .int 3), (2, .int 7)]) (st' := [.int 17, .ref 91, .int 0]) (w' := (fw z)) (cs' := 0) (ss' := 0) ?_ (fun _ _ => rfl)
  refine go_seg 8 (pc' := 47) (ls' := [(4, .int 8), (3, .int 0), (0, .ref 90), (1, .int 3), (2, .int 7)]) (st' := []) (w' := (fw z)) (cs' := 0) (ss' := 0) ?_ (fun _ _ => rfl)
  refine go_seg 8 (pc' := 63) (ls' := [(4, .int 8), (3, .int 0), (0, .ref 90), (1, .int 3), (2, .int 7)]) (st' := [.int 8, .int 10, .ref 91, .int 0]) (w' := (fw z)) (cs' := 0) (ss' := 0) ?_ (fun _ _ => rfl)
  refine go_seg 8 (pc' := 79) (ls' := [(4, .int 9), (3, .int 0), (0, .ref 90), (1, .int 3), (2, .int 7)]) (st' := []) (w' := (fw z)) (cs' := 0) (ss' := 0) ?_ (fun _ _ => rfl)
  refine go_seg 8 (pc' := 61) (ls' := [(4, .int 9), (3, .int 0), (0, .ref 90), (1, .int 3), (2, .int 7)]) (st' := [.int 10, .ref 91, .int 0]) (w' := (fw z)) (cs' := 0) (ss' := 0) ?_ (fun _ _ => rfl)
  refine go_seg 8 (pc' := 76) (ls' := [(3, .int 0), (4, .int 9), (0, .ref 90), (1, .int 3), (2, .int 7)]) (st' := []) (w' := (fw z)) (cs' := 0) (ss' := 0) ?_ (fun _ _ => rfl)
  refine go_seg 8 (pc' := 59) (ls' := [(4, .int 10), (3, .int 0), (0, .ref 90), (1, .int 3), (2, .int 7)]) (st' := [.ref 91, .int 0]) (w' := (fw z)) (cs' := 0) (ss' := 0) ?_ (fun _ _ => rfl)
  refine go_seg 8 (pc' := 75) (ls' := [(4, .int 10), (3, .int 0), (0, .ref 90), (1, .int 3), (2, .int 7)]) (st' := [.int 0]) (w' := (fw z)) (cs' := 0) (ss' := 0) ?_ (fun _ _ => rfl)
  refine go_seg 8 (pc' := 56) (ls' := [(4, .int 11), (3, .int 0), (0, .ref 90), (1, .int 3), (2, .int 7)]) (st' := [.ref 90, .int 0]) (w' := (fw z)) (cs' := 0) (ss' := 0) ?_ (fun _ _ => rfl)
  refine go_seg 8 (pc' := 74) (ls' := [(4, .int 11), (3, .int 0), (0, .ref 90), (1, .int 3), (2, .int 7)]) (st' := [.int 0, .int 0]) (w' := (fw z)) (cs' := 0) (ss' := 0) ?_ (fun _ _ => rfl)
  refine go_seg 8 (pc' := 55) (ls' := [(4, .int 12), (3, .int 0), (0, .ref 90), (1, .int 3), (2, .int 7)]) (st' := [.int 0]) (w' := (fw z)) (cs' := 0) (ss' := 0) ?_ (fun _ _ => rfl)
  refine go_seg 8 (pc' := 73) (ls' := [(4, .int 12), (3, .int 0), (0, .ref 90), (1, .int 3), (2, .int 7)]) (st' := [.int 0]) (w' := (fw z)) (cs' := 0) (ss' := 0) ?_ (fun _ _ => rfl)
  refine go_seg 8 (pc' := 54) (ls' := [(4, .int 13), (3, .int 0), (0, .ref 90), (1, .int 3), (2, .int 7)]) (st' := []) (w' := (fw z)) (cs' := 0) (ss' := 0) ?_ (fun _ _ => rfl)
  refine go_seg 8 (pc' := 66) (ls' := [(4, .int 13), (3, .int 0), (0, .ref 90), (1, .int 3), (2, .int 7)]) (st' := [.int 3, .int (-1), .int 0]) (w' := (fw z)) (cs' := 0) (ss' := 0) ?_ (fun _ _ => rfl)
  refine go_seg 8 (pc' := 51) (ls' := [(4, .int 14), (3, .int 0), (0, .ref 90), (1, .int 3), (2, .int 7)]) (st' := [.int 64, .int 14]) (w' := (fw z)) (cs' := 0) (ss' := 0) ?_ (fun _ _ => rfl)
  refine go_seg 8 (pc' := 65) (ls' := [(4, .int 14), (3, .int 0), (0, .ref 90), (1, .int 3), (2, .int 7)]) (st' := [.int (-1), .int 0]) (w' := (fw z)) (cs' := 0) (ss' := 0) ?_ (fun _ _ => rfl)
  refine go_seg 8 (pc' := 49) (ls' := [(4, .int 15), (3, .int 0), (0, .ref 90), (1, .int 3), (2, .int 7)]) (st' := [.int 15]) (w' := (fw z)) (cs' := 0) (ss' := 0) ?_ (fun _ _ => rfl)
  refine go_seg 8 (pc' := 64) (ls' := [(4, .int 15), (3, .int 0), (0, .ref 90), (1, .int 3), (2, .int 7)]) (st' := [.int 25, .ref 91, .int 0]) (w' := (fw z)) (cs' := 0) (ss' := 0) ?_ (fun _ _ => rfl)
  refine go_seg 8 (pc' := 47) (ls' := [(4, .int 16), (3, .int 0), (0, .ref 90), (1, .int 3), (2, .int 7)]) (st' := []) (w' := (fw z)) (cs' := 0) (ss' := 0) ?_ (fun _ _ => rfl)
  refine go_seg 8 (pc' := 63) (ls' := [(4, .int 16), (3, .int 0), (0, .ref 90), (1, .int 3), (2, .int 7)]) (st' := [.int 16, .int 10, .ref 91, .int 0]) (w' := (fw z)) (cs' := 0) (ss' := 0) ?_ (fun _ _ => rfl)
  refine go_seg 8 (pc' := 79) (ls' := [(4, .int 17), (3, .int 0), (0, .ref 90), (1, .int 3), (2, .int 7)]) (st' := []) (w' := (fw z)) (cs' := 0) (ss' := 0) ?_ (fun _ _ => rfl)
  refine go_seg 8 (pc' := 61) (ls' := [(4, .int 17), (3, .int 0), (0, .ref 90), (1, .int 3), (2, .int 7)]) (st' := [.int 10, .ref 91, .int 0]) (w' := (fw z)) (cs' := 0) (ss' := 0) ?_ (fun _ _ => rfl)
  refine go_seg 8 (pc' := 76) (ls' := [(3, .int 0), (4, .int 17), (0, .ref 90), (1, .int 3), (2, .int 7)]) (st' := []) (w' := (fw z)) (cs' := 0) (ss' := 0) ?_ (fun _ _ => rfl)
  refine go_seg 8 (pc' := 59) (ls' := [(4, .int 18), (3, .int 0), (0, .ref 90), (1, .int 3), (2, .int 7)]) (st' := [.ref 91, .int 0]) (w' := (fw z)) (cs' := 0) (ss' := 0) ?_ (fun _ _ => rfl)
  refine go_seg 8 (pc' := 75) (ls' := [(4, .int 18), (3, .int 0), (0, .ref 90), (1, .int 3), (2, .int 7)]) (st' := [.int 0]) (w' := (fw z)) (cs' := 0) (ss' := 0) ?_ (fun _ _ => rfl)
  refine go_seg 8 (pc' := 56) (ls' := [(4, .int 19), (3, .int 0), (0, .ref 90), (1, .int 3), (2, .int 7)]) (st' := [.ref 90, .int 0]) (w' := (fw z)) (cs' := 0) (ss' := 0) ?_ (fun _ _ => rfl)
  refine go_seg 8 (pc' := 74) (ls' := [(4, .int 19), (3, .int 0), (0, .ref 90), (1, .int 3), (2, .int 7)]) (st' := [.int 0, .int 0]) (w' := (fw z)) (cs' := 0) (ss' := 0) ?_ (fun _ _ => rfl)
  refine go_seg 8 (pc' := 55) (ls' := [(4, .int 20), (3, .int 0), (0, .ref 90), (1, .int 3), (2, .int 7)]) (st' := [.int 0]) (w' := (fw z)) (cs' := 0) (ss' := 0) ?_ (fun _ _ => rfl)
  refine go_seg 8 (pc' := 73) (ls' := [(4, .int 20), (3, .int 0), (0, .ref 90), (1, .int 3), (2, .int 7)]) (st' := [.int 0]) (w' := (fw z)) (cs' := 0) (ss' := 0) ?_ (fun _ _ => rfl)
  refine go_seg 8 (pc' := 54) (ls' := [(4, .int 21), (3, .int 0), (0, .ref 90), (1, .int 3), (2, .int 7)]) (st' := []) (w' := (fw z)) (cs' := 0) (ss' := 0) ?_ (fun _ _ => rfl)
  refine go_seg 8 (pc' := 66) (ls' := [(4, .int 21), (3, .int 0), (0, .ref 90), (1, .int 3), (2, .int 7)]) (st' := [.int 3, .int (-1), .int 0]) (w' := (fw z)) (cs' := 0) (ss' := 0) ?_ (fun _ _ => rfl)
  refine go_seg 8 (pc' := 51) (ls' := [(4, .int 22), (3, .int 0), (0, .ref 90), (1, .int 3), (2, .int 7)]) (st' := [.int 64, .int 22]) (w' := (fw z)) (cs' := 0) (ss' := 0) ?_ (fun _ _ => rfl)
  refine go_seg 8 (pc' := 65) (ls' := [(4, .int 22), (3, .int 0), (0, .ref 90), (1, .int 3), (2, .int 7)]) (st' := [.int (-1), .int 0]) (w' := (fw z)) (cs' := 0) (ss' := 0) ?_ (fun _ _ => rfl)
  refine go_seg 8 (pc' := 49) (ls' := [(4, .int 23), (3, .int 0), (0, .ref 90), (1, .int 3), (2, .int 7)]) (st' := [.int 23]) (w' := (fw z)) (cs' := 0) (ss' := 0) ?_ (fun _ _ => rfl)
  refine go_seg 8 (pc' := 64) (ls' := [(4, .int 23), (3, .int 0), (0, .ref 90), (1, .int 3), (2, .int 7)]) (st' := [.int 33, .ref 91, .int 0]) (w' := (fw z)) (cs' := 0) (ss' := 0) ?_ (fun _ _ => rfl)
  refine go_seg 8 (pc' := 47) (ls' := [(4, .int 24), (3, .int 0), (0, .ref 90), (1, .int 3), (2, .int 7)]) (st' := []) (w' := (fw z)) (cs' := 0) (ss' := 0) ?_ (fun _ _ => rfl)
  refine go_seg 8 (pc' := 63) (ls' := [(4, .int 24), (3, .int 0), (0, .ref 90), (1, .int 3), (2, .int 7)]) (st' := [.int 24, .int 10, .ref 91, .int 0]) (w' := (fw z)) (cs' := 0) (ss' := 0) ?_ (fun _ _ => rfl)
  refine go_seg 8 (pc' := 79) (ls' := [(4, .int 25), (3, .int 0), (0, .ref 90), (1, .int 3), (2, .int 7)]) (st' := []) (w' := (fw z)) (cs' := 0) (ss' := 0) ?_ (fun _ _ => rfl)
  refine go_seg 8 (pc' := 61) (ls' := [(4, .int 25), (3, .int 0), (0, .ref 90), (1, .int 3), (2, .int 7)]) (st' := [.int 10, .ref 91, .int 0]) (w' := (fw z)) (cs' := 0) (ss' := 0) ?_ (fun _ _ => rfl)
  refine go_seg 8 (pc' := 76) (ls' := [(3, .int 0), (4, .int 25), (0, .ref 90), (1, .int 3), (2, .int 7)]) (st' := []) (w' := (fw z)) (cs' := 0) (ss' := 0) ?_ (fun _ _ => rfl)
  refine go_seg 8 (pc' := 59) (ls' := [(4, .int 26), (3, .int 0), (0, .ref 90), (1, .int 3), (2, .int 7)]) (st' := [.ref 91, .int 0]) (w' := (fw z)) (cs' := 0) (ss' := 0) ?_ (fun _ _ => rfl)
  refine go_seg 8 (pc' := 75) (ls' := [(4, .int 26), (3, .int 0), (0, .ref 90), (1, .int 3), (2, .int 7)]) (st' := [.int 0]) (w' := (fw z)) (cs' := 0) (ss' := 0) ?_ (fun _ _ => rfl)
  refine go_seg 8 (pc' := 56) (ls' := [(4, .int 27), (3, .int 0), (0, .ref 90), (1, .int 3), (2, .int 7)]) (st' := [.ref 90, .int 0]) (w' := (fw z)) (cs' := 0) (ss' := 0) ?_ (fun _ _ => rfl)
  refine go_seg 8 (pc' := 74) (ls' := [(4, .int 27), (3, .int 0), (0, .ref 90), (1, .int 3), (2, .int 7)]) (st' := [.int 0, .int 0]) (w' := (fw z)) (cs' := 0) (ss' := 0) ?_ (fun _ _ => rfl)
  refine go_seg 8 (pc' := 55) (ls' := [(4, .int 28), (3, .int 0), (0, .ref 90), (1, .int 3), (2, .int 7)]) (st' := [.int 0]) (w' := (fw z)) (cs' := 0) (ss' := 0) ?_ (fun _ _ => rfl)
  refine go_seg 8 (pc' := 73) (ls' := [(4, .int 28), (3, .int 0), (0, .ref 90), (1, .int 3), (2, .int 7)]) (st' := [.int 0]) (w' := (fw z)) (cs' := 0) (ss' := 0) ?_ (fun _ _ => rfl)
  refine go_seg 8 (pc' := 54) (ls' := [(4, .int 29), (3, .int 0), (0, .ref 90), (1, .int 3), (2, .int 7)]) (st' := []) (w' := (fw z)) (cs' := 0) (ss' := 0) ?_ (fun _ _ => rfl)
  refine go_seg 8 (pc' := 66) (ls' := [(4, .int 29), (3, .int 0), (0, .ref 90), (1, .int 3), (2, .int 7)]) (st' := [.int 3, .int (-1), .int 0]) (w' := (fw z)) (cs' := 0) (ss' := 0) ?_ (fun _ _ => rfl)
  refine go_seg 8 (pc' := 51) (ls' := [(4, .int 30), (3, .int 0), (0, .ref 90), (1, .int 3), (2, .int 7)]) (st' := [.int 64, .int 30]) (w' := (fw z)) (cs' := 0) (ss' := 0) ?_ (fun _ _ => rfl)
  refine go_seg 8 (pc' := 65) (ls' := [(4, .int 30), (3, .int 0), (0, .ref 90), (1, .int 3), (2, .int 7)]) (st' := [.int (-1), .int 0]) (w' := (fw z)) (cs' := 0) (ss' := 0) ?_ (fun _ _ => rfl)
  refine go_seg 8 (pc' := 49) (ls' := [(4, .int 31), (3, .int 0), (0, .ref 90), (1, .int 3), (2, .int 7)]) (st' := [.int 31]) (w' := (fw z)) (cs' := 0) (ss' := 0) ?_ (fun _ _ => rfl)
  refine go_seg 8 (pc' := 64) (ls' := [(4, .int 31), (3, .int 0), (0, .ref 90), (1, .int 3), (2, .int 7)]) (st' := [.int 41, .ref 91, .int 0]) (w' := (fw z)) (cs' := 0) (ss' := 0) ?_ (fun _ _ => rfl)
  refine go_seg 8 (pc' := 47) (ls' := [(4, .int 32), (3, .int 0), (0, .ref 90), (1, .int 3), (2, .int 7)]) (st' := []) (w' := (fw z)) (cs' := 0) (ss' := 0) ?_ (fun _ _ => rfl)
  refine go_seg 8 (pc' := 63) (ls' := [(4, .int 32), (3, .int 0), (0, .ref 90), (1, .int 3), (2, .int 7)]) (st' := [.int 32, .int 10, .ref 91, .int 0]) (w' := (fw z)) (cs' := 0) (ss' := 0) ?_ (fun _ _ => rfl)
  refine go_seg 8 (pc' := 79) (ls' := [(4, .int 33), (3, .int 0), (0, .ref 90), (1, .int 3), (2, .int 7)]) (st' := []) (w' := (fw z)) (cs' := 0) (ss' := 0) ?_ (fun _ _ => rfl)
  refine go_seg 8 (pc' := 61) (ls' := [(4, .int 33), (3, .int 0), (0, .ref 90), (1, .int 3), (2, .int 7)]) (st' := [.int 10, .ref 91, .int 0]) (w' := (fw z)) (cs' := 0) (ss' := 0) ?_ (fun _ _ => rfl)
  refine go_seg 8 (pc' := 76) (ls' := [(3, .int 0), (4, .int 33), (0, .ref 90), (1, .int 3), (2, .int 7)]) (st' := []) (w' := (fw z)) (cs' := 0) (ss' := 0) ?_ (fun _ _ => rfl)
  refine go_seg 8 (pc' := 59) (ls' := [(4, .int 34), (3, .int 0), (0, .ref 90), (1, .int 3), (2, .int 7)]) (st' := [.ref 91, .int 0]) (w' := (fw z)) (cs' := 0) (ss' := 0) ?_ (fun _ _ => rfl)
  refine go_seg 8 (pc' := 75) (ls' := [(4, .int 34), (3, .int 0), (0, .ref 90), (1, .int 3), (2, .int 7)]) (st' := [.int 0]) (w' := (fw z)) (cs' := 0) (ss' := 0) ?_ (fun _ _ => rfl)
  refine go_seg 8 (pc' := 56) (ls' := [(4, .int 35), (3, .int 0), (0, .ref 90), (1, .int 3), (2, .int 7)]) (st' := [.ref 90, .int 0]) (w' := (fw z)) (cs' := 0) (ss' := 0) ?_ (fun _ _ => rfl)
  refine go_seg 8 (pc' := 74) (ls' := [(4, .int 35), (3, .int 0), (0, .ref 90), (1, .int 3), (2, .int 7)]) (st' := [.int 0, .int 0]) (w' := (fw z)) (cs' := 0) (ss' := 0) ?_ (fun _ _ => rfl)
  refine go_seg 8 (pc' := 55) (ls' := [(4, .int 36), (3, .int 0), (0, .ref 90), (1, .int 3), (2, .int 7)]) (st' := [.int 0]) (w' := (fw z)) (cs' := 0) (ss' := 0) ?_ (fun _ _ => rfl)
  refine go_seg 8 (pc' := 73) (ls' := [(4, .int 36), (3, .int 0), (0, .ref 90), (1, .int 3), (2, .int 7)]) (st' := [.int 0]) (w' := (fw z)) (cs' := 0) (ss' := 0) ?_ (fun _ _ => rfl)
  refine go_seg 8 (pc' := 54) (ls' := [(4, .int 37), (3, .int 0), (0, .ref 90), (1, .int 3), (2, .int 7)]) (st' := []) (w' := (fw z)) (cs' := 0) (ss' := 0) ?_ (fun _ _ => rfl)
  refine go_seg 8 (pc' := 66) (ls' := [(4, .int 37), (3, .int 0), (0, .ref 90), (1, .int 3), (2, .int 7)]) (st' := [.int 3, .int (-1), .int 0]) (w' := (fw z)) (cs' := 0) (ss' := 0) ?_ (fun _ _ => rfl)
  refine go_seg 8 (pc' := 51) (ls' := [(4, .int 38), (3, .int 0), (0, .ref 90), (1, .int 3), (2, .int 7)]) (st' := [.int 64, .int 38]) (w' := (fw z)) (cs' := 0) (ss' := 0) ?_ (fun _ _ => rfl)
  refine go_seg 8 (pc' := 65) (ls' := [(4, .int 38), (3, .int 0), (0, .ref 90), (1, .int 3), (2, .int 7)]) (st' := [.int (-1), .int 0]) (w' := (fw z)) (cs' := 0) (ss' := 0) ?_ (fun _ _ => rfl)
  refine go_seg 8 (pc' := 49) (ls' := [(4, .int 39), (3, .int 0), (0, .ref 90), (1, .int 3), (2, .int 7)]) (st' := [.int 39]) (w' := (fw z)) (cs' := 0) (ss' := 0) ?_ (fun _ _ => rfl)
  refine go_seg 8 (pc' := 64) (ls' := [(4, .int 39), (3, .int 0), (0, .ref 90), (1, .int 3), (2, .int 7)]) (st' := [.int 49, .ref 91, .int 0]) (w' := (fw z)) (cs' := 0) (ss' := 0) ?_ (fun _ _ => rfl)
  refine go_seg 8 (pc' := 47) (ls' := [(4, .int 40), (3, .int 0), (0, .ref 90), (1, .int 3), (2, .int 7)]) (st' := []) (w' := (fw z)) (cs' := 0) (ss' := 0) ?_ (fun _ _ => rfl)
  refine go_seg 8 (pc' := 63) (ls' := [(4, .int 40), (3, .int 0), (0, .ref 90), (1, .int 3), (2, .int 7)]) (st' := [.int 40, .int 10, .ref 91, .int 0]) (w' := (fw z)) (cs' := 0) (ss' := 0) ?_ (fun _ _ => rfl)
  refine go_seg 8 (pc' := 79) (ls' := [(4, .int 41), (3, .int 0), (0, .ref 90), (1, .int 3), (2, .int 7)]) (st' := []) (w' := (fw z)) (cs' := 0) (ss' := 0) ?_ (fun _ _ => rfl)
  refine go_seg 8 (pc' := 61) (ls' := [(4, .int 41), (3, .int 0), (0, .ref 90), (1, .int 3), (2, .int 7)]) (st' := [.int 10, .ref 91, .int 0]) (w' := (fw z)) (cs' := 0) (ss' := 0) ?_ (fun _ _ => rfl)
  refine go_seg 8 (pc' := 76) (ls' := [(3, .int 0), (4, .int 41), (0, .ref 90), (1, .int 3), (2, .int 7)]) (st' := []) (w' := (fw z)) (cs' := 0) (ss' := 0) ?_ (fun _ _ => rfl)
  refine go_seg 8 (pc' := 59) (ls' := [(4, .int 42), (3, .int 0), (0, .ref 90), (1, .int 3), (2, .int 7)]) (st' := [.ref 91, .int 0]) (w' := (fw z)) (cs' := 0) (ss' := 0) ?_ (fun _ _ => rfl)
  refine go_seg 8 (pc' := 75) (ls' := [(4, .int 42), (3, .int 0), (0, .ref 90), (1, .int 3), (2, .int 7)]) (st' := [.int 0]) (w' := (fw z)) (cs' := 0) (ss' := 0) ?_ (fun _ _ => rfl)
  refine go_seg 8 (pc' := 56) (ls' := [(4, .int 43), (3, .int 0), (0, .ref 90), (1, .int 3), (2, .int 7)]) (st' := [.ref 90, .int 0]) (w' := (fw z)) (cs' := 0) (ss' := 0) ?_ (fun _ _ => rfl)
  refine go_seg 8 (pc' := 74) (ls' := [(4, .int 43), (3, .int 0), (0, .ref 90), (1, .int 3), (2, .int 7)]) (st' := [.int 0, .int 0]) (w' := (fw z)) (cs' := 0) (ss' := 0) ?_ (fun _ _ => rfl)
  refine go_seg 8 (pc' := 55) (ls' := [(4, .int 44), (3, .int 0), (0, .ref 90), (1, .int 3), (2, .int 7)]) (st' := [.int 0]) (w' := (fw z)) (cs' := 0) (ss' := 0) ?_ (fun _ _ => rfl)
  refine go_seg 8 (pc' := 73) (ls' := [(4, .int 44), (3, .int 0), (0, .ref 90), (1, .int 3), (2, .int 7)]) (st' := [.int 0]) (w' := (fw z)) (cs' := 0) (ss' := 0) ?_ (fun _ _ => rfl)
  refine go_seg 8 (pc' := 54) (ls' := [(4, .int 45), (3, .int 0), (0, .ref 90), (1, .int 3), (2, .int 7)]) (st' := []) (w' := (fw z)) (cs' := 0) (ss' := 0) ?_ (fun _ _ => rfl)
  refine go_seg 8 (pc' := 66) (ls' := [(4, .int 45), (3, .int 0), (0, .ref 90), (1, .int 3), (2, .int 7)]) (st' := [.int 3, .int (-1), .int 0]) (w' := (fw z)) (cs' := 0) (ss' := 0) ?_ (fun _ _ => rfl)
  refine go_seg 8 (pc' := 51) (ls' := [(4, .int 46), (3, .int 0), (0, .ref 90), (1, .int 3), (2, .int 7)]) (st' := [.int 64, .int 46]) (w' := (fw z)) (cs' := 0) (ss' := 0) ?_ (fun _ _ => rfl)
  refine go_seg 8 (pc' := 65) (ls' := [(4, .int 46), (3, .int 0), (0, .ref 90), (1, .int 3), (2, .int 7)]) (st' := [.int (-1), .int 0]) (w' := (fw z)) (cs' := 0) (ss' := 0) ?_ (fun _ _ => rfl)
  refine go_seg 8 (pc' := 49) (ls' := [(4, .int 47), (3, .int 0), (0, .ref 90), (1, .int 3), (2, .int 7)]) (st' := [.int 47]) (w' := (fw z)) (cs' := 0) (ss' := 0) ?_ (fun _ _ => rfl)
  refine go_seg 8 (pc' := 64) (ls' := [(4, .int 47), (3, .int 0), (0, .ref 90), (1, .int 3), (2, .int 7)]) (st' := [.int 57, .ref 91, .int 0]) (w' := (fw z)) (cs' := 0) (ss' := 0) ?_ (fun _ _ => rfl)
  refine go_seg 8 (pc' := 47) (ls' := [(4, .int 48), (3, .int 0), (0, .ref 90), (1, .int 3), (2, .int 7)]) (st' := []) (w' := (fw z)) (cs' := 0) (ss' := 0) ?_ (fun _ _ => rfl)
  refine go_seg 8 (pc' := 63) (ls' := [(4, .int 48), (3, .int 0), (0, .ref 90), (1, .int 3), (2, .int 7)]) (st' := [.int 48, .int 10, .ref 91, .int 0]) (w' := (fw z)) (cs' := 0) (ss' := 0) ?_ (fun _ _ => rfl)
  refine go_seg 8 (pc' := 79) (ls' := [(4, .int 49), (3, .int 0), (0, .ref 90), (1, .int 3), (2, .int 7)]) (st' := []) (w' := (fw z)) (cs' := 0) (ss' := 0) ?_ (fun _ _ => rfl)
  refine go_seg 8 (pc' := 61) (ls' := [(4, .int 49), (3, .int 0), (0, .ref 90), (1, .int 3), (2, .int 7)]) (st' := [.int 10, .ref 91, .int 0]) (w' := (fw z)) (cs' := 0) (ss' := 0) ?_ (fun _ _ => rfl)
  refine go_seg 8 (pc' := 76) (ls' := [(3, .int 0), (4, .int 49), (0, .ref 90), (1, .int 3), (2, .int 7)]) (st' := []) (w' := (fw z)) (cs' := 0) (ss' := 0) ?_ (fun _ _ => rfl)
  refine go_seg 8 (pc' := 59) (ls' := [(4, .int 50), (3, .int 0), (0, .ref 90), (1, .int 3), (2, .int 7)]) (st' := [.ref 91, .int 0]) (w' := (fw z)) (cs' := 0) (ss' := 0) ?_ (fun _ _ => rfl)
  refine go_seg 8 (pc' := 75) (ls' := [(4, .int 50), (3, .int 0), (0, .ref 90), (1, .int 3), (2, .int 7)]) (st' := [.int 0]) (w' := (fw z)) (cs' := 0) (ss' := 0) ?_ (fun _ _ => rfl)
  refine go_seg 8 (pc' := 56) (ls' := [(4, .int 51), (3, .int 0), (0, .ref 90), (1, .int 3), (2, .int 7)]) (st' := [.ref 90, .int 0]) (w' := (fw z)) (cs' := 0) (ss' := 0) ?_ (fun _ _ => rfl)
  refine go_seg 8 (pc' := 74) (ls' := [(4, .int 51), (3, .int 0), (0, .ref 90), (1, .int 3), (2, .int 7)]) (st' := [.int 0, .int 0]) (w' := (fw z)) (cs' := 0) (ss' := 0) ?_ (fun _ _ => rfl)
  refine go_seg 8 (pc' := 55) (ls' := [(4, .int 52), (3, .int 0), (0, .ref 90), (1, .int 3), (2, .int 7)]) (st' := [.int 0]) (w' := (fw z)) (cs' := 0) (ss' := 0) ?_ (fun _ _ => rfl)
  refine go_seg 8 (pc' := 73) (ls' := [(4, .int 52), (3, .int 0), (0, .ref 90), (1, .int 3), (2, .int 7)]) (st' := [.int 0]) (w' := (fw z)) (cs' := 0) (ss' := 0) ?_ (fun _ _ => rfl)
  refine go_seg 8 (pc' := 54) (ls' := [(4, .int 53), (3, .int 0), (0, .ref 90), (1, .int 3), (2, .int 7)]) (st' := []) (w' := (fw z)) (cs' := 0) (ss' := 0) ?_ (fun _ _ => rfl)
  refine go_seg 8 (pc' := 66) (ls' := [(4, .int 53), (3, .int 0), (0, .ref 90), (1, .int 3), (2, .int 7)]) (st' := [.int 3, .int (-1), .int 0]) (w' := (fw z)) (cs' := 0) (ss' := 0) ?_ (fun _ _ => rfl)
  refine go_seg 8 (pc' := 51) (ls' := [(4, .int 54), (3, .int 0), (0, .ref 90), (1, .int 3), (2, .int 7)]) (st' := [.int 64, .int 54]) (w' := (fw z)) (cs' := 0) (ss' := 0) ?_ (fun _ _ => rfl)
  refine go_seg 8 (pc' := 65) (ls' := [(4, .int 54), (3, .int 0), (0, .ref 90), (1, .int 3), (2, .int 7)]) (st' := [.int (-1), .int 0]) (w' := (fw z)) (cs' := 0) (ss' := 0) ?_ (fun _ _ => rfl)
  refine go_seg 8 (pc' := 49) (ls' := [(4, .int 55), (3, .int 0), (0, .ref 90), (1, .int 3), (2, .int 7)]) (st' := [.int 55]) (w' := (fw z)) (cs' := 0) (ss' := 0) ?_ (fun _ _ => rfl)
  refine go_seg 8 (pc' := 64) (ls' := [(4, .int 55), (3, .int 0), (0, .ref 90), (1, .int 3), (2, .int 7)]) (st' := [.int 65, .ref 91, .int 0]) (w' := (fw z)) (cs' := 0) (ss' := 0) ?_ (fun _ _ => rfl)
  refine go_seg 8 (pc' := 47) (ls' := [(4, .int 56), (3, .int 0), (0, .ref 90), (1, .int 3), (2, .int 7)]) (st' := []) (w' := (fw z)) (cs' := 0) (ss' := 0) ?_ (fun _ _ => rfl)
  refine go_seg 8 (pc' := 63) (ls' := [(4, .int 56), (3, .int 0), (0, .ref 90), (1, .int 3), (2, .int 7)]) (st' := [.int 56, .int 10, .ref 91, .int 0]) (w' := (fw z)) (cs' := 0) (ss' := 0) ?_ (fun _ _ => rfl)
  refine go_seg 8 (pc' := 79) (ls' := [(4, .int 57), (3, .int 0), (0, .ref 90), (1, .int 3), (2, .int 7)]) (st' := []) (w' := (fw z)) (cs' := 0) (ss' := 0) ?_ (fun _ _ => rfl)
  refine go_seg 8 (pc' := 61) (ls' := [(4, .int 57), (3, .int 0), (0, .ref 90), (1, .int 3), (2, .int 7)]) (st' := [.int 10, .ref 91, .int 0]) (w' := (fw z)) (cs' := 0) (ss' := 0) ?_ (fun _ _ => rfl)
  refine go_seg 8 (pc' := 76) (ls' := [(3, .int 0), (4, .int 57), (0, .ref 90), (1, .int 3), (2, .int 7)]) (st' := []) (w' := (fw z)) (cs' := 0) (ss' := 0) ?_ (fun _ _ => rfl)
  refine go_seg 8 (pc' := 59) (ls' := [(4, .int 58), (3, .int 0), (0, .ref 90), (1, .int 3), (2, .int 7)]) (st' := [.ref 91, .int 0]) (w' := (fw z)) (cs' := 0) (ss' := 0) ?_ (fun _ _ => rfl)
  refine go_seg 8 (pc' := 75) (ls' := [(4, .int 58), (3, .int 0), (0, .ref 90), (1, .int 3), (2, .int 7)]) (st' := [.int 0]) (w' := (fw z)) (cs' := 0) (ss' := 0) ?_ (fun _ _ => rfl)
  refine go_seg 8 (pc' := 56) (ls' := [(4, .int 59), (3, .int 0), (0, .ref 90), (1, .int 3), (2, .int 7)]) (st' := [.ref 90, .int 0]) (w' := (fw z)) (cs' := 0) (ss' := 0) ?_ (fun _ _ => rfl)
  refine go_seg 8 (pc' := 74) (ls' := [(4, .int 59), (3, .int 0), (0, .ref 90), (1, .int 3), (2, .int 7)]) (st' := [.int 0, .int 0]) (w' := (fw z)) (cs' := 0) (ss' := 0) ?_ (fun _ _ => rfl)
  refine go_seg 8 (pc' := 55) (ls' := [(4, .int 60), (3, .int 0), (0, .ref 90), (1, .int 3), (2, .int 7)]) (st' := [.int 0]) (w' := (fw z)) (cs' := 0) (ss' := 0) ?_ (fun _ _ => rfl)
  refine go_seg 8 (pc' := 73) (ls' := [(4, .int 60), (3, .int 0), (0, .ref 90), (1, .int 3), (2, .int 7)]) (st' := [.int 0]) (w' := (fw z)) (cs' := 0) (ss' := 0) ?_ (fun _ _ => rfl)
  refine go_seg 8 (pc' := 54) (ls' := [(4, .int 61), (3, .int 0), (0, .ref 90), (1, .int 3), (2, .int 7)]) (st' := []) (w' := (fw z)) (cs' := 0) (ss' := 0) ?_ (fun _ _ => rfl)
  refine go_seg 8 (pc' := 66) (ls' := [(4, .int 61), (3, .int 0), (0, .ref 90), (1, .int 3), (2, .int 7)]) (st' := [.int 3, .int (-1), .int 0]) (w' := (fw z)) (cs' := 0) (ss' := 0) ?_ (fun _ _ => rfl)
  refine go_seg 8 (pc' := 51) (ls' := [(4, .int 62), (3, .int 0), (0, .ref 90), (1, .int 3), (2, .int 7)]) (st' := [.int 64, .int 62]) (w' := (fw z)) (cs' := 0) (ss' := 0) ?_ (fun _ _ => rfl)
  refine go_seg 8 (pc' := 65) (ls' := [(4, .int 62), (3, .int 0), (0, .ref 90), (1, .int 3), (2, .int 7)]) (st' := [.int (-1), .int 0]) (w' := (fw z)) (cs' := 0) (ss' := 0) ?_ (fun _ _ => rfl)
  refine go_seg 8 (pc' := 49) (ls' := [(4, .int 63), (3, .int 0), (0, .ref 90), (1, .int 3), (2, .int 7)]) (st' := [.int 63]) (w' := (fw z)) (cs' := 0) (ss' := 0) ?_ (fun _ _ => rfl)
  refine go_seg 8 (pc' := 64) (ls' := [(4, .int 63), (3, .int 0), (0, .ref 90), (1, .int 3), (2, .int 7)]) (st' := [.int 73, .ref 91, .int 0]) (w' := (fw z)) (cs' := 0) (ss' := 0) ?_ (fun _ _ => rfl)
  refine go_seg 8 (pc' := 47) (ls' := [(4, .int 64), (3, .int 0), (0, .ref 90), (1, .int 3), (2, .int 7)]) (st' := []) (w' := (fw z)) (cs' := 0) (ss' := 0) ?_ (fun _ _ => rfl)
  refine go_seg 8 (pc' := 94) (ls' := [(4, .int 64), (3, .int 0), (0, .ref 90), (1, .int 3), (2, .int 7)]) (st' := [.int 6, .int 7]) (w' := (fw z)) (cs' := 0) (ss' := 0) ?_ (fun _ _ => rfl)
  refine go_seg 5 (pc' := 111) (ls' := [(4, .int 64), (3, .int 0), (0, .ref 90), (1, .int 3), (2, .int 7)]) (st' := [.int 5, .int 3, .ref 91]) (w' := (fw z)) (cs' := 0) (ss' := 0) ?_ (fun _ _ => rfl)
  refine go_cl (k := 2) (st' := [.int 161, .ref 91]) (cs' := 0) (ss' := 0) rfl rfl rfl rfl rfl rfl rfl (ro_490 z) ?_
  exact go_end 2 (fun _ _ => rfl)
theorem lf_4_1161 (a0 : Int32) (a3 : Int32) (a4 : Int32) (a5 : Int32) : ∃ w', pq_Go 20 pm_law 370 [(3, .int 0), (2, .ref 90), (1, .ref 1), (0, .ref 0)] [] (fw (sz a0 3 7 a3 a4 a5)) 109 12668 (some (.int 1), w') := by
  refine ⟨(fw (sz a0 3 7 a3 a4 a5)), ?_⟩
  refine go_seg 8 (pc' := 378) (ls' := [(3, .int 0), (2, .ref 90), (1, .ref 1), (0, .ref 0)]) (st' := [.int 0, .ref 0, .int 3, .ref 1]) (w' := (fw (sz a0 3 7 a3 a4 a5))) (cs' := 109) (ss' := 12668) ?_ (fun _ _ => rfl)
  refine go_seg 3 (pc' := 381) (ls' := [(3, .int 0), (2, .ref 90), (1, .ref 1), (0, .ref 0)]) (st' := [.int 7, .int 3, .ref 1]) (w' := (fw (sz a0 3 7 a3 a4 a5))) (cs' := 109) (ss' := 12668) ?_ (fun _ _ => rfl)
  refine go_cl (k := 20) (st' := [.int 0]) (cs' := 109) (ss' := 12668) rfl rfl rfl rfl rfl rfl rfl (ro_1159 (sz a0 3 7 a3 a4 a5)) ?_
  refine go_seg 8 (pc' := 392) (ls' := [(3, .int 0), (2, .ref 90), (1, .ref 1), (0, .ref 0)]) (st' := [.int 0, .ref 0, .int 3, .ref 90, .int 0]) (w' := (fw (sz a0 3 7 a3 a4 a5))) (cs' := 109) (ss' := 12668) ?_ (fun _ _ => rfl)
  refine go_seg 3 (pc' := 395) (ls' := [(3, .int 0), (2, .ref 90), (1, .ref 1), (0, .ref 0)]) (st' := [.int 7, .int 3, .ref 90, .int 0]) (w' := (fw (sz a0 3 7 a3 a4 a5))) (cs' := 109) (ss' := 12668) ?_ (fun _ _ => rfl)
  refine go_cl (k := 20) (st' := [.int 0, .int 0]) (cs' := 109) (ss' := 12668) rfl rfl rfl rfl rfl rfl rfl (ro_1160 (sz a0 3 7 a3 a4 a5)) ?_
  refine go_cmp true rfl (br_self _) ?_
  exact law_tail (f := sc a0 3 7 a3 a4 a5) rfl
theorem ro_1162 (z : pq_C) : pq_Ru 2 25 [.ref 1, .int 4, .int 7] (fw z) (some (.int 0), (fw z)) := by
  refine ru_of (k := 1) (M := pm_25) rfl rfl ?_
  refine go_seg 1 (pc' := 1) (ls' := [(0, .ref 1), (1, .int 4), (2, .int 7)]) (st' := [.int 4]) (w' := (fw z)) (cs' := 0) (ss' := 0) ?_ (fun _ _ => rfl)
  refine go_cl (k := 1) (st' := [.int 1]) (cs' := 0) (ss' := 0) rfl rfl rfl rfl rfl rfl rfl (ro_585 z) ?_
  refine go_seg 8 (pc' := 137) (ls' := [(0, .ref 1), (1, .int 4), (2, .int 7)]) (st' := [.int 0]) (w' := (fw z)) (cs' := 0) (ss' := 0) ?_ (fun _ _ => rfl)
  exact go_end 1 (fun _ _ => rfl)
theorem ro_1163 (z : pq_C) : pq_Ru 3 169 [.ref 90, .int 4, .int 7] (fw z) (some (.int 0), (fw z)) := by
  refine ru_of (k := 2) (M := pm_169) rfl rfl ?_
  refine go_seg 1 (pc' := 1) (ls' := [(0, .ref 90), (1, .int 4), (2, .int 7)]) (st' := [.int 4]) (w' := (fw z)) (cs' := 0) (ss' := 0) ?_ (fun _ _ => rfl)
  refine go_cl (k := 2) (st' := [.int 1]) (cs' := 0) (ss' := 0) rfl rfl rfl rfl rfl rfl rfl (ro_964 z) ?_
  refine go_seg 5 (pc' := 13) (ls' := [(0, .ref 90), (1, .int 4), (2, .int 7)]) (st' := [.long 7, .long 0, .long 7]) (w' := (fw z)) (cs' := 0) (ss' := 0) ?_ (fun _ _ => rfl)
  refine go_cl (k := 2) (st' := [.int 1]) (cs' := 0) (ss' := 0) rfl rfl rfl rfl rfl rfl rfl (ro_981 z) ?_
  refine go_seg 8 (pc' := 47) (ls' := [(4, .int 0), (3, .int 0), (0, .ref 90), (1, .int 4), (2, .int 7)]) (st' := []) (w' := (fw z)) (cs' := 0) (ss' := 0) ?_ (fun _ _ => rfl)
  refine go_seg 8 (pc' := 63) (ls' := [(4, .int 0), (3, .int 0), (0, .ref 90), (1, .int 4), (2, .int 7)]) (st' := [.int 0, .int 10, .ref 91, .int 0]) (w' := (fw z)) (cs' := 0) (ss' := 0) ?_ (fun _ _ => rfl)
  refine go_seg 8 (pc' := 79) (ls' := [(4, .int 1), (3, .int 0), (0, .ref 90), (1, .int 4), (2, .int 7)]) (st' := []) (w' := (fw z)) (cs' := 0) (ss' := 0) ?_ (fun _ _ => rfl)
  refine go_seg 8 (pc' := 61) (ls' := [(4, .int 1), (3, .int 0), (0, .ref 90), (1, .int 4), (2, .int 7)]) (st' := [.int 10, .ref 91, .int 0]) (w' := (fw z)) (cs' := 0) (ss' := 0) ?_ (fun _ _ => rfl)
  refine go_seg 8 (pc' := 76) (ls' := [(3, .int 0), (4, .int 1), (0, .ref 90), (1, .int 4), (2, .int 7)]) (st' := []) (w' := (fw z)) (cs' := 0) (ss' := 0) ?_ (fun _ _ => rfl)
  refine go_seg 8 (pc' := 59) (ls' := [(4, .int 2), (3, .int 0), (0, .ref 90), (1, .int 4), (2, .int 7)]) (st' := [.ref 91, .int 0]) (w' := (fw z)) (cs' := 0) (ss' := 0) ?_ (fun _ _ => rfl)
  refine go_seg 8 (pc' := 75) (ls' := [(4, .int 2), (3, .int 0), (0, .ref 90), (1, .int 4), (2, .int 7)]) (st' := [.int 0]) (w' := (fw z)) (cs' := 0) (ss' := 0) ?_ (fun _ _ => rfl)
  refine go_seg 8 (pc' := 56) (ls' := [(4, .int 3), (3, .int 0), (0, .ref 90), (1, .int 4), (2, .int 7)]) (st' := [.ref 90, .int 0]) (w' := (fw z)) (cs' := 0) (ss' := 0) ?_ (fun _ _ => rfl)
  refine go_seg 8 (pc' := 74) (ls' := [(4, .int 3), (3, .int 0), (0, .ref 90), (1, .int 4), (2, .int 7)]) (st' := [.int 0, .int 0]) (w' := (fw z)) (cs' := 0) (ss' := 0) ?_ (fun _ _ => rfl)
  refine go_seg 8 (pc' := 55) (ls' := [(4, .int 4), (3, .int 0), (0, .ref 90), (1, .int 4), (2, .int 7)]) (st' := [.int 0]) (w' := (fw z)) (cs' := 0) (ss' := 0) ?_ (fun _ _ => rfl)
  refine go_seg 8 (pc' := 73) (ls' := [(4, .int 4), (3, .int 0), (0, .ref 90), (1, .int 4), (2, .int 7)]) (st' := [.int 0]) (w' := (fw z)) (cs' := 0) (ss' := 0) ?_ (fun _ _ => rfl)
  refine go_seg 8 (pc' := 54) (ls' := [(4, .int 5), (3, .int 0), (0, .ref 90), (1, .int 4), (2, .int 7)]) (st' := []) (w' := (fw z)) (cs' := 0) (ss' := 0) ?_ (fun _ _ => rfl)
  refine go_seg 8 (pc' := 66) (ls' := [(4, .int 5), (3, .int 0), (0, .ref 90), (1, .int 4), (2, .int 7)]) (st' := [.int 4, .int (-1), .int 0]) (w' := (fw z)) (cs' := 0) (ss' := 0) ?_ (fun _ _ => rfl)
  refine go_seg 8 (pc' := 51) (ls' := [(4, .int 6), (3, .int 0), (0, .ref 90), (1, .int 4), (2, .int 7)]) (st' := [.int 64, .int 6]) (w' := (fw z)) (cs' := 0) (ss' := 0) ?_ (fun _ _ => rfl)
  refine go_seg 8 (pc' := 65) (ls' := [(4, .int 6), (3, .int 0), (0, .ref 90), (1, .int 4), (2, .int 7)]) (st' := [.int (-1), .int 0]) (w' := (fw z)) (cs' := 0) (ss' := 0) ?_ (fun _ _ => rfl)
  refine go_seg 8 (pc' := 49) (ls' := [(4, .int 7), (3, .int 0), (0, .ref 90), (1, .int 4), (2, .int 7)]) (st' := [.int 7]) (w' := (fw z)) (cs' := 0) (ss' := 0) ?_ (fun _ _ => rfl)
  refine go_seg 8 (pc' := 64) (ls' := [(4, .int 7), (3, .int 0), (0, .ref 90), (1, .int 4), (2, .int 7)]) (st' := [.int 17, .ref 91, .int 0]) (w' := (fw z)) (cs' := 0) (ss' := 0) ?_ (fun _ _ => rfl)
  refine go_seg 8 (pc' := 47) (ls' := [(4, .int 8), (3, .int 0), (0, .ref 90), (1, .int 4), (2, .int 7)]) (st' := []) (w' := (fw z)) (cs' := 0) (ss' := 0) ?_ (fun _ _ => rfl)
  refine go_seg 8 (pc' := 63) (ls' := [(4, .int 8), (3, .int 0), (0, .ref 90), (1, .int 4), (2, .int 7)]) (st' := [.int 8, .int 10, .ref 91, .int 0]) (w' := (fw z)) (cs' := 0) (ss' := 0) ?_ (fun _ _ => rfl)
  refine go_seg 8 (pc' := 79) (ls' := [(4, .int 9), (3, .int 0), (0, .ref 90), (1, .int 4), (2, .int 7)]) (st' := []) (w' := (fw z)) (cs' := 0) (ss' := 0) ?_ (fun _ _ => rfl)
  refine go_seg 8 (pc' := 61) (ls' := [(4, .int 9), (3, .int 0), (0, .ref 90), (1, .int 4), (2, .int 7)]) (st' := [.int 10, .ref 91, .int 0]) (w' := (fw z)) (cs' := 0) (ss' := 0) ?_ (fun _ _ => rfl)
  refine go_seg 8 (pc' := 76) (ls' := [(3, .int 0), (4, .int 9), (0, .ref 90), (1, .int 4), (2, .int 7)]) (st' := []) (w' := (fw z)) (cs' := 0) (ss' := 0) ?_ (fun _ _ => rfl)
  refine go_seg 8 (pc' := 59) (ls' := [(4, .int 10), (3, .int 0), (0, .ref 90), (1, .int 4), (2, .int 7)]) (st' := [.ref 91, .int 0]) (w' := (fw z)) (cs' := 0) (ss' := 0) ?_ (fun _ _ => rfl)
  refine go_seg 8 (pc' := 75) (ls' := [(4, .int 10), (3, .int 0), (0, .ref 90), (1, .int 4), (2, .int 7)]) (st' := [.int 0]) (w' := (fw z)) (cs' := 0) (ss' := 0) ?_ (fun _ _ => rfl)
  refine go_seg 8 (pc' := 56) (ls' := [(4, .int 11), (3, .int 0), (0, .ref 90), (1, .int 4), (2, .int 7)]) (st' := [.ref 90, .int 0]) (w' := (fw z)) (cs' := 0) (ss' := 0) ?_ (fun _ _ => rfl)
  refine go_seg 8 (pc' := 74) (ls' := [(4, .int 11), (3, .int 0), (0, .ref 90), (1, .int 4), (2, .int 7)]) (st' := [.int 0, .int 0]) (w' := (fw z)) (cs' := 0) (ss' := 0) ?_ (fun _ _ => rfl)
  refine go_seg 8 (pc' := 55) (ls' := [(4, .int 12), (3, .int 0), (0, .ref 90), (1, .int 4), (2, .int 7)]) (st' := [.int 0]) (w' := (fw z)) (cs' := 0) (ss' := 0) ?_ (fun _ _ => rfl)
  refine go_seg 8 (pc' := 73) (ls' := [(4, .int 12), (3, .int 0), (0, .ref 90), (1, .int 4), (2, .int 7)]) (st' := [.int 0]) (w' := (fw z)) (cs' := 0) (ss' := 0) ?_ (fun _ _ => rfl)
  refine go_seg 8 (pc' := 54) (ls' := [(4, .int 13), (3, .int 0), (0, .ref 90), (1, .int 4), (2, .int 7)]) (st' := []) (w' := (fw z)) (cs' := 0) (ss' := 0) ?_ (fun _ _ => rfl)
  refine go_seg 8 (pc' := 66) (ls' := [(4, .int 13), (3, .int 0), (0, .ref 90), (1, .int 4), (2, .int 7)]) (st' := [.int 4, .int (-1), .int 0]) (w' := (fw z)) (cs' := 0) (ss' := 0) ?_ (fun _ _ => rfl)
  refine go_seg 8 (pc' := 51) (ls' := [(4, .int 14), (3, .int 0), (0, .ref 90), (1, .int 4), (2, .int 7)]) (st' := [.int 64, .int 14]) (w' := (fw z)) (cs' := 0) (ss' := 0) ?_ (fun _ _ => rfl)
  refine go_seg 8 (pc' := 65) (ls' := [(4, .int 14), (3, .int 0), (0, .ref 90), (1, .int 4), (2, .int 7)]) (st' := [.int (-1), .int 0]) (w' := (fw z)) (cs' := 0) (ss' := 0) ?_ (fun _ _ => rfl)
  refine go_seg 8 (pc' := 49) (ls' := [(4, .int 15), (3, .int 0), (0, .ref 90), (1, .int 4), (2, .int 7)]) (st' := [.int 15]) (w' := (fw z)) (cs' := 0) (ss' := 0) ?_ (fun _ _ => rfl)
  refine go_seg 8 (pc' := 64) (ls' := [(4, .int 15), (3, .int 0), (0, .ref 90), (1, .int 4), (2, .int 7)]) (st' := [.int 25, .ref 91, .int 0]) (w' := (fw z)) (cs' := 0) (ss' := 0) ?_ (fun _ _ => rfl)
  refine go_seg 8 (pc' := 47) (ls' := [(4, .int 16), (3, .int 0), (0, .ref 90), (1, .int 4), (2, .int 7)]) (st' := []) (w' := (fw z)) (cs' := 0) (ss' := 0) ?_ (fun _ _ => rfl)
  refine go_seg 8 (pc' := 63) (ls' := [(4, .int 16), (3, .int 0), (0, .ref 90), (1, .int 4), (2, .int 7)]) (st' := [.int 16, .int 10, .ref 91, .int 0]) (w' := (fw z)) (cs' := 0) (ss' := 0) ?_ (fun _ _ => rfl)
  refine go_seg 8 (pc' := 79) (ls' := [(4, .int 17), (3, .int 0), (0, .ref 90), (1, .int 4), (2, .int 7)]) (st' := []) (w' := (fw z)) (cs' := 0) (ss' := 0) ?_ (fun _ _ => rfl)
  refine go_seg 8 (pc' := 61) (ls' := [(4, .int 17), (3, .int 0), (0, .ref 90), (1, .int 4), (2, .int 7)]) (st' := [.int 10, .ref 91, .int 0]) (w' := (fw z)) (cs' := 0) (ss' := 0) ?_ (fun _ _ => rfl)
  refine go_seg 8 (pc' := 76) (ls' := [(3, .int 0), (4, .int 17), (0, .ref 90), (1, .int 4), (2, .int 7)]) (st' := []) (w' := (fw z)) (cs' := 0) (ss' := 0) ?_ (fun _ _ => rfl)
  refine go_seg 8 (pc' := 59) (ls' := [(4, .int 18), (3, .int 0), (0, .ref 90), (1, .int 4), (2, .int 7)]) (st' := [.ref 91, .int 0]) (w' := (fw z)) (cs' := 0) (ss' := 0) ?_ (fun _ _ => rfl)
  refine go_seg 8 (pc' := 75) (ls' := [(4, .int 18), (3, .int 0), (0, .ref 90), (1, .int 4), (2, .int 7)]) (st' := [.int 0]) (w' := (fw z)) (cs' := 0) (ss' := 0) ?_ (fun _ _ => rfl)
  refine go_seg 8 (pc' := 56) (ls' := [(4, .int 19), (3, .int 0), (0, .ref 90), (1, .int 4), (2, .int 7)]) (st' := [.ref 90, .int 0]) (w' := (fw z)) (cs' := 0) (ss' := 0) ?_ (fun _ _ => rfl)
  refine go_seg 8 (pc' := 74) (ls' := [(4, .int 19), (3, .int 0), (0, .ref 90), (1, .int 4), (2, .int 7)]) (st' := [.int 0, .int 0]) (w' := (fw z)) (cs' := 0) (ss' := 0) ?_ (fun _ _ => rfl)
  refine go_seg 8 (pc' := 55) (ls' := [(4, .int 20), (3, .int 0), (0, .ref 90), (1, .int 4), (2, .int 7)]) (st' := [.int 0]) (w' := (fw z)) (cs' := 0) (ss' := 0) ?_ (fun _ _ => rfl)
  refine go_seg 8 (pc' := 73) (ls' := [(4, .int 20), (3, .int 0), (0, .ref 90), (1, .int 4), (2, .int 7)]) (st' := [.int 0]) (w' := (fw z)) (cs' := 0) (ss' := 0) ?_ (fun _ _ => rfl)
  refine go_seg 8 (pc' := 54) (ls' := [(4, .int 21), (3, .int 0), (0, .ref 90), (1, .int 4), (2, .int 7)]) (st' := []) (w' := (fw z)) (cs' := 0) (ss' := 0) ?_ (fun _ _ => rfl)
  refine go_seg 8 (pc' := 66) (ls' := [(4, .int 21), (3, .int 0), (0, .ref 90), (1, .int 4), (2, .int 7)]) (st' := [.int 4, .int (-1), .int 0]) (w' := (fw z)) (cs' := 0) (ss' := 0) ?_ (fun _ _ => rfl)
  refine go_seg 8 (pc' := 51) (ls' := [(4, .int 22), (3, .int 0), (0, .ref 90), (1, .int 4), (2, .int 7)]) (st' := [.int 64, .int 22]) (w' := (fw z)) (cs' := 0) (ss' := 0) ?_ (fun _ _ => rfl)
  refine go_seg 8 (pc' := 65) (ls' := [(4, .int 22), (3, .int 0), (0, .ref 90), (1, .int 4), (2, .int 7)]) (st' := [.int (-1), .int 0]) (w' := (fw z)) (cs' := 0) (ss' := 0) ?_ (fun _ _ => rfl)
  refine go_seg 8 (pc' := 49) (ls' := [(4, .int 23), (3, .int 0), (0, .ref 90), (1, .int 4), (2, .int 7)]) (st' := [.int 23]) (w' := (fw z)) (cs' := 0) (ss' := 0) ?_ (fun _ _ => rfl)
  refine go_seg 8 (pc' := 64) (ls' := [(4, .int 23), (3, .int 0), (0, .ref 90), (1, .int 4), (2, .int 7)]) (st' := [.int 33, .ref 91, .int 0]) (w' := (fw z)) (cs' := 0) (ss' := 0) ?_ (fun _ _ => rfl)
  refine go_seg 8 (pc' := 47) (ls' := [(4, .int 24), (3, .int 0), (0, .ref 90), (1, .int 4), (2, .int 7)]) (st' := []) (w' := (fw z)) (cs' := 0) (ss' := 0) ?_ (fun _ _ => rfl)
  refine go_seg 8 (pc' := 63) (ls' := [(4, .int 24), (3, .int 0), (0, .ref 90), (1, .int 4), (2, .int 7)]) (st' := [.int 24, .int 10, .ref 91, .int 0]) (w' := (fw z)) (cs' := 0) (ss' := 0) ?_ (fun _ _ => rfl)
  refine go_seg 8 (pc' := 79) (ls' := [(4, .int 25), (3, .int 0), (0, .ref 90), (1, .int 4), (2, .int 7)]) (st' := []) (w' := (fw z)) (cs' := 0) (ss' := 0) ?_ (fun _ _ => rfl)
  refine go_seg 8 (pc' := 61) (ls' := [(4, .int 25), (3, .int 0), (0, .ref 90), (1, .int 4), (2, .int 7)]) (st' := [.int 10, .ref 91, .int 0]) (w' := (fw z)) (cs' := 0) (ss' := 0) ?_ (fun _ _ => rfl)
  refine go_seg 8 (pc' := 76) (ls' := [(3, .int 0), (4, .int 25), (0, .ref 90), (1, .int 4), (2, .int 7)]) (st' := []) (w' := (fw z)) (cs' := 0) (ss' := 0) ?_ (fun _ _ => rfl)
  refine go_seg 8 (pc' := 59) (ls' := [(4, .int 26), (3, .int 0), (0, .ref 90), (1, .int 4), (2, .int 7)]) (st' := [.ref 91, .int 0]) (w' := (fw z)) (cs' := 0) (ss' := 0) ?_ (fun _ _ => rfl)
  refine go_seg 8 (pc' := 75) (ls' := [(4, .int 26), (3, .int 0), (0, .ref 90), (1, .int 4), (2, .int 7)]) (st' := [.int 0]) (w' := (fw z)) (cs' := 0) (ss' := 0) ?_ (fun _ _ => rfl)
  refine go_seg 8 (pc' := 56) (ls' := [(4, .int 27), (3, .int 0), (0, .ref 90), (1, .int 4), (2, .int 7)]) (st' := [.ref 90, .int 0]) (w' := (fw z)) (cs' := 0) (ss' := 0) ?_ (fun _ _ => rfl)
  refine go_seg 8 (pc' := 74) (ls' := [(4, .int 27), (3, .int 0), (0, .ref 90), (1, .int 4), (2, .int 7)]) (st' := [.int 0, .int 0]) (w' := (fw z)) (cs' := 0) (ss' := 0) ?_ (fun _ _ => rfl)
  refine go_seg 8 (pc' := 55) (ls' := [(4, .int 28), (3, .int 0), (0, .ref 90), (1, .int 4), (2, .int 7)]) (st' := [.int 0]) (w' := (fw z)) (cs' := 0) (ss' := 0) ?_ (fun _ _ => rfl)
  refine go_seg 8 (pc' := 73) (ls' := [(4, .int 28), (3, .int 0), (0, .ref 90), (1, .int 4), (2, .int 7)]) (st' := [.int 0]) (w' := (fw z)) (cs' := 0) (ss' := 0) ?_ (fun _ _ => rfl)
  refine go_seg 8 (pc' := 54) (ls' := [(4, .int 29), (3, .int 0), (0, .ref 90), (1, .int 4), (2, .int 7)]) (st' := []) (w' := (fw z)) (cs' := 0) (ss' := 0) ?_ (fun _ _ => rfl)
  refine go_seg 8 (pc' := 66) (ls' := [(4, .int 29), (3, .int 0), (0, .ref 90), (1, .int 4), (2, .int 7)]) (st' := [.int 4, .int (-1), .int 0]) (w' := (fw z)) (cs' := 0) (ss' := 0) ?_ (fun _ _ => rfl)
  refine go_seg 8 (pc' := 51) (ls' := [(4, .int 30), (3, .int 0), (0, .ref 90), (1, .int 4), (2, .int 7)]) (st' := [.int 64, .int 30]) (w' := (fw z)) (cs' := 0) (ss' := 0) ?_ (fun _ _ => rfl)
  refine go_seg 8 (pc' := 65) (ls' := [(4, .int 30), (3, .int 0), (0, .ref 90), (1, .int 4), (2, .int 7)]) (st' := [.int (-1), .int 0]) (w' := (fw z)) (cs' := 0) (ss' := 0) ?_ (fun _ _ => rfl)
  refine go_seg 8 (pc' := 49) (ls' := [(4, .int 31), (3, .int 0), (0, .ref 90), (1, .int 4), (2, .int 7)]) (st' := [.int 31]) (w' := (fw z)) (cs' := 0) (ss' := 0) ?_ (fun _ _ => rfl)
  refine go_seg 8 (pc' := 64) (ls' := [(4, .int 31), (3, .int 0), (0, .ref 90), (1, .int 4), (2, .int 7)]) (st' := [.int 41, .ref 91, .int 0]) (w' := (fw z)) (cs' := 0) (ss' := 0) ?_ (fun _ _ => rfl)
  refine go_seg 8 (pc' := 47) (ls' := [(4, .int 32), (3, .int 0), (0, .ref 90), (1, .int 4), (2, .int 7)]) (st' := []) (w' := (fw z)) (cs' := 0) (ss' := 0) ?_ (fun _ _ => rfl)
  refine go_seg 8 (pc' := 63) (ls' := [(4, .int 32), (3, .int 0), (0, .ref 90), (1, .int 4), (2, .int 7)]) (st' := [.int 32, .int 10, .ref 91, .int 0]) (w' := (fw z)) (cs' := 0) (ss' := 0) ?_ (fun _ _ => rfl)
  refine go_seg 8 (pc' := 79) (ls' := [(4, .int 33), (3, .int 0), (0, .ref 90), (1, .int 4), (2, .int 7)]) (st' := []) (w' := (fw z)) (cs' := 0) (ss' := 0) ?_ (fun _ _ => rfl)
  refine go_seg 8 (pc' := 61) (ls' := [(4, .int 33), (3, .int 0), (0, .ref 90), (1, .int 4), (2, .int 7)]) (st' := [.int 10, .ref 91, .int 0]) (w' := (fw z)) (cs' := 0) (ss' := 0) ?_ (fun _ _ => rfl)
  refine go_seg 8 (pc' := 76) (ls' := [(3, .int 0), (4, .int 33), (0, .ref 90), (1, .int 4), (2, .int 7)]) (st' := []) (w' := (fw z)) (cs' := 0) (ss' := 0) ?_ (fun _ _ => rfl)
  refine go_seg 8 (pc' := 59) (ls' := [(4, .int 34), (3, .int 0), (0, .ref 90), (1, .int 4), (2, .int 7)]) (st' := [.ref 91, .int 0]) (w' := (fw z)) (cs' := 0) (ss' := 0) ?_ (fun _ _ => rfl)
  refine go_seg 8 (pc' := 75) (ls' := [(4, .int 34), (3, .int 0), (0, .ref 90), (1, .int 4), (2, .int 7)]) (st' := [.int 0]) (w' := (fw z)) (cs' := 0) (ss' := 0) ?_ (fun _ _ => rfl)
  refine go_seg 8 (pc' := 56) (ls' := [(4, .int 35), (3, .int 0), (0, .ref 90), (1, .int 4), (2, .int 7)]) (st' := [.ref 90, .int 0]) (w' := (fw z)) (cs' := 0) (ss' := 0) ?_ (fun _ _ => rfl)
  refine go_seg 8 (pc' := 74) (ls' := [(4, .int 35), (3, .int 0), (0, .ref 90), (1, .int 4), (2, .int 7)]) (st' := [.int 0, .int 0]) (w' := (fw z)) (cs' := 0) (ss' := 0) ?_ (fun _ _ => rfl)
  refine go_seg 8 (pc' := 55) (ls' := [(4, .int 36), (3, .int 0), (0, .ref 90), (1, .int 4), (2, .int 7)]) (st' := [.int 0]) (w' := (fw z)) (cs' := 0) (ss' := 0) ?_ (fun _ _ => rfl)
  refine go_seg 8 (pc' := 73) (ls' := [(4, .int 36), (3, .int 0), (0, .ref 90), (1, .int 4), (2, .int 7)]) (st' := [.int 0]) (w' := (fw z)) (cs' := 0) (ss' := 0) ?_ (fun _ _ => rfl)
  refine go_seg 8 (pc' := 54) (ls' := [(4, .int 37), (3, .int 0), (0, .ref 90), (1, .int 4), (2, .int 7)]) (st' := []) (w' := (fw z)) (cs' := 0) (ss' := 0) ?_ (fun _ _ => rfl)
  refine go_seg 8 (pc' := 66) (ls' := [(4, .int 37), (3, .int 0), (0, .ref 90), (1, .int 4), (2, .int 7)]) (st' := [.int 4, .int (-1), .int 0]) (w' := (fw z)) (cs' := 0) (ss' := 0) ?_ (fun _ _ => rfl)
  refine go_seg 8 (pc' := 51) (ls' := [(4, .int 38), (3, .int 0), (0, .ref 90), (1, .int 4), (2, .int 7)]) (st' := [.int 64, .int 38]) (w' := (fw z)) (cs' := 0) (ss' := 0) ?_ (fun _ _ => rfl)
  refine go_seg 8 (pc' := 65) (ls' := [(4, .int 38), (3, .int 0), (0, .ref 90), (1, .int 4), (2, .int 7)]) (st' := [.int (-1), .int 0]) (w' := (fw z)) (cs' := 0) (ss' := 0) ?_ (fun _ _ => rfl)
  refine go_seg 8 (pc' := 49) (ls' := [(4, .int 39), (3, .int 0), (0, .ref 90), (1, .int 4), (2, .int 7)]) (st' := [.int 39]) (w' := (fw z)) (cs' := 0) (ss' := 0) ?_ (fun _ _ => rfl)
  refine go_seg 8 (pc' := 64) (ls' := [(4, .int 39), (3, .int 0), (0, .ref 90), (1, .int 4), (2, .int 7)]) (st' := [.int 49, .ref 91, .int 0]) (w' := (fw z)) (cs' := 0) (ss' := 0) ?_ (fun _ _ => rfl)
  refine go_seg 8 (pc' := 47) (ls' := [(4, .int 40), (3, .int 0), (0, .ref 90), (1, .int 4), (2, .int 7)]) (st' := []) (w' := (fw z)) (cs' := 0) (ss' := 0) ?_ (fun _ _ => rfl)
  refine go_seg 8 (pc' := 63) (ls' := [(4, .int 40), (3, .int 0), (0, .ref 90), (1, .int 4), (2, .int 7)]) (st' := [.int 40, .int 10, .ref 91, .int 0]) (w' := (fw z)) (cs' := 0) (ss' := 0) ?_ (fun _ _ => rfl)
  refine go_seg 8 (pc' := 79) (ls' := [(4, .int 41), (3, .int 0), (0, .ref 90), (1, .int 4), (2, .int 7)]) (st' := []) (w' := (fw z)) (cs' := 0) (ss' := 0) ?_ (fun _ _ => rfl)
  refine go_seg 8 (pc' := 61) (ls' := [(4, .int 41), (3, .int 0), (0, .ref 90), (1, .int 4), (2, .int 7)]) (st' := [.int 10, .ref 91, .int 0]) (w' := (fw z)) (cs' := 0) (ss' := 0) ?_ (fun _ _ => rfl)
  refine go_seg 8 (pc' := 76) (ls' := [(3, .int 0), (4, .int 41), (0, .ref 90), (1, .int 4), (2, .int 7)]) (st' := []) (w' := (fw z)) (cs' := 0) (ss' := 0) ?_ (fun _ _ => rfl)
  refine go_seg 8 (pc' := 59) (ls' := [(4, .int 42), (3, .int 0), (0, .ref 90), (1, .int 4), (2, .int 7)]) (st' := [.ref 91, .int 0]) (w' := (fw z)) (cs' := 0) (ss' := 0) ?_ (fun _ _ => rfl)
  refine go_seg 8 (pc' := 75) (ls' := [(4, .int 42), (3, .int 0), (0, .ref 90), (1, .int 4), (2, .int 7)]) (st' := [.int 0]) (w' := (fw z)) (cs' := 0) (ss' := 0) ?_ (fun _ _ => rfl)
  refine go_seg 8 (pc' := 56) (ls' := [(4, .int 43), (3, .int 0), (0, .ref 90), (1, .int 4), (2, .int 7)]) (st' := [.ref 90, .int 0]) (w' := (fw z)) (cs' := 0) (ss' := 0) ?_ (fun _ _ => rfl)
  refine go_seg 8 (pc' := 74) (ls' := [(4, .int 43), (3, .int 0), (0, .ref 90), (1, .int 4), (2, .int 7)]) (st' := [.int 0, .int 0]) (w' := (fw z)) (cs' := 0) (ss' := 0) ?_ (fun _ _ => rfl)
  refine go_seg 8 (pc' := 55) (ls' := [(4, .int 44), (3, .int 0), (0, .ref 90), (1, .int 4), (2, .int 7)]) (st' := [.int 0]) (w' := (fw z)) (cs' := 0) (ss' := 0) ?_ (fun _ _ => rfl)
  refine go_seg 8 (pc' := 73) (ls' := [(4, .int 44), (3, .int 0), (0, .ref 90), (1, .int 4), (2, .int 7)]) (st' := [.int 0]) (w' := (fw z)) (cs' := 0) (ss' := 0) ?_ (fun _ _ => rfl)
  refine go_seg 8 (pc' := 54) (ls' := [(4, .int 45), (3, .int 0), (0, .ref 90), (1, .int 4), (2, .int 7)]) (st' := []) (w' := (fw z)) (cs' := 0) (ss' := 0) ?_ (fun _ _ => rfl)
  refine go_seg 8 (pc' := 66) (ls' := [(4, .int 45), (3, .int 0), (0, .ref 90), (1, .int 4), (2, .int 7)]) (st' := [.int 4, .int (-1), .int 0]) (w' := (fw z)) (cs' := 0) (ss' := 0) ?_ (fun _ _ => rfl)
  refine go_seg 8 (pc' := 51) (ls' := [(4, .int 46), (3, .int 0), (0, .ref 90), (1, .int 4), (2, .int 7)]) (st' := [.int 64, .int 46]) (w' := (fw z)) (cs' := 0) (ss' := 0) ?_ (fun _ _ => rfl)
  refine go_seg 8 (pc' := 65) (ls' := [(4, .int 46), (3, .int 0), (0, .ref 90), (1, .int 4), (2, .int 7)]) (st' := [.int (-1), .int 0]) (w' := (fw z)) (cs' := 0) (ss' := 0) ?_ (fun _ _ => rfl)
  refine go_seg 8 (pc' := 49) (ls' := [(4, .int 47), (3, .int 0), (0, .ref 90), (1, .int 4), (2, .int 7)]) (st' := [.int 47]) (w' := (fw z)) (cs' := 0) (ss' := 0) ?_ (fun _ _ => rfl)
  refine go_seg 8 (pc' := 64) (ls' := [(4, .int 47), (3, .int 0), (0, .ref 90), (1, .int 4), (2, .int 7)]) (st' := [.int 57, .ref 91, .int 0]) (w' := (fw z)) (cs' := 0) (ss' := 0) ?_ (fun _ _ => rfl)
  refine go_seg 8 (pc' := 47) (ls' := [(4, .int 48), (3, .int 0), (0, .ref 90), (1, .int 4), (2, .int 7)]) (st' := []) (w' := (fw z)) (cs' := 0) (ss' := 0) ?_ (fun _ _ => rfl)
  refine go_seg 8 (pc' := 63) (ls' := [(4, .int 48), (3, .int 0), (0, .ref 90), (1, .int 4), (2, .int 7)]) (st' := [.int 48, .int 10, .ref 91, .int 0]) (w' := (fw z)) (cs' := 0) (ss' := 0) ?_ (fun _ _ => rfl)
  refine go_seg 8 (pc' := 79) (ls' := [(4, .int 49), (3, .int 0), (0, .ref 90), (1, .int 4), (2, .int 7)]) (st' := []) (w' := (fw z)) (cs' := 0) (ss' := 0) ?_ (fun _ _ => rfl)
  refine go_seg 8 (pc' := 61) (ls' := [(4, .int 49), (3, .int 0), (0, .ref 90), (1, .int 4), (2, .int 7)]) (st' := [.int 10, .ref 91, .int 0]) (w' := (fw z)) (cs' := 0) (ss' := 0) ?_ (fun _ _ => rfl)
  refine go_seg 8 (pc' := 76) (ls' := [(3, .int 0), (4, .int 49), (0, .ref 90), (1, .int 4), (2, .int 7)]) (st' := []) (w' := (fw z)) (cs' := 0) (ss' := 0) ?_ (fun _ _ => rfl)
  refine go_seg 8 (pc' := 59) (ls' := [(4, .int 50), (3, .int 0), (0, .ref 90), (1, .int 4), (2, .int 7)]) (st' := [.ref 91, .int 0]) (w' := (fw z)) (cs' := 0) (ss' := 0) ?_ (fun _ _ => rfl)
  refine go_seg 8 (pc' := 75) (ls' := [(4, .int 50), (3, .int 0), (0, .ref 90), (1, .int 4), (2, .int 7)]) (st' := [.int 0]) (w' := (fw z)) (cs' := 0) (ss' := 0) ?_ (fun _ _ => rfl)
  refine go_seg 8 (pc' := 56) (ls' := [(4, .int 51), (3, .int 0), (0, .ref 90), (1, .int 4), (2, .int 7)]) (st' := [.ref 90, .int 0]) (w' := (fw z)) (cs' := 0) (ss' := 0) ?_ (fun _ _ => rfl)
  refine go_seg 8 (pc' := 74) (ls' := [(4, .int 51), (3, .int 0), (0, .ref 90), (1, .int 4), (2, .int 7)]) (st' := [.int 0, .int 0]) (w' := (fw z)) (cs' := 0) (ss' := 0) ?_ (fun _ _ => rfl)
  refine go_seg 8 (pc' := 55) (ls' := [(4, .int 52), (3, .int 0), (0, .ref 90), (1, .int 4), (2, .int 7)]) (st' := [.int 0]) (w' := (fw z)) (cs' := 0) (ss' := 0) ?_ (fun _ _ => rfl)
  refine go_seg 8 (pc' := 73) (ls' := [(4, .int 52), (3, .int 0), (0, .ref 90), (1, .int 4), (2, .int 7)]) (st' := [.int 0]) (w' := (fw z)) (cs' := 0) (ss' := 0) ?_ (fun _ _ => rfl)
  refine go_seg 8 (pc' := 54) (ls' := [(4, .int 53), (3, .int 0), (0, .ref 90), (1, .int 4), (2, .int 7)]) (st' := []) (w' := (fw z)) (cs' := 0) (ss' := 0) ?_ (fun _ _ => rfl)
  refine go_seg 8 (pc' := 66) (ls' := [(4, .int 53), (3, .int 0), (0, .ref 90), (1, .int 4), (2, .int 7)]) (st' := [.int 4, .int (-1), .int 0]) (w' := (fw z)) (cs' := 0) (ss' := 0) ?_ (fun _ _ => rfl)
  refine go_seg 8 (pc' := 51) (ls' := [(4, .int 54), (3, .int 0), (0, .ref 90), (1, .int 4), (2, .int 7)]) (st' := [.int 64, .int 54]) (w' := (fw z)) (cs' := 0) (ss' := 0) ?_ (fun _ _ => rfl)
  refine go_seg 8 (pc' := 65) (ls' := [(4, .int 54), (3, .int 0), (0, .ref 90), (1, .int 4), (2, .int 7)]) (st' := [.int (-1), .int 0]) (w' := (fw z)) (cs' := 0) (ss' := 0) ?_ (fun _ _ => rfl)
  refine go_seg 8 (pc' := 49) (ls' := [(4, .int 55), (3, .int 0), (0, .ref 90), (1, .int 4), (2, .int 7)]) (st' := [.int 55]) (w' := (fw z)) (cs' := 0) (ss' := 0) ?_ (fun _ _ => rfl)
  refine go_seg 8 (pc' := 64) (ls' := [(4, .int 55), (3, .int 0), (0, .ref 90), (1, .int 4), (2, .int 7)]) (st' := [.int 65, .ref 91, .int 0]) (w' := (fw z)) (cs' := 0) (ss' := 0) ?_ (fun _ _ => rfl)
  refine go_seg 8 (pc' := 47) (ls' := [(4, .int 56), (3, .int 0), (0, .ref 90), (1, .int 4), (2, .int 7)]) (st' := []) (w' := (fw z)) (cs' := 0) (ss' := 0) ?_ (fun _ _ => rfl)
  refine go_seg 8 (pc' := 63) (ls' := [(4, .int 56), (3, .int 0), (0, .ref 90), (1, .int 4), (2, .int 7)]) (st' := [.int 56, .int 10, .ref 91, .int 0]) (w' := (fw z)) (cs' := 0) (ss' := 0) ?_ (fun _ _ => rfl)
  refine go_seg 8 (pc' := 79) (ls' := [(4, .int 57), (3, .int 0), (0, .ref 90), (1, .int 4), (2, .int 7)]) (st' := []) (w' := (fw z)) (cs' := 0) (ss' := 0) ?_ (fun _ _ => rfl)
  refine go_seg 8 (pc' := 61) (ls' := [(4, .int 57), (3, .int 0), (0, .ref 90), (1, .int 4), (2, .int 7)]) (st' := [.int 10, .ref 91, .int 0]) (w' := (fw z)) (cs' := 0) (ss' := 0) ?_ (fun _ _ => rfl)
  refine go_seg 8 (pc' := 76) (ls' := [(3, .int 0), (4, .int 57), (0, .ref 90), (1, .int 4), (2, .int 7)]) (st' := []) (w' := (fw z)) (cs' := 0) (ss' := 0) ?_ (fun _ _ => rfl)
  refine go_seg 8 (pc' := 59) (ls' := [(4, .int 58), (3, .int 0), (0, .ref 90), (1, .int 4), (2, .int 7)]) (st' := [.ref 91, .int 0]) (w' := (fw z)) (cs' := 0) (ss' := 0) ?_ (fun _ _ => rfl)
  refine go_seg 8 (pc' := 75) (ls' := [(4, .int 58), (3, .int 0), (0, .ref 90), (1, .int 4), (2, .int 7)]) (st' := [.int 0]) (w' := (fw z)) (cs' := 0) (ss' := 0) ?_ (fun _ _ => rfl)
  refine go_seg 8 (pc' := 56) (ls' := [(4, .int 59), (3, .int 0), (0, .ref 90), (1, .int 4), (2, .int 7)]) (st' := [.ref 90, .int 0]) (w' := (fw z)) (cs' := 0) (ss' := 0) ?_ (fun _ _ => rfl)
  refine go_seg 8 (pc' := 74) (ls' := [(4, .int 59), (3, .int 0), (0, .ref 90), (1, .int 4), (2, .int 7)]) (st' := [.int 0, .int 0]) (w' := (fw z)) (cs' := 0) (ss' := 0) ?_ (fun _ _ => rfl)
  refine go_seg 8 (pc' := 55) (ls' := [(4, .int 60), (3, .int 0), (0, .ref 90), (1, .int 4), (2, .int 7)]) (st' := [.int 0]) (w' := (fw z)) (cs' := 0) (ss' := 0) ?_ (fun _ _ => rfl)
  refine go_seg 8 (pc' := 73) (ls' := [(4, .int 60), (3, .int 0), (0, .ref 90), (1, .int 4), (2, .int 7)]) (st' := [.int 0]) (w' := (fw z)) (cs' := 0) (ss' := 0) ?_ (fun _ _ => rfl)
  refine go_seg 8 (pc' := 54) (ls' := [(4, .int 61), (3, .int 0), (0, .ref 90), (1, .int 4), (2, .int 7)]) (st' := []) (w' := (fw z)) (cs' := 0) (ss' := 0) ?_ (fun _ _ => rfl)
  refine go_seg 8 (pc' := 66) (ls' := [(4, .int 61), (3, .int 0), (0, .ref 90), (1, .int 4), (2, .int 7)]) (st' := [.int 4, .int (-1), .int 0]) (w' := (fw z)) (cs' := 0) (ss' := 0) ?_ (fun _ _ => rfl)
  refine go_seg 8 (pc' := 51) (ls' := [(4, .int 62), (3, .int 0), (0, .ref 90), (1, .int 4), (2, .int 7)]) (st' := [.int 64, .int 62]) (w' := (fw z)) (cs' := 0) (ss' := 0) ?_ (fun _ _ => rfl)
  refine go_seg 8 (pc' := 65) (ls' := [(4, .int 62), (3, .int 0), (0, .ref 90), (1, .int 4), (2, .int 7)]) (st' := [.int (-1), .int 0]) (w' := (fw z)) (cs' := 0) (ss' := 0) ?_ (fun _ _ => rfl)
  refine go_seg 8 (pc' := 49) (ls' := [(4, .int 63), (3, .int 0), (0, .ref 90), (1, .int 4), (2, .int 7)]) (st' := [.int 63]) (w' := (fw z)) (cs' := 0) (ss' := 0) ?_ (fun _ _ => rfl)
  refine go_seg 8 (pc' := 64) (ls' := [(4, .int 63), (3, .int 0), (0, .ref 90), (1, .int 4), (2, .int 7)]) (st' := [.int 73, .ref 91, .int 0]) (w' := (fw z)) (cs' := 0) (ss' := 0) ?_ (fun _ _ => rfl)
  refine go_seg 8 (pc' := 47) (ls' := [(4, .int 64), (3, .int 0), (0, .ref 90), (1, .int 4), (2, .int 7)]) (st' := []) (w' := (fw z)) (cs' := 0) (ss' := 0) ?_ (fun _ _ => rfl)
  refine go_seg 8 (pc' := 94) (ls' := [(4, .int 64), (3, .int 0), (0, .ref 90), (1, .int 4), (2, .int 7)]) (st' := [.int 6, .int 7]) (w' := (fw z)) (cs' := 0) (ss' := 0) ?_ (fun _ _ => rfl)
  refine go_seg 5 (pc' := 111) (ls' := [(4, .int 64), (3, .int 0), (0, .ref 90), (1, .int 4), (2, .int 7)]) (st' := [.int 5, .int 4, .ref 91]) (w' := (fw z)) (cs' := 0) (ss' := 0) ?_ (fun _ _ => rfl)
  refine go_cl (k := 2) (st' := [.int 167, .ref 91]) (cs' := 0) (ss' := 0) rfl rfl rfl rfl rfl rfl rfl (ro_491 z) ?_
  exact go_end 2 (fun _ _ => rfl)
theorem lf_4_1164 (a0 : Int32) (a3 : Int32) (a4 : Int32) (a5 : Int32) : ∃ w', pq_Go 20 pm_law 370 [(3, .int 0), (2, .ref 90), (1, .ref 1), (0, .ref 0)] [] (fw (sz a0 4 7 a3 a4 a5)) 109 12668 (some (.int 1), w') := by
  refine ⟨(fw (sz a0 4 7 a3 a4 a5)), ?_⟩
  refine go_seg 8 (pc' := 378) (ls' := [(3, .int 0), (2, .ref 90), (1, .ref 1), (0, .ref 0)]) (st' := [.int 0, .ref 0, .int 4, .ref 1]) (w' := (fw (sz a0 4 7 a3 a4 a5))) (cs' := 109) (ss' := 12668) ?_ (fun _ _ => rfl)
  refine go_seg 3 (pc' := 381) (ls' := [(3, .int 0), (2, .ref 90), (1, .ref 1), (0, .ref 0)]) (st' := [.int 7, .int 4, .ref 1]) (w' := (fw (sz a0 4 7 a3 a4 a5))) (cs' := 109) (ss' := 12668) ?_ (fun _ _ => rfl)
  refine go_cl (k := 20) (st' := [.int 0]) (cs' := 109) (ss' := 12668) rfl rfl rfl rfl rfl rfl rfl (ro_1162 (sz a0 4 7 a3 a4 a5)) ?_
  refine go_seg 8 (pc' := 392) (ls' := [(3, .int 0), (2, .ref 90), (1, .ref 1), (0, .ref 0)]) (st' := [.int 0, .ref 0, .int 4, .ref 90, .int 0]) (w' := (fw (sz a0 4 7 a3 a4 a5))) (cs' := 109) (ss' := 12668) ?_ (fun _ _ => rfl)
  refine go_seg 3 (pc' := 395) (ls' := [(3, .int 0), (2, .ref 90), (1, .ref 1), (0, .ref 0)]) (st' := [.int 7, .int 4, .ref 90, .int 0]) (w' := (fw (sz a0 4 7 a3 a4 a5))) (cs' := 109) (ss' := 12668) ?_ (fun _ _ => rfl)
  refine go_cl (k := 20) (st' := [.int 0, .int 0]) (cs' := 109) (ss' := 12668) rfl rfl rfl rfl rfl rfl rfl (ro_1163 (sz a0 4 7 a3 a4 a5)) ?_
  refine go_cmp true rfl (br_self _) ?_
  exact law_tail (f := sc a0 4 7 a3 a4 a5) rfl
theorem ro_1165 (z : pq_C) : pq_Ru 2 25 [.ref 1, .int 5, .int 7] (fw z) (some (.int 0), (fw z)) := by
  refine ru_of (k := 1) (M := pm_25) rfl rfl ?_
  refine go_seg 1 (pc' := 1) (ls' := [(0, .ref 1), (1, .int 5), (2, .int 7)]) (st' := [.int 5]) (w' := (fw z)) (cs' := 0) (ss' := 0) ?_ (fun _ _ => rfl)
  refine go_cl (k := 1) (st' := [.int 1]) (cs' := 0) (ss' := 0) rfl rfl rfl rfl rfl rfl rfl (ro_594 z) ?_
  refine go_seg 8 (pc' := 137) (ls' := [(0, .ref 1), (1, .int 5), (2, .int 7)]) (st' := [.int 0]) (w' := (fw z)) (cs' := 0) (ss' := 0) ?_ (fun _ _ => rfl)
  exact go_end 1 (fun _ _ => rfl)
theorem ro_1166 (z : pq_C) : pq_Ru 3 169 [.ref 90, .int 5, .int 7] (fw z) (some (.int 0), (fw z)) := by
  refine ru_of (k := 2) (M := pm_169) rfl rfl ?_
  refine go_seg 1 (pc' := 1) (ls' := [(0, .ref 90), (1, .int 5), (2, .int 7)]) (st' := [.int 5]) (w' := (fw z)) (cs' := 0) (ss' := 0) ?_ (fun _ _ => rfl)
  refine go_cl (k := 2) (st' := [.int 1]) (cs' := 0) (ss' := 0) rfl rfl rfl rfl rfl rfl rfl (ro_970 z) ?_
  refine go_seg 5 (pc' := 13) (ls' := [(0, .ref 90), (1, .int 5), (2, .int 7)]) (st' := [.long 7, .long 0, .long 7]) (w' := (fw z)) (cs' := 0) (ss' := 0) ?_ (fun _ _ => rfl)
  refine go_cl (k := 2) (st' := [.int 1]) (cs' := 0) (ss' := 0) rfl rfl rfl rfl rfl rfl rfl (ro_981 z) ?_
  refine go_seg 8 (pc' := 47) (ls' := [(4, .int 0), (3, .int 0), (0, .ref 90), (1, .int 5), (2, .int 7)]) (st' := []) (w' := (fw z)) (cs' := 0) (ss' := 0) ?_ (fun _ _ => rfl)
  refine go_seg 8 (pc' := 63) (ls' := [(4, .int 0), (3, .int 0), (0, .ref 90), (1, .int 5), (2, .int 7)]) (st' := [.int 0, .int 10, .ref 91, .int 0]) (w' := (fw z)) (cs' := 0) (ss' := 0) ?_ (fun _ _ => rfl)
  refine go_seg 8 (pc' := 79) (ls' := [(4, .int 1), (3, .int 0), (0, .ref 90), (1, .int 5), (2, .int 7)]) (st' := []) (w' := (fw z)) (cs' := 0) (ss' := 0) ?_ (fun _ _ => rfl)
  refine go_seg 8 (pc' := 61) (ls' := [(4, .int 1), (3, .int 0), (0, .ref 90), (1, .int 5), (2, .int 7)]) (st' := [.int 10, .ref 91, .int 0]) (w' := (fw z)) (cs' := 0) (ss' := 0) ?_ (fun _ _ => rfl)
  refine go_seg 8 (pc' := 76) (ls' := [(3, .int 0), (4, .int 1), (0, .ref 90), (1, .int 5), (2, .int 7)]) (st' := []) (w' := (fw z)) (cs' := 0) (ss' := 0) ?_ (fun _ _ => rfl)
  refine go_seg 8 (pc' := 59) (ls' := [(4, .int 2), (3, .int 0), (0, .ref 90), (1, .int 5), (2, .int 7)]) (st' := [.ref 91, .int 0]) (w' := (fw z)) (cs' := 0) (ss' := 0) ?_ (fun _ _ => rfl)
  refine go_seg 8 (pc' := 75) (ls' := [(4, .int 2), (3, .int 0), (0, .ref 90), (1, .int 5), (2, .int 7)]) (st' := [.int 0]) (w' := (fw z)) (cs' := 0) (ss' := 0) ?_ (fun _ _ => rfl)
  refine go_seg 8 (pc' := 56) (ls' := [(4, .int 3), (3, .int 0), (0, .ref 90), (1, .int 5), (2, .int 7)]) (st' := [.ref 90, .int 0]) (w' := (fw z)) (cs' := 0) (ss' := 0) ?_ (fun _ _ => rfl)
  refine go_seg 8 (pc' := 74) (ls' := [(4, .int 3), (3, .int 0), (0, .ref 90), (1, .int 5), (2, .int 7)]) (st' := [.int 0, .int 0]) (w' := (fw z)) (cs' := 0) (ss' := 0) ?_ (fun _ _ => rfl)
  refine go_seg 8 (pc' := 55) (ls' := [(4, .int 4), (3, .int 0), (0, .ref 90), (1, .int 5), (2, .int 7)]) (st' := [.int 0]) (w' := (fw z)) (cs' := 0) (ss' := 0) ?_ (fun _ _ => rfl)
  refine go_seg 8 (pc' := 73) (ls' := [(4, .int 4), (3, .int 0), (0, .ref 90), (1, .int 5), (2, .int 7)]) (st' := [.int 0]) (w' := (fw z)) (cs' := 0) (ss' := 0) ?_ (fun _ _ => rfl)
  refine go_seg 8 (pc' := 54) (ls' := [(4, .int 5), (3, .int 0), (0, .ref 90), (1, .int 5), (2, .int 7)]) (st' := []) (w' := (fw z)) (cs' := 0) (ss' := 0) ?_ (fun _ _ => rfl)
  refine go_seg 8 (pc' := 66) (ls' := [(4, .int 5), (3, .int 0), (0, .ref 90), (1, .int 5), (2, .int 7)]) (st' := [.int 5, .int (-1), .int 0]) (w' := (fw z)) (cs' := 0) (ss' := 0) ?_ (fun _ _ => rfl)
  refine go_seg 8 (pc' := 51) (ls' := [(4, .int 6), (3, .int 0), (0, .ref 90), (1, .int 5), (2, .int 7)]) (st' := [.int 64, .int 6]) (w' := (fw z)) (cs' := 0) (ss' := 0) ?_ (fun _ _ => rfl)
  refine go_seg 8 (pc' := 65) (ls' := [(4, .int 6), (3, .int 0), (0, .ref 90), (1, .int 5), (2, .int 7)]) (st' := [.int (-1), .int 0]) (w' := (fw z)) (cs' := 0) (ss' := 0) ?_ (fun _ _ => rfl)
  refine go_seg 8 (pc' := 49) (ls' := [(4, .int 7), (3, .int 0), (0, .ref 90), (1, .int 5), (2, .int 7)]) (st' := [.int 7]) (w' := (fw z)) (cs' := 0) (ss' := 0) ?_ (fun _ _ => rfl)
  refine go_seg 8 (pc' := 64) (ls' := [(4, .int 7), (3, .int 0), (0, .ref 90), (1, .int 5), (2, .int 7)]) (st' := [.int 17, .ref 91, .int 0]) (w' := (fw z)) (cs' := 0) (ss' := 0) ?_ (fun _ _ => rfl)
  refine go_seg 8 (pc' := 47) (ls' := [(4, .int 8), (3, .int 0), (0, .ref 90), (1, .int 5), (2, .int 7)]) (st' := []) (w' := (fw z)) (cs' := 0) (ss' := 0) ?_ (fun _ _ => rfl)
  refine go_seg 8 (pc' := 63) (ls' := [(4, .int 8), (3, .int 0), (0, .ref 90), (1, .int 5), (2, .int 7)]) (st' := [.int 8, .int 10, .ref 91, .int 0]) (w' := (fw z)) (cs' := 0) (ss' := 0) ?_ (fun _ _ => rfl)
  refine go_seg 8 (pc' := 79) (ls' := [(4, .int 9), (3, .int 0), (0, .ref 90), (1, .int 5), (2, .int 7)]) (st' := []) (w' := (fw z)) (cs' := 0) (ss' := 0) ?_ (fun _ _ => rfl)
  refine go_seg 8 (pc' := 61) (ls' := [(4, .int 9), (3, .int 0), (0, .ref 90), (1, .int 5), (2, .int 7)]) (st' := [.int 10, .ref 91, .int 0]) (w' := (fw z)) (cs' := 0) (ss' := 0) ?_ (fun _ _ => rfl)
  refine go_seg 8 (pc' := 76) (ls' := [(3, .int 0), (4, .int 9), (0, .ref 90), (1, .int 5), (2, .int 7)]) (st' := []) (w' := (fw z)) (cs' := 0) (ss' := 0) ?_ (fun _ _ => rfl)
  refine go_seg 8 (pc' := 59) (ls' := [(4, .int 10), (3, .int 0), (0, .ref 90), (1, .int 5), (2, .int 7)]) (st' := [.ref 91, .int 0]) (w' := (fw z)) (cs' := 0) (ss' := 0) ?_ (fun _ _ => rfl)
  refine go_seg 8 (pc' := 75) (ls' := [(4, .int 10), (3, .int 0), (0, .ref 90), (1, .int 5), (2, .int 7)]) (st' := [.int 0]) (w' := (fw z)) (cs' := 0) (ss' := 0) ?_ (fun _ _ => rfl)
  refine go_seg 8 (pc' := 56) (ls' := [(4, .int 11), (3, .int 0), (0, .ref 90), (1, .int 5), (2, .int 7)]) (st' := [.ref 90, .int 0]) (w' := (fw z)) (cs' := 0) (ss' := 0) ?_ (fun _ _ => rfl)
  refine go_seg 8 (pc' := 74) (ls' := [(4, .int 11), (3, .int 0), (0, .ref 90), (1, .int 5), (2, .int 7)]) (st' := [.int 0, .int 0]) (w' := (fw z)) (cs' := 0) (ss' := 0) ?_ (fun _ _ => rfl)
  refine go_seg 8 (pc' := 55) (ls' := [(4, .int 12), (3, .int 0), (0, .ref 90), (1, .int 5), (2, .int 7)]) (st' := [.int 0]) (w' := (fw z)) (cs' := 0) (ss' := 0) ?_ (fun _ _ => rfl)
  refine go_seg 8 (pc' := 73) (ls' := [(4, .int 12), (3, .int 0), (0, .ref 90), (1, .int 5), (2, .int 7)]) (st' := [.int 0]) (w' := (fw z)) (cs' := 0) (ss' := 0) ?_ (fun _ _ => rfl)
  refine go_seg 8 (pc' := 54) (ls' := [(4, .int 13), (3, .int 0), (0, .ref 90), (1, .int 5), (2, .int 7)]) (st' := []) (w' := (fw z)) (cs' := 0) (ss' := 0) ?_ (fun _ _ => rfl)
  refine go_seg 8 (pc' := 66) (ls' := [(4, .int 13), (3, .int 0), (0, .ref 90), (1, .int 5), (2, .int 7)]) (st' := [.int 5, .int (-1), .int 0]) (w' := (fw z)) (cs' := 0) (ss' := 0) ?_ (fun _ _ => rfl)
  refine go_seg 8 (pc' := 51) (ls' := [(4, .int 14), (3, .int 0), (0, .ref 90), (1, .int 5), (2, .int 7)]) (st' := [.int 64, .int 14]) (w' := (fw z)) (cs' := 0) (ss' := 0) ?_ (fun _ _ => rfl)
  refine go_seg 8 (pc' := 65) (ls' := [(4, .int 14), (3, .int 0), (0, .ref 90), (1, .int 5), (2, .int 7)]) (st' := [.int (-1), .int 0]) (w' := (fw z)) (cs' := 0) (ss' := 0) ?_ (fun _ _ => rfl)
  refine go_seg 8 (pc' := 49) (ls' := [(4, .int 15), (3, .int 0), (0, .ref 90), (1, .int 5), (2, .int 7)]) (st' := [.int 15]) (w' := (fw z)) (cs' := 0) (ss' := 0) ?_ (fun _ _ => rfl)
  refine go_seg 8 (pc' := 64) (ls' := [(4, .int 15), (3, .int 0), (0, .ref 90), (1, .int 5), (2, .int 7)]) (st' := [.int 25, .ref 91, .int 0]) (w' := (fw z)) (cs' := 0) (ss' := 0) ?_ (fun _ _ => rfl)
  refine go_seg 8 (pc' := 47) (ls' := [(4, .int 16), (3, .int 0), (0, .ref 90), (1, .int 5), (2, .int 7)]) (st' := []) (w' := (fw z)) (cs' := 0) (ss' := 0) ?_ (fun _ _ => rfl)
  refine go_seg 8 (pc' := 63) (ls' := [(4, .int 16), (3, .int 0), (0, .ref 90), (1, .int 5), (2, .int 7)]) (st' := [.int 16, .int 10, .ref 91, .int 0]) (w' := (fw z)) (cs' := 0) (ss' := 0) ?_ (fun _ _ => rfl)
  refine go_seg 8 (pc' := 79) (ls' := [(4, .int 17), (3, .int 0), (0, .ref 90), (1, .int 5), (2, .int 7)]) (st' := []) (w' := (fw z)) (cs' := 0) (ss' := 0) ?_ (fun _ _ => rfl)
  refine go_seg 8 (pc' := 61) (ls' := [(4, .int 17), (3, .int 0), (0, .ref 90), (1, .int 5), (2, .int 7)]) (st' := [.int 10, .ref 91, .int 0]) (w' := (fw z)) (cs' := 0) (ss' := 0) ?_ (fun _ _ => rfl)
  refine go_seg 8 (pc' := 76) (ls' := [(3, .int 0), (4, .int 17), (0, .ref 90), (1, .int 5), (2, .int 7)]) (st' := []) (w' := (fw z)) (cs' := 0) (ss' := 0) ?_ (fun _ _ => rfl)
  refine go_seg 8 (pc' := 59) (ls' := [(4, .int 18), (3, .int 0), (0, .ref 90), (1, .int 5), (2, .int 7)]) (st' := [.ref 91, .int 0]) (w' := (fw z)) (cs' := 0) (ss' := 0) ?_ (fun _ _ => rfl)
  refine go_seg 8 (pc' := 75) (ls' := [(4, .int 18), (3, .int 0), (0, .ref 90), (1, .int 5), (2, .int 7)]) (st' := [.int 0]) (w' := (fw z)) (cs' := 0) (ss' := 0) ?_ (fun _ _ => rfl)
  refine go_seg 8 (pc' := 56) (ls' := [(4, .int 19), (3, .int 0), (0, .ref 90), (1, .int 5), (2, .int 7)]) (st' := [.ref 90, .int 0]) (w' := (fw z)) (cs' := 0) (ss' := 0) ?_ (fun _ _ => rfl)
  refine go_seg 8 (pc' := 74) (ls' := [(4, .int 19), (3, .int 0), (0, .ref 90), (1, .int 5), (2, .int 7)]) (st' := [.int 0, .int 0]) (w' := (fw z)) (cs' := 0) (ss' := 0) ?_ (fun _ _ => rfl)
  refine go_seg 8 (pc' := 55) (ls' := [(4, .int 20), (3, .int 0), (0, .ref 90), (1, .int 5), (2, .int 7)]) (st' := [.int 0]) (w' := (fw z)) (cs' := 0) (ss' := 0) ?_ (fun _ _ => rfl)
  refine go_seg 8 (pc' := 73) (ls' := [(4, .int 20), (3, .int 0), (0, .ref 90), (1, .int 5), (2, .int 7)]) (st' := [.int 0]) (w' := (fw z)) (cs' := 0) (ss' := 0) ?_ (fun _ _ => rfl)
  refine go_seg 8 (pc' := 54) (ls' := [(4, .int 21), (3, .int 0), (0, .ref 90), (1, .int 5), (2, .int 7)]) (st' := []) (w' := (fw z)) (cs' := 0) (ss' := 0) ?_ (fun _ _ => rfl)
  refine go_seg 8 (pc' := 66) (ls' := [(4, .int 21), (3, .int 0), (0, .ref 90), (1, .int 5), (2, .int 7)]) (st' := [.int 5, .int (-1), .int 0]) (w' := (fw z)) (cs' := 0) (ss' := 0) ?_ (fun _ _ => rfl)
  refine go_seg 8 (pc' := 51) (ls' := [(4, .int 22), (3, .int 0), (0, .ref 90), (1, .int 5), (2, .int 7)]) (st' := [.int 64, .int 22]) (w' := (fw z)) (cs' := 0) (ss' := 0) ?_ (fun _ _ => rfl)
  refine go_seg 8 (pc' := 65) (ls' := [(4, .int 22), (3, .int 0), (0, .ref 90), (1, .int 5), (2, .int 7)]) (st' := [.int (-1), .int 0]) (w' := (fw z)) (cs' := 0) (ss' := 0) ?_ (fun _ _ => rfl)
  refine go_seg 8 (pc' := 49) (ls' := [(4, .int 23), (3, .int 0), (0, .ref 90), (1, .int 5), (2, .int 7)]) (st' := [.int 23]) (w' := (fw z)) (cs' := 0) (ss' := 0) ?_ (fun _ _ => rfl)
  refine go_seg 8 (pc' := 64) (ls' := [(4, .int 23), (3, .int 0), (0, .ref 90), (1, .int 5), (2, .int 7)]) (st' := [.int 33, .ref 91, .int 0]) (w' := (fw z)) (cs' := 0) (ss' := 0) ?_ (fun _ _ => rfl)
  refine go_seg 8 (pc' := 47) (ls' := [(4, .int 24), (3, .int 0), (0, .ref 90), (1, .int 5), (2, .int 7)]) (st' := []) (w' := (fw z)) (cs' := 0) (ss' := 0) ?_ (fun _ _ => rfl)
  refine go_seg 8 (pc' := 63) (ls' := [(4, .int 24), (3, .int 0), (0, .ref 90), (1, .int 5), (2, .int 7)]) (st' := [.int 24, .int 10, .ref 91, .int 0]) (w' := (fw z)) (cs' := 0) (ss' := 0) ?_ (fun _ _ => rfl)
  refine go_seg 8 (pc' := 79) (ls' := [(4, .int 25), (3, .int 0), (0, .ref 90), (1, .int 5), (2, .int 7)]) (st' := []) (w' := (fw z)) (cs' := 0) (ss' := 0) ?_ (fun _ _ => rfl)
  refine go_seg 8 (pc' := 61) (ls' := [(4, .int 25), (3, .int 0), (0, .ref 90), (1, .int 5), (2, .int 7)]) (st' := [.int 10, .ref 91, .int 0]) (w' := (fw z)) (cs' := 0) (ss' := 0) ?_ (fun _ _ => rfl)
  refine go_seg 8 (pc' := 76) (ls' := [(3, .int 0), (4, .int 25), (0, .ref 90), (1, .int 5), (2, .int 7)]) (st' := []) (w' := (fw z)) (cs' := 0) (ss' := 0) ?_ (fun _ _ => rfl)
  refine go_seg 8 (pc' := 59) (ls' := [(4, .int 26), (3, .int 0), (0, .ref 90), (1, .int 5), (2, .int 7)]) (st' := [.ref 91, .int 0]) (w' := (fw z)) (cs' := 0) (ss' := 0) ?_ (fun _ _ => rfl)
  refine go_seg 8 (pc' := 75) (ls' := [(4, .int 26), (3, .int 0), (0, .ref 90), (1, .int 5), (2, .int 7)]) (st' := [.int 0]) (w' := (fw z)) (cs' := 0) (ss' := 0) ?_ (fun _ _ => rfl)
  refine go_seg 8 (pc' := 56) (ls' := [(4, .int 27), (3, .int 0), (0, .ref 90), (1, .int 5), (2, .int 7)]) (st' := [.ref 90, .int 0]) (w' := (fw z)) (cs' := 0) (ss' := 0) ?_ (fun _ _ => rfl)
  refine go_seg 8 (pc' := 74) (ls' := [(4, .int 27), (3, .int 0), (0, .ref 90), (1, .int 5), (2, .int 7)]) (st' := [.int 0, .int 0]) (w' := (fw z)) (cs' := 0) (ss' := 0) ?_ (fun _ _ => rfl)
  refine go_seg 8 (pc' := 55) (ls' := [(4, .int 28), (3, .int 0), (0, .ref 90), (1, .int 5), (2, .int 7)]) (st' := [.int 0]) (w' := (fw z)) (cs' := 0) (ss' := 0) ?_ (fun _ _ => rfl)
  refine go_seg 8 (pc' := 73) (ls' := [(4, .int 28), (3, .int 0), (0, .ref 90), (1, .int 5), (2, .int 7)]) (st' := [.int 0]) (w' := (fw z)) (cs' := 0) (ss' := 0) ?_ (fun _ _ => rfl)
  refine go_seg 8 (pc' := 54) (ls' := [(4, .int 29), (3, .int 0), (0, .ref 90), (1, .int 5), (2, .int 7)]) (st' := []) (w' := (fw z)) (cs' := 0) (ss' := 0) ?_ (fun _ _ => rfl)
  refine go_seg 8 (pc' := 66) (ls' := [(4, .int 29), (3, .int 0), (0, .ref 90), (1, .int 5), (2, .int 7)]) (st' := [.int 5, .int (-1), .int 0]) (w' := (fw z)) (cs' := 0) (ss' := 0) ?_ (fun _ _ => rfl)
  refine go_seg 8 (pc' := 51) (ls' := [(4, .int 30), (3, .int 0), (0, .ref 90), (1, .int 5), (2, .int 7)]) (st' := [.int 64, .int 30]) (w' := (fw z)) (cs' := 0) (ss' := 0) ?_ (fun _ _ => rfl)
  refine go_seg 8 (pc' := 65) (ls' := [(4, .int 30), (3, .int 0), (0, .ref 90), (1, .int 5), (2, .int 7)]) (st' := [.int (-1), .int 0]) (w' := (fw z)) (cs' := 0) (ss' := 0) ?_ (fun _ _ => rfl)
  refine go_seg 8 (pc' := 49) (ls' := [(4, .int 31), (3, .int 0), (0, .ref 90), (1, .int 5), (2, .int 7)]) (st' := [.int 31]) (w' := (fw z)) (cs' := 0) (ss' := 0) ?_ (fun _ _ => rfl)
  refine go_seg 8 (pc' := 64) (ls' := [(4, .int 31), (3, .int 0), (0, .ref 90), (1, .int 5), (2, .int 7)]) (st' := [.int 41, .ref 91, .int 0]) (w' := (fw z)) (cs' := 0) (ss' := 0) ?_ (fun _ _ => rfl)
  refine go_seg 8 (pc' := 47) (ls' := [(4, .int 32), (3, .int 0), (0, .ref 90), (1, .int 5), (2, .int 7)]) (st' := []) (w' := (fw z)) (cs' := 0) (ss' := 0) ?_ (fun _ _ => rfl)
  refine go_seg 8 (pc' := 63) (ls' := [(4, .int 32), (3, .int 0), (0, .ref 90), (1, .int 5), (2, .int 7)]) (st' := [.int 32, .int 10, .ref 91, .int 0]) (w' := (fw z)) (cs' := 0) (ss' := 0) ?_ (fun _ _ => rfl)
  refine go_seg 8 (pc' := 79) (ls' := [(4, .int 33), (3, .int 0), (0, .ref 90), (1, .int 5), (2, .int 7)]) (st' := []) (w' := (fw z)) (cs' := 0) (ss' := 0) ?_ (fun _ _ => rfl)
  refine go_seg 8 (pc' := 61) (ls' := [(4, .int 33), (3, .int 0), (0, .ref 90), (1, .int 5), (2, .int 7)]) (st' := [.int 10, .ref 91, .int 0]) (w' := (fw z)) (cs' := 0) (ss' := 0) ?_ (fun _ _ => rfl)
  refine go_seg 8 (pc' := 76) (ls' := [(3, .int 0), (4, .int 33), (0, .ref 90), (1, .int 5), (2, .int 7)]) (st' := []) (w' := (fw z)) (cs' := 0) (ss' := 0) ?_ (fun _ _ => rfl)
  refine go_seg 8 (pc' := 59) (ls' := [(4, .int 34), (3, .int 0), (0, .ref 90), (1, .int 5), (2, .int 7)]) (st' := [.ref 91, .int 0]) (w' := (fw z)) (cs' := 0) (ss' := 0) ?_ (fun _ _ => rfl)
  refine go_seg 8 (pc' := 75) (ls' := [(4, .int 34), (3, .int 0), (0, .ref 90), (1, .int 5), (2, .int 7)]) (st' := [.int 0]) (w' := (fw z)) (cs' := 0) (ss' := 0) ?_ (fun _ _ => rfl)
  refine go_seg 8 (pc' := 56) (ls' := [(4, .int 35), (3, .int 0), (0, .ref 90), (1, .int 5), (2, .int 7)]) (st' := [.ref 90, .int 0]) (w' := (fw z)) (cs' := 0) (ss' := 0) ?_ (fun _ _ => rfl)
  refine go_seg 8 (pc' := 74) (ls' := [(4, .int 35), (3, .int 0), (0, .ref 90), (1, .int 5), (2, .int 7)]) (st' := [.int 0, .int 0]) (w' := (fw z)) (cs' := 0) (ss' := 0) ?_ (fun _ _ => rfl)
  refine go_seg 8 (pc' := 55) (ls' := [(4, .int 36), (3, .int 0), (0, .ref 90), (1, .int 5), (2, .int 7)]) (st' := [.int 0]) (w' := (fw z)) (cs' := 0) (ss' := 0) ?_ (fun _ _ => rfl)
  refine go_seg 8 (pc' := 73) (ls' := [(4, .int 36), (3, .int 0), (0, .ref 90), (1, .int 5), (2, .int 7)]) (st' := [.int 0]) (w' := (fw z)) (cs' := 0) (ss' := 0) ?_ (fun _ _ => rfl)
  refine go_seg 8 (pc' := 54) (ls' := [(4, .int 37), (3, .int 0), (0, .ref 90), (1, .int 5), (2, .int 7)]) (st' := []) (w' := (fw z)) (cs' := 0) (ss' := 0) ?_ (fun _ _ => rfl)
  refine go_seg 8 (pc' := 66) (ls' := [(4, .int 37), (3, .int 0), (0, .ref 90), (1, .int 5), (2, .int 7)]) (st' := [.int 5, .int (-1), .int 0]) (w' := (fw z)) (cs' := 0) (ss' := 0) ?_ (fun _ _ => rfl)
  refine go_seg 8 (pc' := 51) (ls' := [(4, .int 38), (3, .int 0), (0, .ref 90), (1, .int 5), (2, .int 7)]) (st' := [.int 64, .int 38]) (w' := (fw z)) (cs' := 0) (ss' := 0) ?_ (fun _ _ => rfl)
  refine go_seg 8 (pc' := 65) (ls' := [(4, .int 38), (3, .int 0), (0, .ref 90), (1, .int 5), (2, .int 7)]) (st' := [.int (-1), .int 0]) (w' := (fw z)) (cs' := 0) (ss' := 0) ?_ (fun _ _ => rfl)
  refine go_seg 8 (pc' := 49) (ls' := [(4, .int 39), (3, .int 0), (0, .ref 90), (1, .int 5), (2, .int 7)]) (st' := [.int 39]) (w' := (fw z)) (cs' := 0) (ss' := 0) ?_ (fun _ _ => rfl)
  refine go_seg 8 (pc' := 64) (ls' := [(4, .int 39), (3, .int 0), (0, .ref 90), (1, .int 5), (2, .int 7)]) (st' := [.int 49, .ref 91, .int 0]) (w' := (fw z)) (cs' := 0) (ss' := 0) ?_ (fun _ _ => rfl)
  refine go_seg 8 (pc' := 47) (ls' := [(4, .int 40), (3, .int 0), (0, .ref 90), (1, .int 5), (2, .int 7)]) (st' := []) (w' := (fw z)) (cs' := 0) (ss' := 0) ?_ (fun _ _ => rfl)
  refine go_seg 8 (pc' := 63) (ls' := [(4, .int 40), (3, .int 0), (0, .ref 90), (1, .int 5), (2, .int 7)]) (st' := [.int 40, .int 10, .ref 91, .int 0]) (w' := (fw z)) (cs' := 0) (ss' := 0) ?_ (fun _ _ => rfl)
  refine go_seg 8 (pc' := 79) (ls' := [(4, .int 41), (3, .int 0), (0, .ref 90), (1, .int 5), (2, .int 7)]) (st' := []) (w' := (fw z)) (cs' := 0) (ss' := 0) ?_ (fun _ _ => rfl)
  refine go_seg 8 (pc' := 61) (ls' := [(4, .int 41), (3, .int 0), (0, .ref 90), (1, .int 5), (2, .int 7)]) (st' := [.int 10, .ref 91, .int 0]) (w' := (fw z)) (cs' := 0) (ss' := 0) ?_ (fun _ _ => rfl)
  refine go_seg 8 (pc' := 76) (ls' := [(3, .int 0), (4, .int 41), (0, .ref 90), (1, .int 5), (2, .int 7)]) (st' := []) (w' := (fw z)) (cs' := 0) (ss' := 0) ?_ (fun _ _ => rfl)
  refine go_seg 8 (pc' := 59) (ls' := [(4, .int 42), (3, .int 0), (0, .ref 90), (1, .int 5), (2, .int 7)]) (st' := [.ref 91, .int 0]) (w' := (fw z)) (cs' := 0) (ss' := 0) ?_ (fun _ _ => rfl)
  refine go_seg 8 (pc' := 75) (ls' := [(4, .int 42), (3, .int 0), (0, .ref 90), (1, .int 5), (2, .int 7)]) (st' := [.int 0]) (w' := (fw z)) (cs' := 0) (ss' := 0) ?_ (fun _ _ => rfl)
  refine go_seg 8 (pc' := 56) (ls' := [(4, .int 43), (3, .int 0), (0, .ref 90), (1, .int 5), (2, .int 7)]) (st' := [.ref 90, .int 0]) (w' := (fw z)) (cs' := 0) (ss' := 0) ?_ (fun _ _ => rfl)
  refine go_seg 8 (pc' := 74) (ls' := [(4, .int 43), (3, .int 0), (0, .ref 90), (1, .int 5), (2, .int 7)]) (st' := [.int 0, .int 0]) (w' := (fw z)) (cs' := 0) (ss' := 0) ?_ (fun _ _ => rfl)
  refine go_seg 8 (pc' := 55) (ls' := [(4, .int 44), (3, .int 0), (0, .ref 90), (1, .int 5), (2, .int 7)]) (st' := [.int 0]) (w' := (fw z)) (cs' := 0) (ss' := 0) ?_ (fun _ _ => rfl)
  refine go_seg 8 (pc' := 73) (ls' := [(4, .int 44), (3, .int 0), (0, .ref 90), (1, .int 5), (2, .int 7)]) (st' := [.int 0]) (w' := (fw z)) (cs' := 0) (ss' := 0) ?_ (fun _ _ => rfl)
  refine go_seg 8 (pc' := 54) (ls' := [(4, .int 45), (3, .int 0), (0, .ref 90), (1, .int 5), (2, .int 7)]) (st' := []) (w' := (fw z)) (cs' := 0) (ss' := 0) ?_ (fun _ _ => rfl)
  refine go_seg 8 (pc' := 66) (ls' := [(4, .int 45), (3, .int 0), (0, .ref 90), (1, .int 5), (2, .int 7)]) (st' := [.int 5, .int (-1), .int 0]) (w' := (fw z)) (cs' := 0) (ss' := 0) ?_ (fun _ _ => rfl)
  refine go_seg 8 (pc' := 51) (ls' := [(4, .int 46), (3, .int 0), (0, .ref 90), (1, .int 5), (2, .int 7)]) (st' := [.int 64, .int 46]) (w' := (fw z)) (cs' := 0) (ss' := 0) ?_ (fun _ _ => rfl)
  refine go_seg 8 (pc' := 65) (ls' := [(4, .int 46), (3, .int 0), (0, .ref 90), (1, .int 5), (2, .int 7)]) (st' := [.int (-1), .int 0]) (w' := (fw z)) (cs' := 0) (ss' := 0) ?_ (fun _ _ => rfl)
  refine go_seg 8 (pc' := 49) (ls' := [(4, .int 47), (3, .int 0), (0, .ref 90), (1, .int 5), (2, .int 7)]) (st' := [.int 47]) (w' := (fw z)) (cs' := 0) (ss' := 0) ?_ (fun _ _ => rfl)
  refine go_seg 8 (pc' := 64) (ls' := [(4, .int 47), (3, .int 0), (0, .ref 90), (1, .int 5), (2, .int 7)]) (st' := [.int 57, .ref 91, .int 0]) (w' := (fw z)) (cs' := 0) (ss' := 0) ?_ (fun _ _ => rfl)
  refine go_seg 8 (pc' := 47) (ls' := [(4, .int 48), (3, .int 0), (0, .ref 90), (1, .int 5), (2, .int 7)]) (st' := []) (w' := (fw z)) (cs' := 0) (ss' := 0) ?_ (fun _ _ => rfl)
  refine go_seg 8 (pc' := 63) (ls' := [(4, .int 48), (3, .int 0), (0, .ref 90), (1, .int 5), (2, .int 7)]) (st' := [.int 48, .int 10, .ref 91, .int 0]) (w' := (fw z)) (cs' := 0) (ss' := 0) ?_ (fun _ _ => rfl)
  refine go_seg 8 (pc' := 79) (ls' := [(4, .int 49), (3, .int 0), (0, .ref 90), (1, .int 5), (2, .int 7)]) (st' := []) (w' := (fw z)) (cs' := 0) (ss' := 0) ?_ (fun _ _ => rfl)
  refine go_seg 8 (pc' := 61) (ls' := [(4, .int 49), (3, .int 0), (0, .ref 90), (1, .int 5), (2, .int 7)]) (st' := [.int 10, .ref 91, .int 0]) (w' := (fw z)) (cs' := 0) (ss' := 0) ?_ (fun _ _ => rfl)
  refine go_seg 8 (pc' := 76) (ls' := [(3, .int 0), (4, .int 49), (0, .ref 90), (1, .int 5), (2, .int 7)]) (st' := []) (w' := (fw z)) (cs' := 0) (ss' := 0) ?_ (fun _ _ => rfl)
  refine go_seg 8 (pc' := 59) (ls' := [(4, .int 50), (3, .int 0), (0, .ref 90), (1, .int 5), (2, .int 7)]) (st' := [.ref 91, .int 0]) (w' := (fw z)) (cs' := 0) (ss' := 0) ?_ (fun _ _ => rfl)
  refine go_seg 8 (pc' := 75) (ls' := [(4, .int 50), (3, .int 0), (0, .ref 90), (1, .int 5), (2, .int 7)]) (st' := [.int 0]) (w' := (fw z)) (cs' := 0) (ss' := 0) ?_ (fun _ _ => rfl)
  refine go_seg 8 (pc' := 56) (ls' := [(4, .int 51), (3, .int 0), (0, .ref 90), (1, .int 5), (2, .int 7)]) (st' := [.ref 90, .int 0]) (w' := (fw z)) (cs' := 0) (ss' := 0) ?_ (fun _ _ => rfl)
  refine go_seg 8 (pc' := 74) (ls' := [(4, .int 51), (3, .int 0), (0, .ref 90), (1, .int 5), (2, .int 7)]) (st' := [.int 0, .int 0]) (w' := (fw z)) (cs' := 0) (ss' := 0) ?_ (fun _ _ => rfl)
  refine go_seg 8 (pc' := 55) (ls' := [(4, .int 52), (3, .int 0), (0, .ref 90), (1, .int 5), (2, .int 7)]) (st' := [.int 0]) (w' := (fw z)) (cs' := 0) (ss' := 0) ?_ (fun _ _ => rfl)
  refine go_seg 8 (pc' := 73) (ls' := [(4, .int 52), (3, .int 0), (0, .ref 90), (1, .int 5), (2, .int 7)]) (st' := [.int 0]) (w' := (fw z)) (cs' := 0) (ss' := 0) ?_ (fun _ _ => rfl)
  refine go_seg 8 (pc' := 54) (ls' := [(4, .int 53), (3, .int 0), (0, .ref 90), (1, .int 5), (2, .int 7)]) (st' := []) (w' := (fw z)) (cs' := 0) (ss' := 0) ?_ (fun _ _ => rfl)
  refine go_seg 8 (pc' := 66) (ls' := [(4, .int 53), (3, .int 0), (0, .ref 90), (1, .int 5), (2, .int 7)]) (st' := [.int 5, .int (-1), .int 0]) (w' := (fw z)) (cs' := 0) (ss' := 0) ?_ (fun _ _ => rfl)
  refine go_seg 8 (pc' := 51) (ls' := [(4, .int 54), (3, .int 0), (0, .ref 90), (1, .int 5), (2, .int 7)]) (st' := [.int 64, .int 54]) (w' := (fw z)) (cs' := 0) (ss' := 0) ?_ (fun _ _ => rfl)
  refine go_seg 8 (pc' := 65) (ls' := [(4, .int 54), (3, .int 0), (0, .ref 90), (1, .int 5), (2, .int 7)]) (st' := [.int (-1), .int 0]) (w' := (fw z)) (cs' := 0) (ss' := 0) ?_ (fun _ _ => rfl)
  refine go_seg 8 (pc' := 49) (ls' := [(4, .int 55), (3, .int 0), (0, .ref 90), (1, .int 5), (2, .int 7)]) (st' := [.int 55]) (w' := (fw z)) (cs' := 0) (ss' := 0) ?_ (fun _ _ => rfl)
  refine go_seg 8 (pc' := 64) (ls' := [(4, .int 55), (3, .int 0), (0, .ref 90), (1, .int 5), (2, .int 7)]) (st' := [.int 65, .ref 91, .int 0]) (w' := (fw z)) (cs' := 0) (ss' := 0) ?_ (fun _ _ => rfl)
  refine go_seg 8 (pc' := 47) (ls' := [(4, .int 56), (3, .int 0), (0, .ref 90), (1, .int 5), (2, .int 7)]) (st' := []) (w' := (fw z)) (cs' := 0) (ss' := 0) ?_ (fun _ _ => rfl)
  refine go_seg 8 (pc' := 63) (ls' := [(4, .int 56), (3, .int 0), (0, .ref 90), (1, .int 5), (2, .int 7)]) (st' := [.int 56, .int 10, .ref 91, .int 0]) (w' := (fw z)) (cs' := 0) (ss' := 0) ?_ (fun _ _ => rfl)
  refine go_seg 8 (pc' := 79) (ls' := [(4, .int 57), (3, .int 0), (0, .ref 90), (1, .int 5), (2, .int 7)]) (st' := []) (w' := (fw z)) (cs' := 0) (ss' := 0) ?_ (fun _ _ => rfl)
  refine go_seg 8 (pc' := 61) (ls' := [(4, .int 57), (3, .int 0), (0, .ref 90), (1, .int 5), (2, .int 7)]) (st' := [.int 10, .ref 91, .int 0]) (w' := (fw z)) (cs' := 0) (ss' := 0) ?_ (fun _ _ => rfl)
  refine go_seg 8 (pc' := 76) (ls' := [(3, .int 0), (4, .int 57), (0, .ref 90), (1, .int 5), (2, .int 7)]) (st' := []) (w' := (fw z)) (cs' := 0) (ss' := 0) ?_ (fun _ _ => rfl)
  refine go_seg 8 (pc' := 59) (ls' := [(4, .int 58), (3, .int 0), (0, .ref 90), (1, .int 5), (2, .int 7)]) (st' := [.ref 91, .int 0]) (w' := (fw z)) (cs' := 0) (ss' := 0) ?_ (fun _ _ => rfl)
  refine go_seg 8 (pc' := 75) (ls' := [(4, .int 58), (3, .int 0), (0, .ref 90), (1, .int 5), (2, .int 7)]) (st' := [.int 0]) (w' := (fw z)) (cs' := 0) (ss' := 0) ?_ (fun _ _ => rfl)
  refine go_seg 8 (pc' := 56) (ls' := [(4, .int 59), (3, .int 0), (0, .ref 90), (1, .int 5), (2, .int 7)]) (st' := [.ref 90, .int 0]) (w' := (fw z)) (cs' := 0) (ss' := 0) ?_ (fun _ _ => rfl)
  refine go_seg 8 (pc' := 74) (ls' := [(4, .int 59), (3, .int 0), (0, .ref 90), (1, .int 5), (2, .int 7)]) (st' := [.int 0, .int 0]) (w' := (fw z)) (cs' := 0) (ss' := 0) ?_ (fun _ _ => rfl)
  refine go_seg 8 (pc' := 55) (ls' := [(4, .int 60), (3, .int 0), (0, .ref 90), (1, .int 5), (2, .int 7)]) (st' := [.int 0]) (w' := (fw z)) (cs' := 0) (ss' := 0) ?_ (fun _ _ => rfl)
  refine go_seg 8 (pc' := 73) (ls' := [(4, .int 60), (3, .int 0), (0, .ref 90), (1, .int 5), (2, .int 7)]) (st' := [.int 0]) (w' := (fw z)) (cs' := 0) (ss' := 0) ?_ (fun _ _ => rfl)
  refine go_seg 8 (pc' := 54) (ls' := [(4, .int 61), (3, .int 0), (0, .ref 90), (1, .int 5), (2, .int 7)]) (st' := []) (w' := (fw z)) (cs' := 0) (ss' := 0) ?_ (fun _ _ => rfl)
  refine go_seg 8 (pc' := 66) (ls' := [(4, .int 61), (3, .int 0), (0, .ref 90), (1, .int 5), (2, .int 7)]) (st' := [.int 5, .int (-1), .int 0]) (w' := (fw z)) (cs' := 0) (ss' := 0) ?_ (fun _ _ => rfl)
  refine go_seg 8 (pc' := 51) (ls' := [(4, .int 62), (3, .int 0), (0, .ref 90), (1, .int 5), (2, .int 7)]) (st' := [.int 64, .int 62]) (w' := (fw z)) (cs' := 0) (ss' := 0) ?_ (fun _ _ => rfl)
  refine go_seg 8 (pc' := 65) (ls' := [(4, .int 62), (3, .int 0), (0, .ref 90), (1, .int 5), (2, .int 7)]) (st' := [.int (-1), .int 0]) (w' := (fw z)) (cs' := 0) (ss' := 0) ?_ (fun _ _ => rfl)
  refine go_seg 8 (pc' := 49) (ls' := [(4, .int 63), (3, .int 0), (0, .ref 90), (1, .int 5), (2, .int 7)]) (st' := [.int 63]) (w' := (fw z)) (cs' := 0) (ss' := 0) ?_ (fun _ _ => rfl)
  refine go_seg 8 (pc' := 64) (ls' := [(4, .int 63), (3, .int 0), (0, .ref 90), (1, .int 5), (2, .int 7)]) (st' := [.int 73, .ref 91, .int 0]) (w' := (fw z)) (cs' := 0) (ss' := 0) ?_ (fun _ _ => rfl)
  refine go_seg 8 (pc' := 47) (ls' := [(4, .int 64), (3, .int 0), (0, .ref 90), (1, .int 5), (2, .int 7)]) (st' := []) (w' := (fw z)) (cs' := 0) (ss' := 0) ?_ (fun _ _ => rfl)
  refine go_seg 8 (pc' := 94) (ls' := [(4, .int 64), (3, .int 0), (0, .ref 90), (1, .int 5), (2, .int 7)]) (st' := [.int 6, .int 7]) (w' := (fw z)) (cs' := 0) (ss' := 0) ?_ (fun _ _ => rfl)
  refine go_seg 5 (pc' := 111) (ls' := [(4, .int 64), (3, .int 0), (0, .ref 90), (1, .int 5), (2, .int 7)]) (st' := [.int 5, .int 5, .ref 91]) (w' := (fw z)) (cs' := 0) (ss' := 0) ?_ (fun _ _ => rfl)
  refine go_cl (k := 2) (st' := [.int 173, .ref 91]) (cs' := 0) (ss' := 0) rfl rfl rfl rfl rfl rfl rfl (ro_492 z) ?_
  exact go_end 2 (fun _ _ => rfl)
theorem lf_4_1167 (a0 : Int32) (a3 : Int32) (a4 : Int32) (a5 : Int32) : ∃ w', pq_Go 20 pm_law 370 [(3, .int 0), (2, .ref 90), (1, .ref 1), (0, .ref 0)] [] (fw (sz a0 5 7 a3 a4 a5)) 109 12668 (some (.int 1), w') := by
  refine ⟨(fw (sz a0 5 7 a3 a4 a5)), ?_⟩
  refine go_seg 8 (pc' := 378) (ls' := [(3, .int 0), (2, .ref 90), (1, .ref 1), (0, .ref 0)]) (st' := [.int 0, .ref 0, .int 5, .ref 1]) (w' := (fw (sz a0 5 7 a3 a4 a5))) (cs' := 109) (ss' := 12668) ?_ (fun _ _ => rfl)
  refine go_seg 3 (pc' := 381) (ls' := [(3, .int 0), (2, .ref 90), (1, .ref 1), (0, .ref 0)]) (st' := [.int 7, .int 5, .ref 1]) (w' := (fw (sz a0 5 7 a3 a4 a5))) (cs' := 109) (ss' := 12668) ?_ (fun _ _ => rfl)
  refine go_cl (k := 20) (st' := [.int 0]) (cs' := 109) (ss' := 12668) rfl rfl rfl rfl rfl rfl rfl (ro_1165 (sz a0 5 7 a3 a4 a5)) ?_
  refine go_seg 8 (pc' := 392) (ls' := [(3, .int 0), (2, .ref 90), (1, .ref 1), (0, .ref 0)]) (st' := [.int 0, .ref 0, .int 5, .ref 90, .int 0]) (w' := (fw (sz a0 5 7 a3 a4 a5))) (cs' := 109) (ss' := 12668) ?_ (fun _ _ => rfl)
  refine go_seg 3 (pc' := 395) (ls' := [(3, .int 0), (2, .ref 90), (1, .ref 1), (0, .ref 0)]) (st' := [.int 7, .int 5, .ref 90, .int 0]) (w' := (fw (sz a0 5 7 a3 a4 a5))) (cs' := 109) (ss' := 12668) ?_ (fun _ _ => rfl)
  refine go_cl (k := 20) (st' := [.int 0, .int 0]) (cs' := 109) (ss' := 12668) rfl rfl rfl rfl rfl rfl rfl (ro_1166 (sz a0 5 7 a3 a4 a5)) ?_
  refine go_cmp true rfl (br_self _) ?_
  exact law_tail (f := sc a0 5 7 a3 a4 a5) rfl
theorem ro_1168 (z : pq_C) : pq_Ru 2 25 [.ref 1, .int 6, .int 7] (fw z) (some (.int 0), (fw z)) := by
  refine ru_of (k := 1) (M := pm_25) rfl rfl ?_
  refine go_seg 1 (pc' := 1) (ls' := [(0, .ref 1), (1, .int 6), (2, .int 7)]) (st' := [.int 6]) (w' := (fw z)) (cs' := 0) (ss' := 0) ?_ (fun _ _ => rfl)
  refine go_cl (k := 1) (st' := [.int 1]) (cs' := 0) (ss' := 0) rfl rfl rfl rfl rfl rfl rfl (ro_603 z) ?_
  refine go_seg 8 (pc' := 137) (ls' := [(0, .ref 1), (1, .int 6), (2, .int 7)]) (st' := [.int 0]) (w' := (fw z)) (cs' := 0) (ss' := 0) ?_ (fun _ _ => rfl)
  exact go_end 1 (fun _ _ => rfl)
theorem ro_1169 (z : pq_C) : pq_Ru 3 169 [.ref 90, .int 6, .int 7] (fw z) (some (.int 0), (fw z)) := by
  refine ru_of (k := 2) (M := pm_169) rfl rfl ?_
  refine go_seg 1 (pc' := 1) (ls' := [(0, .ref 90), (1, .int 6), (2, .int 7)]) (st' := [.int 6]) (w' := (fw z)) (cs' := 0) (ss' := 0) ?_ (fun _ _ => rfl)
  refine go_cl (k := 2) (st' := [.int 1]) (cs' := 0) (ss' := 0) rfl rfl rfl rfl rfl rfl rfl (ro_976 z) ?_
  refine go_seg 5 (pc' := 13) (ls' := [(0, .ref 90), (1, .int 6), (2, .int 7)]) (st' := [.long 7, .long 0, .long 7]) (w' := (fw z)) (cs' := 0) (ss' := 0) ?_ (fun _ _ => rfl)
  refine go_cl (k := 2) (st' := [.int 1]) (cs' := 0) (ss' := 0) rfl rfl rfl rfl rfl rfl rfl (ro_981 z) ?_
  refine go_seg 8 (pc' := 47) (ls' := [(4, .int 0), (3, .int 0), (0, .ref 90), (1, .int 6), (2, .int 7)]) (st' := []) (w' := (fw z)) (cs' := 0) (ss' := 0) ?_ (fun _ _ => rfl)
  refine go_seg 8 (pc' := 63) (ls' := [(4, .int 0), (3, .int 0), (0, .ref 90), (1, .int 6), (2, .int 7)]) (st' := [.int 0, .int 10, .ref 91, .int 0]) (w' := (fw z)) (cs' := 0) (ss' := 0) ?_ (fun _ _ => rfl)
  refine go_seg 8 (pc' := 79) (ls' := [(4, .int 1), (3, .int 0), (0, .ref 90), (1, .int 6), (2, .int 7)]) (st' := []) (w' := (fw z)) (cs' := 0) (ss' := 0) ?_ (fun _ _ => rfl)
  refine go_seg 8 (pc' := 61) (ls' := [(4, .int 1), (3, .int 0), (0, .ref 90), (1, .int 6), (2, .int 7)]) (st' := [.int 10, .ref 91, .int 0]) (w' := (fw z)) (cs' := 0) (ss' := 0) ?_ (fun _ _ => rfl)
  refine go_seg 8 (pc' := 76) (ls' := [(3, .int 0), (4, .int 1), (0, .ref 90), (1, .int 6), (2, .int 7)]) (st' := []) (w' := (fw z)) (cs' := 0) (ss' := 0) ?_ (fun _ _ => rfl)
  refine go_seg 8 (pc' := 59) (ls' := [(4, .int 2), (3, .int 0), (0, .ref 90), (1, .int 6), (2, .int 7)]) (st' := [.ref 91, .int 0]) (w' := (fw z)) (cs' := 0) (ss' := 0) ?_ (fun _ _ => rfl)
  refine go_seg 8 (pc' := 75) (ls' := [(4, .int 2), (3, .int 0), (0, .ref 90), (1, .int 6), (2, .int 7)]) (st' := [.int 0]) (w' := (fw z)) (cs' := 0) (ss' := 0) ?_ (fun _ _ => rfl)
  refine go_seg 8 (pc' := 56) (ls' := [(4, .int 3), (3, .int 0), (0, .ref 90), (1, .int 6), (2, .int 7)]) (st' := [.ref 90, .int 0]) (w' := (fw z)) (cs' := 0) (ss' := 0) ?_ (fun _ _ => rfl)
  refine go_seg 8 (pc' := 74) (ls' := [(4, .int 3), (3, .int 0), (0, .ref 90), (1, .int 6), (2, .int 7)]) (st' := [.int 0, .int 0]) (w' := (fw z)) (cs' := 0) (ss' := 0) ?_ (fun _ _ => rfl)
  refine go_seg 8 (pc' := 55) (ls' := [(4, .int 4), (3, .int 0), (0, .ref 90), (1, .int 6), (2, .int 7)]) (st' := [.int 0]) (w' := (fw z)) (cs' := 0) (ss' := 0) ?_ (fun _ _ => rfl)
  refine go_seg 8 (pc' := 73) (ls' := [(4, .int 4), (3, .int 0), (0, .ref 90), (1, .int 6), (2, .int 7)]) (st' := [.int 0]) (w' := (fw z)) (cs' := 0) (ss' := 0) ?_ (fun _ _ => rfl)
  refine go_seg 8 (pc' := 54) (ls' := [(4, .int 5), (3, .int 0), (0, .ref 90), (1, .int 6), (2, .int 7)]) (st' := []) (w' := (fw z)) (cs' := 0) (ss' := 0) ?_ (fun _ _ => rfl)
  refine go_seg 8 (pc' := 66) (ls' := [(4, .int 5), (3, .int 0), (0, .ref 90), (1, .int 6), (2, .int 7)]) (st' := [.int 6, .int (-1), .int 0]) (w' := (fw z)) (cs' := 0) (ss' := 0) ?_ (fun _ _ => rfl)
  refine go_seg 8 (pc' := 51) (ls' := [(4, .int 6), (3, .int 0), (0, .ref 90), (1, .int 6), (2, .int 7)]) (st' := [.int 64, .int 6]) (w' := (fw z)) (cs' := 0) (ss' := 0) ?_ (fun _ _ => rfl)
  refine go_seg 8 (pc' := 65) (ls' := [(4, .int 6), (3, .int 0), (0, .ref 90), (1, .int 6), (2, .int 7)]) (st' := [.int (-1), .int 0]) (w' := (fw z)) (cs' := 0) (ss' := 0) ?_ (fun _ _ => rfl)
  refine go_seg 8 (pc' := 49) (ls' := [(4, .int 7), (3, .int 0), (0, .ref 90), (1, .int 6), (2, .int 7)]) (st' := [.int 7]) (w' := (fw z)) (cs' := 0) (ss' := 0) ?_ (fun _ _ => rfl)
  refine go_seg 8 (pc' := 64) (ls' := [(4, .int 7), (3, .int 0), (0, .ref 90), (1, .int 6), (2, .int 7)]) (st' := [.int 17, .ref 91, .int 0]) (w' := (fw z)) (cs' := 0) (ss' := 0) ?_ (fun _ _ => rfl)
  refine go_seg 8 (pc' := 47) (ls' := [(4, .int 8), (3, .int 0), (0, .ref 90), (1, .int 6), (2, .int 7)]) (st' := []) (w' := (fw z)) (cs' := 0) (ss' := 0) ?_ (fun _ _ => rfl)
  refine go_seg 8 (pc' := 63) (ls' := [(4, .int 8), (3, .int 0), (0, .ref 90), (1, .int 6), (2, .int 7)]) (st' := [.int 8, .int 10, .ref 91, .int 0]) (w' := (fw z)) (cs' := 0) (ss' := 0) ?_ (fun _ _ => rfl)
  refine go_seg 8 (pc' := 79) (ls' := [(4, .int 9), (3, .int 0), (0, .ref 90), (1, .int 6), (2, .int 7)]) (st' := []) (w' := (fw z)) (cs' := 0) (ss' := 0) ?_ (fun _ _ => rfl)
  refine go_seg 8 (pc' := 61) (ls' := [(4, .int 9), (3, .int 0), (0, .ref 90), (1, .int 6), (2, .int 7)]) (st' := [.int 10, .ref 91, .int 0]) (w' := (fw z)) (cs' := 0) (ss' := 0) ?_ (fun _ _ => rfl)
  refine go_seg 8 (pc' := 76) (ls' := [(3, .int 0), (4, .int 9), (0, .ref 90), (1, .int 6), (2, .int 7)]) (st' := []) (w' := (fw z)) (cs' := 0) (ss' := 0) ?_ (fun _ _ => rfl)
  refine go_seg 8 (pc' := 59) (ls' := [(4, .int 10), (3, .int 0), (0, .ref 90), (1, .int 6), (2, .int 7)]) (st' := [.ref 91, .int 0]) (w' := (fw z)) (cs' := 0) (ss' := 0) ?_ (fun _ _ => rfl)
  refine go_seg 8 (pc' := 75) (ls' := [(4, .int 10), (3, .int 0), (0, .ref 90), (1, .int 6), (2, .int 7)]) (st' := [.int 0]) (w' := (fw z)) (cs' := 0) (ss' := 0) ?_ (fun _ _ => rfl)
  refine go_seg 8 (pc' := 56) (ls' := [(4, .int 11), (3, .int 0), (0, .ref 90), (1, .int 6), (2, .int 7)]) (st' := [.ref 90, .int 0]) (w' := (fw z)) (cs' := 0) (ss' := 0) ?_ (fun _ _ => rfl)
  refine go_seg 8 (pc' := 74) (ls' := [(4, .int 11), (3, .int 0), (0, .ref 90), (1, .int 6), (2, .int 7)]) (st' := [.int 0, .int 0]) (w' := (fw z)) (cs' := 0) (ss' := 0) ?_ (fun _ _ => rfl)
  refine go_seg 8 (pc' := 55) (ls' := [(4, .int 12), (3, .int 0), (0, .ref 90), (1, .int 6), (2, .int 7)]) (st' := [.int 0]) (w' := (fw z)) (cs' := 0) (ss' := 0) ?_ (fun _ _ => rfl)
  refine go_seg 8 (pc' := 73) (ls' := [(4, .int 12), (3, .int 0), (0, .ref 90), (1, .int 6), (2, .int 7)]) (st' := [.int 0]) (w' := (fw z)) (cs' := 0) (ss' := 0) ?_ (fun _ _ => rfl)
  refine go_seg 8 (pc' := 54) (ls' := [(4, .int 13), (3, .int 0), (0, .ref 90), (1, .int 6), (2, .int 7)]) (st' := []) (w' := (fw z)) (cs' := 0) (ss' := 0) ?_ (fun _ _ => rfl)
  refine go_seg 8 (pc' := 66) (ls' := [(4, .int 13), (3, .int 0), (0, .ref 90), (1, .int 6), (2, .int 7)]) (st' := [.int 6, .int (-1), .int 0]) (w' := (fw z)) (cs' := 0) (ss' := 0) ?_ (fun _ _ => rfl)
  refine go_seg 8 (pc' := 51) (ls' := [(4, .int 14), (3, .int 0), (0, .ref 90), (1, .int 6), (2, .int 7)]) (st' := [.int 64, .int 14]) (w' := (fw z)) (cs' := 0) (ss' := 0) ?_ (fun _ _ => rfl)
  refine go_seg 8 (pc' := 65) (ls' := [(4, .int 14), (3, .int 0), (0, .ref 90), (1, .int 6), (2, .int 7)]) (st' := [.int (-1), .int 0]) (w' := (fw z)) (cs' := 0) (ss' := 0) ?_ (fun _ _ => rfl)
  refine go_seg 8 (pc' := 49) (ls' := [(4, .int 15), (3, .int 0), (0, .ref 90), (1, .int 6), (2, .int 7)]) (st' := [.int 15]) (w' := (fw z)) (cs' := 0) (ss' := 0) ?_ (fun _ _ => rfl)
  refine go_seg 8 (pc' := 64) (ls' := [(4, .int 15), (3, .int 0), (0, .ref 90), (1, .int 6), (2, .int 7)]) (st' := [.int 25, .ref 91, .int 0]) (w' := (fw z)) (cs' := 0) (ss' := 0) ?_ (fun _ _ => rfl)
  refine go_seg 8 (pc' := 47) (ls' := [(4, .int 16), (3, .int 0), (0, .ref 90), (1, .int 6), (2, .int 7)]) (st' := []) (w' := (fw z)) (cs' := 0) (ss' := 0) ?_ (fun _ _ => rfl)
  refine go_seg 8 (pc' := 63) (ls' := [(4, .int 16), (3, .int 0), (0, .ref 90), (1, .int 6), (2, .int 7)]) (st' := [.int 16, .int 10, .ref 91, .int 0]) (w' := (fw z)) (cs' := 0) (ss' := 0) ?_ (fun _ _ => rfl)
  refine go_seg 8 (pc' := 79) (ls' := [(4, .int 17), (3, .int 0), (0, .ref 90), (1, .int 6), (2, .int 7)]) (st' := []) (w' := (fw z)) (cs' := 0) (ss' := 0) ?_ (fun _ _ => rfl)
  refine go_seg 8 (pc' := 61) (ls' := [(4, .int 17), (3, .int 0), (0, .ref 90), (1, .int 6), (2, .int 7)]) (st' := [.int 10, .ref 91, .int 0]) (w' := (fw z)) (cs' := 0) (ss' := 0) ?_ (fun _ _ => rfl)
  refine go_seg 8 (pc' := 76) (ls' := [(3, .int 0), (4, .int 17), (0, .ref 90), (1, .int 6), (2, .int 7)]) (st' := []) (w' := (fw z)) (cs' := 0) (ss' := 0) ?_ (fun _ _ => rfl)
  refine go_seg 8 (pc' := 59) (ls' := [(4, .int 18), (3, .int 0), (0, .ref 90), (1, .int 6), (2, .int 7)]) (st' := [.ref 91, .int 0]) (w' := (fw z)) (cs' := 0) (ss' := 0) ?_ (fun _ _ => rfl)
  refine go_seg 8 (pc' := 75) (ls' := [(4, .int 18), (3, .int 0), (0, .ref 90), (1, .int 6), (2, .int 7)]) (st' := [.int 0]) (w' := (fw z)) (cs' := 0) (ss' := 0) ?_ (fun _ _ => rfl)
  refine go_seg 8 (pc' := 56) (ls' := [(4, .int 19), (3, .int 0), (0, .ref 90), (1, .int 6), (2, .int 7)]) (st' := [.ref 90, .int 0]) (w' := (fw z)) (cs' := 0) (ss' := 0) ?_ (fun _ _ => rfl)
  refine go_seg 8 (pc' := 74) (ls' := [(4, .int 19), (3, .int 0), (0, .ref 90), (1, .int 6), (2, .int 7)]) (st' := [.int 0, .int 0]) (w' := (fw z)) (cs' := 0) (ss' := 0) ?_ (fun _ _ => rfl)
  refine go_seg 8 (pc' := 55) (ls' := [(4, .int 20), (3, .int 0), (0, .ref 90), (1, .int 6), (2, .int 7)]) (st' := [.int 0]) (w' := (fw z)) (cs' := 0) (ss' := 0) ?_ (fun _ _ => rfl)
  refine go_seg 8 (pc' := 73) (ls' := [(4, .int 20), (3, .int 0), (0, .ref 90), (1, .int 6), (2, .int 7)]) (st' := [.int 0]) (w' := (fw z)) (cs' := 0) (ss' := 0) ?_ (fun _ _ => rfl)
  refine go_seg 8 (pc' := 54) (ls' := [(4, .int 21), (3, .int 0), (0, .ref 90), (1, .int 6), (2, .int 7)]) (st' := []) (w' := (fw z)) (cs' := 0) (ss' := 0) ?_ (fun _ _ => rfl)
  refine go_seg 8 (pc' := 66) (ls' := [(4, .int 21), (3, .int 0), (0, .ref 90), (1, .int 6), (2, .int 7)]) (st' := [.int 6, .int (-1), .int 0]) (w' := (fw z)) (cs' := 0) (ss' := 0) ?_ (fun _ _ => rfl)
  refine go_seg 8 (pc' := 51) (ls' := [(4, .int 22), (3, .int 0), (0, .ref 90), (1, .int 6), (2, .int 7)]) (st' := [.int 64, .int 22]) (w' := (fw z)) (cs' := 0) (ss' := 0) ?_ (fun _ _ => rfl)
  refine go_seg 8 (pc' := 65) (ls' := [(4, .int 22), (3, .int 0), (0, .ref 90), (1, .int 6), (2, .int 7)]) (st' := [.int (-1), .int 0]) (w' := (fw z)) (cs' := 0) (ss' := 0) ?_ (fun _ _ => rfl)
  refine go_seg 8 (pc' := 49) (ls' := [(4, .int 23), (3, .int 0), (0, .ref 90), (1, .int 6), (2, .int 7)]) (st' := [.int 23]) (w' := (fw z)) (cs' := 0) (ss' := 0) ?_ (fun _ _ => rfl)
  refine go_seg 8 (pc' := 64) (ls' := [(4, .int 23), (3, .int 0), (0, .ref 90), (1, .int 6), (2, .int 7)]) (st' := [.int 33, .ref 91, .int 0]) (w' := (fw z)) (cs' := 0) (ss' := 0) ?_ (fun _ _ => rfl)
  refine go_seg 8 (pc' := 47) (ls' := [(4, .int 24), (3, .int 0), (0, .ref 90), (1, .int 6), (2, .int 7)]) (st' := []) (w' := (fw z)) (cs' := 0) (ss' := 0) ?_ (fun _ _ => rfl)
  refine go_seg 8 (pc' := 63) (ls' := [(4, .int 24), (3, .int 0), (0, .ref 90), (1, .int 6), (2, .int 7)]) (st' := [.int 24, .int 10, .ref 91, .int 0]) (w' := (fw z)) (cs' := 0) (ss' := 0) ?_ (fun _ _ => rfl)
  refine go_seg 8 (pc' := 79) (ls' := [(4, .int 25), (3, .int 0), (0, .ref 90), (1, .int 6), (2, .int 7)]) (st' := []) (w' := (fw z)) (cs' := 0) (ss' := 0) ?_ (fun _ _ => rfl)
  refine go_seg 8 (pc' := 61) (ls' := [(4, .int 25), (3, .int 0), (0, .ref 90), (1, .int 6), (2, .int 7)]) (st' := [.int 10, .ref 91, .int 0]) (w' := (fw z)) (cs' := 0) (ss' := 0) ?_ (fun _ _ => rfl)
  refine go_seg 8 (pc' := 76) (ls' := [(3, .int 0), (4, .int 25), (0, .ref 90), (1, .int 6), (2, .int 7)]) (st' := []) (w' := (fw z)) (cs' := 0) (ss' := 0) ?_ (fun _ _ => rfl)
  refine go_seg 8 (pc' := 59) (ls' := [(4, .int 26), (3, .int 0), (0, .ref 90), (1, .int 6), (2, .int 7)]) (st' := [.ref 91, .int 0]) (w' := (fw z)) (cs' := 0) (ss' := 0) ?_ (fun _ _ => rfl)
  refine go_seg 8 (pc' := 75) (ls' := [(4, .int 26), (3, .int 0), (0, .ref 90), (1, .int 6), (2, .int 7)]) (st' := [.int 0]) (w' := (fw z)) (cs' := 0) (ss' := 0) ?_ (fun _ _ => rfl)
  refine go_seg 8 (pc' := 56) (ls' := [(4, .int 27), (3, .int 0), (0, .ref 90), (1, .int 6), (2, .int 7)]) (st' := [.ref 90, .int 0]) (w' := (fw z)) (cs' := 0) (ss' := 0) ?_ (fun _ _ => rfl)
  refine go_seg 8 (pc' := 74) (ls' := [(4, .int 27), (3, .int 0), (0, .ref 90), (1, .int 6), (2, .int 7)]) (st' := [.int 0, .int 0]) (w' := (fw z)) (cs' := 0) (ss' := 0) ?_ (fun _ _ => rfl)
  refine go_seg 8 (pc' := 55) (ls' := [(4, .int 28), (3, .int 0), (0, .ref 90), (1, .int 6), (2, .int 7)]) (st' := [.int 0]) (w' := (fw z)) (cs' := 0) (ss' := 0) ?_ (fun _ _ => rfl)
  refine go_seg 8 (pc' := 73) (ls' := [(4, .int 28), (3, .int 0), (0, .ref 90), (1, .int 6), (2, .int 7)]) (st' := [.int 0]) (w' := (fw z)) (cs' := 0) (ss' := 0) ?_ (fun _ _ => rfl)
  refine go_seg 8 (pc' := 54) (ls' := [(4, .int 29), (3, .int 0), (0, .ref 90), (1, .int 6), (2, .int 7)]) (st' := []) (w' := (fw z)) (cs' := 0) (ss' := 0) ?_ (fun _ _ => rfl)
  refine go_seg 8 (pc' := 66) (ls' := [(4, .int 29), (3, .int 0), (0, .ref 90), (1, .int 6), (2, .int 7)]) (st' := [.int 6, .int (-1), .int 0]) (w' := (fw z)) (cs' := 0) (ss' := 0) ?_ (fun _ _ => rfl)
  refine go_seg 8 (pc' := 51) (ls' := [(4, .int 30), (3, .int 0), (0, .ref 90), (1, .int 6), (2, .int 7)]) (st' := [.int 64, .int 30]) (w' := (fw z)) (cs' := 0) (ss' := 0) ?_ (fun _ _ => rfl)
  refine go_seg 8 (pc' := 65) (ls' := [(4, .int 30), (3, .int 0), (0, .ref 90), (1, .int 6), (2, .int 7)]) (st' := [.int (-1), .int 0]) (w' := (fw z)) (cs' := 0) (ss' := 0) ?_ (fun _ _ => rfl)
  refine go_seg 8 (pc' := 49) (ls' := [(4, .int 31), (3, .int 0), (0, .ref 90), (1, .int 6), (2, .int 7)]) (st' := [.int 31]) (w' := (fw z)) (cs' := 0) (ss' := 0) ?_ (fun _ _ => rfl)
  refine go_seg 8 (pc' := 64) (ls' := [(4, .int 31), (3, .int 0), (0, .ref 90), (1, .int 6), (2, .int 7)]) (st' := [.int 41, .ref 91, .int 0]) (w' := (fw z)) (cs' := 0) (ss' := 0) ?_ (fun _ _ => rfl)
  refine go_seg 8 (pc' := 47) (ls' := [(4, .int 32), (3, .int 0), (0, .ref 90), (1, .int 6), (2, .int 7)]) (st' := []) (w' := (fw z)) (cs' := 0) (ss' := 0) ?_ (fun _ _ => rfl)
  refine go_seg 8 (pc' := 63) (ls' := [(4, .int 32), (3, .int 0), (0, .ref 90), (1, .int 6), (2, .int 7)]) (st' := [.int 32, .int 10, .ref 91, .int 0]) (w' := (fw z)) (cs' := 0) (ss' := 0) ?_ (fun _ _ => rfl)
  refine go_seg 8 (pc' := 79) (ls' := [(4, .int 33), (3, .int 0), (0, .ref 90), (1, .int 6), (2, .int 7)]) (st' := []) (w' := (fw z)) (cs' := 0) (ss' := 0) ?_ (fun _ _ => rfl)
  refine go_seg 8 (pc' := 61) (ls' := [(4, .int 33), (3, .int 0), (0, .ref 90), (1, .int 6), (2, .int 7)]) (st' := [.int 10, .ref 91, .int 0]) (w' := (fw z)) (cs' := 0) (ss' := 0) ?_ (fun _ _ => rfl)
  refine go_seg 8 (pc' := 76) (ls' := [(3, .int 0), (4, .int 33), (0, .ref 90), (1, .int 6), (2, .int 7)]) (st' := []) (w' := (fw z)) (cs' := 0) (ss' := 0) ?_ (fun _ _ => rfl)
  refine go_seg 8 (pc' := 59) (ls' := [(4, .int 34), (3, .int 0), (0, .ref 90), (1, .int 6), (2, .int 7)]) (st' := [.ref 91, .int 0]) (w' := (fw z)) (cs' := 0) (ss' := 0) ?_ (fun _ _ => rfl)
  refine go_seg 8 (pc' := 75) (ls' := [(4, .int 34), (3, .int 0), (0, .ref 90), (1, .int 6), (2, .int 7)]) (st' := [.int 0]) (w' := (fw z)) (cs' := 0) (ss' := 0) ?_ (fun _ _ => rfl)
  refine go_seg 8 (pc' := 56) (ls' := [(4, .int 35), (3, .int 0), (0, .ref 90), (1, .int 6), (2, .int 7)]) (st' := [.ref 90, .int 0]) (w' := (fw z)) (cs' := 0) (ss' := 0) ?_ (fun _ _ => rfl)
  refine go_seg 8 (pc' := 74) (ls' := [(4, .int 35), (3, .int 0), (0, .ref 90), (1, .int 6), (2, .int 7)]) (st' := [.int 0, .int 0]) (w' := (fw z)) (cs' := 0) (ss' := 0) ?_ (fun _ _ => rfl)
  refine go_seg 8 (pc' := 55) (ls' := [(4, .int 36), (3, .int 0), (0, .ref 90), (1, .int 6), (2, .int 7)]) (st' := [.int 0]) (w' := (fw z)) (cs' := 0) (ss' := 0) ?_ (fun _ _ => rfl)
  refine go_seg 8 (pc' := 73) (ls' := [(4, .int 36), (3, .int 0), (0, .ref 90), (1, .int 6), (2, .int 7)]) (st' := [.int 0]) (w' := (fw z)) (cs' := 0) (ss' := 0) ?_ (fun _ _ => rfl)
  refine go_seg 8 (pc' := 54) (ls' := [(4, .int 37), (3, .int 0), (0, .ref 90), (1, .int 6), (2, .int 7)]) (st' := []) (w' := (fw z)) (cs' := 0) (ss' := 0) ?_ (fun _ _ => rfl)
  refine go_seg 8 (pc' := 66) (ls' := [(4, .int 37), (3, .int 0), (0, .ref 90), (1, .int 6), (2, .int 7)]) (st' := [.int 6, .int (-1), .int 0]) (w' := (fw z)) (cs' := 0) (ss' := 0) ?_ (fun _ _ => rfl)
  refine go_seg 8 (pc' := 51) (ls' := [(4, .int 38), (3, .int 0), (0, .ref 90), (1, .int 6), (2, .int 7)]) (st' := [.int 64, .int 38]) (w' := (fw z)) (cs' := 0) (ss' := 0) ?_ (fun _ _ => rfl)
  refine go_seg 8 (pc' := 65) (ls' := [(4, .int 38), (3, .int 0), (0, .ref 90), (1, .int 6), (2, .int 7)]) (st' := [.int (-1), .int 0]) (w' := (fw z)) (cs' := 0) (ss' := 0) ?_ (fun _ _ => rfl)
  refine go_seg 8 (pc' := 49) (ls' := [(4, .int 39), (3, .int 0), (0, .ref 90), (1, .int 6), (2, .int 7)]) (st' := [.int 39]) (w' := (fw z)) (cs' := 0) (ss' := 0) ?_ (fun _ _ => rfl)
  refine go_seg 8 (pc' := 64) (ls' := [(4, .int 39), (3, .int 0), (0, .ref 90), (1, .int 6), (2, .int 7)]) (st' := [.int 49, .ref 91, .int 0]) (w' := (fw z)) (cs' := 0) (ss' := 0) ?_ (fun _ _ => rfl)
  refine go_seg 8 (pc' := 47) (ls' := [(4, .int 40), (3, .int 0), (0, .ref 90), (1, .int 6), (2, .int 7)]) (st' := []) (w' := (fw z)) (cs' := 0) (ss' := 0) ?_ (fun _ _ => rfl)
  refine go_seg 8 (pc' := 63) (ls' := [(4, .int 40), (3, .int 0), (0, .ref 90), (1, .int 6), (2, .int 7)]) (st' := [.int 40, .int 10, .ref 91, .int 0]) (w' := (fw z)) (cs' := 0) (ss' := 0) ?_ (fun _ _ => rfl)
  refine go_seg 8 (pc' := 79) (ls' := [(4, .int 41), (3, .int 0), (0, .ref 90), (1, .int 6), (2, .int 7)]) (st' := []) (w' := (fw z)) (cs' := 0) (ss' := 0) ?_ (fun _ _ => rfl)
  refine go_seg 8 (pc' := 61) (ls' := [(4, .int 41), (3, .int 0), (0, .ref 90), (1, .int 6), (2, .int 7)]) (st' := [.int 10, .ref 91, .int 0]) (w' := (fw z)) (cs' := 0) (ss' := 0) ?_ (fun _ _ => rfl)
  refine go_seg 8 (pc' := 76) (ls' := [(3, .int 0), (4, .int 41), (0, .ref 90), (1, .int 6), (2, .int 7)]) (st' := []) (w' := (fw z)) (cs' := 0) (ss' := 0) ?_ (fun _ _ => rfl)
  refine go_seg 8 (pc' := 59) (ls' := [(4, .int 42), (3, .int 0), (0, .ref 90), (1, .int 6), (2, .int 7)]) (st' := [.ref 91, .int 0]) (w' := (fw z)) (cs' := 0) (ss' := 0) ?_ (fun _ _ => rfl)
  refine go_seg 8 (pc' := 75) (ls' := [(4, .int 42), (3, .int 0), (0, .ref 90), (1, .int 6), (2, .int 7)]) (st' := [.int 0]) (w' := (fw z)) (cs' := 0) (ss' := 0) ?_ (fun _ _ => rfl)
  refine go_seg 8 (pc' := 56) (ls' := [(4, .int 43), (3, .int 0), (0, .ref 90), (1, .int 6), (2, .int 7)]) (st' := [.ref 90, .int 0]) (w' := (fw z)) (cs' := 0) (ss' := 0) ?_ (fun _ _ => rfl)
  refine go_seg 8 (pc' := 74) (ls' := [(4, .int 43), (3, .int 0), (0, .ref 90), (1, .int 6), (2, .int 7)]) (st' := [.int 0, .int 0]) (w' := (fw z)) (cs' := 0) (ss' := 0) ?_ (fun _ _ => rfl)
  refine go_seg 8 (pc' := 55) (ls' := [(4, .int 44), (3, .int 0), (0, .ref 90), (1, .int 6), (2, .int 7)]) (st' := [.int 0]) (w' := (fw z)) (cs' := 0) (ss' := 0) ?_ (fun _ _ => rfl)
  refine go_seg 8 (pc' := 73) (ls' := [(4, .int 44), (3, .int 0), (0, .ref 90), (1, .int 6), (2, .int 7)]) (st' := [.int 0]) (w' := (fw z)) (cs' := 0) (ss' := 0) ?_ (fun _ _ => rfl)
  refine go_seg 8 (pc' := 54) (ls' := [(4, .int 45), (3, .int 0), (0, .ref 90), (1, .int 6), (2, .int 7)]) (st' := []) (w' := (fw z)) (cs' := 0) (ss' := 0) ?_ (fun _ _ => rfl)
  refine go_seg 8 (pc' := 66) (ls' := [(4, .int 45), (3, .int 0), (0, .ref 90), (1, .int 6), (2, .int 7)]) (st' := [.int 6, .int (-1), .int 0]) (w' := (fw z)) (cs' := 0) (ss' := 0) ?_ (fun _ _ => rfl)
  refine go_seg 8 (pc' := 51) (ls' := [(4, .int 46), (3, .int 0), (0, .ref 90), (1, .int 6), (2, .int 7)]) (st' := [.int 64, .int 46]) (w' := (fw z)) (cs' := 0) (ss' := 0) ?_ (fun _ _ => rfl)
  refine go_seg 8 (pc' := 65) (ls' := [(4, .int 46), (3, .int 0), (0, .ref 90), (1, .int 6), (2, .int 7)]) (st' := [.int (-1), .int 0]) (w' := (fw z)) (cs' := 0) (ss' := 0) ?_ (fun _ _ => rfl)
  refine go_seg 8 (pc' := 49) (ls' := [(4, .int 47), (3, .int 0), (0, .ref 90), (1, .int 6), (2, .int 7)]) (st' := [.int 47]) (w' := (fw z)) (cs' := 0) (ss' := 0) ?_ (fun _ _ => rfl)
  refine go_seg 8 (pc' := 64) (ls' := [(4, .int 47), (3, .int 0), (0, .ref 90), (1, .int 6), (2, .int 7)]) (st' := [.int 57, .ref 91, .int 0]) (w' := (fw z)) (cs' := 0) (ss' := 0) ?_ (fun _ _ => rfl)
  refine go_seg 8 (pc' := 47) (ls' := [(4, .int 48), (3, .int 0), (0, .ref 90), (1, .int 6), (2, .int 7)]) (st' := []) (w' := (fw z)) (cs' := 0) (ss' := 0) ?_ (fun _ _ => rfl)
  refine go_seg 8 (pc' := 63) (ls' := [(4, .int 48), (3, .int 0), (0, .ref 90), (1, .int 6), (2, .int 7)]) (st' := [.int 48, .int 10, .ref 91, .int 0]) (w' := (fw z)) (cs' := 0) (ss' := 0) ?_ (fun _ _ => rfl)
  refine go_seg 8 (pc' := 79) (ls' := [(4, .int 49), (3, .int 0), (0, .ref 90), (1, .int 6), (2, .int 7)]) (st' := []) (w' := (fw z)) (cs' := 0) (ss' := 0) ?_ (fun _ _ => rfl)
  refine go_seg 8 (pc' := 61) (ls' := [(4, .int 49), (3, .int 0), (0, .ref 90), (1, .int 6), (2, .int 7)]) (st' := [.int 10, .ref 91, .int 0]) (w' := (fw z)) (cs' := 0) (ss' := 0) ?_ (fun _ _ => rfl)
  refine go_seg 8 (pc' := 76) (ls' := [(3, .int 0), (4, .int 49), (0, .ref 90), (1, .int 6), (2, .int 7)]) (st' := []) (w' := (fw z)) (cs' := 0) (ss' := 0) ?_ (fun _ _ => rfl)
  refine go_seg 8 (pc' := 59) (ls' := [(4, .int 50), (3, .int 0), (0, .ref 90), (1, .int 6), (2, .int 7)]) (st' := [.ref 91, .int 0]) (w' := (fw z)) (cs' := 0) (ss' := 0) ?_ (fun _ _ => rfl)
  refine go_seg 8 (pc' := 75) (ls' := [(4, .int 50), (3, .int 0), (0, .ref 90), (1, .int 6), (2, .int 7)]) (st' := [.int 0]) (w' := (fw z)) (cs' := 0) (ss' := 0) ?_ (fun _ _ => rfl)
  refine go_seg 8 (pc' := 56) (ls' := [(4, .int 51), (3, .int 0), (0, .ref 90), (1, .int 6), (2, .int 7)]) (st' := [.ref 90, .int 0]) (w' := (fw z)) (cs' := 0) (ss' := 0) ?_ (fun _ _ => rfl)
  refine go_seg 8 (pc' := 74) (ls' := [(4, .int 51), (3, .int 0), (0, .ref 90), (1, .int 6), (2, .int 7)]) (st' := [.int 0, .int 0]) (w' := (fw z)) (cs' := 0) (ss' := 0) ?_ (fun _ _ => rfl)
  refine go_seg 8 (pc' := 55) (ls' := [(4, .int 52), (3, .int 0), (0, .ref 90), (1, .int 6), (2, .int 7)]) (st' := [.int 0]) (w' := (fw z)) (cs' := 0) (ss' := 0) ?_ (fun _ _ => rfl)
  refine go_seg 8 (pc' := 73) (ls' := [(4, .int 52), (3, .int 0), (0, .ref 90), (1, .int 6), (2, .int 7)]) (st' := [.int 0]) (w' := (fw z)) (cs' := 0) (ss' := 0) ?_ (fun _ _ => rfl)
  refine go_seg 8 (pc' := 54) (ls' := [(4, .int 53), (3, .int 0), (0, .ref 90), (1, .int 6), (2, .int 7)]) (st' := []) (w' := (fw z)) (cs' := 0) (ss' := 0) ?_ (fun _ _ => rfl)
  refine go_seg 8 (pc' := 66) (ls' := [(4, .int 53), (3, .int 0), (0, .ref 90), (1, .int 6), (2, .int 7)]) (st' := [.int 6, .int (-1), .int 0]) (w' := (fw z)) (cs' := 0) (ss' := 0) ?_ (fun _ _ => rfl)
  refine go_seg 8 (pc' := 51) (ls' := [(4, .int 54), (3, .int 0), (0, .ref 90), (1, .int 6), (2, .int 7)]) (st' := [.int 64, .int 54]) (w' := (fw z)) (cs' := 0) (ss' := 0) ?_ (fun _ _ => rfl)
  refine go_seg 8 (pc' := 65) (ls' := [(4, .int 54), (3, .int 0), (0, .ref 90), (1, .int 6), (2, .int 7)]) (st' := [.int (-1), .int 0]) (w' := (fw z)) (cs' := 0) (ss' := 0) ?_ (fun _ _ => rfl)
  refine go_seg 8 (pc' := 49) (ls' := [(4, .int 55), (3, .int 0), (0, .ref 90), (1, .int 6), (2, .int 7)]) (st' := [.int 55]) (w' := (fw z)) (cs' := 0) (ss' := 0) ?_ (fun _ _ => rfl)
  refine go_seg 8 (pc' := 64) (ls' := [(4, .int 55), (3, .int 0), (0, .ref 90), (1, .int 6), (2, .int 7)]) (st' := [.int 65, .ref 91, .int 0]) (w' := (fw z)) (cs' := 0) (ss' := 0) ?_ (fun _ _ => rfl)
  refine go_seg 8 (pc' := 47) (ls' := [(4, .int 56), (3, .int 0), (0, .ref 90), (1, .int 6), (2, .int 7)]) (st' := []) (w' := (fw z)) (cs' := 0) (ss' := 0) ?_ (fun _ _ => rfl)
  refine go_seg 8 (pc' := 63) (ls' := [(4, .int 56), (3, .int 0), (0, .ref 90), (1, .int 6), (2, .int 7)]) (st' := [.int 56, .int 10, .ref 91, .int 0]) (w' := (fw z)) (cs' := 0) (ss' := 0) ?_ (fun _ _ => rfl)
  refine go_seg 8 (pc' := 79) (ls' := [(4, .int 57), (3, .int 0), (0, .ref 90), (1, .int 6), (2, .int 7)]) (st' := []) (w' := (fw z)) (cs' := 0) (ss' := 0) ?_ (fun _ _ => rfl)
  refine go_seg 8 (pc' := 61) (ls' := [(4, .int 57), (3, .int 0), (0, .ref 90), (1, .int 6), (2, .int 7)]) (st' := [.int 10, .ref 91, .int 0]) (w' := (fw z)) (cs' := 0) (ss' := 0) ?_ (fun _ _ => rfl)
  refine go_seg 8 (pc' := 76) (ls' := [(3, .int 0), (4, .int 57), (0, .ref 90), (1, .int 6), (2, .int 7)]) (st' := []) (w' := (fw z)) (cs' := 0) (ss' := 0) ?_ (fun _ _ => rfl)
  refine go_seg 8 (pc' := 59) (ls' := [(4, .int 58), (3, .int 0), (0, .ref 90), (1, .int 6), (2, .int 7)]) (st' := [.ref 91, .int 0]) (w' := (fw z)) (cs' := 0) (ss' := 0) ?_ (fun _ _ => rfl)
  refine go_seg 8 (pc' := 75) (ls' := [(4, .int 58), (3, .int 0), (0, .ref 90), (1, .int 6), (2, .int 7)]) (st' := [.int 0]) (w' := (fw z)) (cs' := 0) (ss' := 0) ?_ (fun _ _ => rfl)
  refine go_seg 8 (pc' := 56) (ls' := [(4, .int 59), (3, .int 0), (0, .ref 90), (1, .int 6), (2, .int 7)]) (st' := [.ref 90, .int 0]) (w' := (fw z)) (cs' := 0) (ss' := 0) ?_ (fun _ _ => rfl)
  refine go_seg 8 (pc' := 74) (ls' := [(4, .int 59), (3, .int 0), (0, .ref 90), (1, .int 6), (2, .int 7)]) (st' := [.int 0, .int 0]) (w' := (fw z)) (cs' := 0) (ss' := 0) ?_ (fun _ _ => rfl)
  refine go_seg 8 (pc' := 55) (ls' := [(4, .int 60), (3, .int 0), (0, .ref 90), (1, .int 6), (2, .int 7)]) (st' := [.int 0]) (w' := (fw z)) (cs' := 0) (ss' := 0) ?_ (fun _ _ => rfl)
  refine go_seg 8 (pc' := 73) (ls' := [(4, .int 60), (3, .int 0), (0, .ref 90), (1, .int 6), (2, .int 7)]) (st' := [.int 0]) (w' := (fw z)) (cs' := 0) (ss' := 0) ?_ (fun _ _ => rfl)
  refine go_seg 8 (pc' := 54) (ls' := [(4, .int 61), (3, .int 0), (0, .ref 90), (1, .int 6), (2, .int 7)]) (st' := []) (w' := (fw z)) (cs' := 0) (ss' := 0) ?_ (fun _ _ => rfl)
  refine go_seg 8 (pc' := 66) (ls' := [(4, .int 61), (3, .int 0), (0, .ref 90), (1, .int 6), (2, .int 7)]) (st' := [.int 6, .int (-1), .int 0]) (w' := (fw z)) (cs' := 0) (ss' := 0) ?_ (fun _ _ => rfl)
  refine go_seg 8 (pc' := 51) (ls' := [(4, .int 62), (3, .int 0), (0, .ref 90), (1, .int 6), (2, .int 7)]) (st' := [.int 64, .int 62]) (w' := (fw z)) (cs' := 0) (ss' := 0) ?_ (fun _ _ => rfl)
  refine go_seg 8 (pc' := 65) (ls' := [(4, .int 62), (3, .int 0), (0, .ref 90), (1, .int 6), (2, .int 7)]) (st' := [.int (-1), .int 0]) (w' := (fw z)) (cs' := 0) (ss' := 0) ?_ (fun _ _ => rfl)
  refine go_seg 8 (pc' := 49) (ls' := [(4, .int 63), (3, .int 0), (0, .ref 90), (1, .int 6), (2, .int 7)]) (st' := [.int 63]) (w' := (fw z)) (cs' := 0) (ss' := 0) ?_ (fun _ _ => rfl)
  refine go_seg 8 (pc' := 64) (ls' := [(4, .int 63), (3, .int 0), (0, .ref 90), (1, .int 6), (2, .int 7)]) (st' := [.int 73, .ref 91, .int 0]) (w' := (fw z)) (cs' := 0) (ss' := 0) ?_ (fun _ _ => rfl)
  refine go_seg 8 (pc' := 47) (ls' := [(4, .int 64), (3, .int 0), (0, .ref 90), (1, .int 6), (2, .int 7)]) (st' := []) (w' := (fw z)) (cs' := 0) (ss' := 0) ?_ (fun _ _ => rfl)
  refine go_seg 8 (pc' := 94) (ls' := [(4, .int 64), (3, .int 0), (0, .ref 90), (1, .int 6), (2, .int 7)]) (st' := [.int 6, .int 7]) (w' := (fw z)) (cs' := 0) (ss' := 0) ?_ (fun _ _ => rfl)
  refine go_seg 5 (pc' := 111) (ls' := [(4, .int 64), (3, .int 0), (0, .ref 90), (1, .int 6), (2, .int 7)]) (st' := [.int 5, .int 6, .ref 91]) (w' := (fw z)) (cs' := 0) (ss' := 0) ?_ (fun _ _ => rfl)
  refine go_cl (k := 2) (st' := [.int 179, .ref 91]) (cs' := 0) (ss' := 0) rfl rfl rfl rfl rfl rfl rfl (ro_493 z) ?_
  exact go_end 2 (fun _ _ => rfl)
theorem lf_4_1170 (a0 : Int32) (a3 : Int32) (a4 : Int32) (a5 : Int32) : ∃ w', pq_Go 20 pm_law 370 [(3, .int 0), (2, .ref 90), (1, .ref 1), (0, .ref 0)] [] (fw (sz a0 6 7 a3 a4 a5)) 109 12668 (some (.int 1), w') := by
  refine ⟨(fw (sz a0 6 7 a3 a4 a5)), ?_⟩
  refine go_seg 8 (pc' := 378) (ls' := [(3, .int 0), (2, .ref 90), (1, .ref 1), (0, .ref 0)]) (st' := [.int 0, .ref 0, .int 6, .ref 1]) (w' := (fw (sz a0 6 7 a3 a4 a5))) (cs' := 109) (ss' := 12668) ?_ (fun _ _ => rfl)
  refine go_seg 3 (pc' := 381) (ls' := [(3, .int 0), (2, .ref 90), (1, .ref 1), (0, .ref 0)]) (st' := [.int 7, .int 6, .ref 1]) (w' := (fw (sz a0 6 7 a3 a4 a5))) (cs' := 109) (ss' := 12668) ?_ (fun _ _ => rfl)
  refine go_cl (k := 20) (st' := [.int 0]) (cs' := 109) (ss' := 12668) rfl rfl rfl rfl rfl rfl rfl (ro_1168 (sz a0 6 7 a3 a4 a5)) ?_
  refine go_seg 8 (pc' := 392) (ls' := [(3, .int 0), (2, .ref 90), (1, .ref 1), (0, .ref 0)]) (st' := [.int 0, .ref 0, .int 6, .ref 90, .int 0]) (w' := (fw (sz a0 6 7 a3 a4 a5))) (cs' := 109) (ss' := 12668) ?_ (fun _ _ => rfl)
  refine go_seg 3 (pc' := 395) (ls' := [(3, .int 0), (2, .ref 90), (1, .ref 1), (0, .ref 0)]) (st' := [.int 7, .int 6, .ref 90, .int 0]) (w' := (fw (sz a0 6 7 a3 a4 a5))) (cs' := 109) (ss' := 12668) ?_ (fun _ _ => rfl)
  refine go_cl (k := 20) (st' := [.int 0, .int 0]) (cs' := 109) (ss' := 12668) rfl rfl rfl rfl rfl rfl rfl (ro_1169 (sz a0 6 7 a3 a4 a5)) ?_
  refine go_cmp true rfl (br_self _) ?_
  exact law_tail (f := sc a0 6 7 a3 a4 a5) rfl
theorem ro_1171 (z : pq_C) : pq_Ru 2 25 [.ref 1, .int 7, .int 7] (fw z) (some (.int 0), (fw z)) := by
  refine ru_of (k := 1) (M := pm_25) rfl rfl ?_
  refine go_seg 1 (pc' := 1) (ls' := [(0, .ref 1), (1, .int 7), (2, .int 7)]) (st' := [.int 7]) (w' := (fw z)) (cs' := 0) (ss' := 0) ?_ (fun _ _ => rfl)
  refine go_cl (k := 1) (st' := [.int 1]) (cs' := 0) (ss' := 0) rfl rfl rfl rfl rfl rfl rfl (ro_612 z) ?_
  refine go_seg 8 (pc' := 137) (ls' := [(0, .ref 1), (1, .int 7), (2, .int 7)]) (st' := [.int 0]) (w' := (fw z)) (cs' := 0) (ss' := 0) ?_ (fun _ _ => rfl)
  exact go_end 1 (fun _ _ => rfl)
theorem ro_1172 (z : pq_C) : pq_Ru 3 169 [.ref 90, .int 7, .int 7] (fw z) (some (.int 0), (fw z)) := by
  refine ru_of (k := 2) (M := pm_169) rfl rfl ?_
  refine go_seg 1 (pc' := 1) (ls' := [(0, .ref 90), (1, .int 7), (2, .int 7)]) (st' := [.int 7]) (w' := (fw z)) (cs' := 0) (ss' := 0) ?_ (fun _ _ => rfl)
  refine go_cl (k := 2) (st' := [.int 1]) (cs' := 0) (ss' := 0) rfl rfl rfl rfl rfl rfl rfl (ro_982 z) ?_
  refine go_seg 5 (pc' := 13) (ls' := [(0, .ref 90), (1, .int 7), (2, .int 7)]) (st' := [.long 7, .long 0, .long 7]) (w' := (fw z)) (cs' := 0) (ss' := 0) ?_ (fun _ _ => rfl)
  refine go_cl (k := 2) (st' := [.int 1]) (cs' := 0) (ss' := 0) rfl rfl rfl rfl rfl rfl rfl (ro_981 z) ?_
  refine go_seg 8 (pc' := 47) (ls' := [(4, .int 0), (3, .int 0), (0, .ref 90), (1, .int 7), (2, .int 7)]) (st' := []) (w' := (fw z)) (cs' := 0) (ss' := 0) ?_ (fun _ _ => rfl)
  refine go_seg 8 (pc' := 63) (ls' := [(4, .int 0), (3, .int 0), (0, .ref 90), (1, .int 7), (2, .int 7)]) (st' := [.int 0, .int 10, .ref 91, .int 0]) (w' := (fw z)) (cs' := 0) (ss' := 0) ?_ (fun _ _ => rfl)
  refine go_seg 8 (pc' := 79) (ls' := [(4, .int 1), (3, .int 0), (0, .ref 90), (1, .int 7), (2, .int 7)]) (st' := []) (w' := (fw z)) (cs' := 0) (ss' := 0) ?_ (fun _ _ => rfl)
  refine go_seg 8 (pc' := 61) (ls' := [(4, .int 1), (3, .int 0), (0, .ref 90), (1, .int 7), (2, .int 7)]) (st' := [.int 10, .ref 91, .int 0]) (w' := (fw z)) (cs' := 0) (ss' := 0) ?_ (fun _ _ => rfl)
  refine go_seg 8 (pc' := 76) (ls' := [(3, .int 0), (4, .int 1), (0, .ref 90), (1, .int 7), (2, .int 7)]) (st' := []) (w' := (fw z)) (cs' := 0) (ss' := 0) ?_ (fun _ _ => rfl)
  refine go_seg 8 (pc' := 59) (ls' := [(4, .int 2), (3, .int 0), (0, .ref 90), (1, .int 7), (2, .int 7)]) (st' := [.ref 91, .int 0]) (w' := (fw z)) (cs' := 0) (ss' := 0) ?_ (fun _ _ => rfl)
  refine go_seg 8 (pc' := 75) (ls' := [(4, .int 2), (3, .int 0), (0, .ref 90), (1, .int 7), (2, .int 7)]) (st' := [.int 0]) (w' := (fw z)) (cs' := 0) (ss' := 0) ?_ (fun _ _ => rfl)
  refine go_seg 8 (pc' := 56) (ls' := [(4, .int 3), (3, .int 0), (0, .ref 90), (1, .int 7), (2, .int 7)]) (st' := [.ref 90, .int 0]) (w' := (fw z)) (cs' := 0) (ss' := 0) ?_ (fun _ _ => rfl)
  refine go_seg 8 (pc' := 74) (ls' := [(4, .int 3), (3, .int 0), (0, .ref 90), (1, .int 7), (2, .int 7)]) (st' := [.int 0, .int 0]) (w' := (fw z)) (cs' := 0) (ss' := 0) ?_ (fun _ _ => rfl)
  refine go_seg 8 (pc' := 55) (ls' := [(4, .int 4), (3, .int 0), (0, .ref 90), (1, .int 7), (2, .int 7)]) (st' := [.int 0]) (w' := (fw z)) (cs' := 0) (ss' := 0) ?_ (fun _ _ => rfl)
  refine go_seg 8 (pc' := 73) (ls' := [(4, .int 4), (3, .int 0), (0, .ref 90), (1, .int 7), (2, .int 7)]) (st' := [.int 0]) (w' := (fw z)) (cs' := 0) (ss' := 0) ?_ (fun _ _ => rfl)
  refine go_seg 8 (pc' := 54) (ls' := [(4, .int 5), (3, .int 0), (0, .ref 90), (1, .int 7), (2, .int 7)]) (st' := []) (w' := (fw z)) (cs' := 0) (ss' := 0) ?_ (fun _ _ => rfl)
  refine go_seg 8 (pc' := 66) (ls' := [(4, .int 5), (3, .int 0), (0, .ref 90), (1, .int 7), (2, .int 7)]) (st' := [.int 7, .int (-1), .int 0]) (w' := (fw z)) (cs' := 0) (ss' := 0) ?_ (fun _ _ => rfl)
  refine go_seg 8 (pc' := 51) (ls' := [(4, .int 6), (3, .int 0), (0, .ref 90), (1, .int 7), (2, .int 7)]) (st' := [.int 64, .int 6]) (w' := (fw z)) (cs' := 0) (ss' := 0) ?_ (fun _ _ => rfl)
  refine go_seg 8 (pc' := 65) (ls' := [(4, .int 6), (3, .int 0), (0, .ref 90), (1, .int 7), (2, .int 7)]) (st' := [.int (-1), .int 0]) (w' := (fw z)) (cs' := 0) (ss' := 0) ?_ (fun _ _ => rfl)
  refine go_seg 8 (pc' := 49) (ls' := [(4, .int 7), (3, .int 0), (0, .ref 90), (1, .int 7), (2, .int 7)]) (st' := [.int 7]) (w' := (fw z)) (cs' := 0) (ss' := 0) ?_ (fun _ _ => rfl)
  refine go_seg 8 (pc' := 64) (ls' := [(4, .int 7), (3, .int 0), (0, .ref 90), (1, .int 7), (2, .int 7)]) (st' := [.int 17, .ref 91, .int 0]) (w' := (fw z)) (cs' := 0) (ss' := 0) ?_ (fun _ _ => rfl)
  refine go_seg 8 (pc' := 47) (ls' := [(4, .int 8), (3, .int 0), (0, .ref 90), (1, .int 7), (2, .int 7)]) (st' := []) (w' := (fw z)) (cs' := 0) (ss' := 0) ?_ (fun _ _ => rfl)
  refine go_seg 8 (pc' := 63) (ls' := [(4, .int 8), (3, .int 0), (0, .ref 90), (1, .int 7), (2, .int 7)]) (st' := [.int 8, .int 10, .ref 91, .int 0]) (w' := (fw z)) (cs' := 0) (ss' := 0) ?_ (fun _ _ => rfl)
  refine go_seg 8 (pc' := 79) (ls' := [(4, .int 9), (3, .int 0), (0, .ref 90), (1, .int 7), (2, .int 7)]) (st' := []) (w' := (fw z)) (cs' := 0) (ss' := 0) ?_ (fun _ _ => rfl)
  refine go_seg 8 (pc' := 61) (ls' := [(4, .int 9), (3, .int 0), (0, .ref 90), (1, .int 7), (2, .int 7)]) (st' := [.int 10, .ref 91, .int 0]) (w' := (fw z)) (cs' := 0) (ss' := 0) ?_ (fun _ _ => rfl)
  refine go_seg 8 (pc' := 76) (ls' := [(3, .int 0), (4, .int 9), (0, .ref 90), (1, .int 7), (2, .int 7)]) (st' := []) (w' := (fw z)) (cs' := 0) (ss' := 0) ?_ (fun _ _ => rfl)
  refine go_seg 8 (pc' := 59) (ls' := [(4, .int 10), (3, .int 0), (0, .ref 90), (1, .int 7), (2, .int 7)]) (st' := [.ref 91, .int 0]) (w' := (fw z)) (cs' := 0) (ss' := 0) ?_ (fun _ _ => rfl)
  refine go_seg 8 (pc' := 75) (ls' := [(4, .int 10), (3, .int 0), (0, .ref 90), (1, .int 7), (2, .int 7)]) (st' := [.int 0]) (w' := (fw z)) (cs' := 0) (ss' := 0) ?_ (fun _ _ => rfl)
  refine go_seg 8 (pc' := 56) (ls' := [(4, .int 11), (3, .int 0), (0, .ref 90), (1, .int 7), (2, .int 7)]) (st' := [.ref 90, .int 0]) (w' := (fw z)) (cs' := 0) (ss' := 0) ?_ (fun _ _ => rfl)
  refine go_seg 8 (pc' := 74) (ls' := [(4, .int 11), (3, .int 0), (0, .ref 90), (1, .int 7), (2, .int 7)]) (st' := [.int 0, .int 0]) (w' := (fw z)) (cs' := 0) (ss' := 0) ?_ (fun _ _ => rfl)
  refine go_seg 8 (pc' := 55) (ls' := [(4, .int 12), (3, .int 0), (0, .ref 90), (1, .int 7), (2, .int 7)]) (st' := [.int 0]) (w' := (fw z)) (cs' := 0) (ss' := 0) ?_ (fun _ _ => rfl)
  refine go_seg 8 (pc' := 73) (ls' := [(4, .int 12), (3, .int 0), (0, .ref 90), (1, .int 7), (2, .int 7)]) (st' := [.int 0]) (w' := (fw z)) (cs' := 0) (ss' := 0) ?_ (fun _ _ => rfl)
  refine go_seg 8 (pc' := 54) (ls' := [(4, .int 13), (3, .int 0), (0, .ref 90), (1, .int 7), (2, .int 7)]) (st' := []) (w' := (fw z)) (cs' := 0) (ss' := 0) ?_ (fun _ _ => rfl)
  refine go_seg 8 (pc' := 66) (ls' := [(4, .int 13), (3, .int 0), (0, .ref 90), (1, .int 7), (2, .int 7)]) (st' := [.int 7, .int (-1), .int 0]) (w' := (fw z)) (cs' := 0) (ss' := 0) ?_ (fun _ _ => rfl)
  refine go_seg 8 (pc' := 51) (ls' := [(4, .int 14), (3, .int 0), (0, .ref 90), (1, .int 7), (2, .int 7)]) (st' := [.int 64, .int 14]) (w' := (fw z)) (cs' := 0) (ss' := 0) ?_ (fun _ _ => rfl)
  refine go_seg 8 (pc' := 65) (ls' := [(4, .int 14), (3, .int 0), (0, .ref 90), (1, .int 7), (2, .int 7)]) (st' := [.int (-1), .int 0]) (w' := (fw z)) (cs' := 0) (ss' := 0) ?_ (fun _ _ => rfl)
  refine go_seg 8 (pc' := 49) (ls' := [(4, .int 15), (3, .int 0), (0, .ref 90), (1, .int 7), (2, .int 7)]) (st' := [.int 15]) (w' := (fw z)) (cs' := 0) (ss' := 0) ?_ (fun _ _ => rfl)
  refine go_seg 8 (pc' := 64) (ls' := [(4, .int 15), (3, .int 0), (0, .ref 90), (1, .int 7), (2, .int 7)]) (st' := [.int 25, .ref 91, .int 0]) (w' := (fw z)) (cs' := 0) (ss' := 0) ?_ (fun _ _ => rfl)
  refine go_seg 8 (pc' := 47) (ls' := [(4, .int 16), (3, .int 0), (0, .ref 90), (1, .int 7), (2, .int 7)]) (st' := []) (w' := (fw z)) (cs' := 0) (ss' := 0) ?_ (fun _ _ => rfl)
  refine go_seg 8 (pc' := 63) (ls' := [(4, .int 16), (3, .int 0), (0, .ref 90), (1, .int 7), (2, .int 7)]) (st' := [.int 16, .int 10, .ref 91, .int 0]) (w' := (fw z)) (cs' := 0) (ss' := 0) ?_ (fun _ _ => rfl)
  refine go_seg 8 (pc' := 79) (ls' := [(4, .int 17), (3, .int 0), (0, .ref 90), (1, .int 7), (2, .int 7)]) (st' := []) (w' := (fw z)) (cs' := 0) (ss' := 0) ?_ (fun _ _ => rfl)
  refine go_seg 8 (pc' := 61) (ls' := [(4, .int 17), (3, .int 0), (0, .ref 90), (1, .int 7), (2, .int 7)]) (st' := [.int 10, .ref 91, .int 0]) (w' := (fw z)) (cs' := 0) (ss' := 0) ?_ (fun _ _ => rfl)
  refine go_seg 8 (pc' := 76) (ls' := [(3, .int 0), (4, .int 17), (0, .ref 90), (1, .int 7), (2, .int 7)]) (st' := []) (w' := (fw z)) (cs' := 0) (ss' := 0) ?_ (fun _ _ => rfl)
  refine go_seg 8 (pc' := 59) (ls' := [(4, .int 18), (3, .int 0), (0, .ref 90), (1, .int 7), (2, .int 7)]) (st' := [.ref 91, .int 0]) (w' := (fw z)) (cs' := 0) (ss' := 0) ?_ (fun _ _ => rfl)
  refine go_seg 8 (pc' := 75) (ls' := [(4, .int 18), (3, .int 0), (0, .ref 90), (1, .int 7), (2, .int 7)]) (st' := [.int 0]) (w' := (fw z)) (cs' := 0) (ss' := 0) ?_ (fun _ _ => rfl)
  refine go_seg 8 (pc' := 56) (ls' := [(4, .int 19), (3, .int 0), (0, .ref 90), (1, .int 7), (2, .int 7)]) (st' := [.ref 90, .int 0]) (w' := (fw z)) (cs' := 0) (ss' := 0) ?_ (fun _ _ => rfl)
  refine go_seg 8 (pc' := 74) (ls' := [(4, .int 19), (3, .int 0), (0, .ref 90), (1, .int 7), (2, .int 7)]) (st' := [.int 0, .int 0]) (w' := (fw z)) (cs' := 0) (ss' := 0) ?_ (fun _ _ => rfl)
  refine go_seg 8 (pc' := 55) (ls' := [(4, .int 20), (3, .int 0), (0, .ref 90), (1, .int 7), (2, .int 7)]) (st' := [.int 0]) (w' := (fw z)) (cs' := 0) (ss' := 0) ?_ (fun _ _ => rfl)
  refine go_seg 8 (pc' := 73) (ls' := [(4, .int 20), (3, .int 0), (0, .ref 90), (1, .int 7), (2, .int 7)]) (st' := [.int 0]) (w' := (fw z)) (cs' := 0) (ss' := 0) ?_ (fun _ _ => rfl)
  refine go_seg 8 (pc' := 54) (ls' := [(4, .int 21), (3, .int 0), (0, .ref 90), (1, .int 7), (2, .int 7)]) (st' := []) (w' := (fw z)) (cs' := 0) (ss' := 0) ?_ (fun _ _ => rfl)
  refine go_seg 8 (pc' := 66) (ls' := [(4, .int 21), (3, .int 0), (0, .ref 90), (1, .int 7), (2, .int 7)]) (st' := [.int 7, .int (-1), .int 0]) (w' := (fw z)) (cs' := 0) (ss' := 0) ?_ (fun _ _ => rfl)
  refine go_seg 8 (pc' := 51) (ls' := [(4, .int 22), (3, .int 0), (0, .ref 90), (1, .int 7), (2, .int 7)]) (st' := [.int 64, .int 22]) (w' := (fw z)) (cs' := 0) (ss' := 0) ?_ (fun _ _ => rfl)
  refine go_seg 8 (pc' := 65) (ls' := [(4, .int 22), (3, .int 0), (0, .ref 90), (1, .int 7), (2, .int 7)]) (st' := [.int (-1), .int 0]) (w' := (fw z)) (cs' := 0) (ss' := 0) ?_ (fun _ _ => rfl)
  refine go_seg 8 (pc' := 49) (ls' := [(4, .int 23), (3, .int 0), (0, .ref 90), (1, .int 7), (2, .int 7)]) (st' := [.int 23]) (w' := (fw z)) (cs' := 0) (ss' := 0) ?_ (fun _ _ => rfl)
  refine go_seg 8 (pc' := 64) (ls' := [(4, .int 23), (3, .int 0), (0, .ref 90), (1, .int 7), (2, .int 7)]) (st' := [.int 33, .ref 91, .int 0]) (w' := (fw z)) (cs' := 0) (ss' := 0) ?_ (fun _ _ => rfl)
  refine go_seg 8 (pc' := 47) (ls' := [(4, .int 24), (3, .int 0), (0, .ref 90), (1, .int 7), (2, .int 7)]) (st' := []) (w' := (fw z)) (cs' := 0) (ss' := 0) ?_ (fun _ _ => rfl)
  refine go_seg 8 (pc' := 63) (ls' := [(4, .int 24), (3, .int 0), (0, .ref 90), (1, .int 7), (2, .int 7)]) (st' := [.int 24, .int 10, .ref 91, .int 0]) (w' := (fw z)) (cs' := 0) (ss' := 0) ?_ (fun _ _ => rfl)
  refine go_seg 8 (pc' := 79) (ls' := [(4, .int 25), (3, .int 0), (0, .ref 90), (1, .int 7), (2, .int 7)]) (st' := []) (w' := (fw z)) (cs' := 0) (ss' := 0) ?_ (fun _ _ => rfl)
  refine go_seg 8 (pc' := 61) (ls' := [(4, .int 25), (3, .int 0), (0, .ref 90), (1, .int 7), (2, .int 7)]) (st' := [.int 10, .ref 91, .int 0]) (w' := (fw z)) (cs' := 0) (ss' := 0) ?_ (fun _ _ => rfl)
  refine go_seg 8 (pc' := 76) (ls' := [(3, .int 0), (4, .int 25), (0, .ref 90), (1, .int 7), (2, .int 7)]) (st' := []) (w' := (fw z)) (cs' := 0) (ss' := 0) ?_ (fun _ _ => rfl)
  refine go_seg 8 (pc' := 59) (ls' := [(4, .int 26), (3, .int 0), (0, .ref 90), (1, .int 7), (2, .int 7)]) (st' := [.ref 91, .int 0]) (w' := (fw z)) (cs' := 0) (ss' := 0) ?_ (fun _ _ => rfl)
  refine go_seg 8 (pc' := 75) (ls' := [(4, .int 26), (3, .int 0), (0, .ref 90), (1, .int 7), (2, .int 7)]) (st' := [.int 0]) (w' := (fw z)) (cs' := 0) (ss' := 0) ?_ (fun _ _ => rfl)
  refine go_seg 8 (pc' := 56) (ls' := [(4, .int 27), (3, .int 0), (0, .ref 90), (1, .int 7), (2, .int 7)]) (st' := [.ref 90, .int 0]) (w' := (fw z)) (cs' := 0) (ss' := 0) ?_ (fun _ _ => rfl)
  refine go_seg 8 (pc' := 74) (ls' := [(4, .int 27), (3, .int 0), (0, .ref 90), (1, .int 7), (2, .int 7)]) (st' := [.int 0, .int 0]) (w' := (fw z)) (cs' := 0) (ss' := 0) ?_ (fun _ _ => rfl)
  refine go_seg 8 (pc' := 55) (ls' := [(4, .int 28), (3, .int 0), (0, .ref 90), (1, .int 7), (2, .int 7)]) (st' := [.int 0]) (w' := (fw z)) (cs' := 0) (ss' := 0) ?_ (fun _ _ => rfl)
  refine go_seg 8 (pc' := 73) (ls' := [(4, .int 28), (3, .int 0), (0, .ref 90), (1, .int 7), (2, .int 7)]) (st' := [.int 0]) (w' := (fw z)) (cs' := 0) (ss' := 0) ?_ (fun _ _ => rfl)
  refine go_seg 8 (pc' := 54) (ls' := [(4, .int 29), (3, .int 0), (0, .ref 90), (1, .int 7), (2, .int 7)]) (st' := []) (w' := (fw z)) (cs' := 0) (ss' := 0) ?_ (fun _ _ => rfl)
  refine go_seg 8 (pc' := 66) (ls' := [(4, .int 29), (3, .int 0), (0, .ref 90), (1, .int 7), (2, .int 7)]) (st' := [.int 7, .int (-1), .int 0]) (w' := (fw z)) (cs' := 0) (ss' := 0) ?_ (fun _ _ => rfl)
  refine go_seg 8 (pc' := 51) (ls' := [(4, .int 30), (3, .int 0), (0, .ref 90), (1, .int 7), (2, .int 7)]) (st' := [.int 64, .int 30]) (w' := (fw z)) (cs' := 0) (ss' := 0) ?_ (fun _ _ => rfl)
  refine go_seg 8 (pc' := 65) (ls' := [(4, .int 30), (3, .int 0), (0, .ref 90), (1, .int 7), (2, .int 7)]) (st' := [.int (-1), .int 0]) (w' := (fw z)) (cs' := 0) (ss' := 0) ?_ (fun _ _ => rfl)
  refine go_seg 8 (pc' := 49) (ls' := [(4, .int 31), (3, .int 0), (0, .ref 90), (1, .int 7), (2, .int 7)]) (st' := [.int 31]) (w' := (fw z)) (cs' := 0) (ss' := 0) ?_ (fun _ _ => rfl)
  refine go_seg 8 (pc' := 64) (ls' := [(4, .int 31), (3, .int 0), (0, .ref 90), (1, .int 7), (2, .int 7)]) (st' := [.int 41, .ref 91, .int 0]) (w' := (fw z)) (cs' := 0) (ss' := 0) ?_ (fun _ _ => rfl)
  refine go_seg 8 (pc' := 47) (ls' := [(4, .int 32), (3, .int 0), (0, .ref 90), (1, .int 7), (2, .int 7)]) (st' := []) (w' := (fw z)) (cs' := 0) (ss' := 0) ?_ (fun _ _ => rfl)
  refine go_seg 8 (pc' := 63) (ls' := [(4, .int 32), (3, .int 0), (0, .ref 90), (1, .int 7), (2, .int 7)]) (st' := [.int 32, .int 10, .ref 91, .int 0]) (w' := (fw z)) (cs' := 0) (ss' := 0) ?_ (fun _ _ => rfl)
  refine go_seg 8 (pc' := 79) (ls' := [(4, .int 33), (3, .int 0), (0, .ref 90), (1, .int 7), (2, .int 7)]) (st' := []) (w' := (fw z)) (cs' := 0) (ss' := 0) ?_ (fun _ _ => rfl)
  refine go_seg 8 (pc' := 61) (ls' := [(4, .int 33), (3, .int 0), (0, .ref 90), (1, .int 7), (2, .int 7)]) (st' := [.int 10, .ref 91, .int 0]) (w' := (fw z)) (cs' := 0) (ss' := 0) ?_ (fun _ _ => rfl)
  refine go_seg 8 (pc' := 76) (ls' := [(3, .int 0), (4, .int 33), (0, .ref 90), (1, .int 7), (2, .int 7)]) (st' := []) (w' := (fw z)) (cs' := 0) (ss' := 0) ?_ (fun _ _ => rfl)
  refine go_seg 8 (pc' := 59) (ls' := [(4, .int 34), (3, .int 0), (0, .ref 90), (1, .int 7), (2, .int 7)]) (st' := [.ref 91, .int 0]) (w' := (fw z)) (cs' := 0) (ss' := 0) ?_ (fun _ _ => rfl)
  refine go_seg 8 (pc' := 75) (ls' := [(4, .int 34), (3, .int 0), (0, .ref 90), (1, .int 7), (2, .int 7)]) (st' := [.int 0]) (w' := (fw z)) (cs' := 0) (ss' := 0) ?_ (fun _ _ => rfl)
  refine go_seg 8 (pc' := 56) (ls' := [(4, .int 35), (3, .int 0), (0, .ref 90), (1, .int 7), (2, .int 7)]) (st' := [.ref 90, .int 0]) (w' := (fw z)) (cs' := 0) (ss' := 0) ?_ (fun _ _ => rfl)
  refine go_seg 8 (pc' := 74) (ls' := [(4, .int 35), (3, .int 0), (0, .ref 90), (1, .int 7), (2, .int 7)]) (st' := [.int 0, .int 0]) (w' := (fw z)) (cs' := 0) (ss' := 0) ?_ (fun _ _ => rfl)
  refine go_seg 8 (pc' := 55) (ls' := [(4, .int 36), (3, .int 0), (0, .ref 90), (1, .int 7), (2, .int 7)]) (st' := [.int 0]) (w' := (fw z)) (cs' := 0) (ss' := 0) ?_ (fun _ _ => rfl)
  refine go_seg 8 (pc' := 73) (ls' := [(4, .int 36), (3, .int 0), (0, .ref 90), (1, .int 7), (2, .int 7)]) (st' := [.int 0]) (w' := (fw z)) (cs' := 0) (ss' := 0) ?_ (fun _ _ => rfl)
  refine go_seg 8 (pc' := 54) (ls' := [(4, .int 37), (3, .int 0), (0, .ref 90), (1, .int 7), (2, .int 7)]) (st' := []) (w' := (fw z)) (cs' := 0) (ss' := 0) ?_ (fun _ _ => rfl)
  refine go_seg 8 (pc' := 66) (ls' := [(4, .int 37), (3, .int 0), (0, .ref 90), (1, .int 7), (2, .int 7)]) (st' := [.int 7, .int (-1), .int 0]) (w' := (fw z)) (cs' := 0) (ss' := 0) ?_ (fun _ _ => rfl)
  refine go_seg 8 (pc' := 51) (ls' := [(4, .int 38), (3, .int 0), (0, .ref 90), (1, .int 7), (2, .int 7)]) (st' := [.int 64, .int 38]) (w' := (fw z)) (cs' := 0) (ss' := 0) ?_ (fun _ _ => rfl)
  refine go_seg 8 (pc' := 65) (ls' := [(4, .int 38), (3, .int 0), (0, .ref 90), (1, .int 7), (2, .int 7)]) (st' := [.int (-1), .int 0]) (w' := (fw z)) (cs' := 0) (ss' := 0) ?_ (fun _ _ => rfl)
  refine go_seg 8 (pc' := 49) (ls' := [(4, .int 39), (3, .int 0), (0, .ref 90), (1, .int 7), (2, .int 7)]) (st' := [.int 39]) (w' := (fw z)) (cs' := 0) (ss' := 0) ?_ (fun _ _ => rfl)
  refine go_seg 8 (pc' := 64) (ls' := [(4, .int 39), (3, .int 0), (0, .ref 90), (1, .int 7), (2, .int 7)]) (st' := [.int 49, .ref 91, .int 0]) (w' := (fw z)) (cs' := 0) (ss' := 0) ?_ (fun _ _ => rfl)
  refine go_seg 8 (pc' := 47) (ls' := [(4, .int 40), (3, .int 0), (0, .ref 90), (1, .int 7), (2, .int 7)]) (st' := []) (w' := (fw z)) (cs' := 0) (ss' := 0) ?_ (fun _ _ => rfl)
  refine go_seg 8 (pc' := 63) (ls' := [(4, .int 40), (3, .int 0), (0, .ref 90), (1, .int 7), (2, .int 7)]) (st' := [.int 40, .int 10, .ref 91, .int 0]) (w' := (fw z)) (cs' := 0) (ss' := 0) ?_ (fun _ _ => rfl)
  refine go_seg 8 (pc' := 79) (ls' := [(4, .int 41), (3, .int 0), (0, .ref 90), (1, .int 7), (2, .int 7)]) (st' := []) (w' := (fw z)) (cs' := 0) (ss' := 0) ?_ (fun _ _ => rfl)
  refine go_seg 8 (pc' := 61) (ls' := [(4, .int 41), (3, .int 0), (0, .ref 90), (1, .int 7), (2, .int 7)]) (st' := [.int 10, .ref 91, .int 0]) (w' := (fw z)) (cs' := 0) (ss' := 0) ?_ (fun _ _ => rfl)
  refine go_seg 8 (pc' := 76) (ls' := [(3, .int 0), (4, .int 41), (0, .ref 90), (1, .int 7), (2, .int 7)]) (st' := []) (w' := (fw z)) (cs' := 0) (ss' := 0) ?_ (fun _ _ => rfl)
  refine go_seg 8 (pc' := 59) (ls' := [(4, .int 42), (3, .int 0), (0, .ref 90), (1, .int 7), (2, .int 7)]) (st' := [.ref 91, .int 0]) (w' := (fw z)) (cs' := 0) (ss' := 0) ?_ (fun _ _ => rfl)
  refine go_seg 8 (pc' := 75) (ls' := [(4, .int 42), (3, .int 0), (0, .ref 90), (1, .int 7), (2, .int 7)]) (st' := [.int 0]) (w' := (fw z)) (cs' := 0) (ss' := 0) ?_ (fun _ _ => rfl)
  refine go_seg 8 (pc' := 56) (ls' := [(4, .int 43), (3, .int 0), (0, .ref 90), (1, .int 7), (2, .int 7)]) (st' := [.ref 90, .int 0]) (w' := (fw z)) (cs' := 0) (ss' := 0) ?_ (fun _ _ => rfl)
  refine go_seg 8 (pc' := 74) (ls' := [(4, .int 43), (3, .int 0), (0, .ref 90), (1, .int 7), (2, .int 7)]) (st' := [.int 0, .int 0]) (w' := (fw z)) (cs' := 0) (ss' := 0) ?_ (fun _ _ => rfl)
  refine go_seg 8 (pc' := 55) (ls' := [(4, .int 44), (3, .int 0), (0, .ref 90), (1, .int 7), (2, .int 7)]) (st' := [.int 0]) (w' := (fw z)) (cs' := 0) (ss' := 0) ?_ (fun _ _ => rfl)
  refine go_seg 8 (pc' := 73) (ls' := [(4, .int 44), (3, .int 0), (0, .ref 90), (1, .int 7), (2, .int 7)]) (st' := [.int 0]) (w' := (fw z)) (cs' := 0) (ss' := 0) ?_ (fun _ _ => rfl)
  refine go_seg 8 (pc' := 54) (ls' := [(4, .int 45), (3, .int 0), (0, .ref 90), (1, .int 7), (2, .int 7)]) (st' := []) (w' := (fw z)) (cs' := 0) (ss' := 0) ?_ (fun _ _ => rfl)
  refine go_seg 8 (pc' := 66) (ls' := [(4, .int 45), (3, .int 0), (0, .ref 90), (1, .int 7), (2, .int 7)]) (st' := [.int 7, .int (-1), .int 0]) (w' := (fw z)) (cs' := 0) (ss' := 0) ?_ (fun _ _ => rfl)
  refine go_seg 8 (pc' := 51) (ls' := [(4, .int 46), (3, .int 0), (0, .ref 90), (1, .int 7), (2, .int 7)]) (st' := [.int 64, .int 46]) (w' := (fw z)) (cs' := 0) (ss' := 0) ?_ (fun _ _ => rfl)
  refine go_seg 8 (pc' := 65) (ls' := [(4, .int 46), (3, .int 0), (0, .ref 90), (1, .int 7), (2, .int 7)]) (st' := [.int (-1), .int 0]) (w' := (fw z)) (cs' := 0) (ss' := 0) ?_ (fun _ _ => rfl)
  refine go_seg 8 (pc' := 49) (ls' := [(4, .int 47), (3, .int 0), (0, .ref 90), (1, .int 7), (2, .int 7)]) (st' := [.int 47]) (w' := (fw z)) (cs' := 0) (ss' := 0) ?_ (fun _ _ => rfl)
  refine go_seg 8 (pc' := 64) (ls' := [(4, .int 47), (3, .int 0), (0, .ref 90), (1, .int 7), (2, .int 7)]) (st' := [.int 57, .ref 91, .int 0]) (w' := (fw z)) (cs' := 0) (ss' := 0) ?_ (fun _ _ => rfl)
  refine go_seg 8 (pc' := 47) (ls' := [(4, .int 48), (3, .int 0), (0, .ref 90), (1, .int 7), (2, .int 7)]) (st' := []) (w' := (fw z)) (cs' := 0) (ss' := 0) ?_ (fun _ _ => rfl)
  refine go_seg 8 (pc' := 63) (ls' := [(4, .int 48), (3, .int 0), (0, .ref 90), (1, .int 7), (2, .int 7)]) (st' := [.int 48, .int 10, .ref 91, .int 0]) (w' := (fw z)) (cs' := 0) (ss' := 0) ?_ (fun _ _ => rfl)
  refine go_seg 8 (pc' := 79) (ls' := [(4, .int 49), (3, .int 0), (0, .ref 90), (1, .int 7), (2, .int 7)]) (st' := []) (w' := (fw z)) (cs' := 0) (ss' := 0) ?_ (fun _ _ => rfl)
  refine go_seg 8 (pc' := 61) (ls' := [(4, .int 49), (3, .int 0), (0, .ref 90), (1, .int 7), (2, .int 7)]) (st' := [.int 10, .ref 91, .int 0]) (w' := (fw z)) (cs' := 0) (ss' := 0) ?_ (fun _ _ => rfl)
  refine go_seg 8 (pc' := 76) (ls' := [(3, .int 0), (4, .int 49), (0, .ref 90), (1, .int 7), (2, .int 7)]) (st' := []) (w' := (fw z)) (cs' := 0) (ss' := 0) ?_ (fun _ _ => rfl)
  refine go_seg 8 (pc' := 59) (ls' := [(4, .int 50), (3, .int 0), (0, .ref 90), (1, .int 7), (2, .int 7)]) (st' := [.ref 91, .int 0]) (w' := (fw z)) (cs' := 0) (ss' := 0) ?_ (fun _ _ => rfl)
  refine go_seg 8 (pc' := 75) (ls' := [(4, .int 50), (3, .int 0), (0, .ref 90), (1, .int 7), (2, .int 7)]) (st' := [.int 0]) (w' := (fw z)) (cs' := 0) (ss' := 0) ?_ (fun _ _ => rfl)
  refine go_seg 8 (pc' := 56) (ls' := [(4, .int 51), (3, .int 0), (0, .ref 90), (1, .int 7), (2, .int 7)]) (st' := [.ref 90, .int 0]) (w' := (fw z)) (cs' := 0) (ss' := 0) ?_ (fun _ _ => rfl)
  refine go_seg 8 (pc' := 74) (ls' := [(4, .int 51), (3, .int 0), (0, .ref 90), (1, .int 7), (2, .int 7)]) (st' := [.int 0, .int 0]) (w' := (fw z)) (cs' := 0) (ss' := 0) ?_ (fun _ _ => rfl)
  refine go_seg 8 (pc' := 55) (ls' := [(4, .int 52), (3, .int 0), (0, .ref 90), (1, .int 7), (2, .int 7)]) (st' := [.int 0]) (w' := (fw z)) (cs' := 0) (ss' := 0) ?_ (fun _ _ => rfl)
  refine go_seg 8 (pc' := 73) (ls' := [(4, .int 52), (3, .int 0), (0, .ref 90), (1, .int 7), (2, .int 7)]) (st' := [.int 0]) (w' := (fw z)) (cs' := 0) (ss' := 0) ?_ (fun _ _ => rfl)
  refine go_seg 8 (pc' := 54) (ls' := [(4, .int 53), (3, .int 0), (0, .ref 90), (1, .int 7), (2, .int 7)]) (st' := []) (w' := (fw z)) (cs' := 0) (ss' := 0) ?_ (fun _ _ => rfl)
  refine go_seg 8 (pc' := 66) (ls' := [(4, .int 53), (3, .int 0), (0, .ref 90), (1, .int 7), (2, .int 7)]) (st' := [.int 7, .int (-1), .int 0]) (w' := (fw z)) (cs' := 0) (ss' := 0) ?_ (fun _ _ => rfl)
  refine go_seg 8 (pc' := 51) (ls' := [(4, .int 54), (3, .int 0), (0, .ref 90), (1, .int 7), (2, .int 7)]) (st' := [.int 64, .int 54]) (w' := (fw z)) (cs' := 0) (ss' := 0) ?_ (fun _ _ => rfl)
  refine go_seg 8 (pc' := 65) (ls' := [(4, .int 54), (3, .int 0), (0, .ref 90), (1, .int 7), (2, .int 7)]) (st' := [.int (-1), .int 0]) (w' := (fw z)) (cs' := 0) (ss' := 0) ?_ (fun _ _ => rfl)
  refine go_seg 8 (pc' := 49) (ls' := [(4, .int 55), (3, .int 0), (0, .ref 90), (1, .int 7), (2, .int 7)]) (st' := [.int 55]) (w' := (fw z)) (cs' := 0) (ss' := 0) ?_ (fun _ _ => rfl)
  refine go_seg 8 (pc' := 64) (ls' := [(4, .int 55), (3, .int 0), (0, .ref 90), (1, .int 7), (2, .int 7)]) (st' := [.int 65, .ref 91, .int 0]) (w' := (fw z)) (cs' := 0) (ss' := 0) ?_ (fun _ _ => rfl)
  refine go_seg 8 (pc' := 47) (ls' := [(4, .int 56), (3, .int 0), (0, .ref 90), (1, .int 7), (2, .int 7)]) (st' := []) (w' := (fw z)) (cs' := 0) (ss' := 0) ?_ (fun _ _ => rfl)
  refine go_seg 8 (pc' := 63) (ls' := [(4, .int 56), (3, .int 0), (0, .ref 90), (1, .int 7), (2, .int 7)]) (st' := [.int 56, .int 10, .ref 91, .int 0]) (w' := (fw z)) (cs' := 0) (ss' := 0) ?_ (fun _ _ => rfl)
  refine go_seg 8 (pc' := 79) (ls' := [(4, .int 57), (3, .int 0), (0, .ref 90), (1, .int 7), (2, .int 7)]) (st' := []) (w' := (fw z)) (cs' := 0) (ss' := 0) ?_ (fun _ _ => rfl)
  refine go_seg 8 (pc' := 61) (ls' := [(4, .int 57), (3, .int 0), (0, .ref 90), (1, .int 7), (2, .int 7)]) (st' := [.int 10, .ref 91, .int 0]) (w' := (fw z)) (cs' := 0) (ss' := 0) ?_ (fun _ _ => rfl)
  refine go_seg 8 (pc' := 76) (ls' := [(3, .int 0), (4, .int 57), (0, .ref 90), (1, .int 7), (2, .int 7)]) (st' := []) (w' := (fw z)) (cs' := 0) (ss' := 0) ?_ (fun _ _ => rfl)
  refine go_seg 8 (pc' := 59) (ls' := [(4, .int 58), (3, .int 0), (0, .ref 90), (1, .int 7), (2, .int 7)]) (st' := [.ref 91, .int 0]) (w' := (fw z)) (cs' := 0) (ss' := 0) ?_ (fun _ _ => rfl)
  refine go_seg 8 (pc' := 75) (ls' := [(4, .int 58), (3, .int 0), (0, .ref 90), (1, .int 7), (2, .int 7)]) (st' := [.int 0]) (w' := (fw z)) (cs' := 0) (ss' := 0) ?_ (fun _ _ => rfl)
  refine go_seg 8 (pc' := 56) (ls' := [(4, .int 59), (3, .int 0), (0, .ref 90), (1, .int 7), (2, .int 7)]) (st' := [.ref 90, .int 0]) (w' := (fw z)) (cs' := 0) (ss' := 0) ?_ (fun _ _ => rfl)
  refine go_seg 8 (pc' := 74) (ls' := [(4, .int 59), (3, .int 0), (0, .ref 90), (1, .int 7), (2, .int 7)]) (st' := [.int 0, .int 0]) (w' := (fw z)) (cs' := 0) (ss' := 0) ?_ (fun _ _ => rfl)
  refine go_seg 8 (pc' := 55) (ls' := [(4, .int 60), (3, .int 0), (0, .ref 90), (1, .int 7), (2, .int 7)]) (st' := [.int 0]) (w' := (fw z)) (cs' := 0) (ss' := 0) ?_ (fun _ _ => rfl)
  refine go_seg 8 (pc' := 73) (ls' := [(4, .int 60), (3, .int 0), (0, .ref 90), (1, .int 7), (2, .int 7)]) (st' := [.int 0]) (w' := (fw z)) (cs' := 0) (ss' := 0) ?_ (fun _ _ => rfl)
  refine go_seg 8 (pc' := 54) (ls' := [(4, .int 61), (3, .int 0), (0, .ref 90), (1, .int 7), (2, .int 7)]) (st' := []) (w' := (fw z)) (cs' := 0) (ss' := 0) ?_ (fun _ _ => rfl)
  refine go_seg 8 (pc' := 66) (ls' := [(4, .int 61), (3, .int 0), (0, .ref 90), (1, .int 7), (2, .int 7)]) (st' := [.int 7, .int (-1), .int 0]) (w' := (fw z)) (cs' := 0) (ss' := 0) ?_ (fun _ _ => rfl)
  refine go_seg 8 (pc' := 51) (ls' := [(4, .int 62), (3, .int 0), (0, .ref 90), (1, .int 7), (2, .int 7)]) (st' := [.int 64, .int 62]) (w' := (fw z)) (cs' := 0) (ss' := 0) ?_ (fun _ _ => rfl)
  refine go_seg 8 (pc' := 65) (ls' := [(4, .int 62), (3, .int 0), (0, .ref 90), (1, .int 7), (2, .int 7)]) (st' := [.int (-1), .int 0]) (w' := (fw z)) (cs' := 0) (ss' := 0) ?_ (fun _ _ => rfl)
  refine go_seg 8 (pc' := 49) (ls' := [(4, .int 63), (3, .int 0), (0, .ref 90), (1, .int 7), (2, .int 7)]) (st' := [.int 63]) (w' := (fw z)) (cs' := 0) (ss' := 0) ?_ (fun _ _ => rfl)
  refine go_seg 8 (pc' := 64) (ls' := [(4, .int 63), (3, .int 0), (0, .ref 90), (1, .int 7), (2, .int 7)]) (st' := [.int 73, .ref 91, .int 0]) (w' := (fw z)) (cs' := 0) (ss' := 0) ?_ (fun _ _ => rfl)
  refine go_seg 8 (pc' := 47) (ls' := [(4, .int 64), (3, .int 0), (0, .ref 90), (1, .int 7), (2, .int 7)]) (st' := []) (w' := (fw z)) (cs' := 0) (ss' := 0) ?_ (fun _ _ => rfl)
  refine go_seg 8 (pc' := 94) (ls' := [(4, .int 64), (3, .int 0), (0, .ref 90), (1, .int 7), (2, .int 7)]) (st' := [.int 6, .int 7]) (w' := (fw z)) (cs' := 0) (ss' := 0) ?_ (fun _ _ => rfl)
  refine go_seg 5 (pc' := 111) (ls' := [(4, .int 64), (3, .int 0), (0, .ref 90), (1, .int 7), (2, .int 7)]) (st' := [.int 5, .int 7, .ref 91]) (w' := (fw z)) (cs' := 0) (ss' := 0) ?_ (fun _ _ => rfl)
  refine go_cl (k := 2) (st' := [.int 185, .ref 91]) (cs' := 0) (ss' := 0) rfl rfl rfl rfl rfl rfl rfl (ro_494 z) ?_
  exact go_end 2 (fun _ _ => rfl)
theorem lf_4_1173 (a0 : Int32) (a3 : Int32) (a4 : Int32) (a5 : Int32) : ∃ w', pq_Go 20 pm_law 370 [(3, .int 0), (2, .ref 90), (1, .ref 1), (0, .ref 0)] [] (fw (sz a0 7 7 a3 a4 a5)) 109 12668 (some (.int 1), w') := by
  refine ⟨(fw (sz a0 7 7 a3 a4 a5)), ?_⟩
  refine go_seg 8 (pc' := 378) (ls' := [(3, .int 0), (2, .ref 90), (1, .ref 1), (0, .ref 0)]) (st' := [.int 0, .ref 0, .int 7, .ref 1]) (w' := (fw (sz a0 7 7 a3 a4 a5))) (cs' := 109) (ss' := 12668) ?_ (fun _ _ => rfl)
  refine go_seg 3 (pc' := 381) (ls' := [(3, .int 0), (2, .ref 90), (1, .ref 1), (0, .ref 0)]) (st' := [.int 7, .int 7, .ref 1]) (w' := (fw (sz a0 7 7 a3 a4 a5))) (cs' := 109) (ss' := 12668) ?_ (fun _ _ => rfl)
  refine go_cl (k := 20) (st' := [.int 0]) (cs' := 109) (ss' := 12668) rfl rfl rfl rfl rfl rfl rfl (ro_1171 (sz a0 7 7 a3 a4 a5)) ?_
  refine go_seg 8 (pc' := 392) (ls' := [(3, .int 0), (2, .ref 90), (1, .ref 1), (0, .ref 0)]) (st' := [.int 0, .ref 0, .int 7, .ref 90, .int 0]) (w' := (fw (sz a0 7 7 a3 a4 a5))) (cs' := 109) (ss' := 12668) ?_ (fun _ _ => rfl)
  refine go_seg 3 (pc' := 395) (ls' := [(3, .int 0), (2, .ref 90), (1, .ref 1), (0, .ref 0)]) (st' := [.int 7, .int 7, .ref 90, .int 0]) (w' := (fw (sz a0 7 7 a3 a4 a5))) (cs' := 109) (ss' := 12668) ?_ (fun _ _ => rfl)
  refine go_cl (k := 20) (st' := [.int 0, .int 0]) (cs' := 109) (ss' := 12668) rfl rfl rfl rfl rfl rfl rfl (ro_1172 (sz a0 7 7 a3 a4 a5)) ?_
  refine go_cmp true rfl (br_self _) ?_
  exact law_tail (f := sc a0 7 7 a3 a4 a5) rfl
theorem ro_1174 (z : pq_C) (a1 : Int32) (a2 : Int32) (h0 : 0 ≤ a1.toInt) (h1 : a1.toInt < 8) (h2 : ¬ (0 ≤ a2.toInt ∧ a2.toInt ≤ 7)) : pq_Ru 3 25 [.ref 1, .int a1, .int a2] (fw z) (some (.int (-1000001)), (wd_1000 z)) := by
  refine ru_of (k := 2) (M := pm_25) rfl rfl ?_
  refine go_seg 1 (pc' := 1) (ls' := [(0, .ref 1), (1, .int a1), (2, .int a2)]) (st' := [.int a1]) (w' := (fw z)) (cs' := 0) (ss' := 0) ?_ (fun _ _ => rfl)
  refine go_cl (k := 2) (st' := [.int 1]) (cs' := 0) (ss' := 0) rfl rfl rfl rfl rfl rfl rfl (ro_331 z a1 (by omega) (by omega)) ?_
  refine go_seg 2 (pc' := 14) (ls' := [(0, .ref 1), (1, .int a1), (2, .int a2)]) (st' := [.int a2]) (w' := (fw z)) (cs' := 0) (ss' := 0) ?_ (fun _ _ => rfl)
  refine go_sw rfl (sw_out (by omega)) ?_
  refine go_seg 2 (pc' := 140) (ls' := [(0, .ref 1), (1, .int a1), (2, .int a2)]) (st' := [.int 1, .ref 1]) (w' := (fw z)) (cs' := 0) (ss' := 0) ?_ (fun _ _ => rfl)
  refine go_cl (k := 2) (st' := [.int (-1000001)]) (cs' := 0) (ss' := 0) rfl rfl rfl rfl rfl rfl rfl (ro_2 z) ?_
  exact go_end 1 (fun _ _ => rfl)
theorem ro_1175 (z : pq_C) (a1 : Int32) (a2 : Int32) (h0 : 0 ≤ a1.toInt) (h1 : a1.toInt < 8) (h2 : ¬ (0 ≤ a2.toInt ∧ a2.toInt ≤ 7)) : pq_Ru 3 169 [.ref 90, .int a1, .int a2] (wd_1000 z) (some (.int (-1000001)), (wd_1001 z)) := by
  refine ru_of (k := 2) (M := pm_169) rfl rfl ?_
  refine go_seg 1 (pc' := 1) (ls' := [(0, .ref 90), (1, .int a1), (2, .int a2)]) (st' := [.int a1]) (w' := (wd_1000 z)) (cs' := 0) (ss' := 0) ?_ (fun _ _ => rfl)
  refine go_cl (k := 2) (st' := [.int 1]) (cs' := 0) (ss' := 0) rfl rfl rfl rfl rfl rfl rfl (ro_545 z a1 (by omega) (by omega)) ?_
  refine go_seg 5 (pc' := 13) (ls' := [(0, .ref 90), (1, .int a1), (2, .int a2)]) (st' := [.long 7, .long 0, .long a2.toInt64]) (w' := (wd_1000 z)) (cs' := 0) (ss' := 0) ?_ (fun _ _ => rfl)
  refine go_cl (k := 2) (st' := [.int 0]) (cs' := 0) (ss' := 0) rfl rfl rfl rfl rfl rfl rfl (wi_f _ a2 0 7 0 7 rfl rfl (by omega)) ?_
  refine go_seg 3 (pc' := 22) (ls' := [(0, .ref 90), (1, .int a1), (2, .int a2)]) (st' := [.int (-1000001), .ref 90]) (w' := (wd_1000 z)) (cs' := 0) (ss' := 0) ?_ (fun _ _ => rfl)
  refine go_cl (k := 2) (st' := [.int (-1000001)]) (cs' := 0) (ss' := 0) rfl rfl rfl rfl rfl rfl rfl (ro_5 z) ?_
  exact go_end 1 (fun _ _ => rfl)
theorem lf_4_1176 (a0 : Int32) (a1 : Int32) (a2 : Int32) (a3 : Int32) (a4 : Int32) (a5 : Int32) (h0 : 0 ≤ a1.toInt) (h1 : a1.toInt < 8) (h2 : ¬ (0 ≤ a2.toInt ∧ a2.toInt ≤ 7)) : ∃ w', pq_Go 20 pm_law 370 [(3, .int 0), (2, .ref 90), (1, .ref 1), (0, .ref 0)] [] (fw (sz a0 a1 a2 a3 a4 a5)) 109 12668 (some (.int 1), w') := by
  refine ⟨(wd_1001 (sz a0 a1 a2 a3 a4 a5)), ?_⟩
  refine go_seg 8 (pc' := 378) (ls' := [(3, .int 0), (2, .ref 90), (1, .ref 1), (0, .ref 0)]) (st' := [.int 0, .ref 0, .int a1, .ref 1]) (w' := (fw (sz a0 a1 a2 a3 a4 a5))) (cs' := 109) (ss' := 12668) ?_ (fun _ _ => rfl)
  refine go_seg 3 (pc' := 381) (ls' := [(3, .int 0), (2, .ref 90), (1, .ref 1), (0, .ref 0)]) (st' := [.int a2, .int a1, .ref 1]) (w' := (fw (sz a0 a1 a2 a3 a4 a5))) (cs' := 109) (ss' := 12668) ?_ (fun _ _ => rfl)
  refine go_cl (k := 20) (st' := [.int (-1000001)]) (cs' := 109) (ss' := 12668) rfl rfl rfl rfl rfl rfl rfl (ro_1174 (sz a0 a1 a2 a3 a4 a5) a1 a2 (by omega) (by omega) (by omega)) ?_
  refine go_seg 8 (pc' := 392) (ls' := [(3, .int 0), (2, .ref 90), (1, .ref 1), (0, .ref 0)]) (st' := [.int 0, .ref 0, .int a1, .ref 90, .int (-1000001)]) (w' := (wd_1000 (sz a0 a1 a2 a3 a4 a5))) (cs' := 109) (ss' := 12668) ?_ (fun _ _ => rfl)
  refine go_seg 3 (pc' := 395) (ls' := [(3, .int 0), (2, .ref 90), (1, .ref 1), (0, .ref 0)]) (st' := [.int a2, .int a1, .ref 90, .int (-1000001)]) (w' := (wd_1000 (sz a0 a1 a2 a3 a4 a5))) (cs' := 109) (ss' := 12668) ?_ (fun _ _ => rfl)
  refine go_cl (k := 20) (st' := [.int (-1000001), .int (-1000001)]) (cs' := 109) (ss' := 12668) rfl rfl rfl rfl rfl rfl rfl (ro_1175 (sz a0 a1 a2 a3 a4 a5) a1 a2 (by omega) (by omega) (by omega)) ?_
  refine go_cmp true rfl (br_self _) ?_
  exact law_tail (f := sc a0 a1 a2 a3 a4 a5) rfl
theorem ro_1177 (z : pq_C) (a1 : Int32) (a2 : Int32) (h0 : 0 ≤ a1.toInt) (h1 : 8 ≤ a1.toInt) : pq_Ru 3 25 [.ref 1, .int a1, .int a2] (fw z) (some (.int (-1000001)), (wd_1000 z)) := by
  refine ru_of (k := 2) (M := pm_25) rfl rfl ?_
  refine go_seg 1 (pc' := 1) (ls' := [(0, .ref 1), (1, .int a1), (2, .int a2)]) (st' := [.int a1]) (w' := (fw z)) (cs' := 0) (ss' := 0) ?_ (fun _ _ => rfl)
  refine go_cl (k := 2) (st' := [.int 0]) (cs' := 0) (ss' := 0) rfl rfl rfl rfl rfl rfl rfl (ro_338 z a1 (by omega) (by omega)) ?_
  refine go_seg 3 (pc' := 9) (ls' := [(0, .ref 1), (1, .int a1), (2, .int a2)]) (st' := [.int 1, .ref 1]) (w' := (fw z)) (cs' := 0) (ss' := 0) ?_ (fun _ _ => rfl)
  refine go_cl (k := 2) (st' := [.int (-1000001)]) (cs' := 0) (ss' := 0) rfl rfl rfl rfl rfl rfl rfl (ro_2 z) ?_
  exact go_end 1 (fun _ _ => rfl)
theorem ro_1178 (z : pq_C) (a1 : Int32) (a2 : Int32) (h0 : 0 ≤ a1.toInt) (h1 : 8 ≤ a1.toInt) : pq_Ru 3 169 [.ref 90, .int a1, .int a2] (wd_1000 z) (some (.int (-1000001)), (wd_1001 z)) := by
  refine ru_of (k := 2) (M := pm_169) rfl rfl ?_
  refine go_seg 1 (pc' := 1) (ls' := [(0, .ref 90), (1, .int a1), (2, .int a2)]) (st' := [.int a1]) (w' := (wd_1000 z)) (cs' := 0) (ss' := 0) ?_ (fun _ _ => rfl)
  refine go_cl (k := 2) (st' := [.int 0]) (cs' := 0) (ss' := 0) rfl rfl rfl rfl rfl rfl rfl (ro_340 z a1 (by omega) (by omega)) ?_
  refine go_seg 3 (pc' := 22) (ls' := [(0, .ref 90), (1, .int a1), (2, .int a2)]) (st' := [.int (-1000001), .ref 90]) (w' := (wd_1000 z)) (cs' := 0) (ss' := 0) ?_ (fun _ _ => rfl)
  refine go_cl (k := 2) (st' := [.int (-1000001)]) (cs' := 0) (ss' := 0) rfl rfl rfl rfl rfl rfl rfl (ro_5 z) ?_
  exact go_end 1 (fun _ _ => rfl)
theorem lf_4_1179 (a0 : Int32) (a1 : Int32) (a2 : Int32) (a3 : Int32) (a4 : Int32) (a5 : Int32) (h0 : 0 ≤ a1.toInt) (h1 : 8 ≤ a1.toInt) : ∃ w', pq_Go 20 pm_law 370 [(3, .int 0), (2, .ref 90), (1, .ref 1), (0, .ref 0)] [] (fw (sz a0 a1 a2 a3 a4 a5)) 109 12668 (some (.int 1), w') := by
  refine ⟨(wd_1001 (sz a0 a1 a2 a3 a4 a5)), ?_⟩
  refine go_seg 8 (pc' := 378) (ls' := [(3, .int 0), (2, .ref 90), (1, .ref 1), (0, .ref 0)]) (st' := [.int 0, .ref 0, .int a1, .ref 1]) (w' := (fw (sz a0 a1 a2 a3 a4 a5))) (cs' := 109) (ss' := 12668) ?_ (fun _ _ => rfl)
  refine go_seg 3 (pc' := 381) (ls' := [(3, .int 0), (2, .ref 90), (1, .ref 1), (0, .ref 0)]) (st' := [.int a2, .int a1, .ref 1]) (w' := (fw (sz a0 a1 a2 a3 a4 a5))) (cs' := 109) (ss' := 12668) ?_ (fun _ _ => rfl)
  refine go_cl (k := 20) (st' := [.int (-1000001)]) (cs' := 109) (ss' := 12668) rfl rfl rfl rfl rfl rfl rfl (ro_1177 (sz a0 a1 a2 a3 a4 a5) a1 a2 (by omega) (by omega)) ?_
  refine go_seg 8 (pc' := 392) (ls' := [(3, .int 0), (2, .ref 90), (1, .ref 1), (0, .ref 0)]) (st' := [.int 0, .ref 0, .int a1, .ref 90, .int (-1000001)]) (w' := (wd_1000 (sz a0 a1 a2 a3 a4 a5))) (cs' := 109) (ss' := 12668) ?_ (fun _ _ => rfl)
  refine go_seg 3 (pc' := 395) (ls' := [(3, .int 0), (2, .ref 90), (1, .ref 1), (0, .ref 0)]) (st' := [.int a2, .int a1, .ref 90, .int (-1000001)]) (w' := (wd_1000 (sz a0 a1 a2 a3 a4 a5))) (cs' := 109) (ss' := 12668) ?_ (fun _ _ => rfl)
  refine go_cl (k := 20) (st' := [.int (-1000001), .int (-1000001)]) (cs' := 109) (ss' := 12668) rfl rfl rfl rfl rfl rfl rfl (ro_1178 (sz a0 a1 a2 a3 a4 a5) a1 a2 (by omega) (by omega)) ?_
  refine go_cmp true rfl (br_self _) ?_
  exact law_tail (f := sc a0 a1 a2 a3 a4 a5) rfl
theorem op_4 (a0 a1 a2 a3 a4 a5 : Int32) : ∃ w', pq_Go 20 pm_law 370 [(3, .int 0), (2, .ref 90), (1, .ref 1), (0, .ref 0)] [] (fw (sz a0 a1 a2 a3 a4 a5)) 109 12668 (some (.int 1), w') := by
  by_cases c0 : a1.toInt < 0
  · exact lf_4_937 a0 a1 a2 a3 a4 a5 (by omega)
  · by_cases c1 : a1.toInt < 8
    · by_cases c2 : 0 ≤ a2.toInt ∧ a2.toInt ≤ 7
      · by_cases e3_0 : a2 = 0
        · subst e3_0
          by_cases e4_0 : a1 = 0
          · subst e4_0
            exact lf_4_943 a0 a3 a4 a5
          replace e4_0 := ne_t (b := 0) rfl e4_0
          by_cases e4_1 : a1 = 1
          · subst e4_1
            exact lf_4_949 a0 a3 a4 a5
          replace e4_1 := ne_t (b := 1) rfl e4_1
          by_cases e4_2 : a1 = 2
          · subst e4_2
            exact lf_4_955 a0 a3 a4 a5
          replace e4_2 := ne_t (b := 2) rfl e4_2
          by_cases e4_3 : a1 = 3
          · subst e4_3
            exact lf_4_961 a0 a3 a4 a5
          replace e4_3 := ne_t (b := 3) rfl e4_3
          by_cases e4_4 : a1 = 4
          · subst e4_4
            exact lf_4_967 a0 a3 a4 a5
          replace e4_4 := ne_t (b := 4) rfl e4_4
          by_cases e4_5 : a1 = 5
          · subst e4_5
            exact lf_4_973 a0 a3 a4 a5
          replace e4_5 := ne_t (b := 5) rfl e4_5
          by_cases e4_6 : a1 = 6
          · subst e4_6
            exact lf_4_979 a0 a3 a4 a5
          replace e4_6 := ne_t (b := 6) rfl e4_6
          by_cases e4_7 : a1 = 7
          · subst e4_7
            exact lf_4_985 a0 a3 a4 a5
          replace e4_7 := ne_t (b := 7) rfl e4_7
          exfalso
          omega
        replace e3_0 := ne_t (b := 0) rfl e3_0
        by_cases e3_1 : a2 = 1
        · subst e3_1
          by_cases e4_0 : a1 = 0
          · subst e4_0
            exact lf_4_989 a0 a3 a4 a5
          replace e4_0 := ne_t (b := 0) rfl e4_0
          by_cases e4_1 : a1 = 1
          · subst e4_1
            exact lf_4_993 a0 a3 a4 a5
          replace e4_1 := ne_t (b := 1) rfl e4_1
          by_cases e4_2 : a1 = 2
          · subst e4_2
            exact lf_4_997 a0 a3 a4 a5
          replace e4_2 := ne_t (b := 2) rfl e4_2
          by_cases e4_3 : a1 = 3
          · subst e4_3
            exact lf_4_1001 a0 a3 a4 a5
          replace e4_3 := ne_t (b := 3) rfl e4_3
          by_cases e4_4 : a1 = 4
          · subst e4_4
            exact lf_4_1005 a0 a3 a4 a5
          replace e4_4 := ne_t (b := 4) rfl e4_4
          by_cases e4_5 : a1 = 5
          · subst e4_5
            exact lf_4_1009 a0 a3 a4 a5
          replace e4_5 := ne_t (b := 5) rfl e4_5
          by_cases e4_6 : a1 = 6
          · subst e4_6
            exact lf_4_1013 a0 a3 a4 a5
          replace e4_6 := ne_t (b := 6) rfl e4_6
          by_cases e4_7 : a1 = 7
          · subst e4_7
            exact lf_4_1017 a0 a3 a4 a5
          replace e4_7 := ne_t (b := 7) rfl e4_7
          exfalso
          omega
        replace e3_1 := ne_t (b := 1) rfl e3_1
        by_cases e3_2 : a2 = 2
        · subst e3_2
          by_cases e4_0 : a1 = 0
          · subst e4_0
            exact lf_4_1021 a0 a3 a4 a5
          replace e4_0 := ne_t (b := 0) rfl e4_0
          by_cases e4_1 : a1 = 1
          · subst e4_1
            exact lf_4_1025 a0 a3 a4 a5
          replace e4_1 := ne_t (b := 1) rfl e4_1
          by_cases e4_2 : a1 = 2
          · subst e4_2
            exact lf_4_1029 a0 a3 a4 a5
          replace e4_2 := ne_t (b := 2) rfl e4_2
          by_cases e4_3 : a1 = 3
          · subst e4_3
            exact lf_4_1033 a0 a3 a4 a5
          replace e4_3 := ne_t (b := 3) rfl e4_3
          by_cases e4_4 : a1 = 4
          · subst e4_4
            exact lf_4_1037 a0 a3 a4 a5
          replace e4_4 := ne_t (b := 4) rfl e4_4
          by_cases e4_5 : a1 = 5
          · subst e4_5
            exact lf_4_1041 a0 a3 a4 a5
          replace e4_5 := ne_t (b := 5) rfl e4_5
          by_cases e4_6 : a1 = 6
          · subst e4_6
            exact lf_4_1045 a0 a3 a4 a5
          replace e4_6 := ne_t (b := 6) rfl e4_6
          by_cases e4_7 : a1 = 7
          · subst e4_7
            exact lf_4_1049 a0 a3 a4 a5
          replace e4_7 := ne_t (b := 7) rfl e4_7
          exfalso
          omega
        replace e3_2 := ne_t (b := 2) rfl e3_2
        by_cases e3_3 : a2 = 3
        · subst e3_3
          by_cases e4_0 : a1 = 0
          · subst e4_0
            exact lf_4_1053 a0 a3 a4 a5
          replace e4_0 := ne_t (b := 0) rfl e4_0
          by_cases e4_1 : a1 = 1
          · subst e4_1
            exact lf_4_1057 a0 a3 a4 a5
          replace e4_1 := ne_t (b := 1) rfl e4_1
          by_cases e4_2 : a1 = 2
          · subst e4_2
            exact lf_4_1061 a0 a3 a4 a5
          replace e4_2 := ne_t (b := 2) rfl e4_2
          by_cases e4_3 : a1 = 3
          · subst e4_3
            exact lf_4_1065 a0 a3 a4 a5
          replace e4_3 := ne_t (b := 3) rfl e4_3
          by_cases e4_4 : a1 = 4
          · subst e4_4
            exact lf_4_1069 a0 a3 a4 a5
          replace e4_4 := ne_t (b := 4) rfl e4_4
          by_cases e4_5 : a1 = 5
          · subst e4_5
            exact lf_4_1073 a0 a3 a4 a5
          replace e4_5 := ne_t (b := 5) rfl e4_5
          by_cases e4_6 : a1 = 6
          · subst e4_6
            exact lf_4_1077 a0 a3 a4 a5
          replace e4_6 := ne_t (b := 6) rfl e4_6
          by_cases e4_7 : a1 = 7
          · subst e4_7
            exact lf_4_1081 a0 a3 a4 a5
          replace e4_7 := ne_t (b := 7) rfl e4_7
          exfalso
          omega
        replace e3_3 := ne_t (b := 3) rfl e3_3
        by_cases e3_4 : a2 = 4
        · subst e3_4
          by_cases e4_0 : a1 = 0
          · subst e4_0
            exact lf_4_1085 a0 a3 a4 a5
          replace e4_0 := ne_t (b := 0) rfl e4_0
          by_cases e4_1 : a1 = 1
          · subst e4_1
            exact lf_4_1089 a0 a3 a4 a5
          replace e4_1 := ne_t (b := 1) rfl e4_1
          by_cases e4_2 : a1 = 2
          · subst e4_2
            exact lf_4_1093 a0 a3 a4 a5
          replace e4_2 := ne_t (b := 2) rfl e4_2
          by_cases e4_3 : a1 = 3
          · subst e4_3
            exact lf_4_1097 a0 a3 a4 a5
          replace e4_3 := ne_t (b := 3) rfl e4_3
          by_cases e4_4 : a1 = 4
          · subst e4_4
            exact lf_4_1101 a0 a3 a4 a5
          replace e4_4 := ne_t (b := 4) rfl e4_4
          by_cases e4_5 : a1 = 5
          · subst e4_5
            exact lf_4_1105 a0 a3 a4 a5
          replace e4_5 := ne_t (b := 5) rfl e4_5
          by_cases e4_6 : a1 = 6
          · subst e4_6
            exact lf_4_1109 a0 a3 a4 a5
          replace e4_6 := ne_t (b := 6) rfl e4_6
          by_cases e4_7 : a1 = 7
          · subst e4_7
            exact lf_4_1113 a0 a3 a4 a5
          replace e4_7 := ne_t (b := 7) rfl e4_7
          exfalso
          omega
        replace e3_4 := ne_t (b := 4) rfl e3_4
        by_cases e3_5 : a2 = 5
        · subst e3_5
          exact lf_4_1117 a0 a1 a3 a4 a5 (by omega) (by omega)
        replace e3_5 := ne_t (b := 5) rfl e3_5
        by_cases e3_6 : a2 = 6
        · subst e3_6
          by_cases e4_0 : a1 = 0
          · subst e4_0
            exact lf_4_1121 a0 a3 a4 a5
          replace e4_0 := ne_t (b := 0) rfl e4_0
          by_cases e4_1 : a1 = 1
          · subst e4_1
            exact lf_4_1125 a0 a3 a4 a5
          replace e4_1 := ne_t (b := 1) rfl e4_1
          by_cases e4_2 : a1 = 2
          · subst e4_2
            exact lf_4_1129 a0 a3 a4 a5
          replace e4_2 := ne_t (b := 2) rfl e4_2
          by_cases e4_3 : a1 = 3
          · subst e4_3
            exact lf_4_1133 a0 a3 a4 a5
          replace e4_3 := ne_t (b := 3) rfl e4_3
          by_cases e4_4 : a1 = 4
          · subst e4_4
            exact lf_4_1137 a0 a3 a4 a5
          replace e4_4 := ne_t (b := 4) rfl e4_4
          by_cases e4_5 : a1 = 5
          · subst e4_5
            exact lf_4_1141 a0 a3 a4 a5
          replace e4_5 := ne_t (b := 5) rfl e4_5
          by_cases e4_6 : a1 = 6
          · subst e4_6
            exact lf_4_1145 a0 a3 a4 a5
          replace e4_6 := ne_t (b := 6) rfl e4_6
          by_cases e4_7 : a1 = 7
          · subst e4_7
            exact lf_4_1149 a0 a3 a4 a5
          replace e4_7 := ne_t (b := 7) rfl e4_7
          exfalso
          omega
        replace e3_6 := ne_t (b := 6) rfl e3_6
        by_cases e3_7 : a2 = 7
        · subst e3_7
          by_cases e4_0 : a1 = 0
          · subst e4_0
            exact lf_4_1152 a0 a3 a4 a5
          replace e4_0 := ne_t (b := 0) rfl e4_0
          by_cases e4_1 : a1 = 1
          · subst e4_1
            exact lf_4_1155 a0 a3 a4 a5
          replace e4_1 := ne_t (b := 1) rfl e4_1
          by_cases e4_2 : a1 = 2
          · subst e4_2
            exact lf_4_1158 a0 a3 a4 a5
          replace e4_2 := ne_t (b := 2) rfl e4_2
          by_cases e4_3 : a1 = 3
          · subst e4_3
            exact lf_4_1161 a0 a3 a4 a5
          replace e4_3 := ne_t (b := 3) rfl e4_3
          by_cases e4_4 : a1 = 4
          · subst e4_4
            exact lf_4_1164 a0 a3 a4 a5
          replace e4_4 := ne_t (b := 4) rfl e4_4
          by_cases e4_5 : a1 = 5
          · subst e4_5
            exact lf_4_1167 a0 a3 a4 a5
          replace e4_5 := ne_t (b := 5) rfl e4_5
          by_cases e4_6 : a1 = 6
          · subst e4_6
            exact lf_4_1170 a0 a3 a4 a5
          replace e4_6 := ne_t (b := 6) rfl e4_6
          by_cases e4_7 : a1 = 7
          · subst e4_7
            exact lf_4_1173 a0 a3 a4 a5
          replace e4_7 := ne_t (b := 7) rfl e4_7
          exfalso
          omega
        replace e3_7 := ne_t (b := 7) rfl e3_7
        exfalso
        omega
      · exact lf_4_1176 a0 a1 a2 a3 a4 a5 (by omega) (by omega) (by omega)
    · exact lf_4_1179 a0 a1 a2 a3 a4 a5 (by omega) (by omega)
