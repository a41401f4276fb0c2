theorem ro_629 (z : pq_C) (a1 : Int32) (a2 : Int32) (a3 : Int32) (h0 : a1.toInt < 0) : pq_Ru 3 23 [.ref 1, .int a1, .int a2, .int a3] (fw z) (some (.int (-1000001)), (wd_1000 z)) := by
  refine ru_of (k := 2) (M := pm_23) rfl rfl ?_
  refine go_seg 1 (pc' := 1) (ls' := [(0, .ref 1), (1, .int a1), (2, .int a2), (3, .int a3)]) (st' := [.int a1]) (w' := (fw z)) (cs' := 0) (ss' := 0) ?_ (fun _ _ => rfl)
  refine go_cl (k := 2) (st' := [.int 0]) (cs' := 0) (ss' := 0) rfl rfl rfl rfl rfl rfl rfl (ro_326 z a1 (by omega)) ?_
  refine go_seg 3 (pc' := 31) (ls' := [(0, .ref 1), (1, .int a1), (2, .int a2), (3, .int a3)]) (st' := [.int 1, .ref 1]) (w' := (fw z)) (cs' := 0) (ss' := 0) ?_ (fun _ _ => rfl)
  refine go_cl (k := 2) (st' := [.int (-1000001)]) (cs' := 0) (ss' := 0) rfl rfl rfl rfl rfl rfl rfl (ro_2 z) ?_
  exact go_end 1 (fun _ _ => rfl)
theorem ro_630 (z : pq_C) (a1 : Int32) (a2 : Int32) (a3 : Int32) (h0 : a1.toInt < 0) : pq_Ru 3 166 [.ref 90, .int a1, .int a2, .int a3] (wd_1000 z) (some (.int (-1000001)), (wd_1001 z)) := by
  refine ru_of (k := 2) (M := pm_166) rfl rfl ?_
  refine go_seg 1 (pc' := 1) (ls' := [(0, .ref 90), (1, .int a1), (2, .int a2), (3, .int a3)]) (st' := [.int a1]) (w' := (wd_1000 z)) (cs' := 0) (ss' := 0) ?_ (fun _ _ => rfl)
  refine go_cl (k := 2) (st' := [.int 0]) (cs' := 0) (ss' := 0) rfl rfl rfl rfl rfl rfl rfl (ro_328 z a1 (by omega)) ?_
  refine go_seg 3 (pc' := 34) (ls' := [(0, .ref 90), (1, .int a1), (2, .int a2), (3, .int a3)]) (st' := [.int (-1000001), .ref 90]) (w' := (wd_1000 z)) (cs' := 0) (ss' := 0) ?_ (fun _ _ => rfl)
  refine go_cl (k := 2) (st' := [.int (-1000001)]) (cs' := 0) (ss' := 0) rfl rfl rfl rfl rfl rfl rfl (ro_5 z) ?_
  exact go_end 1 (fun _ _ => rfl)
theorem lf_3_631 (a0 : Int32) (a1 : Int32) (a2 : Int32) (a3 : Int32) (a4 : Int32) (a5 : Int32) (h0 : a1.toInt < 0) : ∃ w', pq_Go 20 pm_law 327 [(3, .int 0), (2, .ref 90), (1, .ref 1), (0, .ref 0)] [] (fw (sz a0 a1 a2 a3 a4 a5)) 109 12668 (some (.int 1), w') := by
  refine ⟨(wd_1001 (sz a0 a1 a2 a3 a4 a5)), ?_⟩
  refine go_seg 8 (pc' := 335) (ls' := [(3, .int 0), (2, .ref 90), (1, .ref 1), (0, .ref 0)]) (st' := [.int 0, .ref 0, .int a1, .ref 1]) (w' := (fw (sz a0 a1 a2 a3 a4 a5))) (cs' := 109) (ss' := 12668) ?_ (fun _ _ => rfl)
  refine go_seg 8 (pc' := 343) (ls' := [(3, .int 0), (2, .ref 90), (1, .ref 1), (0, .ref 0)]) (st' := [.int a3, .int a2, .int a1, .ref 1]) (w' := (fw (sz a0 a1 a2 a3 a4 a5))) (cs' := 109) (ss' := 12668) ?_ (fun _ _ => rfl)
  refine go_cl (k := 20) (st' := [.int (-1000001)]) (cs' := 109) (ss' := 12668) rfl rfl rfl rfl rfl rfl rfl (ro_629 (sz a0 a1 a2 a3 a4 a5) a1 a2 a3 (by omega)) ?_
  refine go_seg 8 (pc' := 354) (ls' := [(3, .int 0), (2, .ref 90), (1, .ref 1), (0, .ref 0)]) (st' := [.int 0, .ref 0, .int a1, .ref 90, .int (-1000001)]) (w' := (wd_1000 (sz a0 a1 a2 a3 a4 a5))) (cs' := 109) (ss' := 12668) ?_ (fun _ _ => rfl)
  refine go_seg 8 (pc' := 362) (ls' := [(3, .int 0), (2, .ref 90), (1, .ref 1), (0, .ref 0)]) (st' := [.int a3, .int a2, .int a1, .ref 90, .int (-1000001)]) (w' := (wd_1000 (sz a0 a1 a2 a3 a4 a5))) (cs' := 109) (ss' := 12668) ?_ (fun _ _ => rfl)
  refine go_cl (k := 20) (st' := [.int (-1000001), .int (-1000001)]) (cs' := 109) (ss' := 12668) rfl rfl rfl rfl rfl rfl rfl (ro_630 (sz a0 a1 a2 a3 a4 a5) a1 a2 a3 (by omega)) ?_
  refine go_cmp true rfl (br_self _) ?_
  exact law_tail (f := sc a0 a1 a2 a3 a4 a5) rfl
theorem ro_632 (z : pq_C) (a1 : Int32) (a2 : Int32) (a3 : Int32) (h0 : 0 ≤ a1.toInt) (h1 : a1.toInt < 8) (h2 : a2.toInt < 0) : pq_Ru 3 23 [.ref 1, .int a1, .int a2, .int a3] (fw z) (some (.int (-1000001)), (wd_1000 z)) := by
  refine ru_of (k := 2) (M := pm_23) rfl rfl ?_
  refine go_seg 1 (pc' := 1) (ls' := [(0, .ref 1), (1, .int a1), (2, .int a2), (3, .int a3)]) (st' := [.int a1]) (w' := (fw z)) (cs' := 0) (ss' := 0) ?_ (fun _ _ => rfl)
  refine go_cl (k := 2) (st' := [.int 1]) (cs' := 0) (ss' := 0) rfl rfl rfl rfl rfl rfl rfl (ro_331 z a1 (by omega) (by omega)) ?_
  refine go_seg 4 (pc' := 12) (ls' := [(0, .ref 1), (1, .int a1), (2, .int a2), (3, .int a3)]) (st' := [.int 9999, .int 0, .int a2]) (w' := (fw z)) (cs' := 0) (ss' := 0) ?_ (fun _ _ => rfl)
  refine go_cl (k := 2) (st' := [.int 0]) (cs' := 0) (ss' := 0) rfl rfl rfl rfl rfl rfl rfl (ro_543 z a2 (by omega)) ?_
  refine go_seg 3 (pc' := 31) (ls' := [(0, .ref 1), (1, .int a1), (2, .int a2), (3, .int a3)]) (st' := [.int 1, .ref 1]) (w' := (fw z)) (cs' := 0) (ss' := 0) ?_ (fun _ _ => rfl)
  refine go_cl (k := 2) (st' := [.int (-1000001)]) (cs' := 0) (ss' := 0) rfl rfl rfl rfl rfl rfl rfl (ro_2 z) ?_
  exact go_end 1 (fun _ _ => rfl)
theorem ro_633 (z : pq_C) (a1 : Int32) (a2 : Int32) (a3 : Int32) (h0 : 0 ≤ a1.toInt) (h1 : a1.toInt < 8) (h2 : a2.toInt < 0) : pq_Ru 3 166 [.ref 90, .int a1, .int a2, .int a3] (wd_1000 z) (some (.int (-1000001)), (wd_1001 z)) := by
  refine ru_of (k := 2) (M := pm_166) rfl rfl ?_
  refine go_seg 1 (pc' := 1) (ls' := [(0, .ref 90), (1, .int a1), (2, .int a2), (3, .int a3)]) (st' := [.int a1]) (w' := (wd_1000 z)) (cs' := 0) (ss' := 0) ?_ (fun _ _ => rfl)
  refine go_cl (k := 2) (st' := [.int 1]) (cs' := 0) (ss' := 0) rfl rfl rfl rfl rfl rfl rfl (ro_545 z a1 (by omega) (by omega)) ?_
  refine go_seg 5 (pc' := 13) (ls' := [(0, .ref 90), (1, .int a1), (2, .int a2), (3, .int a3)]) (st' := [.long 9999, .long 0, .long a2.toInt64]) (w' := (wd_1000 z)) (cs' := 0) (ss' := 0) ?_ (fun _ _ => rfl)
  refine go_cl (k := 2) (st' := [.int 0]) (cs' := 0) (ss' := 0) rfl rfl rfl rfl rfl rfl rfl (wi_f _ a2 0 9999 0 9999 rfl rfl (by omega)) ?_
  refine go_seg 3 (pc' := 34) (ls' := [(0, .ref 90), (1, .int a1), (2, .int a2), (3, .int a3)]) (st' := [.int (-1000001), .ref 90]) (w' := (wd_1000 z)) (cs' := 0) (ss' := 0) ?_ (fun _ _ => rfl)
  refine go_cl (k := 2) (st' := [.int (-1000001)]) (cs' := 0) (ss' := 0) rfl rfl rfl rfl rfl rfl rfl (ro_5 z) ?_
  exact go_end 1 (fun _ _ => rfl)
theorem lf_3_634 (a0 : Int32) (a1 : Int32) (a2 : Int32) (a3 : Int32) (a4 : Int32) (a5 : Int32) (h0 : 0 ≤ a1.toInt) (h1 : a1.toInt < 8) (h2 : a2.toInt < 0) : ∃ w', pq_Go 20 pm_law 327 [(3, .int 0), (2, .ref 90), (1, .ref 1), (0, .ref 0)] [] (fw (sz a0 a1 a2 a3 a4 a5)) 109 12668 (some (.int 1), w') := by
  refine ⟨(wd_1001 (sz a0 a1 a2 a3 a4 a5)), ?_⟩
  refine go_seg 8 (pc' := 335) (ls' := [(3, .int 0), (2, .ref 90), (1, .ref 1), (0, .ref 0)]) (st' := [.int 0, .ref 0, .int a1, .ref 1]) (w' := (fw (sz a0 a1 a2 a3 a4 a5))) (cs' := 109) (ss' := 12668) ?_ (fun _ _ => rfl)
  refine go_seg 8 (pc' := 343) (ls' := [(3, .int 0), (2, .ref 90), (1, .ref 1), (0, .ref 0)]) (st' := [.int a3, .int a2, .int a1, .ref 1]) (w' := (fw (sz a0 a1 a2 a3 a4 a5))) (cs' := 109) (ss' := 12668) ?_ (fun _ _ => rfl)
  refine go_cl (k := 20) (st' := [.int (-1000001)]) (cs' := 109) (ss' := 12668) rfl rfl rfl rfl rfl rfl rfl (ro_632 (sz a0 a1 a2 a3 a4 a5) a1 a2 a3 (by omega) (by omega) (by omega)) ?_
  refine go_seg 8 (pc' := 354) (ls' := [(3, .int 0), (2, .ref 90), (1, .ref 1), (0, .ref 0)]) (st' := [.int 0, .ref 0, .int a1, .ref 90, .int (-1000001)]) (w' := (wd_1000 (sz a0 a1 a2 a3 a4 a5))) (cs' := 109) (ss' := 12668) ?_ (fun _ _ => rfl)
  refine go_seg 8 (pc' := 362) (ls' := [(3, .int 0), (2, .ref 90), (1, .ref 1), (0, .ref 0)]) (st' := [.int a3, .int a2, .int a1, .ref 90, .int (-1000001)]) (w' := (wd_1000 (sz a0 a1 a2 a3 a4 a5))) (cs' := 109) (ss' := 12668) ?_ (fun _ _ => rfl)
  refine go_cl (k := 20) (st' := [.int (-1000001), .int (-1000001)]) (cs' := 109) (ss' := 12668) rfl rfl rfl rfl rfl rfl rfl (ro_633 (sz a0 a1 a2 a3 a4 a5) a1 a2 a3 (by omega) (by omega) (by omega)) ?_
  refine go_cmp true rfl (br_self _) ?_
  exact law_tail (f := sc a0 a1 a2 a3 a4 a5) rfl
theorem ro_635 (z : pq_C) (a3 : Int32) (h0 : a3.toInt < 1) : pq_Ru 1 16 [.int a3, .int 1, .int 9999] (fw z) (some (.int 0), (fw z)) := by
  refine ru_of (k := 0) (M := pm_16) rfl rfl ?_
  refine go_seg 2 (pc' := 2) (ls' := [(0, .int a3), (1, .int 1), (2, .int 9999)]) (st' := [.int 1, .int a3]) (w' := (fw z)) (cs' := 0) (ss' := 0) ?_ (fun _ _ => rfl)
  refine go_cmp true rfl (br_lt_t (b := 1) rfl (by omega)) ?_
  exact go_end 2 (fun _ _ => rfl)
theorem ro_636 (z : pq_C) (a1 : Int32) (a2 : Int32) (a3 : Int32) (h0 : 0 ≤ a1.toInt) (h1 : a1.toInt < 8) (h2 : 0 ≤ a2.toInt) (h3 : a2.toInt < 10000) (h4 : a3.toInt < 1) : pq_Ru 3 23 [.ref 1, .int a1, .int a2, .int a3] (fw z) (some (.int (-1000001)), (wd_1000 z)) := by
  refine ru_of (k := 2) (M := pm_23) rfl rfl ?_
  refine go_seg 1 (pc' := 1) (ls' := [(0, .ref 1), (1, .int a1), (2, .int a2), (3, .int a3)]) (st' := [.int a1]) (w' := (fw z)) (cs' := 0) (ss' := 0) ?_ (fun _ _ => rfl)
  refine go_cl (k := 2) (st' := [.int 1]) (cs' := 0) (ss' := 0) rfl rfl rfl rfl rfl rfl rfl (ro_331 z a1 (by omega) (by omega)) ?_
  refine go_seg 4 (pc' := 12) (ls' := [(0, .ref 1), (1, .int a1), (2, .int a2), (3, .int a3)]) (st' := [.int 9999, .int 0, .int a2]) (w' := (fw z)) (cs' := 0) (ss' := 0) ?_ (fun _ _ => rfl)
  refine go_cl (k := 2) (st' := [.int 1]) (cs' := 0) (ss' := 0) rfl rfl rfl rfl rfl rfl rfl (ro_549 z a2 (by omega) (by omega)) ?_
  refine go_seg 4 (pc' := 23) (ls' := [(0, .ref 1), (1, .int a1), (2, .int a2), (3, .int a3)]) (st' := [.int 9999, .int 1, .int a3]) (w' := (fw z)) (cs' := 0) (ss' := 0) ?_ (fun _ _ => rfl)
  refine go_cl (k := 2) (st' := [.int 0]) (cs' := 0) (ss' := 0) rfl rfl rfl rfl rfl rfl rfl (ro_635 z a3 (by omega)) ?_
  refine go_seg 3 (pc' := 31) (ls' := [(0, .ref 1), (1, .int a1), (2, .int a2), (3, .int a3)]) (st' := [.int 1, .ref 1]) (w' := (fw z)) (cs' := 0) (ss' := 0) ?_ (fun _ _ => rfl)
  refine go_cl (k := 2) (st' := [.int (-1000001)]) (cs' := 0) (ss' := 0) rfl rfl rfl rfl rfl rfl rfl (ro_2 z) ?_
  exact go_end 1 (fun _ _ => rfl)
theorem ro_637 (z : pq_C) (a1 : Int32) (a2 : Int32) (a3 : Int32) (h0 : 0 ≤ a1.toInt) (h1 : a1.toInt < 8) (h2 : 0 ≤ a2.toInt) (h3 : a2.toInt < 10000) (h4 : a3.toInt < 1) : pq_Ru 3 166 [.ref 90, .int a1, .int a2, .int a3] (wd_1000 z) (some (.int (-1000001)), (wd_1001 z)) := by
  refine ru_of (k := 2) (M := pm_166) rfl rfl ?_
  refine go_seg 1 (pc' := 1) (ls' := [(0, .ref 90), (1, .int a1), (2, .int a2), (3, .int a3)]) (st' := [.int a1]) (w' := (wd_1000 z)) (cs' := 0) (ss' := 0) ?_ (fun _ _ => rfl)
  refine go_cl (k := 2) (st' := [.int 1]) (cs' := 0) (ss' := 0) rfl rfl rfl rfl rfl rfl rfl (ro_545 z a1 (by omega) (by omega)) ?_
  refine go_seg 5 (pc' := 13) (ls' := [(0, .ref 90), (1, .int a1), (2, .int a2), (3, .int a3)]) (st' := [.long 9999, .long 0, .long a2.toInt64]) (w' := (wd_1000 z)) (cs' := 0) (ss' := 0) ?_ (fun _ _ => rfl)
  refine go_cl (k := 2) (st' := [.int 1]) (cs' := 0) (ss' := 0) rfl rfl rfl rfl rfl rfl rfl (wi_t _ a2 0 9999 0 9999 rfl rfl (by omega)) ?_
  refine go_seg 5 (pc' := 25) (ls' := [(0, .ref 90), (1, .int a1), (2, .int a2), (3, .int a3)]) (st' := [.long 9999, .long 1, .long a3.toInt64]) (w' := (wd_1000 z)) (cs' := 0) (ss' := 0) ?_ (fun _ _ => rfl)
  refine go_cl (k := 2) (st' := [.int 0]) (cs' := 0) (ss' := 0) rfl rfl rfl rfl rfl rfl rfl (wi_f _ a3 1 9999 1 9999 rfl rfl (by omega)) ?_
  refine go_seg 3 (pc' := 34) (ls' := [(0, .ref 90), (1, .int a1), (2, .int a2), (3, .int a3)]) (st' := [.int (-1000001), .ref 90]) (w' := (wd_1000 z)) (cs' := 0) (ss' := 0) ?_ (fun _ _ => rfl)
  refine go_cl (k := 2) (st' := [.int (-1000001)]) (cs' := 0) (ss' := 0) rfl rfl rfl rfl rfl rfl rfl (ro_5 z) ?_
  exact go_end 1 (fun _ _ => rfl)
theorem lf_3_638 (a0 : Int32) (a1 : Int32) (a2 : Int32) (a3 : Int32) (a4 : Int32) (a5 : Int32) (h0 : 0 ≤ a1.toInt) (h1 : a1.toInt < 8) (h2 : 0 ≤ a2.toInt) (h3 : a2.toInt < 10000) (h4 : a3.toInt < 1) : ∃ w', pq_Go 20 pm_law 327 [(3, .int 0), (2, .ref 90), (1, .ref 1), (0, .ref 0)] [] (fw (sz a0 a1 a2 a3 a4 a5)) 109 12668 (some (.int 1), w') := by
  refine ⟨(wd_1001 (sz a0 a1 a2 a3 a4 a5)), ?_⟩
  refine go_seg 8 (pc' := 335) (ls' := [(3, .int 0), (2, .ref 90), (1, .ref 1), (0, .ref 0)]) (st' := [.int 0, .ref 0, .int a1, .ref 1]) (w' := (fw (sz a0 a1 a2 a3 a4 a5))) (cs' := 109) (ss' := 12668) ?_ (fun _ _ => rfl)
  refine go_seg 8 (pc' := 343) (ls' := [(3, .int 0), (2, .ref 90), (1, .ref 1), (0, .ref 0)]) (st' := [.int a3, .int a2, .int a1, .ref 1]) (w' := (fw (sz a0 a1 a2 a3 a4 a5))) (cs' := 109) (ss' := 12668) ?_ (fun _ _ => rfl)
  refine go_cl (k := 20) (st' := [.int (-1000001)]) (cs' := 109) (ss' := 12668) rfl rfl rfl rfl rfl rfl rfl (ro_636 (sz a0 a1 a2 a3 a4 a5) a1 a2 a3 (by omega) (by omega) (by omega) (by omega) (by omega)) ?_
  refine go_seg 8 (pc' := 354) (ls' := [(3, .int 0), (2, .ref 90), (1, .ref 1), (0, .ref 0)]) (st' := [.int 0, .ref 0, .int a1, .ref 90, .int (-1000001)]) (w' := (wd_1000 (sz a0 a1 a2 a3 a4 a5))) (cs' := 109) (ss' := 12668) ?_ (fun _ _ => rfl)
  refine go_seg 8 (pc' := 362) (ls' := [(3, .int 0), (2, .ref 90), (1, .ref 1), (0, .ref 0)]) (st' := [.int a3, .int a2, .int a1, .ref 90, .int (-1000001)]) (w' := (wd_1000 (sz a0 a1 a2 a3 a4 a5))) (cs' := 109) (ss' := 12668) ?_ (fun _ _ => rfl)
  refine go_cl (k := 20) (st' := [.int (-1000001), .int (-1000001)]) (cs' := 109) (ss' := 12668) rfl rfl rfl rfl rfl rfl rfl (ro_637 (sz a0 a1 a2 a3 a4 a5) a1 a2 a3 (by omega) (by omega) (by omega) (by omega) (by omega)) ?_
  refine go_cmp true rfl (br_self _) ?_
  exact law_tail (f := sc a0 a1 a2 a3 a4 a5) rfl
theorem ro_639 (z : pq_C) (a3 : Int32) (h0 : 1 ≤ a3.toInt) (h1 : a3.toInt < 10000) : pq_Ru 1 16 [.int a3, .int 1, .int 9999] (fw z) (some (.int 1), (fw z)) := by
  refine ru_of (k := 0) (M := pm_16) rfl rfl ?_
  refine go_seg 2 (pc' := 2) (ls' := [(0, .int a3), (1, .int 1), (2, .int 9999)]) (st' := [.int 1, .int a3]) (w' := (fw z)) (cs' := 0) (ss' := 0) ?_ (fun _ _ => rfl)
  refine go_cmp false rfl (br_lt_f (b := 1) rfl (by omega)) ?_
  refine go_seg 2 (pc' := 7) (ls' := [(0, .int a3), (1, .int 1), (2, .int 9999)]) (st' := [.int 9999, .int a3]) (w' := (fw z)) (cs' := 0) (ss' := 0) ?_ (fun _ _ => rfl)
  refine go_cmp false rfl (br_gt_f (b := 9999) rfl (by omega)) ?_
  exact go_end 3 (fun _ _ => rfl)
def wd_1045 (z : pq_C) (a2 : Int32) : pq_W := ((fw z).set 5 (.inl (.int, 8, .inl (upd (fun _ => 0) 0 a2))))
def wd_1046 (z : pq_C) (a2 : Int32) (a3 : Int32) : pq_W := ((wd_1045 z a2).set 6 (.inl (.int, 8, .inl (upd (fl_c 8 1000 (fun _ => 0)) 0 a3))))
theorem ro_641 (z : pq_C) (a2 : Int32) (a3 : Int32) (h0 : 0 ≤ a2.toInt) (h1 : a2.toInt < 10000) (h2 : 1 ≤ a3.toInt) (h3 : a3.toInt < 10000) : pq_Ru 2 23 [.ref 1, .int 0, .int a2, .int a3] (fw z) (some (.int 0), (wd_1046 z a2 a3)) := by
  refine ru_of (k := 1) (M := pm_23) rfl rfl ?_
  refine go_seg 1 (pc' := 1) (ls' := [(0, .ref 1), (1, .int 0), (2, .int a2), (3, .int a3)]) (st' := [.int 0]) (w' := (fw z)) (cs' := 0) (ss' := 0) ?_ (fun _ _ => rfl)
  refine go_cl (k := 1) (st' := [.int 1]) (cs' := 0) (ss' := 0) rfl rfl rfl rfl rfl rfl rfl (ro_548 z) ?_
  refine go_seg 4 (pc' := 12) (ls' := [(0, .ref 1), (1, .int 0), (2, .int a2), (3, .int a3)]) (st' := [.int 9999, .int 0, .int a2]) (w' := (fw z)) (cs' := 0) (ss' := 0) ?_ (fun _ _ => rfl)
  refine go_cl (k := 1) (st' := [.int 1]) (cs' := 0) (ss' := 0) rfl rfl rfl rfl rfl rfl rfl (ro_549 z a2 (by omega) (by omega)) ?_
  refine go_seg 4 (pc' := 23) (ls' := [(0, .ref 1), (1, .int 0), (2, .int a2), (3, .int a3)]) (st' := [.int 9999, .int 1, .int a3]) (w' := (fw z)) (cs' := 0) (ss' := 0) ?_ (fun _ _ => rfl)
  refine go_cl (k := 1) (st' := [.int 1]) (cs' := 0) (ss' := 0) rfl rfl rfl rfl rfl rfl rfl (ro_639 z a3 (by omega) (by omega)) ?_
  refine go_seg 8 (pc' := 47) (ls' := [(4, .int 0), (0, .ref 1), (1, .int 0), (2, .int a2), (3, .int a3)]) (st' := [.ref 1]) (w' := (fw z)) (cs' := 0) (ss' := 0) ?_ (fun _ _ => rfl)
  refine go_seg 8 (pc' := 63) (ls' := [(4, .int 0), (0, .ref 1), (1, .int 0), (2, .int a2), (3, .int a3)]) (st' := [.ref 6]) (w' := (wd_1045 z a2)) (cs' := 0) (ss' := 0) ?_ (fun _ _ => rfl)
  exact go_end 5 (fun _ _ => rfl)
theorem ro_643 (z : pq_C) (a2 : Int32) (a3 : Int32) (h0 : 0 ≤ a2.toInt) (h1 : a2.toInt < 10000) (h2 : 1 ≤ a3.toInt) (h3 : a3.toInt < 10000) : pq_Ru 1 161 [.long 0, .long 0, .long 7] (wd_1046 z a2 a3) (some (.int 1), (wd_1046 z a2 a3)) := by
  refine ru_of (k := 0) (M := pm_161) rfl rfl ?_
  refine go_seg 8 (pc' := 13) (ls' := [(0, .long 0), (2, .long 0), (4, .long 7)]) (st' := []) (w' := (wd_1046 z a2 a3)) (cs' := 0) (ss' := 0) ?_ (fun _ _ => rfl)
  exact go_end 3 (fun _ _ => rfl)
theorem ro_644 (z : pq_C) (a2 : Int32) (a3 : Int32) (h0 : 0 ≤ a2.toInt) (h1 : a2.toInt < 10000) (h2 : 1 ≤ a3.toInt) (h3 : a3.toInt < 10000) : pq_Ru 2 167 [.int 0] (wd_1046 z a2 a3) (some (.int 1), (wd_1046 z a2 a3)) := by
  refine ru_of (k := 1) (M := pm_167) rfl rfl ?_
  refine go_seg 4 (pc' := 6) (ls' := [(0, .int 0)]) (st' := [.long 7, .long 0, .long 0]) (w' := (wd_1046 z a2 a3)) (cs' := 0) (ss' := 0) ?_ (fun _ _ => rfl)
  refine go_cl (k := 1) (st' := [.int 1]) (cs' := 0) (ss' := 0) rfl rfl rfl rfl rfl rfl rfl (ro_643 z a2 a3 (by omega) (by omega) (by omega) (by omega)) ?_
  exact go_end 1 (fun _ _ => rfl)
theorem ro_645 (z : pq_C) (a2 : Int32) (a3 : Int32) (h0 : 0 ≤ a2.toInt) (h1 : a2.toInt < 10000) (h2 : 1 ≤ a3.toInt) (h3 : a3.toInt < 10000) : pq_Ru 1 168 [.int 0, .int 0] (wd_1046 z a2 a3) (some (.int 138), (wd_1046 z a2 a3)) := by
  refine ru_of (k := 0) (M := pm_168) rfl rfl ?_
  exact go_end 8 (fun _ _ => rfl)
def wd_1047 (z : pq_C) (a2 : Int32) (a3 : Int32) : pq_W := ((wd_1046 z a2 a3).set 91 (.inl (.int, 2858, .inl (upd (upd (upd (upd (upd (upd (upd (upd (upd (upd (upd (upd (upd (upd (upd (upd (upd (upd (upd (upd (upd (upd (upd (upd (upd (upd (upd (upd (upd (upd (upd (upd (upd (upd (upd (upd (upd (upd (upd (upd (upd (upd (upd (upd (upd (upd (upd (upd (upd (upd (upd (upd (upd (upd (upd (upd (upd (upd (upd (upd (upd (upd (upd (upd (upd (upd (upd (upd (upd (upd (upd (upd (upd (upd (upd (upd (upd (upd (upd (upd (upd (upd (fun _ => 0) 1 10) 10 (-1)) 11 (-1)) 12 (-1)) 13 (-1)) 14 (-1)) 15 (-1)) 16 (-1)) 17 (-1)) 18 (-1)) 19 (-1)) 20 (-1)) 21 (-1)) 22 (-1)) 23 (-1)) 24 (-1)) 25 (-1)) 26 (-1)) 27 (-1)) 28 (-1)) 29 (-1)) 30 (-1)) 31 (-1)) 32 (-1)) 33 (-1)) 34 (-1)) 35 (-1)) 36 (-1)) 37 (-1)) 38 (-1)) 39 (-1)) 40 (-1)) 41 (-1)) 42 (-1)) 43 (-1)) 44 (-1)) 45 (-1)) 46 (-1)) 47 (-1)) 48 (-1)) 49 (-1)) 50 (-1)) 51 (-1)) 52 (-1)) 53 (-1)) 54 (-1)) 55 (-1)) 56 (-1)) 57 (-1)) 58 (-1)) 59 (-1)) 60 (-1)) 61 (-1)) 62 (-1)) 63 (-1)) 64 (-1)) 65 (-1)) 66 (-1)) 67 (-1)) 68 (-1)) 69 (-1)) 70 (-1)) 71 (-1)) 72 (-1)) 73 (-1)) 139 1000) 140 100) 145 1000) 146 100) 151 1000) 152 100) 157 1000) 158 100) 163 1000) 164 100) 169 1000) 170 100) 175 1000) 176 100) 181 1000) 182 100) 138 a2))))
theorem ro_647 (z : pq_C) (a2 : Int32) (a3 : Int32) (h0 : 0 ≤ a2.toInt) (h1 : a2.toInt < 10000) (h2 : 1 ≤ a3.toInt) (h3 : a3.toInt < 10000) : pq_Ru 1 168 [.int 0, .int 1] (wd_1047 z a2 a3) (some (.int 139), (wd_1047 z a2 a3)) := by
  refine ru_of (k := 0) (M := pm_168) rfl rfl ?_
  exact go_end 8 (fun _ _ => rfl)
def wd_1048 (z : pq_C) (a2 : Int32) (a3 : Int32) : pq_W := ((wd_1047 z a2 a3).set 91 (.inl (.int, 2858, .inl (upd (upd (upd (upd (upd (upd (upd (upd (upd (upd (upd (upd (upd (upd (upd (upd (upd (upd (upd (upd (upd (upd (upd (upd (upd (upd (upd (upd (upd (upd (upd (upd (upd (upd (upd (upd (upd (upd (upd (upd (upd (upd (upd (upd (upd (upd (upd (upd (upd (upd (upd (upd (upd (upd (upd (upd (upd (upd (upd (upd (upd (upd (upd (upd (upd (upd (upd (upd (upd (upd (upd (upd (upd (upd (upd (upd (upd (upd (upd (upd (upd (upd (upd (fun _ => 0) 1 10) 10 (-1)) 11 (-1)) 12 (-1)) 13 (-1)) 14 (-1)) 15 (-1)) 16 (-1)) 17 (-1)) 18 (-1)) 19 (-1)) 20 (-1)) 21 (-1)) 22 (-1)) 23 (-1)) 24 (-1)) 25 (-1)) 26 (-1)) 27 (-1)) 28 (-1)) 29 (-1)) 30 (-1)) 31 (-1)) 32 (-1)) 33 (-1)) 34 (-1)) 35 (-1)) 36 (-1)) 37 (-1)) 38 (-1)) 39 (-1)) 40 (-1)) 41 (-1)) 42 (-1)) 43 (-1)) 44 (-1)) 45 (-1)) 46 (-1)) 47 (-1)) 48 (-1)) 49 (-1)) 50 (-1)) 51 (-1)) 52 (-1)) 53 (-1)) 54 (-1)) 55 (-1)) 56 (-1)) 57 (-1)) 58 (-1)) 59 (-1)) 60 (-1)) 61 (-1)) 62 (-1)) 63 (-1)) 64 (-1)) 65 (-1)) 66 (-1)) 67 (-1)) 68 (-1)) 69 (-1)) 70 (-1)) 71 (-1)) 72 (-1)) 73 (-1)) 139 1000) 140 100) 145 1000) 146 100) 151 1000) 152 100) 157 1000) 158 100) 163 1000) 164 100) 169 1000) 170 100) 175 1000) 176 100) 181 1000) 182 100) 138 a2) 139 a3))))
theorem ro_648 (z : pq_C) (a2 : Int32) (a3 : Int32) (h0 : 0 ≤ a2.toInt) (h1 : a2.toInt < 10000) (h2 : 1 ≤ a3.toInt) (h3 : a3.toInt < 10000) : pq_Ru 3 166 [.ref 90, .int 0, .int a2, .int a3] (wd_1046 z a2 a3) (some (.int 0), (wd_1048 z a2 a3)) := by
  refine ru_of (k := 2) (M := pm_166) rfl rfl ?_
  refine go_seg 1 (pc' := 1) (ls' := [(0, .ref 90), (1, .int 0), (2, .int a2), (3, .int a3)]) (st' := [.int 0]) (w' := (wd_1046 z a2 a3)) (cs' := 0) (ss' := 0) ?_ (fun _ _ => rfl)
  refine go_cl (k := 2) (st' := [.int 1]) (cs' := 0) (ss' := 0) rfl rfl rfl rfl rfl rfl rfl (ro_644 z a2 a3 (by omega) (by omega) (by omega) (by omega)) ?_
  refine go_seg 5 (pc' := 13) (ls' := [(0, .ref 90), (1, .int 0), (2, .int a2), (3, .int a3)]) (st' := [.long 9999, .long 0, .long a2.toInt64]) (w' := (wd_1046 z a2 a3)) (cs' := 0) (ss' := 0) ?_ (fun _ _ => rfl)
  refine go_cl (k := 2) (st' := [.int 1]) (cs' := 0) (ss' := 0) rfl rfl rfl rfl rfl rfl rfl (wi_t _ a2 0 9999 0 9999 rfl rfl (by omega)) ?_
  refine go_seg 5 (pc' := 25) (ls' := [(0, .ref 90), (1, .int 0), (2, .int a2), (3, .int a3)]) (st' := [.long 9999, .long 1, .long a3.toInt64]) (w' := (wd_1046 z a2 a3)) (cs' := 0) (ss' := 0) ?_ (fun _ _ => rfl)
  refine go_cl (k := 2) (st' := [.int 1]) (cs' := 0) (ss' := 0) rfl rfl rfl rfl rfl rfl rfl (wi_t _ a3 1 9999 1 9999 rfl rfl (by omega)) ?_
  refine go_seg 5 (pc' := 44) (ls' := [(0, .ref 90), (1, .int 0), (2, .int a2), (3, .int a3)]) (st' := [.int 0, .int 0, .ref 91]) (w' := (wd_1046 z a2 a3)) (cs' := 0) (ss' := 0) ?_ (fun _ _ => rfl)
  refine go_cl (k := 2) (st' := [.int 138, .ref 91]) (cs' := 0) (ss' := 0) rfl rfl rfl rfl rfl rfl rfl (ro_645 z a2 a3 (by omega) (by omega) (by omega) (by omega)) ?_
  refine go_seg 6 (pc' := 56) (ls' := [(4, .int 0), (0, .ref 90), (1, .int 0), (2, .int a2), (3, .int a3)]) (st' := [.int 0, .int 0, .ref 91]) (w' := (wd_1046 z a2 a3)) (cs' := 0) (ss' := 0) ?_ (fun _ _ => rfl)
  refine go_cl (k := 2) (st' := [.int 138, .ref 91]) (cs' := 0) (ss' := 0) rfl rfl rfl rfl rfl rfl rfl (ro_645 z a2 a3 (by omega) (by omega) (by omega) (by omega)) ?_
  refine go_seg 6 (pc' := 67) (ls' := [(4, .int 0), (0, .ref 90), (1, .int 0), (2, .int a2), (3, .int a3)]) (st' := [.int 1, .int 0, .ref 91]) (w' := (wd_1047 z a2 a3)) (cs' := 0) (ss' := 0) ?_ (fun _ _ => rfl)
  refine go_cl (k := 2) (st' := [.int 139, .ref 91]) (cs' := 0) (ss' := 0) rfl rfl rfl rfl rfl rfl rfl (ro_647 z a2 a3 (by omega) (by omega) (by omega) (by omega)) ?_
  exact go_end 4 (fun _ _ => rfl)
theorem lf_3_650 (a0 : Int32) (a2 : Int32) (a3 : Int32) (a4 : Int32) (a5 : Int32) (h0 : 0 ≤ a2.toInt) (h1 : a2.toInt < 10000) (h2 : 1 ≤ a3.toInt) (h3 : a3.toInt < 10000) : ∃ w', pq_Go 20 pm_law 327 [(3, .int 0), (2, .ref 90), (1, .ref 1), (0, .ref 0)] [] (fw (sz a0 0 a2 a3 a4 a5)) 109 12668 (some (.int 1), w') := by
  refine ⟨(wd_1048 (sz a0 0 a2 a3 a4 a5) a2 a3), ?_⟩
  refine go_seg 8 (pc' := 335) (ls' := [(3, .int 0), (2, .ref 90), (1, .ref 1), (0, .ref 0)]) (st' := [.int 0, .ref 0, .int 0, .ref 1]) (w' := (fw (sz a0 0 a2 a3 a4 a5))) (cs' := 109) (ss' := 12668) ?_ (fun _ _ => rfl)
  refine go_seg 8 (pc' := 343) (ls' := [(3, .int 0), (2, .ref 90), (1, .ref 1), (0, .ref 0)]) (st' := [.int a3, .int a2, .int 0, .ref 1]) (w' := (fw (sz a0 0 a2 a3 a4 a5))) (cs' := 109) (ss' := 12668) ?_ (fun _ _ => rfl)
  refine go_cl (k := 20) (st' := [.int 0]) (cs' := 109) (ss' := 12668) rfl rfl rfl rfl rfl rfl rfl (ro_641 (sz a0 0 a2 a3 a4 a5) a2 a3 (by omega) (by omega) (by omega) (by omega)) ?_
  refine go_seg 8 (pc' := 354) (ls' := [(3, .int 0), (2, .ref 90), (1, .ref 1), (0, .ref 0)]) (st' := [.int 0, .ref 0, .int 0, .ref 90, .int 0]) (w' := (wd_1046 (sz a0 0 a2 a3 a4 a5) a2 a3)) (cs' := 109) (ss' := 12668) ?_ (fun _ _ => rfl)
  refine go_seg 8 (pc' := 362) (ls' := [(3, .int 0), (2, .ref 90), (1, .ref 1), (0, .ref 0)]) (st' := [.int a3, .int a2, .int 0, .ref 90, .int 0]) (w' := (wd_1046 (sz a0 0 a2 a3 a4 a5) a2 a3)) (cs' := 109) (ss' := 12668) ?_ (fun _ _ => rfl)
  refine go_cl (k := 20) (st' := [.int 0, .int 0]) (cs' := 109) (ss' := 12668) rfl rfl rfl rfl rfl rfl rfl (ro_648 (sz a0 0 a2 a3 a4 a5) a2 a3 (by omega) (by omega) (by omega) (by omega)) ?_
  refine go_cmp true rfl (br_self _) ?_
  exact law_tail (f := sc a0 0 a2 a3 a4 a5) rfl
def wd_1049 (z : pq_C) (a2 : Int32) : pq_W := ((fw z).set 5 (.inl (.int, 8, .inl (upd (fun _ => 0) 1 a2))))
def wd_1050 (z : pq_C) (a2 : Int32) (a3 : Int32) : pq_W := ((wd_1049 z a2).set 6 (.inl (.int, 8, .inl (upd (fl_c 8 1000 (fun _ => 0)) 1 a3))))
theorem ro_652 (z : pq_C) (a2 : Int32) (a3 : Int32) (h0 : 0 ≤ a2.toInt) (h1 : a2.toInt < 10000) (h2 : 1 ≤ a3.toInt) (h3 : a3.toInt < 10000) : pq_Ru 2 23 [.ref 1, .int 1, .int a2, .int a3] (fw z) (some (.int 0), (wd_1050 z a2 a3)) := by
  refine ru_of (k := 1) (M := pm_23) rfl rfl ?_
  refine go_seg 1 (pc' := 1) (ls' := [(0, .ref 1), (1, .int 1), (2, .int a2), (3, .int a3)]) (st' := [.int 1]) (w' := (fw z)) (cs' := 0) (ss' := 0) ?_ (fun _ _ => rfl)
  refine go_cl (k := 1) (st' := [.int 1]) (cs' := 0) (ss' := 0) rfl rfl rfl rfl rfl rfl rfl (ro_558 z) ?_
  refine go_seg 4 (pc' := 12) (ls' := [(0, .ref 1), (1, .int 1), (2, .int a2), (3, .int a3)]) (st' := [.int 9999, .int 0, .int a2]) (w' := (fw z)) (cs' := 0) (ss' := 0) ?_ (fun _ _ => rfl)
  refine go_cl (k := 1) (st' := [.int 1]) (cs' := 0) (ss' := 0) rfl rfl rfl rfl rfl rfl rfl (ro_549 z a2 (by omega) (by omega)) ?_
  refine go_seg 4 (pc' := 23) (ls' := [(0, .ref 1), (1, .int 1), (2, .int a2), (3, .int a3)]) (st' := [.int 9999, .int 1, .int a3]) (w' := (fw z)) (cs' := 0) (ss' := 0) ?_ (fun _ _ => rfl)
  refine go_cl (k := 1) (st' := [.int 1]) (cs' := 0) (ss' := 0) rfl rfl rfl rfl rfl rfl rfl (ro_639 z a3 (by omega) (by omega)) ?_
  refine go_seg 8 (pc' := 47) (ls' := [(4, .int 0), (0, .ref 1), (1, .int 1), (2, .int a2), (3, .int a3)]) (st' := [.ref 1]) (w' := (fw z)) (cs' := 0) (ss' := 0) ?_ (fun _ _ => rfl)
  refine go_seg 8 (pc' := 63) (ls' := [(4, .int 0), (0, .ref 1), (1, .int 1), (2, .int a2), (3, .int a3)]) (st' := [.ref 6]) (w' := (wd_1049 z a2)) (cs' := 0) (ss' := 0) ?_ (fun _ _ => rfl)
  exact go_end 5 (fun _ _ => rfl)
theorem ro_654 (z : pq_C) (a2 : Int32) (a3 : Int32) (h0 : 0 ≤ a2.toInt) (h1 : a2.toInt < 10000) (h2 : 1 ≤ a3.toInt) (h3 : a3.toInt < 10000) : pq_Ru 1 161 [.long 1, .long 0, .long 7] (wd_1050 z a2 a3) (some (.int 1), (wd_1050 z a2 a3)) := by
  refine ru_of (k := 0) (M := pm_161) rfl rfl ?_
  refine go_seg 8 (pc' := 13) (ls' := [(0, .long 1), (2, .long 0), (4, .long 7)]) (st' := []) (w' := (wd_1050 z a2 a3)) (cs' := 0) (ss' := 0) ?_ (fun _ _ => rfl)
  exact go_end 3 (fun _ _ => rfl)
theorem ro_655 (z : pq_C) (a2 : Int32) (a3 : Int32) (h0 : 0 ≤ a2.toInt) (h1 : a2.toInt < 10000) (h2 : 1 ≤ a3.toInt) (h3 : a3.toInt < 10000) : pq_Ru 2 167 [.int 1] (wd_1050 z a2 a3) (some (.int 1), (wd_1050 z a2 a3)) := by
  refine ru_of (k := 1) (M := pm_167) rfl rfl ?_
  refine go_seg 4 (pc' := 6) (ls' := [(0, .int 1)]) (st' := [.long 7, .long 0, .long 1]) (w' := (wd_1050 z a2 a3)) (cs' := 0) (ss' := 0) ?_ (fun _ _ => rfl)
  refine go_cl (k := 1) (st' := [.int 1]) (cs' := 0) (ss' := 0) rfl rfl rfl rfl rfl rfl rfl (ro_654 z a2 a3 (by omega) (by omega) (by omega) (by omega)) ?_
  exact go_end 1 (fun _ _ => rfl)
theorem ro_656 (z : pq_C) (a2 : Int32) (a3 : Int32) (h0 : 0 ≤ a2.toInt) (h1 : a2.toInt < 10000) (h2 : 1 ≤ a3.toInt) (h3 : a3.toInt < 10000) : pq_Ru 1 168 [.int 1, .int 0] (wd_1050 z a2 a3) (some (.int 144), (wd_1050 z a2 a3)) := by
  refine ru_of (k := 0) (M := pm_168) rfl rfl ?_
  exact go_end 8 (fun _ _ => rfl)
def wd_1051 (z : pq_C) (a2 : Int32) (a3 : Int32) : pq_W := ((wd_1050 z a2 a3).set 91 (.inl (.int, 2858, .inl (upd (upd (upd (upd (upd (upd (upd (upd (upd (upd (upd (upd (upd (upd (upd (upd (upd (upd (upd (upd (upd (upd (upd (upd (upd (upd (upd (upd (upd (upd (upd (upd (upd (upd (upd (upd (upd (upd (upd (upd (upd (upd (upd (upd (upd (upd (upd (upd (upd (upd (upd (upd (upd (upd (upd (upd (upd (upd (upd (upd (upd (upd (upd (upd (upd (upd (upd (upd (upd (upd (upd (upd (upd (upd (upd (upd (upd (upd (upd (upd (upd (upd (fun _ => 0) 1 10) 10 (-1)) 11 (-1)) 12 (-1)) 13 (-1)) 14 (-1)) 15 (-1)) 16 (-1)) 17 (-1)) 18 (-1)) 19 (-1)) 20 (-1)) 21 (-1)) 22 (-1)) 23 (-1)) 24 (-1)) 25 (-1)) 26 (-1)) 27 (-1)) 28 (-1)) 29 (-1)) 30 (-1)) 31 (-1)) 32 (-1)) 33 (-1)) 34 (-1)) 35 (-1)) 36 (-1)) 37 (-1)) 38 (-1)) 39 (-1)) 40 (-1)) 41 (-1)) 42 (-1)) 43 (-1)) 44 (-1)) 45 (-1)) 46 (-1)) 47 (-1)) 48 (-1)) 49 (-1)) 50 (-1)) 51 (-1)) 52 (-1)) 53 (-1)) 54 (-1)) 55 (-1)) 56 (-1)) 57 (-1)) 58 (-1)) 59 (-1)) 60 (-1)) 61 (-1)) 62 (-1)) 63 (-1)) 64 (-1)) 65 (-1)) 66 (-1)) 67 (-1)) 68 (-1)) 69 (-1)) 70 (-1)) 71 (-1)) 72 (-1)) 73 (-1)) 139 1000) 140 100) 145 1000) 146 100) 151 1000) 152 100) 157 1000) 158 100) 163 1000) 164 100) 169 1000) 170 100) 175 1000) 176 100) 181 1000) 182 100) 144 a2))))
theorem ro_658 (z : pq_C) (a2 : Int32) (a3 : Int32) (h0 : 0 ≤ a2.toInt) (h1 : a2.toInt < 10000) (h2 : 1 ≤ a3.toInt) (h3 : a3.toInt < 10000) : pq_Ru 1 168 [.int 1, .int 1] (wd_1051 z a2 a3) (some (.int 145), (wd_1051 z a2 a3)) := by
  refine ru_of (k := 0) (M := pm_168) rfl rfl ?_
  exact go_end 8 (fun _ _ => rfl)
def wd_1052 (z : pq_C) (a2 : Int32) (a3 : Int32) : pq_W := ((wd_1051 z a2 a3).set 91 (.inl (.int, 2858, .inl (upd (upd (upd (upd (upd (upd (upd (upd (upd (upd (upd (upd (upd (upd (upd (upd (upd (upd (upd (upd (upd (upd (upd (upd (upd (upd (upd (upd (upd (upd (upd (upd (upd (upd (upd (upd (upd (upd (upd (upd (upd (upd (upd (upd (upd (upd (upd (upd (upd (upd (upd (upd (upd (upd (upd (upd (upd (upd (upd (upd (upd (upd (upd (upd (upd (upd (upd (upd (upd (upd (upd (upd (upd (upd (upd (upd (upd (upd (upd (upd (upd (upd (upd (fun _ => 0) 1 10) 10 (-1)) 11 (-1)) 12 (-1)) 13 (-1)) 14 (-1)) 15 (-1)) 16 (-1)) 17 (-1)) 18 (-1)) 19 (-1)) 20 (-1)) 21 (-1)) 22 (-1)) 23 (-1)) 24 (-1)) 25 (-1)) 26 (-1)) 27 (-1)) 28 (-1)) 29 (-1)) 30 (-1)) 31 (-1)) 32 (-1)) 33 (-1)) 34 (-1)) 35 (-1)) 36 (-1)) 37 (-1)) 38 (-1)) 39 (-1)) 40 (-1)) 41 (-1)) 42 (-1)) 43 (-1)) 44 (-1)) 45 (-1)) 46 (-1)) 47 (-1)) 48 (-1)) 49 (-1)) 50 (-1)) 51 (-1)) 52 (-1)) 53 (-1)) 54 (-1)) 55 (-1)) 56 (-1)) 57 (-1)) 58 (-1)) 59 (-1)) 60 (-1)) 61 (-1)) 62 (-1)) 63 (-1)) 64 (-1)) 65 (-1)) 66 (-1)) 67 (-1)) 68 (-1)) 69 (-1)) 70 (-1)) 71 (-1)) 72 (-1)) 73 (-1)) 139 1000) 140 100) 145 1000) 146 100) 151 1000) 152 100) 157 1000) 158 100) 163 1000) 164 100) 169 1000) 170 100) 175 1000) 176 100) 181 1000) 182 100) 144 a2) 145 a3))))
theorem ro_659 (z : pq_C) (a2 : Int32) (a3 : Int32) (h0 : 0 ≤ a2.toInt) (h1 : a2.toInt < 10000) (h2 : 1 ≤ a3.toInt) (h3 : a3.toInt < 10000) : pq_Ru 3 166 [.ref 90, .int 1, .int a2, .int a3] (wd_1050 z a2 a3) (some (.int 0), (wd_1052 z a2 a3)) := by
  refine ru_of (k := 2) (M := pm_166) rfl rfl ?_
  refine go_seg 1 (pc' := 1) (ls' := [(0, .ref 90), (1, .int 1), (2, .int a2), (3, .int a3)]) (st' := [.int 1]) (w' := (wd_1050 z a2 a3)) (cs' := 0) (ss' := 0) ?_ (fun _ _ => rfl)
  refine go_cl (k := 2) (st' := [.int 1]) (cs' := 0) (ss' := 0) rfl rfl rfl rfl rfl rfl rfl (ro_655 z a2 a3 (by omega) (by omega) (by omega) (by omega)) ?_
  refine go_seg 5 (pc' := 13) (ls' := [(0, .ref 90), (1, .int 1), (2, .int a2), (3, .int a3)]) (st' := [.long 9999, .long 0, .long a2.toInt64]) (w' := (wd_1050 z a2 a3)) (cs' := 0) (ss' := 0) ?_ (fun _ _ => rfl)
  refine go_cl (k := 2) (st' := [.int 1]) (cs' := 0) (ss' := 0) rfl rfl rfl rfl rfl rfl rfl (wi_t _ a2 0 9999 0 9999 rfl rfl (by omega)) ?_
  refine go_seg 5 (pc' := 25) (ls' := [(0, .ref 90), (1, .int 1), (2, .int a2), (3, .int a3)]) (st' := [.long 9999, .long 1, .long a3.toInt64]) (w' := (wd_1050 z a2 a3)) (cs' := 0) (ss' := 0) ?_ (fun _ _ => rfl)
  refine go_cl (k := 2) (st' := [.int 1]) (cs' := 0) (ss' := 0) rfl rfl rfl rfl rfl rfl rfl (wi_t _ a3 1 9999 1 9999 rfl rfl (by omega)) ?_
  refine go_seg 5 (pc' := 44) (ls' := [(0, .ref 90), (1, .int 1), (2, .int a2), (3, .int a3)]) (st' := [.int 0, .int 1, .ref 91]) (w' := (wd_1050 z a2 a3)) (cs' := 0) (ss' := 0) ?_ (fun _ _ => rfl)
  refine go_cl (k := 2) (st' := [.int 144, .ref 91]) (cs' := 0) (ss' := 0) rfl rfl rfl rfl rfl rfl rfl (ro_656 z a2 a3 (by omega) (by omega) (by omega) (by omega)) ?_
  refine go_seg 6 (pc' := 56) (ls' := [(4, .int 0), (0, .ref 90), (1, .int 1), (2, .int a2), (3, .int a3)]) (st' := [.int 0, .int 1, .ref 91]) (w' := (wd_1050 z a2 a3)) (cs' := 0) (ss' := 0) ?_ (fun _ _ => rfl)
  refine go_cl (k := 2) (st' := [.int 144, .ref 91]) (cs' := 0) (ss' := 0) rfl rfl rfl rfl rfl rfl rfl (ro_656 z a2 a3 (by omega) (by omega) (by omega) (by omega)) ?_
  refine go_seg 6 (pc' := 67) (ls' := [(4, .int 0), (0, .ref 90), (1, .int 1), (2, .int a2), (3, .int a3)]) (st' := [.int 1, .int 1, .ref 91]) (w' := (wd_1051 z a2 a3)) (cs' := 0) (ss' := 0) ?_ (fun _ _ => rfl)
  refine go_cl (k := 2) (st' := [.int 145, .ref 91]) (cs' := 0) (ss' := 0) rfl rfl rfl rfl rfl rfl rfl (ro_658 z a2 a3 (by omega) (by omega) (by omega) (by omega)) ?_
  exact go_end 4 (fun _ _ => rfl)
theorem lf_3_661 (a0 : Int32) (a2 : Int32) (a3 : Int32) (a4 : Int32) (a5 : Int32) (h0 : 0 ≤ a2.toInt) (h1 : a2.toInt < 10000) (h2 : 1 ≤ a3.toInt) (h3 : a3.toInt < 10000) : ∃ w', pq_Go 20 pm_law 327 [(3, .int 0), (2, .ref 90), (1, .ref 1), (0, .ref 0)] [] (fw (sz a0 1 a2 a3 a4 a5)) 109 12668 (some (.int 1), w') := by
  refine ⟨(wd_1052 (sz a0 1 a2 a3 a4 a5) a2 a3), ?_⟩
  refine go_seg 8 (pc' := 335) (ls' := [(3, .int 0), (2, .ref 90), (1, .ref 1), (0, .ref 0)]) (st' := [.int 0, .ref 0, .int 1, .ref 1]) (w' := (fw (sz a0 1 a2 a3 a4 a5))) (cs' := 109) (ss' := 12668) ?_ (fun _ _ => rfl)
  refine go_seg 8 (pc' := 343) (ls' := [(3, .int 0), (2, .ref 90), (1, .ref 1), (0, .ref 0)]) (st' := [.int a3, .int a2, .int 1, .ref 1]) (w' := (fw (sz a0 1 a2 a3 a4 a5))) (cs' := 109) (ss' := 12668) ?_ (fun _ _ => rfl)
  refine go_cl (k := 20) (st' := [.int 0]) (cs' := 109) (ss' := 12668) rfl rfl rfl rfl rfl rfl rfl (ro_652 (sz a0 1 a2 a3 a4 a5) a2 a3 (by omega) (by omega) (by omega) (by omega)) ?_
  refine go_seg 8 (pc' := 354) (ls' := [(3, .int 0), (2, .ref 90), (1, .ref 1), (0, .ref 0)]) (st' := [.int 0, .ref 0, .int 1, .ref 90, .int 0]) (w' := (wd_1050 (sz a0 1 a2 a3 a4 a5) a2 a3)) (cs' := 109) (ss' := 12668) ?_ (fun _ _ => rfl)
  refine go_seg 8 (pc' := 362) (ls' := [(3, .int 0), (2, .ref 90), (1, .ref 1), (0, .ref 0)]) (st' := [.int a3, .int a2, .int 1, .ref 90, .int 0]) (w' := (wd_1050 (sz a0 1 a2 a3 a4 a5) a2 a3)) (cs' := 109) (ss' := 12668) ?_ (fun _ _ => rfl)
  refine go_cl (k := 20) (st' := [.int 0, .int 0]) (cs' := 109) (ss' := 12668) rfl rfl rfl rfl rfl rfl rfl (ro_659 (sz a0 1 a2 a3 a4 a5) a2 a3 (by omega) (by omega) (by omega) (by omega)) ?_
  refine go_cmp true rfl (br_self _) ?_
  exact law_tail (f := sc a0 1 a2 a3 a4 a5) rfl
def wd_1053 (z : pq_C) (a2 : Int32) : pq_W := ((fw z).set 5 (.inl (.int, 8, .inl (upd (fun _ => 0) 2 a2))))
def wd_1054 (z : pq_C) (a2 : Int32) (a3 : Int32) : pq_W := ((wd_1053 z a2).set 6 (.inl (.int, 8, .inl (upd (fl_c 8 1000 (fun _ => 0)) 2 a3))))
theorem ro_663 (z : pq_C) (a2 : Int32) (a3 : Int32) (h0 : 0 ≤ a2.toInt) (h1 : a2.toInt < 10000) (h2 : 1 ≤ a3.toInt) (h3 : a3.toInt < 10000) : pq_Ru 2 23 [.ref 1, .int 2, .int a2, .int a3] (fw z) (some (.int 0), (wd_1054 z a2 a3)) := by
  refine ru_of (k := 1) (M := pm_23) rfl rfl ?_
  refine go_seg 1 (pc' := 1) (ls' := [(0, .ref 1), (1, .int 2), (2, .int a2), (3, .int a3)]) (st' := [.int 2]) (w' := (fw z)) (cs' := 0) (ss' := 0) ?_ (fun _ _ => rfl)
  refine go_cl (k := 1) (st' := [.int 1]) (cs' := 0) (ss' := 0) rfl rfl rfl rfl rfl rfl rfl (ro_567 z) ?_
  refine go_seg 4 (pc' := 12) (ls' := [(0, .ref 1), (1, .int 2), (2, .int a2), (3, .int a3)]) (st' := [.int 9999, .int 0, .int a2]) (w' := (fw z)) (cs' := 0) (ss' := 0) ?_ (fun _ _ => rfl)
  refine go_cl (k := 1) (st' := [.int 1]) (cs' := 0) (ss' := 0) rfl rfl rfl rfl rfl rfl rfl (ro_549 z a2 (by omega) (by omega)) ?_
  refine go_seg 4 (pc' := 23) (ls' := [(0, .ref 1), (1, .int 2), (2, .int a2), (3, .int a3)]) (st' := [.int 9999, .int 1, .int a3]) (w' := (fw z)) (cs' := 0) (ss' := 0) ?_ (fun _ _ => rfl)
  refine go_cl (k := 1) (st' := [.int 1]) (cs' := 0) (ss' := 0) rfl rfl rfl rfl rfl rfl rfl (ro_639 z a3 (by omega) (by omega)) ?_
  refine go_seg 8 (pc' := 47) (ls' := [(4, .int 0), (0, .ref 1), (1, .int 2), (2, .int a2), (3, .int a3)]) (st' := [.ref 1]) (w' := (fw z)) (cs' := 0) (ss' := 0) ?_ (fun _ _ => rfl)
  refine go_seg 8 (pc' := 63) (ls' := [(4, .int 0), (0, .ref 1), (1, .int 2), (2, .int a2), (3, .int a3)]) (st' := [.ref 6]) (w' := (wd_1053 z a2)) (cs' := 0) (ss' := 0) ?_ (fun _ _ => rfl)
  exact go_end 5 (fun _ _ => rfl)
theorem ro_665 (z : pq_C) (a2 : Int32) (a3 : Int32) (h0 : 0 ≤ a2.toInt) (h1 : a2.toInt < 10000) (h2 : 1 ≤ a3.toInt) (h3 : a3.toInt < 10000) : pq_Ru 1 161 [.long 2, .long 0, .long 7] (wd_1054 z a2 a3) (some (.int 1), (wd_1054 z a2 a3)) := by
  refine ru_of (k := 0) (M := pm_161) rfl rfl ?_
  refine go_seg 8 (pc' := 13) (ls' := [(0, .long 2), (2, .long 0), (4, .long 7)]) (st' := []) (w' := (wd_1054 z a2 a3)) (cs' := 0) (ss' := 0) ?_ (fun _ _ => rfl)
  exact go_end 3 (fun _ _ => rfl)
theorem ro_666 (z : pq_C) (a2 : Int32) (a3 : Int32) (h0 : 0 ≤ a2.toInt) (h1 : a2.toInt < 10000) (h2 : 1 ≤ a3.toInt) (h3 : a3.toInt < 10000) : pq_Ru 2 167 [.int 2] (wd_1054 z a2 a3) (some (.int 1), (wd_1054 z a2 a3)) := by
  refine ru_of (k := 1) (M := pm_167) rfl rfl ?_
  refine go_seg 4 (pc' := 6) (ls' := [(0, .int 2)]) (st' := [.long 7, .long 0, .long 2]) (w' := (wd_1054 z a2 a3)) (cs' := 0) (ss' := 0) ?_ (fun _ _ => rfl)
  refine go_cl (k := 1) (st' := [.int 1]) (cs' := 0) (ss' := 0) rfl rfl rfl rfl rfl rfl rfl (ro_665 z a2 a3 (by omega) (by omega) (by omega) (by omega)) ?_
  exact go_end 1 (fun _ _ => rfl)
theorem ro_667 (z : pq_C) (a2 : Int32) (a3 : Int32) (h0 : 0 ≤ a2.toInt) (h1 : a2.toInt < 10000) (h2 : 1 ≤ a3.toInt) (h3 : a3.toInt < 10000) : pq_Ru 1 168 [.int 2, .int 0] (wd_1054 z a2 a3) (some (.int 150), (wd_1054 z a2 a3)) := by
  refine ru_of (k := 0) (M := pm_168) rfl rfl ?_
  exact go_end 8 (fun _ _ => rfl)
def wd_1055 (z : pq_C) (a2 : Int32) (a3 : Int32) : pq_W := ((wd_1054 z a2 a3).set 91 (.inl (.int, 2858, .inl (upd (upd (upd (upd (upd (upd (upd (upd (upd (upd (upd (upd (upd (upd (upd (upd (upd (upd (upd (upd (upd (upd (upd (upd (upd (upd (upd (upd (upd (upd (upd (upd (upd (upd (upd (upd (upd (upd (upd (upd (upd (upd (upd (upd (upd (upd (upd (upd (upd (upd (upd (upd (upd (upd (upd (upd (upd (upd (upd (upd (upd (upd (upd (upd (upd (upd (upd (upd (upd (upd (upd (upd (upd (upd (upd (upd (upd (upd (upd (upd (upd (upd (fun _ => 0) 1 10) 10 (-1)) 11 (-1)) 12 (-1)) 13 (-1)) 14 (-1)) 15 (-1)) 16 (-1)) 17 (-1)) 18 (-1)) 19 (-1)) 20 (-1)) 21 (-1)) 22 (-1)) 23 (-1)) 24 (-1)) 25 (-1)) 26 (-1)) 27 (-1)) 28 (-1)) 29 (-1)) 30 (-1)) 31 (-1)) 32 (-1)) 33 (-1)) 34 (-1)) 35 (-1)) 36 (-1)) 37 (-1)) 38 (-1)) 39 (-1)) 40 (-1)) 41 (-1)) 42 (-1)) 43 (-1)) 44 (-1)) 45 (-1)) 46 (-1)) 47 (-1)) 48 (-1)) 49 (-1)) 50 (-1)) 51 (-1)) 52 (-1)) 53 (-1)) 54 (-1)) 55 (-1)) 56 (-1)) 57 (-1)) 58 (-1)) 59 (-1)) 60 (-1)) 61 (-1)) 62 (-1)) 63 (-1)) 64 (-1)) 65 (-1)) 66 (-1)) 67 (-1)) 68 (-1)) 69 (-1)) 70 (-1)) 71 (-1)) 72 (-1)) 73 (-1)) 139 1000) 140 100) 145 1000) 146 100) 151 1000) 152 100) 157 1000) 158 100) 163 1000) 164 100) 169 1000) 170 100) 175 1000) 176 100) 181 1000) 182 100) 150 a2))))
theorem ro_669 (z : pq_C) (a2 : Int32) (a3 : Int32) (h0 : 0 ≤ a2.toInt) (h1 : a2.toInt < 10000) (h2 : 1 ≤ a3.toInt) (h3 : a3.toInt < 10000) : pq_Ru 1 168 [.int 2, .int 1] (wd_1055 z a2 a3) (some (.int 151), (wd_1055 z a2 a3)) := by
  refine ru_of (k := 0) (M := pm_168) rfl rfl ?_
  exact go_end 8 (fun _ _ => rfl)
def wd_1056 (z : pq_C) (a2 : Int32) (a3 : Int32) : pq_W := ((wd_1055 z a2 a3).set 91 (.inl (.int, 2858, .inl (upd (upd (upd (upd (upd (upd (upd (upd (upd (upd (upd (upd (upd (upd (upd (upd (upd (upd (upd (upd (upd (upd (upd (upd (upd (upd (upd (upd (upd (upd (upd (upd (upd (upd (upd (upd (upd (upd (upd (upd (upd (upd (upd (upd (upd (upd (upd (upd (upd (upd (upd (upd (upd (upd (upd (upd (upd (upd (upd (upd (upd (upd (upd (upd (upd (upd (upd (upd (upd (upd (upd (upd (upd (upd (upd (upd (upd (upd (upd (upd (upd (upd (upd (fun _ => 0) 1 10) 10 (-1)) 11 (-1)) 12 (-1)) 13 (-1)) 14 (-1)) 15 (-1)) 16 (-1)) 17 (-1)) 18 (-1)) 19 (-1)) 20 (-1)) 21 (-1)) 22 (-1)) 23 (-1)) 24 (-1)) 25 (-1)) 26 (-1)) 27 (-1)) 28 (-1)) 29 (-1)) 30 (-1)) 31 (-1)) 32 (-1)) 33 (-1)) 34 (-1)) 35 (-1)) 36 (-1)) 37 (-1)) 38 (-1)) 39 (-1)) 40 (-1)) 41 (-1)) 42 (-1)) 43 (-1)) 44 (-1)) 45 (-1)) 46 (-1)) 47 (-1)) 48 (-1)) 49 (-1)) 50 (-1)) 51 (-1)) 52 (-1)) 53 (-1)) 54 (-1)) 55 (-1)) 56 (-1)) 57 (-1)) 58 (-1)) 59 (-1)) 60 (-1)) 61 (-1)) 62 (-1)) 63 (-1)) 64 (-1)) 65 (-1)) 66 (-1)) 67 (-1)) 68 (-1)) 69 (-1)) 70 (-1)) 71 (-1)) 72 (-1)) 73 (-1)) 139 1000) 140 100) 145 1000) 146 100) 151 1000) 152 100) 157 1000) 158 100) 163 1000) 164 100) 169 1000) 170 100) 175 1000) 176 100) 181 1000) 182 100) 150 a2) 151 a3))))
theorem ro_670 (z : pq_C) (a2 : Int32) (a3 : Int32) (h0 : 0 ≤ a2.toInt) (h1 : a2.toInt < 10000) (h2 : 1 ≤ a3.toInt) (h3 : a3.toInt < 10000) : pq_Ru 3 166 [.ref 90, .int 2, .int a2, .int a3] (wd_1054 z a2 a3) (some (.int 0), (wd_1056 z a2 a3)) := by
  refine ru_of (k := 2) (M := pm_166) rfl rfl ?_
  refine go_seg 1 (pc' := 1) (ls' := [(0, .ref 90), (1, .int 2), (2, .int a2), (3, .int a3)]) (st' := [.int 2]) (w' := (wd_1054 z a2 a3)) (cs' := 0) (ss' := 0) ?_ (fun _ _ => rfl)
  refine go_cl (k := 2) (st' := [.int 1]) (cs' := 0) (ss' := 0) rfl rfl rfl rfl rfl rfl rfl (ro_666 z a2 a3 (by omega) (by omega) (by omega) (by omega)) ?_
  refine go_seg 5 (pc' := 13) (ls' := [(0, .ref 90), (1, .int 2), (2, .int a2), (3, .int a3)]) (st' := [.long 9999, .long 0, .long a2.toInt64]) (w' := (wd_1054 z a2 a3)) (cs' := 0) (ss' := 0) ?_ (fun _ _ => rfl)
  refine go_cl (k := 2) (st' := [.int 1]) (cs' := 0) (ss' := 0) rfl rfl rfl rfl rfl rfl rfl (wi_t _ a2 0 9999 0 9999 rfl rfl (by omega)) ?_
  refine go_seg 5 (pc' := 25) (ls' := [(0, .ref 90), (1, .int 2), (2, .int a2), (3, .int a3)]) (st' := [.long 9999, .long 1, .long a3.toInt64]) (w' := (wd_1054 z a2 a3)) (cs' := 0) (ss' := 0) ?_ (fun _ _ => rfl)
  refine go_cl (k := 2) (st' := [.int 1]) (cs' := 0) (ss' := 0) rfl rfl rfl rfl rfl rfl rfl (wi_t _ a3 1 9999 1 9999 rfl rfl (by omega)) ?_
  refine go_seg 5 (pc' := 44) (ls' := [(0, .ref 90), (1, .int 2), (2, .int a2), (3, .int a3)]) (st' := [.int 0, .int 2, .ref 91]) (w' := (wd_1054 z a2 a3)) (cs' := 0) (ss' := 0) ?_ (fun _ _ => rfl)
  refine go_cl (k := 2) (st' := [.int 150, .ref 91]) (cs' := 0) (ss' := 0) rfl rfl rfl rfl rfl rfl rfl (ro_667 z a2 a3 (by omega) (by omega) (by omega) (by omega)) ?_
  refine go_seg 6 (pc' := 56) (ls' := [(4, .int 0), (0, .ref 90), (1, .int 2), (2, .int a2), (3, .int a3)]) (st' := [.int 0, .int 2, .ref 91]) (w' := (wd_1054 z a2 a3)) (cs' := 0) (ss' := 0) ?_ (fun _ _ => rfl)
  refine go_cl (k := 2) (st' := [.int 150, .ref 91]) (cs' := 0) (ss' := 0) rfl rfl rfl rfl rfl rfl rfl (ro_667 z a2 a3 (by omega) (by omega) (by omega) (by omega)) ?_
  refine go_seg 6 (pc' := 67) (ls' := [(4, .int 0), (0, .ref 90), (1, .int 2), (2, .int a2), (3, .int a3)]) (st' := [.int 1, .int 2, .ref 91]) (w' := (wd_1055 z a2 a3)) (cs' := 0) (ss' := 0) ?_ (fun _ _ => rfl)
  refine go_cl (k := 2) (st' := [.int 151, .ref 91]) (cs' := 0) (ss' := 0) rfl rfl rfl rfl rfl rfl rfl (ro_669 z a2 a3 (by omega) (by omega) (by omega) (by omega)) ?_
  exact go_end 4 (fun _ _ => rfl)
theorem lf_3_672 (a0 : Int32) (a2 : Int32) (a3 : Int32) (a4 : Int32) (a5 : Int32) (h0 : 0 ≤ a2.toInt) (h1 : a2.toInt < 10000) (h2 : 1 ≤ a3.toInt) (h3 : a3.toInt < 10000) : ∃ w', pq_Go 20 pm_law 327 [(3, .int 0), (2, .ref 90), (1, .ref 1), (0, .ref 0)] [] (fw (sz a0 2 a2 a3 a4 a5)) 109 12668 (some (.int 1), w') := by
  refine ⟨(wd_1056 (sz a0 2 a2 a3 a4 a5) a2 a3), ?_⟩
  refine go_seg 8 (pc' := 335) (ls' := [(3, .int 0), (2, .ref 90), (1, .ref 1), (0, .ref 0)]) (st' := [.int 0, .ref 0, .int 2, .ref 1]) (w' := (fw (sz a0 2 a2 a3 a4 a5))) (cs' := 109) (ss' := 12668) ?_ (fun _ _ => rfl)
  refine go_seg 8 (pc' := 343) (ls' := [(3, .int 0), (2, .ref 90), (1, .ref 1), (0, .ref 0)]) (st' := [.int a3, .int a2, .int 2, .ref 1]) (w' := (fw (sz a0 2 a2 a3 a4 a5))) (cs' := 109) (ss' := 12668) ?_ (fun _ _ => rfl)
  refine go_cl (k := 20) (st' := [.int 0]) (cs' := 109) (ss' := 12668) rfl rfl rfl rfl rfl rfl rfl (ro_663 (sz a0 2 a2 a3 a4 a5) a2 a3 (by omega) (by omega) (by omega) (by omega)) ?_
  refine go_seg 8 (pc' := 354) (ls' := [(3, .int 0), (2, .ref 90), (1, .ref 1), (0, .ref 0)]) (st' := [.int 0, .ref 0, .int 2, .ref 90, .int 0]) (w' := (wd_1054 (sz a0 2 a2 a3 a4 a5) a2 a3)) (cs' := 109) (ss' := 12668) ?_ (fun _ _ => rfl)
  refine go_seg 8 (pc' := 362) (ls' := [(3, .int 0), (2, .ref 90), (1, .ref 1), (0, .ref 0)]) (st' := [.int a3, .int a2, .int 2, .ref 90, .int 0]) (w' := (wd_1054 (sz a0 2 a2 a3 a4 a5) a2 a3)) (cs' := 109) (ss' := 12668) ?_ (fun _ _ => rfl)
  refine go_cl (k := 20) (st' := [.int 0, .int 0]) (cs' := 109) (ss' := 12668) rfl rfl rfl rfl rfl rfl rfl (ro_670 (sz a0 2 a2 a3 a4 a5) a2 a3 (by omega) (by omega) (by omega) (by omega)) ?_
  refine go_cmp true rfl (br_self _) ?_
  exact law_tail (f := sc a0 2 a2 a3 a4 a5) rfl
def wd_1057 (z : pq_C) (a2 : Int32) : pq_W := ((fw z).set 5 (.inl (.int, 8, .inl (upd (fun _ => 0) 3 a2))))
def wd_1058 (z : pq_C) (a2 : Int32) (a3 : Int32) : pq_W := ((wd_1057 z a2).set 6 (.inl (.int, 8, .inl (upd (fl_c 8 1000 (fun _ => 0)) 3 a3))))
theorem ro_674 (z : pq_C) (a2 : Int32) (a3 : Int32) (h0 : 0 ≤ a2.toInt) (h1 : a2.toInt < 10000) (h2 : 1 ≤ a3.toInt) (h3 : a3.toInt < 10000) : pq_Ru 2 23 [.ref 1, .int 3, .int a2, .int a3] (fw z) (some (.int 0), (wd_1058 z a2 a3)) := by
  refine ru_of (k := 1) (M := pm_23) rfl rfl ?_
  refine go_seg 1 (pc' := 1) (ls' := [(0, .ref 1), (1, .int 3), (2, .int a2), (3, .int a3)]) (st' := [.int 3]) (w' := (fw z)) (cs' := 0) (ss' := 0) ?_ (fun _ _ => rfl)
  refine go_cl (k := 1) (st' := [.int 1]) (cs' := 0) (ss' := 0) rfl rfl rfl rfl rfl rfl rfl (ro_576 z) ?_
  refine go_seg 4 (pc' := 12) (ls' := [(0, .ref 1), (1, .int 3), (2, .int a2), (3, .int a3)]) (st' := [.int 9999, .int 0, .int a2]) (w' := (fw z)) (cs' := 0) (ss' := 0) ?_ (fun _ _ => rfl)
  refine go_cl (k := 1) (st' := [.int 1]) (cs' := 0) (ss' := 0) rfl rfl rfl rfl rfl rfl rfl (ro_549 z a2 (by omega) (by omega)) ?_
  refine go_seg 4 (pc' := 23) (ls' := [(0, .ref 1), (1, .int 3), (2, .int a2), (3, .int a3)]) (st' := [.int 9999, .int 1, .int a3]) (w' := (fw z)) (cs' := 0) (ss' := 0) ?_ (fun _ _ => rfl)
  refine go_cl (k := 1) (st' := [.int 1]) (cs' := 0) (ss' := 0) rfl rfl rfl rfl rfl rfl rfl (ro_639 z a3 (by omega) (by omega)) ?_
  refine go_seg 8 (pc' := 47) (ls' := [(4, .int 0), (0, .ref 1), (1, .int 3), (2, .int a2), (3, .int a3)]) (st' := [.ref 1]) (w' := (fw z)) (cs' := 0) (ss' := 0) ?_ (fun _ _ => rfl)
  refine go_seg 8 (pc' := 63) (ls' := [(4, .int 0), (0, .ref 1), (1, .int 3), (2, .int a2), (3, .int a3)]) (st' := [.ref 6]) (w' := (wd_1057 z a2)) (cs' := 0) (ss' := 0) ?_ (fun _ _ => rfl)
  exact go_end 5 (fun _ _ => rfl)
theorem ro_676 (z : pq_C) (a2 : Int32) (a3 : Int32) (h0 : 0 ≤ a2.toInt) (h1 : a2.toInt < 10000) (h2 : 1 ≤ a3.toInt) (h3 : a3.toInt < 10000) : pq_Ru 1 161 [.long 3, .long 0, .long 7] (wd_1058 z a2 a3) (some (.int 1), (wd_1058 z a2 a3)) := by
  refine ru_of (k := 0) (M := pm_161) rfl rfl ?_
  refine go_seg 8 (pc' := 13) (ls' := [(0, .long 3), (2, .long 0), (4, .long 7)]) (st' := []) (w' := (wd_1058 z a2 a3)) (cs' := 0) (ss' := 0) ?_ (fun _ _ => rfl)
  exact go_end 3 (fun _ _ => rfl)
theorem ro_677 (z : pq_C) (a2 : Int32) (a3 : Int32) (h0 : 0 ≤ a2.toInt) (h1 : a2.toInt < 10000) (h2 : 1 ≤ a3.toInt) (h3 : a3.toInt < 10000) : pq_Ru 2 167 [.int 3] (wd_1058 z a2 a3) (some (.int 1), (wd_1058 z a2 a3)) := by
  refine ru_of (k := 1) (M := pm_167) rfl rfl ?_
  refine go_seg 4 (pc' := 6) (ls' := [(0, .int 3)]) (st' := [.long 7, .long 0, .long 3]) (w' := (wd_1058 z a2 a3)) (cs' := 0) (ss' := 0) ?_ (fun _ _ => rfl)
  refine go_cl (k := 1) (st' := [.int 1]) (cs' := 0) (ss' := 0) rfl rfl rfl rfl rfl rfl rfl (ro_676 z a2 a3 (by omega) (by omega) (by omega) (by omega)) ?_
  exact go_end 1 (fun _ _ => rfl)
theorem ro_678 (z : pq_C) (a2 : Int32) (a3 : Int32) (h0 : 0 ≤ a2.toInt) (h1 : a2.toInt < 10000) (h2 : 1 ≤ a3.toInt) (h3 : a3.toInt < 10000) : pq_Ru 1 168 [.int 3, .int 0] (wd_1058 z a2 a3) (some (.int 156), (wd_1058 z a2 a3)) := by
  refine ru_of (k := 0) (M := pm_168) rfl rfl ?_
  exact go_end 8 (fun _ _ => rfl)
def wd_1059 (z : pq_C) (a2 : Int32) (a3 : Int32) : pq_W := ((wd_1058 z a2 a3).set 91 (.inl (.int, 2858, .inl (upd (upd (upd (upd (upd (upd (upd (upd (upd (upd (upd (upd (upd (upd (upd (upd (upd (upd (upd (upd (upd (upd (upd (upd (upd (upd (upd (upd (upd (upd (upd (upd (upd (upd (upd (upd (upd (upd (upd (upd (upd (upd (upd (upd (upd (upd (upd (upd (upd (upd (upd (upd (upd (upd (upd (upd (upd (upd (upd (upd (upd (upd (upd (upd (upd (upd (upd (upd (upd (upd (upd (upd (upd (upd (upd (upd (upd (upd (upd (upd (upd (upd (fun _ => 0) 1 10) 10 (-1)) 11 (-1)) 12 (-1)) 13 (-1)) 14 (-1)) 15 (-1)) 16 (-1)) 17 (-1)) 18 (-1)) 19 (-1)) 20 (-1)) 21 (-1)) 22 (-1)) 23 (-1)) 24 (-1)) 25 (-1)) 26 (-1)) 27 (-1)) 28 (-1)) 29 (-1)) 30 (-1)) 31 (-1)) 32 (-1)) 33 (-1)) 34 (-1)) 35 (-1)) 36 (-1)) 37 (-1)) 38 (-1)) 39 (-1)) 40 (-1)) 41 (-1)) 42 (-1)) 43 (-1)) 44 (-1)) 45 (-1)) 46 (-1)) 47 (-1)) 48 (-1)) 49 (-1)) 50 (-1)) 51 (-1)) 52 (-1)) 53 (-1)) 54 (-1)) 55 (-1)) 56 (-1)) 57 (-1)) 58 (-1)) 59 (-1)) 60 (-1)) 61 (-1)) 62 (-1)) 63 (-1)) 64 (-1)) 65 (-1)) 66 (-1)) 67 (-1)) 68 (-1)) 69 (-1)) 70 (-1)) 71 (-1)) 72 (-1)) 73 (-1)) 139 1000) 140 100) 145 1000) 146 100) 151 1000) 152 100) 157 1000) 158 100) 163 1000) 164 100) 169 1000) 170 100) 175 1000) 176 100) 181 1000) 182 100) 156 a2))))
theorem ro_680 (z : pq_C) (a2 : Int32) (a3 : Int32) (h0 : 0 ≤ a2.toInt) (h1 : a2.toInt < 10000) (h2 : 1 ≤ a3.toInt) (h3 : a3.toInt < 10000) : pq_Ru 1 168 [.int 3, .int 1] (wd_1059 z a2 a3) (some (.int 157), (wd_1059 z a2 a3)) := by
  refine ru_of (k := 0) (M := pm_168) rfl rfl ?_
  exact go_end 8 (fun _ _ => rfl)
def wd_1060 (z : pq_C) (a2 : Int32) (a3 : Int32) : pq_W := ((wd_1059 z a2 a3).set 91 (.inl (.int, 2858, .inl (upd (upd (upd (upd (upd (upd (upd (upd (upd (upd (upd (upd (upd (upd (upd (upd (upd (upd (upd (upd (upd (upd (upd (upd (upd (upd (upd (upd (upd (upd (upd (upd (upd (upd (upd (upd (upd (upd (upd (upd (upd (upd (upd (upd (upd (upd (upd (upd (upd (upd (upd (upd (upd (upd (upd (upd (upd (upd (upd (upd (upd (upd (upd (upd (upd (upd (upd (upd (upd (upd (upd (upd (upd (upd (upd (upd (upd (upd (upd (upd (upd (upd (upd (fun _ => 0) 1 10) 10 (-1)) 11 (-1)) 12 (-1)) 13 (-1)) 14 (-1)) 15 (-1)) 16 (-1)) 17 (-1)) 18 (-1)) 19 (-1)) 20 (-1)) 21 (-1)) 22 (-1)) 23 (-1)) 24 (-1)) 25 (-1)) 26 (-1)) 27 (-1)) 28 (-1)) 29 (-1)) 30 (-1)) 31 (-1)) 32 (-1)) 33 (-1)) 34 (-1)) 35 (-1)) 36 (-1)) 37 (-1)) 38 (-1)) 39 (-1)) 40 (-1)) 41 (-1)) 42 (-1)) 43 (-1)) 44 (-1)) 45 (-1)) 46 (-1)) 47 (-1)) 48 (-1)) 49 (-1)) 50 (-1)) 51 (-1)) 52 (-1)) 53 (-1)) 54 (-1)) 55 (-1)) 56 (-1)) 57 (-1)) 58 (-1)) 59 (-1)) 60 (-1)) 61 (-1)) 62 (-1)) 63 (-1)) 64 (-1)) 65 (-1)) 66 (-1)) 67 (-1)) 68 (-1)) 69 (-1)) 70 (-1)) 71 (-1)) 72 (-1)) 73 (-1)) 139 1000) 140 100) 145 1000) 146 100) 151 1000) 152 100) 157 1000) 158 100) 163 1000) 164 100) 169 1000) 170 100) 175 1000) 176 100) 181 1000) 182 100) 156 a2) 157 a3))))
theorem ro_681 (z : pq_C) (a2 : Int32) (a3 : Int32) (h0 : 0 ≤ a2.toInt) (h1 : a2.toInt < 10000) (h2 : 1 ≤ a3.toInt) (h3 : a3.toInt < 10000) : pq_Ru 3 166 [.ref 90, .int 3, .int a2, .int a3] (wd_1058 z a2 a3) (some (.int 0), (wd_1060 z a2 a3)) := by
  refine ru_of (k := 2) (M := pm_166) rfl rfl ?_
  refine go_seg 1 (pc' := 1) (ls' := [(0, .ref 90), (1, .int 3), (2, .int a2), (3, .int a3)]) (st' := [.int 3]) (w' := (wd_1058 z a2 a3)) (cs' := 0) (ss' := 0) ?_ (fun _ _ => rfl)
  refine go_cl (k := 2) (st' := [.int 1]) (cs' := 0) (ss' := 0) rfl rfl rfl rfl rfl rfl rfl (ro_677 z a2 a3 (by omega) (by omega) (by omega) (by omega)) ?_
  refine go_seg 5 (pc' := 13) (ls' := [(0, .ref 90), (1, .int 3), (2, .int a2), (3, .int a3)]) (st' := [.long 9999, .long 0, .long a2.toInt64]) (w' := (wd_1058 z a2 a3)) (cs' := 0) (ss' := 0) ?_ (fun _ _ => rfl)
  refine go_cl (k := 2) (st' := [.int 1]) (cs' := 0) (ss' := 0) rfl rfl rfl rfl rfl rfl rfl (wi_t _ a2 0 9999 0 9999 rfl rfl (by omega)) ?_
  refine go_seg 5 (pc' := 25) (ls' := [(0, .ref 90), (1, .int 3), (2, .int a2), (3, .int a3)]) (st' := [.long 9999, .long 1, .long a3.toInt64]) (w' := (wd_1058 z a2 a3)) (cs' := 0) (ss' := 0) ?_ (fun _ _ => rfl)
  refine go_cl (k := 2) (st' := [.int 1]) (cs' := 0) (ss' := 0) rfl rfl rfl rfl rfl rfl rfl (wi_t _ a3 1 9999 1 9999 rfl rfl (by omega)) ?_
  refine go_seg 5 (pc' := 44) (ls' := [(0, .ref 90), (1, .int 3), (2, .int a2), (3, .int a3)]) (st' := [.int 0, .int 3, .ref 91]) (w' := (wd_1058 z a2 a3)) (cs' := 0) (ss' := 0) ?_ (fun _ _ => rfl)
  refine go_cl (k := 2) (st' := [.int 156, .ref 91]) (cs' := 0) (ss' := 0) rfl rfl rfl rfl rfl rfl rfl (ro_678 z a2 a3 (by omega) (by omega) (by omega) (by omega)) ?_
  refine go_seg 6 (pc' := 56) (ls' := [(4, .int 0), (0, .ref 90), (1, .int 3), (2, .int a2), (3, .int a3)]) (st' := [.int 0, .int 3, .ref 91]) (w' := (wd_1058 z a2 a3)) (cs' := 0) (ss' := 0) ?_ (fun _ _ => rfl)
  refine go_cl (k := 2) (st' := [.int 156, .ref 91]) (cs' := 0) (ss' := 0) rfl rfl rfl rfl rfl rfl rfl (ro_678 z a2 a3 (by omega) (by omega) (by omega) (by omega)) ?_
  refine go_seg 6 (pc' := 67) (ls' := [(4, .int 0), (0, .ref 90), (1, .int 3), (2, .int a2), (3, .int a3)]) (st' := [.int 1, .int 3, .ref 91]) (w' := (wd_1059 z a2 a3)) (cs' := 0) (ss' := 0) ?_ (fun _ _ => rfl)
  refine go_cl (k := 2) (st' := [.int 157, .ref 91]) (cs' := 0) (ss' := 0) rfl rfl rfl rfl rfl rfl rfl (ro_680 z a2 a3 (by omega) (by omega) (by omega) (by omega)) ?_
  exact go_end 4 (fun _ _ => rfl)
theorem lf_3_683 (a0 : Int32) (a2 : Int32) (a3 : Int32) (a4 : Int32) (a5 : Int32) (h0 : 0 ≤ a2.toInt) (h1 : a2.toInt < 10000) (h2 : 1 ≤ a3.toInt) (h3 : a3.toInt < 10000) : ∃ w', pq_Go 20 pm_law 327 [(3, .int 0), (2, .ref 90), (1, .ref 1), (0, .ref 0)] [] (fw (sz a0 3 a2 a3 a4 a5)) 109 12668 (some (.int 1), w') := by
  refine ⟨(wd_1060 (sz a0 3 a2 a3 a4 a5) a2 a3), ?_⟩
  refine go_seg 8 (pc' := 335) (ls' := [(3, .int 0), (2, .ref 90), (1, .ref 1), (0, .ref 0)]) (st' := [.int 0, .ref 0, .int 3, .ref 1]) (w' := (fw (sz a0 3 a2 a3 a4 a5))) (cs' := 109) (ss' := 12668) ?_ (fun _ _ => rfl)
  refine go_seg 8 (pc' := 343) (ls' := [(3, .int 0), (2, .ref 90), (1, .ref 1), (0, .ref 0)]) (st' := [.int a3, .int a2, .int 3, .ref 1]) (w' := (fw (sz a0 3 a2 a3 a4 a5))) (cs' := 109) (ss' := 12668) ?_ (fun _ _ => rfl)
  refine go_cl (k := 20) (st' := [.int 0]) (cs' := 109) (ss' := 12668) rfl rfl rfl rfl rfl rfl rfl (ro_674 (sz a0 3 a2 a3 a4 a5) a2 a3 (by omega) (by omega) (by omega) (by omega)) ?_
  refine go_seg 8 (pc' := 354) (ls' := [(3, .int 0), (2, .ref 90), (1, .ref 1), (0, .ref 0)]) (st' := [.int 0, .ref 0, .int 3, .ref 90, .int 0]) (w' := (wd_1058 (sz a0 3 a2 a3 a4 a5) a2 a3)) (cs' := 109) (ss' := 12668) ?_ (fun _ _ => rfl)
  refine go_seg 8 (pc' := 362) (ls' := [(3, .int 0), (2, .ref 90), (1, .ref 1), (0, .ref 0)]) (st' := [.int a3, .int a2, .int 3, .ref 90, .int 0]) (w' := (wd_1058 (sz a0 3 a2 a3 a4 a5) a2 a3)) (cs' := 109) (ss' := 12668) ?_ (fun _ _ => rfl)
  refine go_cl (k := 20) (st' := [.int 0, .int 0]) (cs' := 109) (ss' := 12668) rfl rfl rfl rfl rfl rfl rfl (ro_681 (sz a0 3 a2 a3 a4 a5) a2 a3 (by omega) (by omega) (by omega) (by omega)) ?_
  refine go_cmp true rfl (br_self _) ?_
  exact law_tail (f := sc a0 3 a2 a3 a4 a5) rfl
def wd_1061 (z : pq_C) (a2 : Int32) : pq_W := ((fw z).set 5 (.inl (.int, 8, .inl (upd (fun _ => 0) 4 a2))))
def wd_1062 (z : pq_C) (a2 : Int32) (a3 : Int32) : pq_W := ((wd_1061 z a2).set 6 (.inl (.int, 8, .inl (upd (fl_c 8 1000 (fun _ => 0)) 4 a3))))
theorem ro_685 (z : pq_C) (a2 : Int32) (a3 : Int32) (h0 : 0 ≤ a2.toInt) (h1 : a2.toInt < 10000) (h2 : 1 ≤ a3.toInt) (h3 : a3.toInt < 10000) : pq_Ru 2 23 [.ref 1, .int 4, .int a2, .int a3] (fw z) (some (.int 0), (wd_1062 z a2 a3)) := by
  refine ru_of (k := 1) (M := pm_23) rfl rfl ?_
  refine go_seg 1 (pc' := 1) (ls' := [(0, .ref 1), (1, .int 4), (2, .int a2), (3, .int a3)]) (st' := [.int 4]) (w' := (fw z)) (cs' := 0) (ss' := 0) ?_ (fun _ _ => rfl)
  refine go_cl (k := 1) (st' := [.int 1]) (cs' := 0) (ss' := 0) rfl rfl rfl rfl rfl rfl rfl (ro_585 z) ?_
  refine go_seg 4 (pc' := 12) (ls' := [(0, .ref 1), (1, .int 4), (2, .int a2), (3, .int a3)]) (st' := [.int 9999, .int 0, .int a2]) (w' := (fw z)) (cs' := 0) (ss' := 0) ?_ (fun _ _ => rfl)
  refine go_cl (k := 1) (st' := [.int 1]) (cs' := 0) (ss' := 0) rfl rfl rfl rfl rfl rfl rfl (ro_549 z a2 (by omega) (by omega)) ?_
  refine go_seg 4 (pc' := 23) (ls' := [(0, .ref 1), (1, .int 4), (2, .int a2), (3, .int a3)]) (st' := [.int 9999, .int 1, .int a3]) (w' := (fw z)) (cs' := 0) (ss' := 0) ?_ (fun _ _ => rfl)
  refine go_cl (k := 1) (st' := [.int 1]) (cs' := 0) (ss' := 0) rfl rfl rfl rfl rfl rfl rfl (ro_639 z a3 (by omega) (by omega)) ?_
  refine go_seg 8 (pc' := 47) (ls' := [(4, .int 0), (0, .ref 1), (1, .int 4), (2, .int a2), (3, .int a3)]) (st' := [.ref 1]) (w' := (fw z)) (cs' := 0) (ss' := 0) ?_ (fun _ _ => rfl)
  refine go_seg 8 (pc' := 63) (ls' := [(4, .int 0), (0, .ref 1), (1, .int 4), (2, .int a2), (3, .int a3)]) (st' := [.ref 6]) (w' := (wd_1061 z a2)) (cs' := 0) (ss' := 0) ?_ (fun _ _ => rfl)
  exact go_end 5 (fun _ _ => rfl)
theorem ro_687 (z : pq_C) (a2 : Int32) (a3 : Int32) (h0 : 0 ≤ a2.toInt) (h1 : a2.toInt < 10000) (h2 : 1 ≤ a3.toInt) (h3 : a3.toInt < 10000) : pq_Ru 1 161 [.long 4, .long 0, .long 7] (wd_1062 z a2 a3) (some (.int 1), (wd_1062 z a2 a3)) := by
  refine ru_of (k := 0) (M := pm_161) rfl rfl ?_
  refine go_seg 8 (pc' := 13) (ls' := [(0, .long 4), (2, .long 0), (4, .long 7)]) (st' := []) (w' := (wd_1062 z a2 a3)) (cs' := 0) (ss' := 0) ?_ (fun _ _ => rfl)
  exact go_end 3 (fun _ _ => rfl)
theorem ro_688 (z : pq_C) (a2 : Int32) (a3 : Int32) (h0 : 0 ≤ a2.toInt) (h1 : a2.toInt < 10000) (h2 : 1 ≤ a3.toInt) (h3 : a3.toInt < 10000) : pq_Ru 2 167 [.int 4] (wd_1062 z a2 a3) (some (.int 1), (wd_1062 z a2 a3)) := by
  refine ru_of (k := 1) (M := pm_167) rfl rfl ?_
  refine go_seg 4 (pc' := 6) (ls' := [(0, .int 4)]) (st' := [.long 7, .long 0, .long 4]) (w' := (wd_1062 z a2 a3)) (cs' := 0) (ss' := 0) ?_ (fun _ _ => rfl)
  refine go_cl (k := 1) (st' := [.int 1]) (cs' := 0) (ss' := 0) rfl rfl rfl rfl rfl rfl rfl (ro_687 z a2 a3 (by omega) (by omega) (by omega) (by omega)) ?_
  exact go_end 1 (fun _ _ => rfl)
theorem ro_689 (z : pq_C) (a2 : Int32) (a3 : Int32) (h0 : 0 ≤ a2.toInt) (h1 : a2.toInt < 10000) (h2 : 1 ≤ a3.toInt) (h3 : a3.toInt < 10000) : pq_Ru 1 168 [.int 4, .int 0] (wd_1062 z a2 a3) (some (.int 162), (wd_1062 z a2 a3)) := by
  refine ru_of (k := 0) (M := pm_168) rfl rfl ?_
  exact go_end 8 (fun _ _ => rfl)
def wd_1063 (z : pq_C) (a2 : Int32) (a3 : Int32) : pq_W := ((wd_1062 z a2 a3).set 91 (.inl (.int, 2858, .inl (upd (upd (upd (upd (upd (upd (upd (upd (upd (upd (upd (upd (upd (upd (upd (upd (upd (upd (upd (upd (upd (upd (upd (upd (upd (upd (upd (upd (upd (upd (upd (upd (upd (upd (upd (upd (upd (upd (upd (upd (upd (upd (upd (upd (upd (upd (upd (upd (upd (upd (upd (upd (upd (upd (upd (upd (upd (upd (upd (upd (upd (upd (upd (upd (upd (upd (upd (upd (upd (upd (upd (upd (upd (upd (upd (upd (upd (upd (upd (upd (upd (upd (fun _ => 0) 1 10) 10 (-1)) 11 (-1)) 12 (-1)) 13 (-1)) 14 (-1)) 15 (-1)) 16 (-1)) 17 (-1)) 18 (-1)) 19 (-1)) 20 (-1)) 21 (-1)) 22 (-1)) 23 (-1)) 24 (-1)) 25 (-1)) 26 (-1)) 27 (-1)) 28 (-1)) 29 (-1)) 30 (-1)) 31 (-1)) 32 (-1)) 33 (-1)) 34 (-1)) 35 (-1)) 36 (-1)) 37 (-1)) 38 (-1)) 39 (-1)) 40 (-1)) 41 (-1)) 42 (-1)) 43 (-1)) 44 (-1)) 45 (-1)) 46 (-1)) 47 (-1)) 48 (-1)) 49 (-1)) 50 (-1)) 51 (-1)) 52 (-1)) 53 (-1)) 54 (-1)) 55 (-1)) 56 (-1)) 57 (-1)) 58 (-1)) 59 (-1)) 60 (-1)) 61 (-1)) 62 (-1)) 63 (-1)) 64 (-1)) 65 (-1)) 66 (-1)) 67 (-1)) 68 (-1)) 69 (-1)) 70 (-1)) 71 (-1)) 72 (-1)) 73 (-1)) 139 1000) 140 100) 145 1000) 146 100) 151 1000) 152 100) 157 1000) 158 100) 163 1000) 164 100) 169 1000) 170 100) 175 1000) 176 100) 181 1000) 182 100) 162 a2))))
theorem ro_691 (z : pq_C) (a2 : Int32) (a3 : Int32) (h0 : 0 ≤ a2.toInt) (h1 : a2.toInt < 10000) (h2 : 1 ≤ a3.toInt) (h3 : a3.toInt < 10000) : pq_Ru 1 168 [.int 4, .int 1] (wd_1063 z a2 a3) (some (.int 163), (wd_1063 z a2 a3)) := by
  refine ru_of (k := 0) (M := pm_168) rfl rfl ?_
  exact go_end 8 (fun _ _ => rfl)
def wd_1064 (z : pq_C) (a2 : Int32) (a3 : Int32) : pq_W := ((wd_1063 z a2 a3).set 91 (.inl (.int, 2858, .inl (upd (upd (upd (upd (upd (upd (upd (upd (upd (upd (upd (upd (upd (upd (upd (upd (upd (upd (upd (upd (upd (upd (upd (upd (upd (upd (upd (upd (upd (upd (upd (upd (upd (upd (upd (upd (upd (upd (upd (upd (upd (upd (upd (upd (upd (upd (upd (upd (upd (upd (upd (upd (upd (upd (upd (upd (upd (upd (upd (upd (upd (upd (upd (upd (upd (upd (upd (upd (upd (upd (upd (upd (upd (upd (upd (upd (upd (upd (upd (upd (upd (upd (upd (fun _ => 0) 1 10) 10 (-1)) 11 (-1)) 12 (-1)) 13 (-1)) 14 (-1)) 15 (-1)) 16 (-1)) 17 (-1)) 18 (-1)) 19 (-1)) 20 (-1)) 21 (-1)) 22 (-1)) 23 (-1)) 24 (-1)) 25 (-1)) 26 (-1)) 27 (-1)) 28 (-1)) 29 (-1)) 30 (-1)) 31 (-1)) 32 (-1)) 33 (-1)) 34 (-1)) 35 (-1)) 36 (-1)) 37 (-1)) 38 (-1)) 39 (-1)) 40 (-1)) 41 (-1)) 42 (-1)) 43 (-1)) 44 (-1)) 45 (-1)) 46 (-1)) 47 (-1)) 48 (-1)) 49 (-1)) 50 (-1)) 51 (-1)) 52 (-1)) 53 (-1)) 54 (-1)) 55 (-1)) 56 (-1)) 57 (-1)) 58 (-1)) 59 (-1)) 60 (-1)) 61 (-1)) 62 (-1)) 63 (-1)) 64 (-1)) 65 (-1)) 66 (-1)) 67 (-1)) 68 (-1)) 69 (-1)) 70 (-1)) 71 (-1)) 72 (-1)) 73 (-1)) 139 1000) 140 100) 145 1000) 146 100) 151 1000) 152 100) 157 1000) 158 100) 163 1000) 164 100) 169 1000) 170 100) 175 1000) 176 100) 181 1000) 182 100) 162 a2) 163 a3))))
theorem ro_692 (z : pq_C) (a2 : Int32) (a3 : Int32) (h0 : 0 ≤ a2.toInt) (h1 : a2.toInt < 10000) (h2 : 1 ≤ a3.toInt) (h3 : a3.toInt < 10000) : pq_Ru 3 166 [.ref 90, .int 4, .int a2, .int a3] (wd_1062 z a2 a3) (some (.int 0), (wd_1064 z a2 a3)) := by
  refine ru_of (k := 2) (M := pm_166) rfl rfl ?_
  refine go_seg 1 (pc' := 1) (ls' := [(0, .ref 90), (1, .int 4), (2, .int a2), (3, .int a3)]) (st' := [.int 4]) (w' := (wd_1062 z a2 a3)) (cs' := 0) (ss' := 0) ?_ (fun _ _ => rfl)
  refine go_cl (k := 2) (st' := [.int 1]) (cs' := 0) (ss' := 0) rfl rfl rfl rfl rfl rfl rfl (ro_688 z a2 a3 (by omega) (by omega) (by omega) (by omega)) ?_
  refine go_seg 5 (pc' := 13) (ls' := [(0, .ref 90), (1, .int 4), (2, .int a2), (3, .int a3)]) (st' := [.long 9999, .long 0, .long a2.toInt64]) (w' := (wd_1062 z a2 a3)) (cs' := 0) (ss' := 0) ?_ (fun _ _ => rfl)
  refine go_cl (k := 2) (st' := [.int 1]) (cs' := 0) (ss' := 0) rfl rfl rfl rfl rfl rfl rfl (wi_t _ a2 0 9999 0 9999 rfl rfl (by omega)) ?_
  refine go_seg 5 (pc' := 25) (ls' := [(0, .ref 90), (1, .int 4), (2, .int a2), (3, .int a3)]) (st' := [.long 9999, .long 1, .long a3.toInt64]) (w' := (wd_1062 z a2 a3)) (cs' := 0) (ss' := 0) ?_ (fun _ _ => rfl)
  refine go_cl (k := 2) (st' := [.int 1]) (cs' := 0) (ss' := 0) rfl rfl rfl rfl rfl rfl rfl (wi_t _ a3 1 9999 1 9999 rfl rfl (by omega)) ?_
  refine go_seg 5 (pc' := 44) (ls' := [(0, .ref 90), (1, .int 4), (2, .int a2), (3, .int a3)]) (st' := [.int 0, .int 4, .ref 91]) (w' := (wd_1062 z a2 a3)) (cs' := 0) (ss' := 0) ?_ (fun _ _ => rfl)
  refine go_cl (k := 2) (st' := [.int 162, .ref 91]) (cs' := 0) (ss' := 0) rfl rfl rfl rfl rfl rfl rfl (ro_689 z a2 a3 (by omega) (by omega) (by omega) (by omega)) ?_
  refine go_seg 6 (pc' := 56) (ls' := [(4, .int 0), (0, .ref 90), (1, .int 4), (2, .int a2), (3, .int a3)]) (st' := [.int 0, .int 4, .ref 91]) (w' := (wd_1062 z a2 a3)) (cs' := 0) (ss' := 0) ?_ (fun _ _ => rfl)
  refine go_cl (k := 2) (st' := [.int 162, .ref 91]) (cs' := 0) (ss' := 0) rfl rfl rfl rfl rfl rfl rfl (ro_689 z a2 a3 (by omega) (by omega) (by omega) (by omega)) ?_
  refine go_seg 6 (pc' := 67) (ls' := [(4, .int 0), (0, .ref 90), (1, .int 4), (2, .int a2), (3, .int a3)]) (st' := [.int 1, .int 4, .ref 91]) (w' := (wd_1063 z a2 a3)) (cs' := 0) (ss' := 0) ?_ (fun _ _ => rfl)
  refine go_cl (k := 2) (st' := [.int 163, .ref 91]) (cs' := 0) (ss' := 0) rfl rfl rfl rfl rfl rfl rfl (ro_691 z a2 a3 (by omega) (by omega) (by omega) (by omega)) ?_
  exact go_end 4 (fun _ _ => rfl)
theorem lf_3_694 (a0 : Int32) (a2 : Int32) (a3 : Int32) (a4 : Int32) (a5 : Int32) (h0 : 0 ≤ a2.toInt) (h1 : a2.toInt < 10000) (h2 : 1 ≤ a3.toInt) (h3 : a3.toInt < 10000) : ∃ w', pq_Go 20 pm_law 327 [(3, .int 0), (2, .ref 90), (1, .ref 1), (0, .ref 0)] [] (fw (sz a0 4 a2 a3 a4 a5)) 109 12668 (some (.int 1), w') := by
  refine ⟨(wd_1064 (sz a0 4 a2 a3 a4 a5) a2 a3), ?_⟩
  refine go_seg 8 (pc' := 335) (ls' := [(3, .int 0), (2, .ref 90), (1, .ref 1), (0, .ref 0)]) (st' := [.int 0, .ref 0, .int 4, .ref 1]) (w' := (fw (sz a0 4 a2 a3 a4 a5))) (cs' := 109) (ss' := 12668) ?_ (fun _ _ => rfl)
  refine go_seg 8 (pc' := 343) (ls' := [(3, .int 0), (2, .ref 90), (1, .ref 1), (0, .ref 0)]) (st' := [.int a3, .int a2, .int 4, .ref 1]) (w' := (fw (sz a0 4 a2 a3 a4 a5))) (cs' := 109) (ss' := 12668) ?_ (fun _ _ => rfl)
  refine go_cl (k := 20) (st' := [.int 0]) (cs' := 109) (ss' := 12668) rfl rfl rfl rfl rfl rfl rfl (ro_685 (sz a0 4 a2 a3 a4 a5) a2 a3 (by omega) (by omega) (by omega) (by omega)) ?_
  refine go_seg 8 (pc' := 354) (ls' := [(3, .int 0), (2, .ref 90), (1, .ref 1), (0, .ref 0)]) (st' := [.int 0, .ref 0, .int 4, .ref 90, .int 0]) (w' := (wd_1062 (sz a0 4 a2 a3 a4 a5) a2 a3)) (cs' := 109) (ss' := 12668) ?_ (fun _ _ => rfl)
  refine go_seg 8 (pc' := 362) (ls' := [(3, .int 0), (2, .ref 90), (1, .ref 1), (0, .ref 0)]) (st' := [.int a3, .int a2, .int 4, .ref 90, .int 0]) (w' := (wd_1062 (sz a0 4 a2 a3 a4 a5) a2 a3)) (cs' := 109) (ss' := 12668) ?_ (fun _ _ => rfl)
  refine go_cl (k := 20) (st' := [.int 0, .int 0]) (cs' := 109) (ss' := 12668) rfl rfl rfl rfl rfl rfl rfl (ro_692 (sz a0 4 a2 a3 a4 a5) a2 a3 (by omega) (by omega) (by omega) (by omega)) ?_
  refine go_cmp true rfl (br_self _) ?_
  exact law_tail (f := sc a0 4 a2 a3 a4 a5) rfl
def wd_1065 (z : pq_C) (a2 : Int32) : pq_W := ((fw z).set 5 (.inl (.int, 8, .inl (upd (fun _ => 0) 5 a2))))
def wd_1066 (z : pq_C) (a2 : Int32) (a3 : Int32) : pq_W := ((wd_1065 z a2).set 6 (.inl (.int, 8, .inl (upd (fl_c 8 1000 (fun _ => 0)) 5 a3))))
theorem ro_696 (z : pq_C) (a2 : Int32) (a3 : Int32) (h0 : 0 ≤ a2.toInt) (h1 : a2.toInt < 10000) (h2 : 1 ≤ a3.toInt) (h3 : a3.toInt < 10000) : pq_Ru 2 23 [.ref 1, .int 5, .int a2, .int a3] (fw z) (some (.int 0), (wd_1066 z a2 a3)) := by
  refine ru_of (k := 1) (M := pm_23) rfl rfl ?_
  refine go_seg 1 (pc' := 1) (ls' := [(0, .ref 1), (1, .int 5), (2, .int a2), (3, .int a3)]) (st' := [.int 5]) (w' := (fw z)) (cs' := 0) (ss' := 0) ?_ (fun _ _ => rfl)
  refine go_cl (k := 1) (st' := [.int 1]) (cs' := 0) (ss' := 0) rfl rfl rfl rfl rfl rfl rfl (ro_594 z) ?_
  refine go_seg 4 (pc' := 12) (ls' := [(0, .ref 1), (1, .int 5), (2, .int a2), (3, .int a3)]) (st' := [.int 9999, .int 0, .int a2]) (w' := (fw z)) (cs' := 0) (ss' := 0) ?_ (fun _ _ => rfl)
  refine go_cl (k := 1) (st' := [.int 1]) (cs' := 0) (ss' := 0) rfl rfl rfl rfl rfl rfl rfl (ro_549 z a2 (by omega) (by omega)) ?_
  refine go_seg 4 (pc' := 23) (ls' := [(0, .ref 1), (1, .int 5), (2, .int a2), (3, .int a3)]) (st' := [.int 9999, .int 1, .int a3]) (w' := (fw z)) (cs' := 0) (ss' := 0) ?_ (fun _ _ => rfl)
  refine go_cl (k := 1) (st' := [.int 1]) (cs' := 0) (ss' := 0) rfl rfl rfl rfl rfl rfl rfl (ro_639 z a3 (by omega) (by omega)) ?_
  refine go_seg 8 (pc' := 47) (ls' := [(4, .int 0), (0, .ref 1), (1, .int 5), (2, .int a2), (3, .int a3)]) (st' := [.ref 1]) (w' := (fw z)) (cs' := 0) (ss' := 0) ?_ (fun _ _ => rfl)
  refine go_seg 8 (pc' := 63) (ls' := [(4, .int 0), (0, .ref 1), (1, .int 5), (2, .int a2), (3, .int a3)]) (st' := [.ref 6]) (w' := (wd_1065 z a2)) (cs' := 0) (ss' := 0) ?_ (fun _ _ => rfl)
  exact go_end 5 (fun _ _ => rfl)
theorem ro_698 (z : pq_C) (a2 : Int32) (a3 : Int32) (h0 : 0 ≤ a2.toInt) (h1 : a2.toInt < 10000) (h2 : 1 ≤ a3.toInt) (h3 : a3.toInt < 10000) : pq_Ru 1 161 [.long 5, .long 0, .long 7] (wd_1066 z a2 a3) (some (.int 1), (wd_1066 z a2 a3)) := by
  refine ru_of (k := 0) (M := pm_161) rfl rfl ?_
  refine go_seg 8 (pc' := 13) (ls' := [(0, .long 5), (2, .long 0), (4, .long 7)]) (st' := []) (w' := (wd_1066 z a2 a3)) (cs' := 0) (ss' := 0) ?_ (fun _ _ => rfl)
  exact go_end 3 (fun _ _ => rfl)
theorem ro_699 (z : pq_C) (a2 : Int32) (a3 : Int32) (h0 : 0 ≤ a2.toInt) (h1 : a2.toInt < 10000) (h2 : 1 ≤ a3.toInt) (h3 : a3.toInt < 10000) : pq_Ru 2 167 [.int 5] (wd_1066 z a2 a3) (some (.int 1), (wd_1066 z a2 a3)) := by
  refine ru_of (k := 1) (M := pm_167) rfl rfl ?_
  refine go_seg 4 (pc' := 6) (ls' := [(0, .int 5)]) (st' := [.long 7, .long 0, .long 5]) (w' := (wd_1066 z a2 a3)) (cs' := 0) (ss' := 0) ?_ (fun _ _ => rfl)
  refine go_cl (k := 1) (st' := [.int 1]) (cs' := 0) (ss' := 0) rfl rfl rfl rfl rfl rfl rfl (ro_698 z a2 a3 (by omega) (by omega) (by omega) (by omega)) ?_
  exact go_end 1 (fun _ _ => rfl)
theorem ro_700 (z : pq_C) (a2 : Int32) (a3 : Int32) (h0 : 0 ≤ a2.toInt) (h1 : a2.toInt < 10000) (h2 : 1 ≤ a3.toInt) (h3 : a3.toInt < 10000) : pq_Ru 1 168 [.int 5, .int 0] (wd_1066 z a2 a3) (some (.int 168), (wd_1066 z a2 a3)) := by
  refine ru_of (k := 0) (M := pm_168) rfl rfl ?_
  exact go_end 8 (fun _ _ => rfl)
def wd_1067 (z : pq_C) (a2 : Int32) (a3 : Int32) : pq_W := ((wd_1066 z a2 a3).set 91 (.inl (.int, 2858, .inl (upd (upd (upd (upd (upd (upd (upd (upd (upd (upd (upd (upd (upd (upd (upd (upd (upd (upd (upd (upd (upd (upd (upd (upd (upd (upd (upd (upd (upd (upd (upd (upd (upd (upd (upd (upd (upd (upd (upd (upd (upd (upd (upd (upd (upd (upd (upd (upd (upd (upd (upd (upd (upd (upd (upd (upd (upd (upd (upd (upd (upd (upd (upd (upd (upd (upd (upd (upd (upd (upd (upd (upd (upd (upd (upd (upd (upd (upd (upd (upd (upd (upd (fun _ => 0) 1 10) 10 (-1)) 11 (-1)) 12 (-1)) 13 (-1)) 14 (-1)) 15 (-1)) 16 (-1)) 17 (-1)) 18 (-1)) 19 (-1)) 20 (-1)) 21 (-1)) 22 (-1)) 23 (-1)) 24 (-1)) 25 (-1)) 26 (-1)) 27 (-1)) 28 (-1)) 29 (-1)) 30 (-1)) 31 (-1)) 32 (-1)) 33 (-1)) 34 (-1)) 35 (-1)) 36 (-1)) 37 (-1)) 38 (-1)) 39 (-1)) 40 (-1)) 41 (-1)) 42 (-1)) 43 (-1)) 44 (-1)) 45 (-1)) 46 (-1)) 47 (-1)) 48 (-1)) 49 (-1)) 50 (-1)) 51 (-1)) 52 (-1)) 53 (-1)) 54 (-1)) 55 (-1)) 56 (-1)) 57 (-1)) 58 (-1)) 59 (-1)) 60 (-1)) 61 (-1)) 62 (-1)) 63 (-1)) 64 (-1)) 65 (-1)) 66 (-1)) 67 (-1)) 68 (-1)) 69 (-1)) 70 (-1)) 71 (-1)) 72 (-1)) 73 (-1)) 139 1000) 140 100) 145 1000) 146 100) 151 1000) 152 100) 157 1000) 158 100) 163 1000) 164 100) 169 1000) 170 100) 175 1000) 176 100) 181 1000) 182 100) 168 a2))))
theorem ro_702 (z : pq_C) (a2 : Int32) (a3 : Int32) (h0 : 0 ≤ a2.toInt) (h1 : a2.toInt < 10000) (h2 : 1 ≤ a3.toInt) (h3 : a3.toInt < 10000) : pq_Ru 1 168 [.int 5, .int 1] (wd_1067 z a2 a3) (some (.int 169), (wd_1067 z a2 a3)) := by
  refine ru_of (k := 0) (M := pm_168) rfl rfl ?_
  exact go_end 8 (fun _ _ => rfl)
def wd_1068 (z : pq_C) (a2 : Int32) (a3 : Int32) : pq_W := ((wd_1067 z a2 a3).set 91 (.inl (.int, 2858, .inl (upd (upd (upd (upd (upd (upd (upd (upd (upd (upd (upd (upd (upd (upd (upd (upd (upd (upd (upd (upd (upd (upd (upd (upd (upd (upd (upd (upd (upd (upd (upd (upd (upd (upd (upd (upd (upd (upd (upd (upd (upd (upd (upd (upd (upd (upd (upd (upd (upd (upd (upd (upd (upd (upd (upd (upd (upd (upd (upd (upd (upd (upd (upd (upd (upd (upd (upd (upd (upd (upd (upd (upd (upd (upd (upd (upd (upd (upd (upd (upd (upd (upd (upd (fun _ => 0) 1 10) 10 (-1)) 11 (-1)) 12 (-1)) 13 (-1)) 14 (-1)) 15 (-1)) 16 (-1)) 17 (-1)) 18 (-1)) 19 (-1)) 20 (-1)) 21 (-1)) 22 (-1)) 23 (-1)) 24 (-1)) 25 (-1)) 26 (-1)) 27 (-1)) 28 (-1)) 29 (-1)) 30 (-1)) 31 (-1)) 32 (-1)) 33 (-1)) 34 (-1)) 35 (-1)) 36 (-1)) 37 (-1)) 38 (-1)) 39 (-1)) 40 (-1)) 41 (-1)) 42 (-1)) 43 (-1)) 44 (-1)) 45 (-1)) 46 (-1)) 47 (-1)) 48 (-1)) 49 (-1)) 50 (-1)) 51 (-1)) 52 (-1)) 53 (-1)) 54 (-1)) 55 (-1)) 56 (-1)) 57 (-1)) 58 (-1)) 59 (-1)) 60 (-1)) 61 (-1)) 62 (-1)) 63 (-1)) 64 (-1)) 65 (-1)) 66 (-1)) 67 (-1)) 68 (-1)) 69 (-1)) 70 (-1)) 71 (-1)) 72 (-1)) 73 (-1)) 139 1000) 140 100) 145 1000) 146 100) 151 1000) 152 100) 157 1000) 158 100) 163 1000) 164 100) 169 1000) 170 100) 175 1000) 176 100) 181 1000) 182 100) 168 a2) 169 a3))))
theorem ro_703 (z : pq_C) (a2 : Int32) (a3 : Int32) (h0 : 0 ≤ a2.toInt) (h1 : a2.toInt < 10000) (h2 : 1 ≤ a3.toInt) (h3 : a3.toInt < 10000) : pq_Ru 3 166 [.ref 90, .int 5, .int a2, .int a3] (wd_1066 z a2 a3) (some (.int 0), (wd_1068 z a2 a3)) := by
  refine ru_of (k := 2) (M := pm_166) rfl rfl ?_
  refine go_seg 1 (pc' := 1) (ls' := [(0, .ref 90), (1, .int 5), (2, .int a2), (3, .int a3)]) (st' := [.int 5]) (w' := (wd_1066 z a2 a3)) (cs' := 0) (ss' := 0) ?_ (fun _ _ => rfl)
  refine go_cl (k := 2) (st' := [.int 1]) (cs' := 0) (ss' := 0) rfl rfl rfl rfl rfl rfl rfl (ro_699 z a2 a3 (by omega) (by omega) (by omega) (by omega)) ?_
  refine go_seg 5 (pc' := 13) (ls' := [(0, .ref 90), (1, .int 5), (2, .int a2), (3, .int a3)]) (st' := [.long 9999, .long 0, .long a2.toInt64]) (w' := (wd_1066 z a2 a3)) (cs' := 0) (ss' := 0) ?_ (fun _ _ => rfl)
  refine go_cl (k := 2) (st' := [.int 1]) (cs' := 0) (ss' := 0) rfl rfl rfl rfl rfl rfl rfl (wi_t _ a2 0 9999 0 9999 rfl rfl (by omega)) ?_
  refine go_seg 5 (pc' := 25) (ls' := [(0, .ref 90), (1, .int 5), (2, .int a2), (3, .int a3)]) (st' := [.long 9999, .long 1, .long a3.toInt64]) (w' := (wd_1066 z a2 a3)) (cs' := 0) (ss' := 0) ?_ (fun _ _ => rfl)
  refine go_cl (k := 2) (st' := [.int 1]) (cs' := 0) (ss' := 0) rfl rfl rfl rfl rfl rfl rfl (wi_t _ a3 1 9999 1 9999 rfl rfl (by omega)) ?_
  refine go_seg 5 (pc' := 44) (ls' := [(0, .ref 90), (1, .int 5), (2, .int a2), (3, .int a3)]) (st' := [.int 0, .int 5, .ref 91]) (w' := (wd_1066 z a2 a3)) (cs' := 0) (ss' := 0) ?_ (fun _ _ => rfl)
  refine go_cl (k := 2) (st' := [.int 168, .ref 91]) (cs' := 0) (ss' := 0) rfl rfl rfl rfl rfl rfl rfl (ro_700 z a2 a3 (by omega) (by omega) (by omega) (by omega)) ?_
  refine go_seg 6 (pc' := 56) (ls' := [(4, .int 0), (0, .ref 90), (1, .int 5), (2, .int a2), (3, .int a3)]) (st' := [.int 0, .int 5, .ref 91]) (w' := (wd_1066 z a2 a3)) (cs' := 0) (ss' := 0) ?_ (fun _ _ => rfl)
  refine go_cl (k := 2) (st' := [.int 168, .ref 91]) (cs' := 0) (ss' := 0) rfl rfl rfl rfl rfl rfl rfl (ro_700 z a2 a3 (by omega) (by omega) (by omega) (by omega)) ?_
  refine go_seg 6 (pc' := 67) (ls' := [(4, .int 0), (0, .ref 90), (1, .int 5), (2, .int a2), (3, .int a3)]) (st' := [.int 1, .int 5, .ref 91]) (w' := (wd_1067 z a2 a3)) (cs' := 0) (ss' := 0) ?_ (fun _ _ => rfl)
  refine go_cl (k := 2) (st' := [.int 169, .ref 91]) (cs' := 0) (ss' := 0) rfl rfl rfl rfl rfl rfl rfl (ro_702 z a2 a3 (by omega) (by omega) (by omega) (by omega)) ?_
  exact go_end 4 (fun _ _ => rfl)
theorem lf_3_705 (a0 : Int32) (a2 : Int32) (a3 : Int32) (a4 : Int32) (a5 : Int32) (h0 : 0 ≤ a2.toInt) (h1 : a2.toInt < 10000) (h2 : 1 ≤ a3.toInt) (h3 : a3.toInt < 10000) : ∃ w', pq_Go 20 pm_law 327 [(3, .int 0), (2, .ref 90), (1, .ref 1), (0, .ref 0)] [] (fw (sz a0 5 a2 a3 a4 a5)) 109 12668 (some (.int 1), w') := by
  refine ⟨(wd_1068 (sz a0 5 a2 a3 a4 a5) a2 a3), ?_⟩
  refine go_seg 8 (pc' := 335) (ls' := [(3, .int 0), (2, .ref 90), (1, .ref 1), (0, .ref 0)]) (st' := [.int 0, .ref 0, .int 5, .ref 1]) (w' := (fw (sz a0 5 a2 a3 a4 a5))) (cs' := 109) (ss' := 12668) ?_ (fun _ _ => rfl)
  refine go_seg 8 (pc' := 343) (ls' := [(3, .int 0), (2, .ref 90), (1, .ref 1), (0, .ref 0)]) (st' := [.int a3, .int a2, .int 5, .ref 1]) (w' := (fw (sz a0 5 a2 a3 a4 a5))) (cs' := 109) (ss' := 12668) ?_ (fun _ _ => rfl)
  refine go_cl (k := 20) (st' := [.int 0]) (cs' := 109) (ss' := 12668) rfl rfl rfl rfl rfl rfl rfl (ro_696 (sz a0 5 a2 a3 a4 a5) a2 a3 (by omega) (by omega) (by omega) (by omega)) ?_
  refine go_seg 8 (pc' := 354) (ls' := [(3, .int 0), (2, .ref 90), (1, .ref 1), (0, .ref 0)]) (st' := [.int 0, .ref 0, .int 5, .ref 90, .int 0]) (w' := (wd_1066 (sz a0 5 a2 a3 a4 a5) a2 a3)) (cs' := 109) (ss' := 12668) ?_ (fun _ _ => rfl)
  refine go_seg 8 (pc' := 362) (ls' := [(3, .int 0), (2, .ref 90), (1, .ref 1), (0, .ref 0)]) (st' := [.int a3, .int a2, .int 5, .ref 90, .int 0]) (w' := (wd_1066 (sz a0 5 a2 a3 a4 a5) a2 a3)) (cs' := 109) (ss' := 12668) ?_ (fun _ _ => rfl)
  refine go_cl (k := 20) (st' := [.int 0, .int 0]) (cs' := 109) (ss' := 12668) rfl rfl rfl rfl rfl rfl rfl (ro_703 (sz a0 5 a2 a3 a4 a5) a2 a3 (by omega) (by omega) (by omega) (by omega)) ?_
  refine go_cmp true rfl (br_self _) ?_
  exact law_tail (f := sc a0 5 a2 a3 a4 a5) rfl
def wd_1069 (z : pq_C) (a2 : Int32) : pq_W := ((fw z).set 5 (.inl (.int, 8, .inl (upd (fun _ => 0) 6 a2))))
def wd_1070 (z : pq_C) (a2 : Int32) (a3 : Int32) : pq_W := ((wd_1069 z a2).set 6 (.inl (.int, 8, .inl (upd (fl_c 8 1000 (fun _ => 0)) 6 a3))))
theorem ro_707 (z : pq_C) (a2 : Int32) (a3 : Int32) (h0 : 0 ≤ a2.toInt) (h1 : a2.toInt < 10000) (h2 : 1 ≤ a3.toInt) (h3 : a3.toInt < 10000) : pq_Ru 2 23 [.ref 1, .int 6, .int a2, .int a3] (fw z) (some (.int 0), (wd_1070 z a2 a3)) := by
  refine ru_of (k := 1) (M := pm_23) rfl rfl ?_
  refine go_seg 1 (pc' := 1) (ls' := [(0, .ref 1), (1, .int 6), (2, .int a2), (3, .int a3)]) (st' := [.int 6]) (w' := (fw z)) (cs' := 0) (ss' := 0) ?_ (fun _ _ => rfl)
  refine go_cl (k := 1) (st' := [.int 1]) (cs' := 0) (ss' := 0) rfl rfl rfl rfl rfl rfl rfl (ro_603 z) ?_
  refine go_seg 4 (pc' := 12) (ls' := [(0, .ref 1), (1, .int 6), (2, .int a2), (3, .int a3)]) (st' := [.int 9999, .int 0, .int a2]) (w' := (fw z)) (cs' := 0) (ss' := 0) ?_ (fun _ _ => rfl)
  refine go_cl (k := 1) (st' := [.int 1]) (cs' := 0) (ss' := 0) rfl rfl rfl rfl rfl rfl rfl (ro_549 z a2 (by omega) (by omega)) ?_
  refine go_seg 4 (pc' := 23) (ls' := [(0, .ref 1), (1, .int 6), (2, .int a2), (3, .int a3)]) (st' := [.int 9999, .int 1, .int a3]) (w' := (fw z)) (cs' := 0) (ss' := 0) ?_ (fun _ _ => rfl)
  refine go_cl (k := 1) (st' := [.int 1]) (cs' := 0) (ss' := 0) rfl rfl rfl rfl rfl rfl rfl (ro_639 z a3 (by omega) (by omega)) ?_
  refine go_seg 8 (pc' := 47) (ls' := [(4, .int 0), (0, .ref 1), (1, .int 6), (2, .int a2), (3, .int a3)]) (st' := [.ref 1]) (w' := (fw z)) (cs' := 0) (ss' := 0) ?_ (fun _ _ => rfl)
  refine go_seg 8 (pc' := 63) (ls' := [(4, .int 0), (0, .ref 1), (1, .int 6), (2, .int a2), (3, .int a3)]) (st' := [.ref 6]) (w' := (wd_1069 z a2)) (cs' := 0) (ss' := 0) ?_ (fun _ _ => rfl)
  exact go_end 5 (fun _ _ => rfl)
theorem ro_709 (z : pq_C) (a2 : Int32) (a3 : Int32) (h0 : 0 ≤ a2.toInt) (h1 : a2.toInt < 10000) (h2 : 1 ≤ a3.toInt) (h3 : a3.toInt < 10000) : pq_Ru 1 161 [.long 6, .long 0, .long 7] (wd_1070 z a2 a3) (some (.int 1), (wd_1070 z a2 a3)) := by
  refine ru_of (k := 0) (M := pm_161) rfl rfl ?_
  refine go_seg 8 (pc' := 13) (ls' := [(0, .long 6), (2, .long 0), (4, .long 7)]) (st' := []) (w' := (wd_1070 z a2 a3)) (cs' := 0) (ss' := 0) ?_ (fun _ _ => rfl)
  exact go_end 3 (fun _ _ => rfl)
theorem ro_710 (z : pq_C) (a2 : Int32) (a3 : Int32) (h0 : 0 ≤ a2.toInt) (h1 : a2.toInt < 10000) (h2 : 1 ≤ a3.toInt) (h3 : a3.toInt < 10000) : pq_Ru 2 167 [.int 6] (wd_1070 z a2 a3) (some (.int 1), (wd_1070 z a2 a3)) := by
  refine ru_of (k := 1) (M := pm_167) rfl rfl ?_
  refine go_seg 4 (pc' := 6) (ls' := [(0, .int 6)]) (st' := [.long 7, .long 0, .long 6]) (w' := (wd_1070 z a2 a3)) (cs' := 0) (ss' := 0) ?_ (fun _ _ => rfl)
  refine go_cl (k := 1) (st' := [.int 1]) (cs' := 0) (ss' := 0) rfl rfl rfl rfl rfl rfl rfl (ro_709 z a2 a3 (by omega) (by omega) (by omega) (by omega)) ?_
  exact go_end 1 (fun _ _ => rfl)
theorem ro_711 (z : pq_C) (a2 : Int32) (a3 : Int32) (h0 : 0 ≤ a2.toInt) (h1 : a2.toInt < 10000) (h2 : 1 ≤ a3.toInt) (h3 : a3.toInt < 10000) : pq_Ru 1 168 [.int 6, .int 0] (wd_1070 z a2 a3) (some (.int 174), (wd_1070 z a2 a3)) := by
  refine ru_of (k := 0) (M := pm_168) rfl rfl ?_
  exact go_end 8 (fun _ _ => rfl)
def wd_1071 (z : pq_C) (a2 : Int32) (a3 : Int32) : pq_W := ((wd_1070 z a2 a3).set 91 (.inl (.int, 2858, .inl (upd (upd (upd (upd (upd (upd (upd (upd (upd (upd (upd (upd (upd (upd (upd (upd (upd (upd (upd (upd (upd (upd (upd (upd (upd (upd (upd (upd (upd (upd (upd (upd (upd (upd (upd (upd (upd (upd (upd (upd (upd (upd (upd (upd (upd (upd (upd (upd (upd (upd (upd (upd (upd (upd (upd (upd (upd (upd (upd (upd (upd (upd (upd (upd (upd (upd (upd (upd (upd (upd (upd (upd (upd (upd (upd (upd (upd (upd (upd (upd (upd (upd (fun _ => 0) 1 10) 10 (-1)) 11 (-1)) 12 (-1)) 13 (-1)) 14 (-1)) 15 (-1)) 16 (-1)) 17 (-1)) 18 (-1)) 19 (-1)) 20 (-1)) 21 (-1)) 22 (-1)) 23 (-1)) 24 (-1)) 25 (-1)) 26 (-1)) 27 (-1)) 28 (-1)) 29 (-1)) 30 (-1)) 31 (-1)) 32 (-1)) 33 (-1)) 34 (-1)) 35 (-1)) 36 (-1)) 37 (-1)) 38 (-1)) 39 (-1)) 40 (-1)) 41 (-1)) 42 (-1)) 43 (-1)) 44 (-1)) 45 (-1)) 46 (-1)) 47 (-1)) 48 (-1)) 49 (-1)) 50 (-1)) 51 (-1)) 52 (-1)) 53 (-1)) 54 (-1)) 55 (-1)) 56 (-1)) 57 (-1)) 58 (-1)) 59 (-1)) 60 (-1)) 61 (-1)) 62 (-1)) 63 (-1)) 64 (-1)) 65 (-1)) 66 (-1)) 67 (-1)) 68 (-1)) 69 (-1)) 70 (-1)) 71 (-1)) 72 (-1)) 73 (-1)) 139 1000) 140 100) 145 1000) 146 100) 151 1000) 152 100) 157 1000) 158 100) 163 1000) 164 100) 169 1000) 170 100) 175 1000) 176 100) 181 1000) 182 100) 174 a2))))
theorem ro_713 (z : pq_C) (a2 : Int32) (a3 : Int32) (h0 : 0 ≤ a2.toInt) (h1 : a2.toInt < 10000) (h2 : 1 ≤ a3.toInt) (h3 : a3.toInt < 10000) : pq_Ru 1 168 [.int 6, .int 1] (wd_1071 z a2 a3) (some (.int 175), (wd_1071 z a2 a3)) := by
  refine ru_of (k := 0) (M := pm_168) rfl rfl ?_
  exact go_end 8 (fun _ _ => rfl)
def wd_1072 (z : pq_C) (a2 : Int32) (a3 : Int32) : pq_W := ((wd_1071 z a2 a3).set 91 (.inl (.int, 2858, .inl (upd (upd (upd (upd (upd (upd (upd (upd (upd (upd (upd (upd (upd (upd (upd (upd (upd (upd (upd (upd (upd (upd (upd (upd (upd (upd (upd (upd (upd (upd (upd (upd (upd (upd (upd (upd (upd (upd (upd (upd (upd (upd (upd (upd (upd (upd (upd (upd (upd (upd (upd (upd (upd (upd (upd (upd (upd (upd (upd (upd (upd (upd (upd (upd (upd (upd (upd (upd (upd (upd (upd (upd (upd (upd (upd (upd (upd (upd (upd (upd (upd (upd (upd (fun _ => 0) 1 10) 10 (-1)) 11 (-1)) 12 (-1)) 13 (-1)) 14 (-1)) 15 (-1)) 16 (-1)) 17 (-1)) 18 (-1)) 19 (-1)) 20 (-1)) 21 (-1)) 22 (-1)) 23 (-1)) 24 (-1)) 25 (-1)) 26 (-1)) 27 (-1)) 28 (-1)) 29 (-1)) 30 (-1)) 31 (-1)) 32 (-1)) 33 (-1)) 34 (-1)) 35 (-1)) 36 (-1)) 37 (-1)) 38 (-1)) 39 (-1)) 40 (-1)) 41 (-1)) 42 (-1)) 43 (-1)) 44 (-1)) 45 (-1)) 46 (-1)) 47 (-1)) 48 (-1)) 49 (-1)) 50 (-1)) 51 (-1)) 52 (-1)) 53 (-1)) 54 (-1)) 55 (-1)) 56 (-1)) 57 (-1)) 58 (-1)) 59 (-1)) 60 (-1)) 61 (-1)) 62 (-1)) 63 (-1)) 64 (-1)) 65 (-1)) 66 (-1)) 67 (-1)) 68 (-1)) 69 (-1)) 70 (-1)) 71 (-1)) 72 (-1)) 73 (-1)) 139 1000) 140 100) 145 1000) 146 100) 151 1000) 152 100) 157 1000) 158 100) 163 1000) 164 100) 169 1000) 170 100) 175 1000) 176 100) 181 1000) 182 100) 174 a2) 175 a3))))
theorem ro_714 (z : pq_C) (a2 : Int32) (a3 : Int32) (h0 : 0 ≤ a2.toInt) (h1 : a2.toInt < 10000) (h2 : 1 ≤ a3.toInt) (h3 : a3.toInt < 10000) : pq_Ru 3 166 [.ref 90, .int 6, .int a2, .int a3] (wd_1070 z a2 a3) (some (.int 0), (wd_1072 z a2 a3)) := by
  refine ru_of (k := 2) (M := pm_166) rfl rfl ?_
  refine go_seg 1 (pc' := 1) (ls' := [(0, .ref 90), (1, .int 6), (2, .int a2), (3, .int a3)]) (st' := [.int 6]) (w' := (wd_1070 z a2 a3)) (cs' := 0) (ss' := 0) ?_ (fun _ _ => rfl)
  refine go_cl (k := 2) (st' := [.int 1]) (cs' := 0) (ss' := 0) rfl rfl rfl rfl rfl rfl rfl (ro_710 z a2 a3 (by omega) (by omega) (by omega) (by omega)) ?_
  refine go_seg 5 (pc' := 13) (ls' := [(0, .ref 90), (1, .int 6), (2, .int a2), (3, .int a3)]) (st' := [.long 9999, .long 0, .long a2.toInt64]) (w' := (wd_1070 z a2 a3)) (cs' := 0) (ss' := 0) ?_ (fun _ _ => rfl)
  refine go_cl (k := 2) (st' := [.int 1]) (cs' := 0) (ss' := 0) rfl rfl rfl rfl rfl rfl rfl (wi_t _ a2 0 9999 0 9999 rfl rfl (by omega)) ?_
  refine go_seg 5 (pc' := 25) (ls' := [(0, .ref 90), (1, .int 6), (2, .int a2), (3, .int a3)]) (st' := [.long 9999, .long 1, .long a3.toInt64]) (w' := (wd_1070 z a2 a3)) (cs' := 0) (ss' := 0) ?_ (fun _ _ => rfl)
  refine go_cl (k := 2) (st' := [.int 1]) (cs' := 0) (ss' := 0) rfl rfl rfl rfl rfl rfl rfl (wi_t _ a3 1 9999 1 9999 rfl rfl (by omega)) ?_
  refine go_seg 5 (pc' := 44) (ls' := [(0, .ref 90), (1, .int 6), (2, .int a2), (3, .int a3)]) (st' := [.int 0, .int 6, .ref 91]) (w' := (wd_1070 z a2 a3)) (cs' := 0) (ss' := 0) ?_ (fun _ _ => rfl)
  refine go_cl (k := 2) (st' := [.int 174, .ref 91]) (cs' := 0) (ss' := 0) rfl rfl rfl rfl rfl rfl rfl (ro_711 z a2 a3 (by omega) (by omega) (by omega) (by omega)) ?_
  refine go_seg 6 (pc' := 56) (ls' := [(4, .int 0), (0, .ref 90), (1, .int 6), (2, .int a2), (3, .int a3)]) (st' := [.int 0, .int 6, .ref 91]) (w' := (wd_1070 z a2 a3)) (cs' := 0) (ss' := 0) ?_ (fun _ _ => rfl)
  refine go_cl (k := 2) (st' := [.int 174, .ref 91]) (cs' := 0) (ss' := 0) rfl rfl rfl rfl rfl rfl rfl (ro_711 z a2 a3 (by omega) (by omega) (by omega) (by omega)) ?_
  refine go_seg 6 (pc' := 67) (ls' := [(4, .int 0), (0, .ref 90), (1, .int 6), (2, .int a2), (3, .int a3)]) (st' := [.int 1, .int 6, .ref 91]) (w' := (wd_1071 z a2 a3)) (cs' := 0) (ss' := 0) ?_ (fun _ _ => rfl)
  refine go_cl (k := 2) (st' := [.int 175, .ref 91]) (cs' := 0) (ss' := 0) rfl rfl rfl rfl rfl rfl rfl (ro_713 z a2 a3 (by omega) (by omega) (by omega) (by omega)) ?_
  exact go_end 4 (fun _ _ => rfl)
theorem lf_3_716 (a0 : Int32) (a2 : Int32) (a3 : Int32) (a4 : Int32) (a5 : Int32) (h0 : 0 ≤ a2.toInt) (h1 : a2.toInt < 10000) (h2 : 1 ≤ a3.toInt) (h3 : a3.toInt < 10000) : ∃ w', pq_Go 20 pm_law 327 [(3, .int 0), (2, .ref 90), (1, .ref 1), (0, .ref 0)] [] (fw (sz a0 6 a2 a3 a4 a5)) 109 12668 (some (.int 1), w') := by
  refine ⟨(wd_1072 (sz a0 6 a2 a3 a4 a5) a2 a3), ?_⟩
  refine go_seg 8 (pc' := 335) (ls' := [(3, .int 0), (2, .ref 90), (1, .ref 1), (0, .ref 0)]) (st' := [.int 0, .ref 0, .int 6, .ref 1]) (w' := (fw (sz a0 6 a2 a3 a4 a5))) (cs' := 109) (ss' := 12668) ?_ (fun _ _ => rfl)
  refine go_seg 8 (pc' := 343) (ls' := [(3, .int 0), (2, .ref 90), (1, .ref 1), (0, .ref 0)]) (st' := [.int a3, .int a2, .int 6, .ref 1]) (w' := (fw (sz a0 6 a2 a3 a4 a5))) (cs' := 109) (ss' := 12668) ?_ (fun _ _ => rfl)
  refine go_cl (k := 20) (st' := [.int 0]) (cs' := 109) (ss' := 12668) rfl rfl rfl rfl rfl rfl rfl (ro_707 (sz a0 6 a2 a3 a4 a5) a2 a3 (by omega) (by omega) (by omega) (by omega)) ?_
  refine go_seg 8 (pc' := 354) (ls' := [(3, .int 0), (2, .ref 90), (1, .ref 1), (0, .ref 0)]) (st' := [.int 0, .ref 0, .int 6, .ref 90, .int 0]) (w' := (wd_1070 (sz a0 6 a2 a3 a4 a5) a2 a3)) (cs' := 109) (ss' := 12668) ?_ (fun _ _ => rfl)
  refine go_seg 8 (pc' := 362) (ls' := [(3, .int 0), (2, .ref 90), (1, .ref 1), (0, .ref 0)]) (st' := [.int a3, .int a2, .int 6, .ref 90, .int 0]) (w' := (wd_1070 (sz a0 6 a2 a3 a4 a5) a2 a3)) (cs' := 109) (ss' := 12668) ?_ (fun _ _ => rfl)
  refine go_cl (k := 20) (st' := [.int 0, .int 0]) (cs' := 109) (ss' := 12668) rfl rfl rfl rfl rfl rfl rfl (ro_714 (sz a0 6 a2 a3 a4 a5) a2 a3 (by omega) (by omega) (by omega) (by omega)) ?_
  refine go_cmp true rfl (br_self _) ?_
  exact law_tail (f := sc a0 6 a2 a3 a4 a5) rfl
def wd_1073 (z : pq_C) (a2 : Int32) : pq_W := ((fw z).set 5 (.inl (.int, 8, .inl (upd (fun _ => 0) 7 a2))))
def wd_1074 (z : pq_C) (a2 : Int32) (a3 : Int32) : pq_W := ((wd_1073 z a2).set 6 (.inl (.int, 8, .inl (upd (fl_c 8 1000 (fun _ => 0)) 7 a3))))
theorem ro_718 (z : pq_C) (a2 : Int32) (a3 : Int32) (h0 : 0 ≤ a2.toInt) (h1 : a2.toInt < 10000) (h2 : 1 ≤ a3.toInt) (h3 : a3.toInt < 10000) : pq_Ru 2 23 [.ref 1, .int 7, .int a2, .int a3] (fw z) (some (.int 0), (wd_1074 z a2 a3)) := by
  refine ru_of (k := 1) (M := pm_23) rfl rfl ?_
  refine go_seg 1 (pc' := 1) (ls' := [(0, .ref 1), (1, .int 7), (2, .int a2), (3, .int a3)]) (st' := [.int 7]) (w' := (fw z)) (cs' := 0) (ss' := 0) ?_ (fun _ _ => rfl)
  refine go_cl (k := 1) (st' := [.int 1]) (cs' := 0) (ss' := 0) rfl rfl rfl rfl rfl rfl rfl (ro_612 z) ?_
  refine go_seg 4 (pc' := 12) (ls' := [(0, .ref 1), (1, .int 7), (2, .int a2), (3, .int a3)]) (st' := [.int 9999, .int 0, .int a2]) (w' := (fw z)) (cs' := 0) (ss' := 0) ?_ (fun _ _ => rfl)
  refine go_cl (k := 1) (st' := [.int 1]) (cs' := 0) (ss' := 0) rfl rfl rfl rfl rfl rfl rfl (ro_549 z a2 (by omega) (by omega)) ?_
  refine go_seg 4 (pc' := 23) (ls' := [(0, .ref 1), (1, .int 7), (2, .int a2), (3, .int a3)]) (st' := [.int 9999, .int 1, .int a3]) (w' := (fw z)) (cs' := 0) (ss' := 0) ?_ (fun _ _ => rfl)
  refine go_cl (k := 1) (st' := [.int 1]) (cs' := 0) (ss' := 0) rfl rfl rfl rfl rfl rfl rfl (ro_639 z a3 (by omega) (by omega)) ?_
  refine go_seg 8 (pc' := 47) (ls' := [(4, .int 0), (0, .ref 1), (1, .int 7), (2, .int a2), (3, .int a3)]) (st' := [.ref 1]) (w' := (fw z)) (cs' := 0) (ss' := 0) ?_ (fun _ _ => rfl)
  refine go_seg 8 (pc' := 63) (ls' := [(4, .int 0), (0, .ref 1), (1, .int 7), (2, .int a2), (3, .int a3)]) (st' := [.ref 6]) (w' := (wd_1073 z a2)) (cs' := 0) (ss' := 0) ?_ (fun _ _ => rfl)
  exact go_end 5 (fun _ _ => rfl)
theorem ro_720 (z : pq_C) (a2 : Int32) (a3 : Int32) (h0 : 0 ≤ a2.toInt) (h1 : a2.toInt < 10000) (h2 : 1 ≤ a3.toInt) (h3 : a3.toInt < 10000) : pq_Ru 1 161 [.long 7, .long 0, .long 7] (wd_1074 z a2 a3) (some (.int 1), (wd_1074 z a2 a3)) := by
  refine ru_of (k := 0) (M := pm_161) rfl rfl ?_
  refine go_seg 8 (pc' := 13) (ls' := [(0, .long 7), (2, .long 0), (4, .long 7)]) (st' := []) (w' := (wd_1074 z a2 a3)) (cs' := 0) (ss' := 0) ?_ (fun _ _ => rfl)
  exact go_end 3 (fun _ _ => rfl)
theorem ro_721 (z : pq_C) (a2 : Int32) (a3 : Int32) (h0 : 0 ≤ a2.toInt) (h1 : a2.toInt < 10000) (h2 : 1 ≤ a3.toInt) (h3 : a3.toInt < 10000) : pq_Ru 2 167 [.int 7] (wd_1074 z a2 a3) (some (.int 1), (wd_1074 z a2 a3)) := by
  refine ru_of (k := 1) (M := pm_167) rfl rfl ?_
  refine go_seg 4 (pc' := 6) (ls' := [(0, .int 7)]) (st' := [.long 7, .long 0, .long 7]) (w' := (wd_1074 z a2 a3)) (cs' := 0) (ss' := 0) ?_ (fun _ _ => rfl)
  refine go_cl (k := 1) (st' := [.int 1]) (cs' := 0) (ss' := 0) rfl rfl rfl rfl rfl rfl rfl (ro_720 z a2 a3 (by omega) (by omega) (by omega) (by omega)) ?_
  exact go_end 1 (fun _ _ => rfl)
theorem ro_722 (z : pq_C) (a2 : Int32) (a3 : Int32) (h0 : 0 ≤ a2.toInt) (h1 : a2.toInt < 10000) (h2 : 1 ≤ a3.toInt) (h3 : a3.toInt < 10000) : pq_Ru 1 168 [.int 7, .int 0] (wd_1074 z a2 a3) (some (.int 180), (wd_1074 z a2 a3)) := by
  refine ru_of (k := 0) (M := pm_168) rfl rfl ?_
  exact go_end 8 (fun _ _ => rfl)
def wd_1075 (z : pq_C) (a2 : Int32) (a3 : Int32) : pq_W := ((wd_1074 z a2 a3).set 91 (.inl (.int, 2858, .inl (upd (upd (upd (upd (upd (upd (upd (upd (upd (upd (upd (upd (upd (upd (upd (upd (upd (upd (upd (upd (upd (upd (upd (upd (upd (upd (upd (upd (upd (upd (upd (upd (upd (upd (upd (upd (upd (upd (upd (upd (upd (upd (upd (upd (upd (upd (upd (upd (upd (upd (upd (upd (upd (upd (upd (upd (upd (upd (upd (upd (upd (upd (upd (upd (upd (upd (upd (upd (upd (upd (upd (upd (upd (upd (upd (upd (upd (upd (upd (upd (upd (upd (fun _ => 0) 1 10) 10 (-1)) 11 (-1)) 12 (-1)) 13 (-1)) 14 (-1)) 15 (-1)) 16 (-1)) 17 (-1)) 18 (-1)) 19 (-1)) 20 (-1)) 21 (-1)) 22 (-1)) 23 (-1)) 24 (-1)) 25 (-1)) 26 (-1)) 27 (-1)) 28 (-1)) 29 (-1)) 30 (-1)) 31 (-1)) 32 (-1)) 33 (-1)) 34 (-1)) 35 (-1)) 36 (-1)) 37 (-1)) 38 (-1)) 39 (-1)) 40 (-1)) 41 (-1)) 42 (-1)) 43 (-1)) 44 (-1)) 45 (-1)) 46 (-1)) 47 (-1)) 48 (-1)) 49 (-1)) 50 (-1)) 51 (-1)) 52 (-1)) 53 (-1)) 54 (-1)) 55 (-1)) 56 (-1)) 57 (-1)) 58 (-1)) 59 (-1)) 60 (-1)) 61 (-1)) 62 (-1)) 63 (-1)) 64 (-1)) 65 (-1)) 66 (-1)) 67 (-1)) 68 (-1)) 69 (-1)) 70 (-1)) 71 (-1)) 72 (-1)) 73 (-1)) 139 1000) 140 100) 145 1000) 146 100) 151 1000) 152 100) 157 1000) 158 100) 163 1000) 164 100) 169 1000) 170 100) 175 1000) 176 100) 181 1000) 182 100) 180 a2))))
theorem ro_724 (z : pq_C) (a2 : Int32) (a3 : Int32) (h0 : 0 ≤ a2.toInt) (h1 : a2.toInt < 10000) (h2 : 1 ≤ a3.toInt) (h3 : a3.toInt < 10000) : pq_Ru 1 168 [.int 7, .int 1] (wd_1075 z a2 a3) (some (.int 181), (wd_1075 z a2 a3)) := by
  refine ru_of (k := 0) (M := pm_168) rfl rfl ?_
  exact go_end 8 (fun _ _ => rfl)
def wd_1076 (z : pq_C) (a2 : Int32) (a3 : Int32) : pq_W := ((wd_1075 z a2 a3).set 91 (.inl (.int, 2858, .inl (upd (upd (upd (upd (upd (upd (upd (upd (upd (upd (upd (upd (upd (upd (upd (upd (upd (upd (upd (upd (upd (upd (upd (upd (upd (upd (upd (upd (upd (upd (upd (upd (upd (upd (upd (upd (upd (upd (upd (upd (upd (upd (upd (upd (upd (upd (upd (upd (upd (upd (upd (upd (upd (upd (upd (upd (upd (upd (upd (upd (upd (upd (upd (upd (upd (upd (upd (upd (upd (upd (upd (upd (upd (upd (upd (upd (upd (upd (upd (upd (upd (upd (upd (fun _ => 0) 1 10) 10 (-1)) 11 (-1)) 12 (-1)) 13 (-1)) 14 (-1)) 15 (-1)) 16 (-1)) 17 (-1)) 18 (-1)) 19 (-1)) 20 (-1)) 21 (-1)) 22 (-1)) 23 (-1)) 24 (-1)) 25 (-1)) 26 (-1)) 27 (-1)) 28 (-1)) 29 (-1)) 30 (-1)) 31 (-1)) 32 (-1)) 33 (-1)) 34 (-1)) 35 (-1)) 36 (-1)) 37 (-1)) 38 (-1)) 39 (-1)) 40 (-1)) 41 (-1)) 42 (-1)) 43 (-1)) 44 (-1)) 45 (-1)) 46 (-1)) 47 (-1)) 48 (-1)) 49 (-1)) 50 (-1)) 51 (-1)) 52 (-1)) 53 (-1)) 54 (-1)) 55 (-1)) 56 (-1)) 57 (-1)) 58 (-1)) 59 (-1)) 60 (-1)) 61 (-1)) 62 (-1)) 63 (-1)) 64 (-1)) 65 (-1)) 66 (-1)) 67 (-1)) 68 (-1)) 69 (-1)) 70 (-1)) 71 (-1)) 72 (-1)) 73 (-1)) 139 1000) 140 100) 145 1000) 146 100) 151 1000) 152 100) 157 1000) 158 100) 163 1000) 164 100) 169 1000) 170 100) 175 1000) 176 100) 181 1000) 182 100) 180 a2) 181 a3))))
theorem ro_725 (z : pq_C) (a2 : Int32) (a3 : Int32) (h0 : 0 ≤ a2.toInt) (h1 : a2.toInt < 10000) (h2 : 1 ≤ a3.toInt) (h3 : a3.toInt < 10000) : pq_Ru 3 166 [.ref 90, .int 7, .int a2, .int a3] (wd_1074 z a2 a3) (some (.int 0), (wd_1076 z a2 a3)) := by
  refine ru_of (k := 2) (M := pm_166) rfl rfl ?_
  refine go_seg 1 (pc' := 1) (ls' := [(0, .ref 90), (1, .int 7), (2, .int a2), (3, .int a3)]) (st' := [.int 7]) (w' := (wd_1074 z a2 a3)) (cs' := 0) (ss' := 0) ?_ (fun _ _ => rfl)
  refine go_cl (k := 2) (st' := [.int 1]) (cs' := 0) (ss' := 0) rfl rfl rfl rfl rfl rfl rfl (ro_721 z a2 a3 (by omega) (by omega) (by omega) (by omega)) ?_
  refine go_seg 5 (pc' := 13) (ls' := [(0, .ref 90), (1, .int 7), (2, .int a2), (3, .int a3)]) (st' := [.long 9999, .long 0, .long a2.toInt64]) (w' := (wd_1074 z a2 a3)) (cs' := 0) (ss' := 0) ?_ (fun _ _ => rfl)
  refine go_cl (k := 2) (st' := [.int 1]) (cs' := 0) (ss' := 0) rfl rfl rfl rfl rfl rfl rfl (wi_t _ a2 0 9999 0 9999 rfl rfl (by omega)) ?_
  refine go_seg 5 (pc' := 25) (ls' := [(0, .ref 90), (1, .int 7), (2, .int a2), (3, .int a3)]) (st' := [.long 9999, .long 1, .long a3.toInt64]) (w' := (wd_1074 z a2 a3)) (cs' := 0) (ss' := 0) ?_ (fun _ _ => rfl)
  refine go_cl (k := 2) (st' := [.int 1]) (cs' := 0) (ss' := 0) rfl rfl rfl rfl rfl rfl rfl (wi_t _ a3 1 9999 1 9999 rfl rfl (by omega)) ?_
  refine go_seg 5 (pc' := 44) (ls' := [(0, .ref 90), (1, .int 7), (2, .int a2), (3, .int a3)]) (st' := [.int 0, .int 7, .ref 91]) (w' := (wd_1074 z a2 a3)) (cs' := 0) (ss' := 0) ?_ (fun _ _ => rfl)
  refine go_cl (k := 2) (st' := [.int 180, .ref 91]) (cs' := 0) (ss' := 0) rfl rfl rfl rfl rfl rfl rfl (ro_722 z a2 a3 (by omega) (by omega) (by omega) (by omega)) ?_
  refine go_seg 6 (pc' := 56) (ls' := [(4, .int 0), (0, .ref 90), (1, .int 7), (2, .int a2), (3, .int a3)]) (st' := [.int 0, .int 7, .ref 91]) (w' := (wd_1074 z a2 a3)) (cs' := 0) (ss' := 0) ?_ (fun _ _ => rfl)
  refine go_cl (k := 2) (st' := [.int 180, .ref 91]) (cs' := 0) (ss' := 0) rfl rfl rfl rfl rfl rfl rfl (ro_722 z a2 a3 (by omega) (by omega) (by omega) (by omega)) ?_
  refine go_seg 6 (pc' := 67) (ls' := [(4, .int 0), (0, .ref 90), (1, .int 7), (2, .int a2), (3, .int a3)]) (st' := [.int 1, .int 7, .ref 91]) (w' := (wd_1075 z a2 a3)) (cs' := 0) (ss' := 0) ?_ (fun _ _ => rfl)
  refine go_cl (k := 2) (st' := [.int 181, .ref 91]) (cs' := 0) (ss' := 0) rfl rfl rfl rfl rfl rfl rfl (ro_724 z a2 a3 (by omega) (by omega) (by omega) (by omega)) ?_
  exact go_end 4 (fun _ _ => rfl)
theorem lf_3_727 (a0 : Int32) (a2 : Int32) (a3 : Int32) (a4 : Int32) (a5 : Int32) (h0 : 0 ≤ a2.toInt) (h1 : a2.toInt < 10000) (h2 : 1 ≤ a3.toInt) (h3 : a3.toInt < 10000) : ∃ w', pq_Go 20 pm_law 327 [(3, .int 0), (2, .ref 90), (1, .ref 1), (0, .ref 0)] [] (fw (sz a0 7 a2 a3 a4 a5)) 109 12668 (some (.int 1), w') := by
  refine ⟨(wd_1076 (sz a0 7 a2 a3 a4 a5) a2 a3), ?_⟩
  refine go_seg 8 (pc' := 335) (ls' := [(3, .int 0), (2, .ref 90), (1, .ref 1), (0, .ref 0)]) (st' := [.int 0, .ref 0, .int 7, .ref 1]) (w' := (fw (sz a0 7 a2 a3 a4 a5))) (cs' := 109) (ss' := 12668) ?_ (fun _ _ => rfl)
  refine go_seg 8 (pc' := 343) (ls' := [(3, .int 0), (2, .ref 90), (1, .ref 1), (0, .ref 0)]) (st' := [.int a3, .int a2, .int 7, .ref 1]) (w' := (fw (sz a0 7 a2 a3 a4 a5))) (cs' := 109) (ss' := 12668) ?_ (fun _ _ => rfl)
  refine go_cl (k := 20) (st' := [.int 0]) (cs' := 109) (ss' := 12668) rfl rfl rfl rfl rfl rfl rfl (ro_718 (sz a0 7 a2 a3 a4 a5) a2 a3 (by omega) (by omega) (by omega) (by omega)) ?_
  refine go_seg 8 (pc' := 354) (ls' := [(3, .int 0), (2, .ref 90), (1, .ref 1), (0, .ref 0)]) (st' := [.int 0, .ref 0, .int 7, .ref 90, .int 0]) (w' := (wd_1074 (sz a0 7 a2 a3 a4 a5) a2 a3)) (cs' := 109) (ss' := 12668) ?_ (fun _ _ => rfl)
  refine go_seg 8 (pc' := 362) (ls' := [(3, .int 0), (2, .ref 90), (1, .ref 1), (0, .ref 0)]) (st' := [.int a3, .int a2, .int 7, .ref 90, .int 0]) (w' := (wd_1074 (sz a0 7 a2 a3 a4 a5) a2 a3)) (cs' := 109) (ss' := 12668) ?_ (fun _ _ => rfl)
  refine go_cl (k := 20) (st' := [.int 0, .int 0]) (cs' := 109) (ss' := 12668) rfl rfl rfl rfl rfl rfl rfl (ro_725 (sz a0 7 a2 a3 a4 a5) a2 a3 (by omega) (by omega) (by omega) (by omega)) ?_
  refine go_cmp true rfl (br_self _) ?_
  exact law_tail (f := sc a0 7 a2 a3 a4 a5) rfl
theorem ro_728 (z : pq_C) (a3 : Int32) (h0 : 1 ≤ a3.toInt) (h1 : 10000 ≤ a3.toInt) : pq_Ru 1 16 [.int a3, .int 1, .int 9999] (fw z) (some (.int 0), (fw z)) := by
  refine ru_of (k := 0) (M := pm_16) rfl rfl ?_
  refine go_seg 2 (pc' := 2) (ls' := [(0, .int a3), (1, .int 1), (2, .int 9999)]) (st' := [.int 1, .int a3]) (w' := (fw z)) (cs' := 0) (ss' := 0) ?_ (fun _ _ => rfl)
  refine go_cmp false rfl (br_lt_f (b := 1) rfl (by omega)) ?_
  refine go_seg 2 (pc' := 7) (ls' := [(0, .int a3), (1, .int 1), (2, .int 9999)]) (st' := [.int 9999, .int a3]) (w' := (fw z)) (cs' := 0) (ss' := 0) ?_ (fun _ _ => rfl)
  refine go_cmp true rfl (br_gt_t (b := 9999) rfl (by omega)) ?_
  exact go_end 2 (fun _ _ => rfl)
theorem ro_729 (z : pq_C) (a1 : Int32) (a2 : Int32) (a3 : Int32) (h0 : 0 ≤ a1.toInt) (h1 : a1.toInt < 8) (h2 : 0 ≤ a2.toInt) (h3 : a2.toInt < 10000) (h4 : 1 ≤ a3.toInt) (h5 : 10000 ≤ a3.toInt) : pq_Ru 3 23 [.ref 1, .int a1, .int a2, .int a3] (fw z) (some (.int (-1000001)), (wd_1000 z)) := by
  refine ru_of (k := 2) (M := pm_23) rfl rfl ?_
  refine go_seg 1 (pc' := 1) (ls' := [(0, .ref 1), (1, .int a1), (2, .int a2), (3, .int a3)]) (st' := [.int a1]) (w' := (fw z)) (cs' := 0) (ss' := 0) ?_ (fun _ _ => rfl)
  refine go_cl (k := 2) (st' := [.int 1]) (cs' := 0) (ss' := 0) rfl rfl rfl rfl rfl rfl rfl (ro_331 z a1 (by omega) (by omega)) ?_
  refine go_seg 4 (pc' := 12) (ls' := [(0, .ref 1), (1, .int a1), (2, .int a2), (3, .int a3)]) (st' := [.int 9999, .int 0, .int a2]) (w' := (fw z)) (cs' := 0) (ss' := 0) ?_ (fun _ _ => rfl)
  refine go_cl (k := 2) (st' := [.int 1]) (cs' := 0) (ss' := 0) rfl rfl rfl rfl rfl rfl rfl (ro_549 z a2 (by omega) (by omega)) ?_
  refine go_seg 4 (pc' := 23) (ls' := [(0, .ref 1), (1, .int a1), (2, .int a2), (3, .int a3)]) (st' := [.int 9999, .int 1, .int a3]) (w' := (fw z)) (cs' := 0) (ss' := 0) ?_ (fun _ _ => rfl)
  refine go_cl (k := 2) (st' := [.int 0]) (cs' := 0) (ss' := 0) rfl rfl rfl rfl rfl rfl rfl (ro_728 z a3 (by omega) (by omega)) ?_
  refine go_seg 3 (pc' := 31) (ls' := [(0, .ref 1), (1, .int a1), (2, .int a2), (3, .int a3)]) (st' := [.int 1, .ref 1]) (w' := (fw z)) (cs' := 0) (ss' := 0) ?_ (fun _ _ => rfl)
  refine go_cl (k := 2) (st' := [.int (-1000001)]) (cs' := 0) (ss' := 0) rfl rfl rfl rfl rfl rfl rfl (ro_2 z) ?_
  exact go_end 1 (fun _ _ => rfl)
theorem ro_730 (z : pq_C) (a1 : Int32) (a2 : Int32) (a3 : Int32) (h0 : 0 ≤ a1.toInt) (h1 : a1.toInt < 8) (h2 : 0 ≤ a2.toInt) (h3 : a2.toInt < 10000) (h4 : 1 ≤ a3.toInt) (h5 : 10000 ≤ a3.toInt) : pq_Ru 3 166 [.ref 90, .int a1, .int a2, .int a3] (wd_1000 z) (some (.int (-1000001)), (wd_1001 z)) := by
  refine ru_of (k := 2) (M := pm_166) rfl rfl ?_
  refine go_seg 1 (pc' := 1) (ls' := [(0, .ref 90), (1, .int a1), (2, .int a2), (3, .int a3)]) (st' := [.int a1]) (w' := (wd_1000 z)) (cs' := 0) (ss' := 0) ?_ (fun _ _ => rfl)
  refine go_cl (k := 2) (st' := [.int 1]) (cs' := 0) (ss' := 0) rfl rfl rfl rfl rfl rfl rfl (ro_545 z a1 (by omega) (by omega)) ?_
  refine go_seg 5 (pc' := 13) (ls' := [(0, .ref 90), (1, .int a1), (2, .int a2), (3, .int a3)]) (st' := [.long 9999, .long 0, .long a2.toInt64]) (w' := (wd_1000 z)) (cs' := 0) (ss' := 0) ?_ (fun _ _ => rfl)
  refine go_cl (k := 2) (st' := [.int 1]) (cs' := 0) (ss' := 0) rfl rfl rfl rfl rfl rfl rfl (wi_t _ a2 0 9999 0 9999 rfl rfl (by omega)) ?_
  refine go_seg 5 (pc' := 25) (ls' := [(0, .ref 90), (1, .int a1), (2, .int a2), (3, .int a3)]) (st' := [.long 9999, .long 1, .long a3.toInt64]) (w' := (wd_1000 z)) (cs' := 0) (ss' := 0) ?_ (fun _ _ => rfl)
  refine go_cl (k := 2) (st' := [.int 0]) (cs' := 0) (ss' := 0) rfl rfl rfl rfl rfl rfl rfl (wi_f _ a3 1 9999 1 9999 rfl rfl (by omega)) ?_
  refine go_seg 3 (pc' := 34) (ls' := [(0, .ref 90), (1, .int a1), (2, .int a2), (3, .int a3)]) (st' := [.int (-1000001), .ref 90]) (w' := (wd_1000 z)) (cs' := 0) (ss' := 0) ?_ (fun _ _ => rfl)
  refine go_cl (k := 2) (st' := [.int (-1000001)]) (cs' := 0) (ss' := 0) rfl rfl rfl rfl rfl rfl rfl (ro_5 z) ?_
  exact go_end 1 (fun _ _ => rfl)
theorem lf_3_731 (a0 : Int32) (a1 : Int32) (a2 : Int32) (a3 : Int32) (a4 : Int32) (a5 : Int32) (h0 : 0 ≤ a1.toInt) (h1 : a1.toInt < 8) (h2 : 0 ≤ a2.toInt) (h3 : a2.toInt < 10000) (h4 : 1 ≤ a3.toInt) (h5 : 10000 ≤ a3.toInt) : ∃ w', pq_Go 20 pm_law 327 [(3, .int 0), (2, .ref 90), (1, .ref 1), (0, .ref 0)] [] (fw (sz a0 a1 a2 a3 a4 a5)) 109 12668 (some (.int 1), w') := by
  refine ⟨(wd_1001 (sz a0 a1 a2 a3 a4 a5)), ?_⟩
  refine go_seg 8 (pc' := 335) (ls' := [(3, .int 0), (2, .ref 90), (1, .ref 1), (0, .ref 0)]) (st' := [.int 0, .ref 0, .int a1, .ref 1]) (w' := (fw (sz a0 a1 a2 a3 a4 a5))) (cs' := 109) (ss' := 12668) ?_ (fun _ _ => rfl)
  refine go_seg 8 (pc' := 343) (ls' := [(3, .int 0), (2, .ref 90), (1, .ref 1), (0, .ref 0)]) (st' := [.int a3, .int a2, .int a1, .ref 1]) (w' := (fw (sz a0 a1 a2 a3 a4 a5))) (cs' := 109) (ss' := 12668) ?_ (fun _ _ => rfl)
  refine go_cl (k := 20) (st' := [.int (-1000001)]) (cs' := 109) (ss' := 12668) rfl rfl rfl rfl rfl rfl rfl (ro_729 (sz a0 a1 a2 a3 a4 a5) a1 a2 a3 (by omega) (by omega) (by omega) (by omega) (by omega) (by omega)) ?_
  refine go_seg 8 (pc' := 354) (ls' := [(3, .int 0), (2, .ref 90), (1, .ref 1), (0, .ref 0)]) (st' := [.int 0, .ref 0, .int a1, .ref 90, .int (-1000001)]) (w' := (wd_1000 (sz a0 a1 a2 a3 a4 a5))) (cs' := 109) (ss' := 12668) ?_ (fun _ _ => rfl)
  refine go_seg 8 (pc' := 362) (ls' := [(3, .int 0), (2, .ref 90), (1, .ref 1), (0, .ref 0)]) (st' := [.int a3, .int a2, .int a1, .ref 90, .int (-1000001)]) (w' := (wd_1000 (sz a0 a1 a2 a3 a4 a5))) (cs' := 109) (ss' := 12668) ?_ (fun _ _ => rfl)
  refine go_cl (k := 20) (st' := [.int (-1000001), .int (-1000001)]) (cs' := 109) (ss' := 12668) rfl rfl rfl rfl rfl rfl rfl (ro_730 (sz a0 a1 a2 a3 a4 a5) a1 a2 a3 (by omega) (by omega) (by omega) (by omega) (by omega) (by omega)) ?_
  refine go_cmp true rfl (br_self _) ?_
  exact law_tail (f := sc a0 a1 a2 a3 a4 a5) rfl
theorem ro_732 (z : pq_C) (a1 : Int32) (a2 : Int32) (a3 : Int32) (h0 : 0 ≤ a1.toInt) (h1 : a1.toInt < 8) (h2 : 0 ≤ a2.toInt) (h3 : 10000 ≤ a2.toInt) : pq_Ru 3 23 [.ref 1, .int a1, .int a2, .int a3] (fw z) (some (.int (-1000001)), (wd_1000 z)) := by
  refine ru_of (k := 2) (M := pm_23) rfl rfl ?_
  refine go_seg 1 (pc' := 1) (ls' := [(0, .ref 1), (1, .int a1), (2, .int a2), (3, .int a3)]) (st' := [.int a1]) (w' := (fw z)) (cs' := 0) (ss' := 0) ?_ (fun _ _ => rfl)
  refine go_cl (k := 2) (st' := [.int 1]) (cs' := 0) (ss' := 0) rfl rfl rfl rfl rfl rfl rfl (ro_331 z a1 (by omega) (by omega)) ?_
  refine go_seg 4 (pc' := 12) (ls' := [(0, .ref 1), (1, .int a1), (2, .int a2), (3, .int a3)]) (st' := [.int 9999, .int 0, .int a2]) (w' := (fw z)) (cs' := 0) (ss' := 0) ?_ (fun _ _ => rfl)
  refine go_cl (k := 2) (st' := [.int 0]) (cs' := 0) (ss' := 0) rfl rfl rfl rfl rfl rfl rfl (ro_621 z a2 (by omega) (by omega)) ?_
  refine go_seg 3 (pc' := 31) (ls' := [(0, .ref 1), (1, .int a1), (2, .int a2), (3, .int a3)]) (st' := [.int 1, .ref 1]) (w' := (fw z)) (cs' := 0) (ss' := 0) ?_ (fun _ _ => rfl)
  refine go_cl (k := 2) (st' := [.int (-1000001)]) (cs' := 0) (ss' := 0) rfl rfl rfl rfl rfl rfl rfl (ro_2 z) ?_
  exact go_end 1 (fun _ _ => rfl)
theorem ro_733 (z : pq_C) (a1 : Int32) (a2 : Int32) (a3 : Int32) (h0 : 0 ≤ a1.toInt) (h1 : a1.toInt < 8) (h2 : 0 ≤ a2.toInt) (h3 : 10000 ≤ a2.toInt) : pq_Ru 3 166 [.ref 90, .int a1, .int a2, .int a3] (wd_1000 z) (some (.int (-1000001)), (wd_1001 z)) := by
  refine ru_of (k := 2) (M := pm_166) rfl rfl ?_
  refine go_seg 1 (pc' := 1) (ls' := [(0, .ref 90), (1, .int a1), (2, .int a2), (3, .int a3)]) (st' := [.int a1]) (w' := (wd_1000 z)) (cs' := 0) (ss' := 0) ?_ (fun _ _ => rfl)
  refine go_cl (k := 2) (st' := [.int 1]) (cs' := 0) (ss' := 0) rfl rfl rfl rfl rfl rfl rfl (ro_545 z a1 (by omega) (by omega)) ?_
  refine go_seg 5 (pc' := 13) (ls' := [(0, .ref 90), (1, .int a1), (2, .int a2), (3, .int a3)]) (st' := [.long 9999, .long 0, .long a2.toInt64]) (w' := (wd_1000 z)) (cs' := 0) (ss' := 0) ?_ (fun _ _ => rfl)
  refine go_cl (k := 2) (st' := [.int 0]) (cs' := 0) (ss' := 0) rfl rfl rfl rfl rfl rfl rfl (wi_f _ a2 0 9999 0 9999 rfl rfl (by omega)) ?_
  refine go_seg 3 (pc' := 34) (ls' := [(0, .ref 90), (1, .int a1), (2, .int a2), (3, .int a3)]) (st' := [.int (-1000001), .ref 90]) (w' := (wd_1000 z)) (cs' := 0) (ss' := 0) ?_ (fun _ _ => rfl)
  refine go_cl (k := 2) (st' := [.int (-1000001)]) (cs' := 0) (ss' := 0) rfl rfl rfl rfl rfl rfl rfl (ro_5 z) ?_
  exact go_end 1 (fun _ _ => rfl)
theorem lf_3_734 (a0 : Int32) (a1 : Int32) (a2 : Int32) (a3 : Int32) (a4 : Int32) (a5 : Int32) (h0 : 0 ≤ a1.toInt) (h1 : a1.toInt < 8) (h2 : 0 ≤ a2.toInt) (h3 : 10000 ≤ a2.toInt) : ∃ w', pq_Go 20 pm_law 327 [(3, .int 0), (2, .ref 90), (1, .ref 1), (0, .ref 0)] [] (fw (sz a0 a1 a2 a3 a4 a5)) 109 12668 (some (.int 1), w') := by
  refine ⟨(wd_1001 (sz a0 a1 a2 a3 a4 a5)), ?_⟩
  refine go_seg 8 (pc' := 335) (ls' := [(3, .int 0), (2, .ref 90), (1, .ref 1), (0, .ref 0)]) (st' := [.int 0, .ref 0, .int a1, .ref 1]) (w' := (fw (sz a0 a1 a2 a3 a4 a5))) (cs' := 109) (ss' := 12668) ?_ (fun _ _ => rfl)
  refine go_seg 8 (pc' := 343) (ls' := [(3, .int 0), (2, .ref 90), (1, .ref 1), (0, .ref 0)]) (st' := [.int a3, .int a2, .int a1, .ref 1]) (w' := (fw (sz a0 a1 a2 a3 a4 a5))) (cs' := 109) (ss' := 12668) ?_ (fun _ _ => rfl)
  refine go_cl (k := 20) (st' := [.int (-1000001)]) (cs' := 109) (ss' := 12668) rfl rfl rfl rfl rfl rfl rfl (ro_732 (sz a0 a1 a2 a3 a4 a5) a1 a2 a3 (by omega) (by omega) (by omega) (by omega)) ?_
  refine go_seg 8 (pc' := 354) (ls' := [(3, .int 0), (2, .ref 90), (1, .ref 1), (0, .ref 0)]) (st' := [.int 0, .ref 0, .int a1, .ref 90, .int (-1000001)]) (w' := (wd_1000 (sz a0 a1 a2 a3 a4 a5))) (cs' := 109) (ss' := 12668) ?_ (fun _ _ => rfl)
  refine go_seg 8 (pc' := 362) (ls' := [(3, .int 0), (2, .ref 90), (1, .ref 1), (0, .ref 0)]) (st' := [.int a3, .int a2, .int a1, .ref 90, .int (-1000001)]) (w' := (wd_1000 (sz a0 a1 a2 a3 a4 a5))) (cs' := 109) (ss' := 12668) ?_ (fun _ _ => rfl)
  refine go_cl (k := 20) (st' := [.int (-1000001), .int (-1000001)]) (cs' := 109) (ss' := 12668) rfl rfl rfl rfl rfl rfl rfl (ro_733 (sz a0 a1 a2 a3 a4 a5) a1 a2 a3 (by omega) (by omega) (by omega) (by omega)) ?_
  refine go_cmp true rfl (br_self _) ?_
  exact law_tail (f := sc a0 a1 a2 a3 a4 a5) rfl
theorem ro_735 (z : pq_C) (a1 : Int32) (a2 : Int32) (a3 : Int32) (h0 : 0 ≤ a1.toInt) (h1 : 8 ≤ a1.toInt) : pq_Ru 3 23 [.ref 1, .int a1, .int a2, .int a3] (fw z) (some (.int (-1000001)), (wd_1000 z)) := by
  refine ru_of (k := 2) (M := pm_23) rfl rfl ?_
  refine go_seg 1 (pc' := 1) (ls' := [(0, .ref 1), (1, .int a1), (2, .int a2), (3, .int a3)]) (st' := [.int a1]) (w' := (fw z)) (cs' := 0) (ss' := 0) ?_ (fun _ _ => rfl)
  refine go_cl (k := 2) (st' := [.int 0]) (cs' := 0) (ss' := 0) rfl rfl rfl rfl rfl rfl rfl (ro_338 z a1 (by omega) (by omega)) ?_
  refine go_seg 3 (pc' := 31) (ls' := [(0, .ref 1), (1, .int a1), (2, .int a2), (3, .int a3)]) (st' := [.int 1, .ref 1]) (w' := (fw z)) (cs' := 0) (ss' := 0) ?_ (fun _ _ => rfl)
  refine go_cl (k := 2) (st' := [.int (-1000001)]) (cs' := 0) (ss' := 0) rfl rfl rfl rfl rfl rfl rfl (ro_2 z) ?_
  exact go_end 1 (fun _ _ => rfl)
theorem ro_736 (z : pq_C) (a1 : Int32) (a2 : Int32) (a3 : Int32) (h0 : 0 ≤ a1.toInt) (h1 : 8 ≤ a1.toInt) : pq_Ru 3 166 [.ref 90, .int a1, .int a2, .int a3] (wd_1000 z) (some (.int (-1000001)), (wd_1001 z)) := by
  refine ru_of (k := 2) (M := pm_166) rfl rfl ?_
  refine go_seg 1 (pc' := 1) (ls' := [(0, .ref 90), (1, .int a1), (2, .int a2), (3, .int a3)]) (st' := [.int a1]) (w' := (wd_1000 z)) (cs' := 0) (ss' := 0) ?_ (fun _ _ => rfl)
  refine go_cl (k := 2) (st' := [.int 0]) (cs' := 0) (ss' := 0) rfl rfl rfl rfl rfl rfl rfl (ro_340 z a1 (by omega) (by omega)) ?_
  refine go_seg 3 (pc' := 34) (ls' := [(0, .ref 90), (1, .int a1), (2, .int a2), (3, .int a3)]) (st' := [.int (-1000001), .ref 90]) (w' := (wd_1000 z)) (cs' := 0) (ss' := 0) ?_ (fun _ _ => rfl)
  refine go_cl (k := 2) (st' := [.int (-1000001)]) (cs' := 0) (ss' := 0) rfl rfl rfl rfl rfl rfl rfl (ro_5 z) ?_
  exact go_end 1 (fun _ _ => rfl)
theorem lf_3_737 (a0 : Int32) (a1 : Int32) (a2 : Int32) (a3 : Int32) (a4 : Int32) (a5 : Int32) (h0 : 0 ≤ a1.toInt) (h1 : 8 ≤ a1.toInt) : ∃ w', pq_Go 20 pm_law 327 [(3, .int 0), (2, .ref 90), (1, .ref 1), (0, .ref 0)] [] (fw (sz a0 a1 a2 a3 a4 a5)) 109 12668 (some (.int 1), w') := by
  refine ⟨(wd_1001 (sz a0 a1 a2 a3 a4 a5)), ?_⟩
  refine go_seg 8 (pc' := 335) (ls' := [(3, .int 0), (2, .ref 90), (1, .ref 1), (0, .ref 0)]) (st' := [.int 0, .ref 0, .int a1, .ref 1]) (w' := (fw (sz a0 a1 a2 a3 a4 a5))) (cs' := 109) (ss' := 12668) ?_ (fun _ _ => rfl)
  refine go_seg 8 (pc' := 343) (ls' := [(3, .int 0), (2, .ref 90), (1, .ref 1), (0, .ref 0)]) (st' := [.int a3, .int a2, .int a1, .ref 1]) (w' := (fw (sz a0 a1 a2 a3 a4 a5))) (cs' := 109) (ss' := 12668) ?_ (fun _ _ => rfl)
  refine go_cl (k := 20) (st' := [.int (-1000001)]) (cs' := 109) (ss' := 12668) rfl rfl rfl rfl rfl rfl rfl (ro_735 (sz a0 a1 a2 a3 a4 a5) a1 a2 a3 (by omega) (by omega)) ?_
  refine go_seg 8 (pc' := 354) (ls' := [(3, .int 0), (2, .ref 90), (1, .ref 1), (0, .ref 0)]) (st' := [.int 0, .ref 0, .int a1, .ref 90, .int (-1000001)]) (w' := (wd_1000 (sz a0 a1 a2 a3 a4 a5))) (cs' := 109) (ss' := 12668) ?_ (fun _ _ => rfl)
  refine go_seg 8 (pc' := 362) (ls' := [(3, .int 0), (2, .ref 90), (1, .ref 1), (0, .ref 0)]) (st' := [.int a3, .int a2, .int a1, .ref 90, .int (-1000001)]) (w' := (wd_1000 (sz a0 a1 a2 a3 a4 a5))) (cs' := 109) (ss' := 12668) ?_ (fun _ _ => rfl)
  refine go_cl (k := 20) (st' := [.int (-1000001), .int (-1000001)]) (cs' := 109) (ss' := 12668) rfl rfl rfl rfl rfl rfl rfl (ro_736 (sz a0 a1 a2 a3 a4 a5) a1 a2 a3 (by omega) (by omega)) ?_
  refine go_cmp true rfl (br_self _) ?_
  exact law_tail (f := sc a0 a1 a2 a3 a4 a5) rfl
theorem op_3 (a0 a1 a2 a3 a4 a5 : Int32) : ∃ w', pq_Go 20 pm_law 327 [(3, .int 0), (2, .ref 90), (1, .ref 1), (0, .ref 0)] [] (fw (sz a0 a1 a2 a3 a4 a5)) 109 12668 (some (.int 1), w') := by
  by_cases c0 : a1.toInt < 0
  · exact lf_3_631 a0 a1 a2 a3 a4 a5 (by omega)
  · by_cases c1 : a1.toInt < 8
    · by_cases c2 : a2.toInt < 0
      · exact lf_3_634 a0 a1 a2 a3 a4 a5 (by omega) (by omega) (by omega)
      · by_cases c3 : a2.toInt < 10000
        · by_cases c4 : a3.toInt < 1
          · exact lf_3_638 a0 a1 a2 a3 a4 a5 (by omega) (by omega) (by omega) (by omega) (by omega)
          · by_cases c5 : a3.toInt < 10000
            · by_cases e6_0 : a1 = 0
              · subst e6_0
                exact lf_3_650 a0 a2 a3 a4 a5 (by omega) (by omega) (by omega) (by omega)
              replace e6_0 := ne_t (b := 0) rfl e6_0
              by_cases e6_1 : a1 = 1
              · subst e6_1
                exact lf_3_661 a0 a2 a3 a4 a5 (by omega) (by omega) (by omega) (by omega)
              replace e6_1 := ne_t (b := 1) rfl e6_1
              by_cases e6_2 : a1 = 2
              · subst e6_2
                exact lf_3_672 a0 a2 a3 a4 a5 (by omega) (by omega) (by omega) (by omega)
              replace e6_2 := ne_t (b := 2) rfl e6_2
              by_cases e6_3 : a1 = 3
              · subst e6_3
                exact lf_3_683 a0 a2 a3 a4 a5 (by omega) (by omega) (by omega) (by omega)
              replace e6_3 := ne_t (b := 3) rfl e6_3
              by_cases e6_4 : a1 = 4
              · subst e6_4
                exact lf_3_694 a0 a2 a3 a4 a5 (by omega) (by omega) (by omega) (by omega)
              replace e6_4 := ne_t (b := 4) rfl e6_4
              by_cases e6_5 : a1 = 5
              · subst e6_5
                exact lf_3_705 a0 a2 a3 a4 a5 (by omega) (by omega) (by omega) (by omega)
              replace e6_5 := ne_t (b := 5) rfl e6_5
              by_cases e6_6 : a1 = 6
              · subst e6_6
                exact lf_3_716 a0 a2 a3 a4 a5 (by omega) (by omega) (by omega) (by omega)
              replace e6_6 := ne_t (b := 6) rfl e6_6
              by_cases e6_7 : a1 = 7
              · subst e6_7
                exact lf_3_727 a0 a2 a3 a4 a5 (by omega) (by omega) (by omega) (by omega)
              replace e6_7 := ne_t (b := 7) rfl e6_7
              exfalso
              omega
            · exact lf_3_731 a0 a1 a2 a3 a4 a5 (by omega) (by omega) (by omega) (by omega) (by omega) (by omega)
        · exact lf_3_734 a0 a1 a2 a3 a4 a5 (by omega) (by omega) (by omega) (by omega)
    · exact lf_3_737 a0 a1 a2 a3 a4 a5 (by omega) (by omega)
