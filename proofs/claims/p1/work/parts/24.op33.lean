theorem ro_126 (z : pq_C) : pq_Ru 1 16 [.int 2, .int 1, .int 5] (fw z) (some (.int 1), (fw z)) := by
  refine ru_of (k := 0) (M := pm_16) rfl rfl ?_
  refine go_seg 8 (pc' := 15) (ls' := [(0, .int 2), (1, .int 1), (2, .int 5)]) (st' := [.int 1]) (w' := (fw z)) (cs' := 0) (ss' := 0) ?_ (fun _ _ => rfl)
  exact go_end 1 (fun _ _ => rfl)
def wd_1025 (z : pq_C) : pq_W := ((fw z).set 89 (.inl (.int, 6, .inl (upd (fun _ => 0) 2 1))))
theorem ro_127 (z : pq_C) : pq_Ru 2 15 [.ref 1, .int 2] (fw z) (some (.int (-1000002)), (wd_1025 z)) := by
  refine ru_of (k := 1) (M := pm_15) rfl rfl ?_
  refine go_seg 3 (pc' := 3) (ls' := [(0, .ref 1), (1, .int 2)]) (st' := [.int 5, .int 1, .int 2]) (w' := (fw z)) (cs' := 0) (ss' := 0) ?_ (fun _ _ => rfl)
  refine go_cl (k := 1) (st' := [.int 1]) (cs' := 0) (ss' := 0) rfl rfl rfl rfl rfl rfl rfl (ro_126 z) ?_
  refine go_seg 8 (pc' := 18) (ls' := [(0, .ref 1), (1, .int 2)]) (st' := [.int 1, .int 2, .ref 89]) (w' := (fw z)) (cs' := 0) (ss' := 0) ?_ (fun _ _ => rfl)
  exact go_end 5 (fun _ _ => rfl)
theorem ro_129 (z : pq_C) (a1 : Int32) (h0 : a1.toInt < 0) : pq_Ru 3 138 [.ref 1, .int a1] (fw z) (some (.int (-1000002)), (wd_1025 z)) := by
  refine ru_of (k := 2) (M := pm_138) rfl rfl ?_
  refine go_seg 1 (pc' := 1) (ls' := [(0, .ref 1), (1, .int a1)]) (st' := [.int a1]) (w' := (fw z)) (cs' := 0) (ss' := 0) ?_ (fun _ _ => rfl)
  refine go_if true rfl (br_lt_t (b := 0) rfl (by omega)) ?_
  refine go_seg 2 (pc' := 23) (ls' := [(0, .ref 1), (1, .int a1)]) (st' := [.int 2, .ref 1]) (w' := (fw z)) (cs' := 0) (ss' := 0) ?_ (fun _ _ => rfl)
  refine go_cl (k := 2) (st' := [.int (-1000002)]) (cs' := 0) (ss' := 0) rfl rfl rfl rfl rfl rfl rfl (ro_127 z) ?_
  exact go_end 1 (fun _ _ => rfl)
def wd_1026 (z : pq_C) : pq_W := ((wd_1025 z).set 93 (.inl (.int, 6, .inl (upd (fun _ => 0) 2 1))))
theorem ro_130 (z : pq_C) : pq_Ru 1 162 [.ref 90, .int (-1000002)] (wd_1025 z) (some (.int (-1000002)), (wd_1026 z)) := by
  refine ru_of (k := 0) (M := pm_162) rfl rfl ?_
  refine go_seg 8 (pc' := 11) (ls' := [(0, .ref 90), (1, .int (-1000002))]) (st' := [.int 1, .int 0, .int 2, .ref 93]) (w' := (wd_1025 z)) (cs' := 0) (ss' := 0) ?_ (fun _ _ => rfl)
  exact go_end 4 (fun _ _ => rfl)
theorem ro_132 (z : pq_C) (a1 : Int32) (h0 : a1.toInt < 0) : pq_Ru 2 240 [.ref 90, .int a1] (wd_1025 z) (some (.int (-1000002)), (wd_1026 z)) := by
  refine ru_of (k := 1) (M := pm_240) rfl rfl ?_
  refine go_seg 8 (pc' := 10) (ls' := [(0, .ref 90), (1, .int a1)]) (st' := [.long (-1), .long 0, .long a1.toInt64]) (w' := (wd_1025 z)) (cs' := 0) (ss' := 0) ?_ (fun _ _ => rfl)
  refine go_cl (k := 1) (st' := [.int 0]) (cs' := 0) (ss' := 0) rfl rfl rfl rfl rfl rfl rfl (wi_f _ a1 0 (-1) 0 (-1) rfl rfl (by omega)) ?_
  refine go_seg 3 (pc' := 28) (ls' := [(0, .ref 90), (1, .int a1)]) (st' := [.int (-1000002), .ref 90]) (w' := (wd_1025 z)) (cs' := 0) (ss' := 0) ?_ (fun _ _ => rfl)
  refine go_cl (k := 1) (st' := [.int (-1000002)]) (cs' := 0) (ss' := 0) rfl rfl rfl rfl rfl rfl rfl (ro_130 z) ?_
  exact go_end 1 (fun _ _ => rfl)
theorem lf_33_133 (a0 : Int32) (a1 : Int32) (a2 : Int32) (a3 : Int32) (a4 : Int32) (a5 : Int32) (h0 : a1.toInt < 0) : ∃ w', pq_Go 20 pm_law 1423 [(3, .int 0), (2, .ref 90), (1, .ref 1), (0, .ref 0)] [] (fw (sz a0 a1 a2 a3 a4 a5)) 109 12668 (some (.int 1), w') := by
  refine ⟨(wd_1026 (sz a0 a1 a2 a3 a4 a5)), ?_⟩
  refine go_seg 6 (pc' := 1429) (ls' := [(3, .int 0), (2, .ref 90), (1, .ref 1), (0, .ref 0)]) (st' := [.int a1, .ref 1]) (w' := (fw (sz a0 a1 a2 a3 a4 a5))) (cs' := 109) (ss' := 12668) ?_ (fun _ _ => rfl)
  refine go_cl (k := 20) (st' := [.int (-1000002)]) (cs' := 109) (ss' := 12668) rfl rfl rfl rfl rfl rfl rfl (ro_129 (sz a0 a1 a2 a3 a4 a5) a1 (by omega)) ?_
  refine go_seg 6 (pc' := 1438) (ls' := [(3, .int 0), (2, .ref 90), (1, .ref 1), (0, .ref 0)]) (st' := [.int a1, .ref 90, .int (-1000002)]) (w' := (wd_1025 (sz a0 a1 a2 a3 a4 a5))) (cs' := 109) (ss' := 12668) ?_ (fun _ _ => rfl)
  refine go_cl (k := 20) (st' := [.int (-1000002), .int (-1000002)]) (cs' := 109) (ss' := 12668) rfl rfl rfl rfl rfl rfl rfl (ro_132 (sz a0 a1 a2 a3 a4 a5) a1 (by omega)) ?_
  refine go_cmp true rfl (br_self _) ?_
  exact law_tail (f := sc a0 a1 a2 a3 a4 a5) rfl
theorem ro_134 (z : pq_C) (a1 : Int32) (h0 : 0 ≤ a1.toInt) : pq_Ru 3 138 [.ref 1, .int a1] (fw z) (some (.int (-1000002)), (wd_1025 z)) := by
  refine ru_of (k := 2) (M := pm_138) rfl rfl ?_
  refine go_seg 1 (pc' := 1) (ls' := [(0, .ref 1), (1, .int a1)]) (st' := [.int a1]) (w' := (fw z)) (cs' := 0) (ss' := 0) ?_ (fun _ _ => rfl)
  refine go_if false rfl (br_lt_f (b := 0) rfl (by omega)) ?_
  refine go_seg 4 (pc' := 12) (ls' := [(0, .ref 1), (1, .int a1)]) (st' := [.int 0, .int a1]) (w' := (fw z)) (cs' := 0) (ss' := 0) ?_ (fun _ _ => rfl)
  refine go_cmp true rfl (br_ge_t (b := 0) rfl (by omega)) ?_
  refine go_seg 2 (pc' := 23) (ls' := [(0, .ref 1), (1, .int a1)]) (st' := [.int 2, .ref 1]) (w' := (fw z)) (cs' := 0) (ss' := 0) ?_ (fun _ _ => rfl)
  refine go_cl (k := 2) (st' := [.int (-1000002)]) (cs' := 0) (ss' := 0) rfl rfl rfl rfl rfl rfl rfl (ro_127 z) ?_
  exact go_end 1 (fun _ _ => rfl)
theorem ro_135 (z : pq_C) (a1 : Int32) (h0 : 0 ≤ a1.toInt) : pq_Ru 2 240 [.ref 90, .int a1] (wd_1025 z) (some (.int (-1000002)), (wd_1026 z)) := by
  refine ru_of (k := 1) (M := pm_240) rfl rfl ?_
  refine go_seg 8 (pc' := 10) (ls' := [(0, .ref 90), (1, .int a1)]) (st' := [.long (-1), .long 0, .long a1.toInt64]) (w' := (wd_1025 z)) (cs' := 0) (ss' := 0) ?_ (fun _ _ => rfl)
  refine go_cl (k := 1) (st' := [.int 0]) (cs' := 0) (ss' := 0) rfl rfl rfl rfl rfl rfl rfl (wi_f _ a1 0 (-1) 0 (-1) rfl rfl (by omega)) ?_
  refine go_seg 3 (pc' := 28) (ls' := [(0, .ref 90), (1, .int a1)]) (st' := [.int (-1000002), .ref 90]) (w' := (wd_1025 z)) (cs' := 0) (ss' := 0) ?_ (fun _ _ => rfl)
  refine go_cl (k := 1) (st' := [.int (-1000002)]) (cs' := 0) (ss' := 0) rfl rfl rfl rfl rfl rfl rfl (ro_130 z) ?_
  exact go_end 1 (fun _ _ => rfl)
theorem lf_33_136 (a0 : Int32) (a1 : Int32) (a2 : Int32) (a3 : Int32) (a4 : Int32) (a5 : Int32) (h0 : 0 ≤ a1.toInt) : ∃ w', pq_Go 20 pm_law 1423 [(3, .int 0), (2, .ref 90), (1, .ref 1), (0, .ref 0)] [] (fw (sz a0 a1 a2 a3 a4 a5)) 109 12668 (some (.int 1), w') := by
  refine ⟨(wd_1026 (sz a0 a1 a2 a3 a4 a5)), ?_⟩
  refine go_seg 6 (pc' := 1429) (ls' := [(3, .int 0), (2, .ref 90), (1, .ref 1), (0, .ref 0)]) (st' := [.int a1, .ref 1]) (w' := (fw (sz a0 a1 a2 a3 a4 a5))) (cs' := 109) (ss' := 12668) ?_ (fun _ _ => rfl)
  refine go_cl (k := 20) (st' := [.int (-1000002)]) (cs' := 109) (ss' := 12668) rfl rfl rfl rfl rfl rfl rfl (ro_134 (sz a0 a1 a2 a3 a4 a5) a1 (by omega)) ?_
  refine go_seg 6 (pc' := 1438) (ls' := [(3, .int 0), (2, .ref 90), (1, .ref 1), (0, .ref 0)]) (st' := [.int a1, .ref 90, .int (-1000002)]) (w' := (wd_1025 (sz a0 a1 a2 a3 a4 a5))) (cs' := 109) (ss' := 12668) ?_ (fun _ _ => rfl)
  refine go_cl (k := 20) (st' := [.int (-1000002), .int (-1000002)]) (cs' := 109) (ss' := 12668) rfl rfl rfl rfl rfl rfl rfl (ro_135 (sz a0 a1 a2 a3 a4 a5) a1 (by omega)) ?_
  refine go_cmp true rfl (br_self _) ?_
  exact law_tail (f := sc a0 a1 a2 a3 a4 a5) rfl
theorem op_33 (a0 a1 a2 a3 a4 a5 : Int32) : ∃ w', pq_Go 20 pm_law 1423 [(3, .int 0), (2, .ref 90), (1, .ref 1), (0, .ref 0)] [] (fw (sz a0 a1 a2 a3 a4 a5)) 109 12668 (some (.int 1), w') := by
  by_cases c0 : a1.toInt < 0
  · exact lf_33_133 a0 a1 a2 a3 a4 a5 (by omega)
  · exact lf_33_136 a0 a1 a2 a3 a4 a5 (by omega)
