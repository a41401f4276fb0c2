theorem ro_138 (z : pq_C) (a1 : Int32) (h0 : a1.toInt < 0) : pq_Ru 1 18 [.int a1] (fw z) (some (.int 0), (fw z)) := by
  refine ru_of (k := 0) (M := pm_18) rfl rfl ?_
  refine go_seg 1 (pc' := 1) (ls' := [(0, .int a1)]) (st' := [.int a1]) (w' := (fw z)) (cs' := 0) (ss' := 0) ?_ (fun _ _ => rfl)
  refine go_if true rfl (br_lt_t (b := 0) rfl (by omega)) ?_
  exact go_end 2 (fun _ _ => rfl)
theorem ro_139 (z : pq_C) (a1 : Int32) (a2 : Int32) (h0 : a1.toInt < 0) : pq_Ru 3 17 [.ref 1, .int a1, .int a2] (fw z) (some (.int (-1000001)), (wd_1000 z)) := by
  refine ru_of (k := 2) (M := pm_17) rfl rfl ?_
  refine go_seg 1 (pc' := 1) (ls' := [(0, .ref 1), (1, .int a1), (2, .int a2)]) (st' := [.int a1]) (w' := (fw z)) (cs' := 0) (ss' := 0) ?_ (fun _ _ => rfl)
  refine go_cl (k := 2) (st' := [.int 0]) (cs' := 0) (ss' := 0) rfl rfl rfl rfl rfl rfl rfl (ro_138 z a1 (by omega)) ?_
  refine go_seg 3 (pc' := 16) (ls' := [(0, .ref 1), (1, .int a1), (2, .int a2)]) (st' := [.int 1, .ref 1]) (w' := (fw z)) (cs' := 0) (ss' := 0) ?_ (fun _ _ => rfl)
  refine go_cl (k := 2) (st' := [.int (-1000001)]) (cs' := 0) (ss' := 0) rfl rfl rfl rfl rfl rfl rfl (ro_2 z) ?_
  exact go_end 1 (fun _ _ => rfl)
theorem ro_140 (z : pq_C) (a1 : Int32) (h0 : a1.toInt < 0) : pq_Ru 2 164 [.int a1] (wd_1000 z) (some (.int 0), (wd_1000 z)) := by
  refine ru_of (k := 1) (M := pm_164) rfl rfl ?_
  refine go_seg 4 (pc' := 6) (ls' := [(0, .int a1)]) (st' := [.long 3, .long 0, .long a1.toInt64]) (w' := (wd_1000 z)) (cs' := 0) (ss' := 0) ?_ (fun _ _ => rfl)
  refine go_cl (k := 1) (st' := [.int 0]) (cs' := 0) (ss' := 0) rfl rfl rfl rfl rfl rfl rfl (wi_f _ a1 0 3 0 3 rfl rfl (by omega)) ?_
  exact go_end 1 (fun _ _ => rfl)
theorem ro_141 (z : pq_C) (a1 : Int32) (a2 : Int32) (h0 : a1.toInt < 0) : pq_Ru 3 163 [.ref 90, .int a1, .int a2] (wd_1000 z) (some (.int (-1000001)), (wd_1001 z)) := by
  refine ru_of (k := 2) (M := pm_163) rfl rfl ?_
  refine go_seg 1 (pc' := 1) (ls' := [(0, .ref 90), (1, .int a1), (2, .int a2)]) (st' := [.int a1]) (w' := (wd_1000 z)) (cs' := 0) (ss' := 0) ?_ (fun _ _ => rfl)
  refine go_cl (k := 2) (st' := [.int 0]) (cs' := 0) (ss' := 0) rfl rfl rfl rfl rfl rfl rfl (ro_140 z a1 (by omega)) ?_
  refine go_seg 3 (pc' := 17) (ls' := [(0, .ref 90), (1, .int a1), (2, .int a2)]) (st' := [.int (-1000001), .ref 90]) (w' := (wd_1000 z)) (cs' := 0) (ss' := 0) ?_ (fun _ _ => rfl)
  refine go_cl (k := 2) (st' := [.int (-1000001)]) (cs' := 0) (ss' := 0) rfl rfl rfl rfl rfl rfl rfl (ro_5 z) ?_
  exact go_end 1 (fun _ _ => rfl)
theorem lf_1_142 (a0 : Int32) (a1 : Int32) (a2 : Int32) (a3 : Int32) (a4 : Int32) (a5 : Int32) (h0 : a1.toInt < 0) : ∃ w', pq_Go 20 pm_law 245 [(3, .int 0), (2, .ref 90), (1, .ref 1), (0, .ref 0)] [] (fw (sz a0 a1 a2 a3 a4 a5)) 109 12668 (some (.int 1), w') := by
  refine ⟨(wd_1001 (sz a0 a1 a2 a3 a4 a5)), ?_⟩
  refine go_seg 8 (pc' := 253) (ls' := [(3, .int 0), (2, .ref 90), (1, .ref 1), (0, .ref 0)]) (st' := [.int 0, .ref 0, .int a1, .ref 1]) (w' := (fw (sz a0 a1 a2 a3 a4 a5))) (cs' := 109) (ss' := 12668) ?_ (fun _ _ => rfl)
  refine go_seg 3 (pc' := 256) (ls' := [(3, .int 0), (2, .ref 90), (1, .ref 1), (0, .ref 0)]) (st' := [.int a2, .int a1, .ref 1]) (w' := (fw (sz a0 a1 a2 a3 a4 a5))) (cs' := 109) (ss' := 12668) ?_ (fun _ _ => rfl)
  refine go_cl (k := 20) (st' := [.int (-1000001)]) (cs' := 109) (ss' := 12668) rfl rfl rfl rfl rfl rfl rfl (ro_139 (sz a0 a1 a2 a3 a4 a5) a1 a2 (by omega)) ?_
  refine go_seg 8 (pc' := 267) (ls' := [(3, .int 0), (2, .ref 90), (1, .ref 1), (0, .ref 0)]) (st' := [.int 0, .ref 0, .int a1, .ref 90, .int (-1000001)]) (w' := (wd_1000 (sz a0 a1 a2 a3 a4 a5))) (cs' := 109) (ss' := 12668) ?_ (fun _ _ => rfl)
  refine go_seg 3 (pc' := 270) (ls' := [(3, .int 0), (2, .ref 90), (1, .ref 1), (0, .ref 0)]) (st' := [.int a2, .int a1, .ref 90, .int (-1000001)]) (w' := (wd_1000 (sz a0 a1 a2 a3 a4 a5))) (cs' := 109) (ss' := 12668) ?_ (fun _ _ => rfl)
  refine go_cl (k := 20) (st' := [.int (-1000001), .int (-1000001)]) (cs' := 109) (ss' := 12668) rfl rfl rfl rfl rfl rfl rfl (ro_141 (sz a0 a1 a2 a3 a4 a5) a1 a2 (by omega)) ?_
  refine go_cmp true rfl (br_self _) ?_
  exact law_tail (f := sc a0 a1 a2 a3 a4 a5) rfl
theorem ro_143 (z : pq_C) (a1 : Int32) (h0 : 0 ≤ a1.toInt) (h1 : a1.toInt < 4) : pq_Ru 1 18 [.int a1] (fw z) (some (.int 1), (fw z)) := by
  refine ru_of (k := 0) (M := pm_18) rfl rfl ?_
  refine go_seg 1 (pc' := 1) (ls' := [(0, .int a1)]) (st' := [.int a1]) (w' := (fw z)) (cs' := 0) (ss' := 0) ?_ (fun _ _ => rfl)
  refine go_if false rfl (br_lt_f (b := 0) rfl (by omega)) ?_
  refine go_seg 2 (pc' := 6) (ls' := [(0, .int a1)]) (st' := [.int 4, .int a1]) (w' := (fw z)) (cs' := 0) (ss' := 0) ?_ (fun _ _ => rfl)
  refine go_cmp false rfl (br_ge_f (b := 4) rfl (by omega)) ?_
  exact go_end 3 (fun _ _ => rfl)
theorem ro_144 (z : pq_C) (a2 : Int32) (h0 : a2.toInt < 0) : pq_Ru 1 13 [.int a2] (fw z) (some (.int 0), (fw z)) := by
  refine ru_of (k := 0) (M := pm_13) rfl rfl ?_
  refine go_seg 1 (pc' := 1) (ls' := [(0, .int a2)]) (st' := [.int a2]) (w' := (fw z)) (cs' := 0) (ss' := 0) ?_ (fun _ _ => rfl)
  refine go_if true rfl (br_lt_t (b := 0) rfl (by omega)) ?_
  exact go_end 2 (fun _ _ => rfl)
theorem ro_145 (z : pq_C) (a1 : Int32) (a2 : Int32) (h0 : 0 ≤ a1.toInt) (h1 : a1.toInt < 4) (h2 : a2.toInt < 0) : pq_Ru 3 17 [.ref 1, .int a1, .int a2] (fw z) (some (.int (-1000001)), (wd_1000 z)) := by
  refine ru_of (k := 2) (M := pm_17) rfl rfl ?_
  refine go_seg 1 (pc' := 1) (ls' := [(0, .ref 1), (1, .int a1), (2, .int a2)]) (st' := [.int a1]) (w' := (fw z)) (cs' := 0) (ss' := 0) ?_ (fun _ _ => rfl)
  refine go_cl (k := 2) (st' := [.int 1]) (cs' := 0) (ss' := 0) rfl rfl rfl rfl rfl rfl rfl (ro_143 z a1 (by omega) (by omega)) ?_
  refine go_seg 2 (pc' := 8) (ls' := [(0, .ref 1), (1, .int a1), (2, .int a2)]) (st' := [.int a2]) (w' := (fw z)) (cs' := 0) (ss' := 0) ?_ (fun _ _ => rfl)
  refine go_cl (k := 2) (st' := [.int 0]) (cs' := 0) (ss' := 0) rfl rfl rfl rfl rfl rfl rfl (ro_144 z a2 (by omega)) ?_
  refine go_seg 3 (pc' := 16) (ls' := [(0, .ref 1), (1, .int a1), (2, .int a2)]) (st' := [.int 1, .ref 1]) (w' := (fw z)) (cs' := 0) (ss' := 0) ?_ (fun _ _ => rfl)
  refine go_cl (k := 2) (st' := [.int (-1000001)]) (cs' := 0) (ss' := 0) rfl rfl rfl rfl rfl rfl rfl (ro_2 z) ?_
  exact go_end 1 (fun _ _ => rfl)
theorem ro_146 (z : pq_C) (a1 : Int32) (h0 : 0 ≤ a1.toInt) (h1 : a1.toInt < 4) : pq_Ru 2 164 [.int a1] (wd_1000 z) (some (.int 1), (wd_1000 z)) := by
  refine ru_of (k := 1) (M := pm_164) rfl rfl ?_
  refine go_seg 4 (pc' := 6) (ls' := [(0, .int a1)]) (st' := [.long 3, .long 0, .long a1.toInt64]) (w' := (wd_1000 z)) (cs' := 0) (ss' := 0) ?_ (fun _ _ => rfl)
  refine go_cl (k := 1) (st' := [.int 1]) (cs' := 0) (ss' := 0) rfl rfl rfl rfl rfl rfl rfl (wi_t _ a1 0 3 0 3 rfl rfl (by omega)) ?_
  exact go_end 1 (fun _ _ => rfl)
theorem ro_147 (z : pq_C) (a2 : Int32) (h0 : a2.toInt < 0) : pq_Ru 2 160 [.int a2] (wd_1000 z) (some (.int 0), (wd_1000 z)) := by
  refine ru_of (k := 1) (M := pm_160) rfl rfl ?_
  refine go_seg 4 (pc' := 6) (ls' := [(0, .int a2)]) (st' := [.long 63, .long 0, .long a2.toInt64]) (w' := (wd_1000 z)) (cs' := 0) (ss' := 0) ?_ (fun _ _ => rfl)
  refine go_cl (k := 1) (st' := [.int 0]) (cs' := 0) (ss' := 0) rfl rfl rfl rfl rfl rfl rfl (wi_f _ a2 0 63 0 63 rfl rfl (by omega)) ?_
  exact go_end 1 (fun _ _ => rfl)
theorem ro_148 (z : pq_C) (a1 : Int32) (a2 : Int32) (h0 : 0 ≤ a1.toInt) (h1 : a1.toInt < 4) (h2 : a2.toInt < 0) : pq_Ru 3 163 [.ref 90, .int a1, .int a2] (wd_1000 z) (some (.int (-1000001)), (wd_1001 z)) := by
  refine ru_of (k := 2) (M := pm_163) rfl rfl ?_
  refine go_seg 1 (pc' := 1) (ls' := [(0, .ref 90), (1, .int a1), (2, .int a2)]) (st' := [.int a1]) (w' := (wd_1000 z)) (cs' := 0) (ss' := 0) ?_ (fun _ _ => rfl)
  refine go_cl (k := 2) (st' := [.int 1]) (cs' := 0) (ss' := 0) rfl rfl rfl rfl rfl rfl rfl (ro_146 z a1 (by omega) (by omega)) ?_
  refine go_seg 2 (pc' := 8) (ls' := [(0, .ref 90), (1, .int a1), (2, .int a2)]) (st' := [.int a2]) (w' := (wd_1000 z)) (cs' := 0) (ss' := 0) ?_ (fun _ _ => rfl)
  refine go_cl (k := 2) (st' := [.int 0]) (cs' := 0) (ss' := 0) rfl rfl rfl rfl rfl rfl rfl (ro_147 z a2 (by omega)) ?_
  refine go_seg 3 (pc' := 17) (ls' := [(0, .ref 90), (1, .int a1), (2, .int a2)]) (st' := [.int (-1000001), .ref 90]) (w' := (wd_1000 z)) (cs' := 0) (ss' := 0) ?_ (fun _ _ => rfl)
  refine go_cl (k := 2) (st' := [.int (-1000001)]) (cs' := 0) (ss' := 0) rfl rfl rfl rfl rfl rfl rfl (ro_5 z) ?_
  exact go_end 1 (fun _ _ => rfl)
theorem lf_1_149 (a0 : Int32) (a1 : Int32) (a2 : Int32) (a3 : Int32) (a4 : Int32) (a5 : Int32) (h0 : 0 ≤ a1.toInt) (h1 : a1.toInt < 4) (h2 : a2.toInt < 0) : ∃ w', pq_Go 20 pm_law 245 [(3, .int 0), (2, .ref 90), (1, .ref 1), (0, .ref 0)] [] (fw (sz a0 a1 a2 a3 a4 a5)) 109 12668 (some (.int 1), w') := by
  refine ⟨(wd_1001 (sz a0 a1 a2 a3 a4 a5)), ?_⟩
  refine go_seg 8 (pc' := 253) (ls' := [(3, .int 0), (2, .ref 90), (1, .ref 1), (0, .ref 0)]) (st' := [.int 0, .ref 0, .int a1, .ref 1]) (w' := (fw (sz a0 a1 a2 a3 a4 a5))) (cs' := 109) (ss' := 12668) ?_ (fun _ _ => rfl)
  refine go_seg 3 (pc' := 256) (ls' := [(3, .int 0), (2, .ref 90), (1, .ref 1), (0, .ref 0)]) (st' := [.int a2, .int a1, .ref 1]) (w' := (fw (sz a0 a1 a2 a3 a4 a5))) (cs' := 109) (ss' := 12668) ?_ (fun _ _ => rfl)
  refine go_cl (k := 20) (st' := [.int (-1000001)]) (cs' := 109) (ss' := 12668) rfl rfl rfl rfl rfl rfl rfl (ro_145 (sz a0 a1 a2 a3 a4 a5) a1 a2 (by omega) (by omega) (by omega)) ?_
  refine go_seg 8 (pc' := 267) (ls' := [(3, .int 0), (2, .ref 90), (1, .ref 1), (0, .ref 0)]) (st' := [.int 0, .ref 0, .int a1, .ref 90, .int (-1000001)]) (w' := (wd_1000 (sz a0 a1 a2 a3 a4 a5))) (cs' := 109) (ss' := 12668) ?_ (fun _ _ => rfl)
  refine go_seg 3 (pc' := 270) (ls' := [(3, .int 0), (2, .ref 90), (1, .ref 1), (0, .ref 0)]) (st' := [.int a2, .int a1, .ref 90, .int (-1000001)]) (w' := (wd_1000 (sz a0 a1 a2 a3 a4 a5))) (cs' := 109) (ss' := 12668) ?_ (fun _ _ => rfl)
  refine go_cl (k := 20) (st' := [.int (-1000001), .int (-1000001)]) (cs' := 109) (ss' := 12668) rfl rfl rfl rfl rfl rfl rfl (ro_148 (sz a0 a1 a2 a3 a4 a5) a1 a2 (by omega) (by omega) (by omega)) ?_
  refine go_cmp true rfl (br_self _) ?_
  exact law_tail (f := sc a0 a1 a2 a3 a4 a5) rfl
theorem ro_150 (z : pq_C) : pq_Ru 1 18 [.int 0] (fw z) (some (.int 1), (fw z)) := by
  refine ru_of (k := 0) (M := pm_18) rfl rfl ?_
  exact go_end 8 (fun _ _ => rfl)
theorem ro_151 (z : pq_C) (a2 : Int32) (h0 : 0 ≤ a2.toInt) (h1 : a2.toInt < 64) : pq_Ru 1 13 [.int a2] (fw z) (some (.int 1), (fw z)) := by
  refine ru_of (k := 0) (M := pm_13) rfl rfl ?_
  refine go_seg 1 (pc' := 1) (ls' := [(0, .int a2)]) (st' := [.int a2]) (w' := (fw z)) (cs' := 0) (ss' := 0) ?_ (fun _ _ => rfl)
  refine go_if false rfl (br_lt_f (b := 0) rfl (by omega)) ?_
  refine go_seg 2 (pc' := 7) (ls' := [(0, .int a2)]) (st' := [.int 64, .int a2]) (w' := (fw z)) (cs' := 0) (ss' := 0) ?_ (fun _ _ => rfl)
  refine go_cmp false rfl (br_ge_f (b := 64) rfl (by omega)) ?_
  exact go_end 3 (fun _ _ => rfl)
theorem ro_152 (z : pq_C) : pq_Ru 2 19 [.ref 85, .int 0] (fw z) (some (.int 1), (fw z)) := by
  refine ru_of (k := 1) (M := pm_19) rfl rfl ?_
  refine go_seg 1 (pc' := 1) (ls' := [(0, .ref 85), (1, .int 0)]) (st' := [.int 0]) (w' := (fw z)) (cs' := 0) (ss' := 0) ?_ (fun _ _ => rfl)
  refine go_cl (k := 1) (st' := [.int 1]) (cs' := 0) (ss' := 0) rfl rfl rfl rfl rfl rfl rfl (ro_150 z) ?_
  refine go_seg 8 (pc' := 21) (ls' := [(0, .ref 85), (1, .int 0)]) (st' := [.int 1]) (w' := (fw z)) (cs' := 0) (ss' := 0) ?_ (fun _ _ => rfl)
  exact go_end 1 (fun _ _ => rfl)
theorem ro_153 (z : pq_C) (a2 : Int32) (h0 : 0 ≤ a2.toInt) (h1 : a2.toInt < 64) : pq_Ru 3 17 [.ref 1, .int 0, .int a2] (fw z) (some (.int (-1000002)), (wd_1025 z)) := by
  refine ru_of (k := 2) (M := pm_17) rfl rfl ?_
  refine go_seg 1 (pc' := 1) (ls' := [(0, .ref 1), (1, .int 0), (2, .int a2)]) (st' := [.int 0]) (w' := (fw z)) (cs' := 0) (ss' := 0) ?_ (fun _ _ => rfl)
  refine go_cl (k := 2) (st' := [.int 1]) (cs' := 0) (ss' := 0) rfl rfl rfl rfl rfl rfl rfl (ro_150 z) ?_
  refine go_seg 2 (pc' := 8) (ls' := [(0, .ref 1), (1, .int 0), (2, .int a2)]) (st' := [.int a2]) (w' := (fw z)) (cs' := 0) (ss' := 0) ?_ (fun _ _ => rfl)
  refine go_cl (k := 2) (st' := [.int 1]) (cs' := 0) (ss' := 0) rfl rfl rfl rfl rfl rfl rfl (ro_151 z a2 (by omega) (by omega)) ?_
  refine go_seg 4 (pc' := 25) (ls' := [(0, .ref 1), (1, .int 0), (2, .int a2)]) (st' := [.int 0, .ref 85]) (w' := (fw z)) (cs' := 0) (ss' := 0) ?_ (fun _ _ => rfl)
  refine go_cl (k := 2) (st' := [.int 1]) (cs' := 0) (ss' := 0) rfl rfl rfl rfl rfl rfl rfl (ro_152 z) ?_
  refine go_seg 3 (pc' := 33) (ls' := [(0, .ref 1), (1, .int 0), (2, .int a2)]) (st' := [.int 2, .ref 1]) (w' := (fw z)) (cs' := 0) (ss' := 0) ?_ (fun _ _ => rfl)
  refine go_cl (k := 2) (st' := [.int (-1000002)]) (cs' := 0) (ss' := 0) rfl rfl rfl rfl rfl rfl rfl (ro_127 z) ?_
  exact go_end 1 (fun _ _ => rfl)
theorem ro_154 (z : pq_C) : pq_Ru 1 161 [.long 0, .long 0, .long 3] (wd_1025 z) (some (.int 1), (wd_1025 z)) := by
  refine ru_of (k := 0) (M := pm_161) rfl rfl ?_
  refine go_seg 8 (pc' := 13) (ls' := [(0, .long 0), (2, .long 0), (4, .long 3)]) (st' := []) (w' := (wd_1025 z)) (cs' := 0) (ss' := 0) ?_ (fun _ _ => rfl)
  exact go_end 3 (fun _ _ => rfl)
theorem ro_155 (z : pq_C) : pq_Ru 2 164 [.int 0] (wd_1025 z) (some (.int 1), (wd_1025 z)) := by
  refine ru_of (k := 1) (M := pm_164) rfl rfl ?_
  refine go_seg 4 (pc' := 6) (ls' := [(0, .int 0)]) (st' := [.long 3, .long 0, .long 0]) (w' := (wd_1025 z)) (cs' := 0) (ss' := 0) ?_ (fun _ _ => rfl)
  refine go_cl (k := 1) (st' := [.int 1]) (cs' := 0) (ss' := 0) rfl rfl rfl rfl rfl rfl rfl (ro_154 z) ?_
  exact go_end 1 (fun _ _ => rfl)
theorem ro_156 (z : pq_C) (a2 : Int32) (h0 : 0 ≤ a2.toInt) (h1 : a2.toInt < 64) : pq_Ru 2 160 [.int a2] (wd_1025 z) (some (.int 1), (wd_1025 z)) := by
  refine ru_of (k := 1) (M := pm_160) rfl rfl ?_
  refine go_seg 4 (pc' := 6) (ls' := [(0, .int a2)]) (st' := [.long 63, .long 0, .long a2.toInt64]) (w' := (wd_1025 z)) (cs' := 0) (ss' := 0) ?_ (fun _ _ => rfl)
  refine go_cl (k := 1) (st' := [.int 1]) (cs' := 0) (ss' := 0) rfl rfl rfl rfl rfl rfl rfl (wi_t _ a2 0 63 0 63 rfl rfl (by omega)) ?_
  exact go_end 1 (fun _ _ => rfl)
theorem ro_157 (z : pq_C) (a2 : Int32) (h0 : 0 ≤ a2.toInt) (h1 : a2.toInt < 64) : pq_Ru 3 163 [.ref 90, .int 0, .int a2] (wd_1025 z) (some (.int (-1000002)), (wd_1026 z)) := by
  refine ru_of (k := 2) (M := pm_163) rfl rfl ?_
  refine go_seg 1 (pc' := 1) (ls' := [(0, .ref 90), (1, .int 0), (2, .int a2)]) (st' := [.int 0]) (w' := (wd_1025 z)) (cs' := 0) (ss' := 0) ?_ (fun _ _ => rfl)
  refine go_cl (k := 2) (st' := [.int 1]) (cs' := 0) (ss' := 0) rfl rfl rfl rfl rfl rfl rfl (ro_155 z) ?_
  refine go_seg 2 (pc' := 8) (ls' := [(0, .ref 90), (1, .int 0), (2, .int a2)]) (st' := [.int a2]) (w' := (wd_1025 z)) (cs' := 0) (ss' := 0) ?_ (fun _ _ => rfl)
  refine go_cl (k := 2) (st' := [.int 1]) (cs' := 0) (ss' := 0) rfl rfl rfl rfl rfl rfl rfl (ro_156 z a2 (by omega) (by omega)) ?_
  refine go_seg 8 (pc' := 33) (ls' := [(0, .ref 90), (1, .int 0), (2, .int a2)]) (st' := [.int (-1000002), .ref 90]) (w' := (wd_1025 z)) (cs' := 0) (ss' := 0) ?_ (fun _ _ => rfl)
  refine go_cl (k := 2) (st' := [.int (-1000002)]) (cs' := 0) (ss' := 0) rfl rfl rfl rfl rfl rfl rfl (ro_130 z) ?_
  exact go_end 1 (fun _ _ => rfl)
theorem lf_1_158 (a0 : Int32) (a2 : Int32) (a3 : Int32) (a4 : Int32) (a5 : Int32) (h0 : 0 ≤ a2.toInt) (h1 : a2.toInt < 64) : ∃ w', pq_Go 20 pm_law 245 [(3, .int 0), (2, .ref 90), (1, .ref 1), (0, .ref 0)] [] (fw (sz a0 0 a2 a3 a4 a5)) 109 12668 (some (.int 1), w') := by
  refine ⟨(wd_1026 (sz a0 0 a2 a3 a4 a5)), ?_⟩
  refine go_seg 8 (pc' := 253) (ls' := [(3, .int 0), (2, .ref 90), (1, .ref 1), (0, .ref 0)]) (st' := [.int 0, .ref 0, .int 0, .ref 1]) (w' := (fw (sz a0 0 a2 a3 a4 a5))) (cs' := 109) (ss' := 12668) ?_ (fun _ _ => rfl)
  refine go_seg 3 (pc' := 256) (ls' := [(3, .int 0), (2, .ref 90), (1, .ref 1), (0, .ref 0)]) (st' := [.int a2, .int 0, .ref 1]) (w' := (fw (sz a0 0 a2 a3 a4 a5))) (cs' := 109) (ss' := 12668) ?_ (fun _ _ => rfl)
  refine go_cl (k := 20) (st' := [.int (-1000002)]) (cs' := 109) (ss' := 12668) rfl rfl rfl rfl rfl rfl rfl (ro_153 (sz a0 0 a2 a3 a4 a5) a2 (by omega) (by omega)) ?_
  refine go_seg 8 (pc' := 267) (ls' := [(3, .int 0), (2, .ref 90), (1, .ref 1), (0, .ref 0)]) (st' := [.int 0, .ref 0, .int 0, .ref 90, .int (-1000002)]) (w' := (wd_1025 (sz a0 0 a2 a3 a4 a5))) (cs' := 109) (ss' := 12668) ?_ (fun _ _ => rfl)
  refine go_seg 3 (pc' := 270) (ls' := [(3, .int 0), (2, .ref 90), (1, .ref 1), (0, .ref 0)]) (st' := [.int a2, .int 0, .ref 90, .int (-1000002)]) (w' := (wd_1025 (sz a0 0 a2 a3 a4 a5))) (cs' := 109) (ss' := 12668) ?_ (fun _ _ => rfl)
  refine go_cl (k := 20) (st' := [.int (-1000002), .int (-1000002)]) (cs' := 109) (ss' := 12668) rfl rfl rfl rfl rfl rfl rfl (ro_157 (sz a0 0 a2 a3 a4 a5) a2 (by omega) (by omega)) ?_
  refine go_cmp true rfl (br_self _) ?_
  exact law_tail (f := sc a0 0 a2 a3 a4 a5) rfl
theorem ro_159 (z : pq_C) : pq_Ru 1 18 [.int 1] (fw z) (some (.int 1), (fw z)) := by
  refine ru_of (k := 0) (M := pm_18) rfl rfl ?_
  exact go_end 8 (fun _ _ => rfl)
theorem ro_160 (z : pq_C) : pq_Ru 2 19 [.ref 85, .int 1] (fw z) (some (.int 1), (fw z)) := by
  refine ru_of (k := 1) (M := pm_19) rfl rfl ?_
  refine go_seg 1 (pc' := 1) (ls' := [(0, .ref 85), (1, .int 1)]) (st' := [.int 1]) (w' := (fw z)) (cs' := 0) (ss' := 0) ?_ (fun _ _ => rfl)
  refine go_cl (k := 1) (st' := [.int 1]) (cs' := 0) (ss' := 0) rfl rfl rfl rfl rfl rfl rfl (ro_159 z) ?_
  refine go_seg 8 (pc' := 21) (ls' := [(0, .ref 85), (1, .int 1)]) (st' := [.int 1]) (w' := (fw z)) (cs' := 0) (ss' := 0) ?_ (fun _ _ => rfl)
  exact go_end 1 (fun _ _ => rfl)
theorem ro_161 (z : pq_C) (a2 : Int32) (h0 : 0 ≤ a2.toInt) (h1 : a2.toInt < 64) : pq_Ru 3 17 [.ref 1, .int 1, .int a2] (fw z) (some (.int (-1000002)), (wd_1025 z)) := by
  refine ru_of (k := 2) (M := pm_17) rfl rfl ?_
  refine go_seg 1 (pc' := 1) (ls' := [(0, .ref 1), (1, .int 1), (2, .int a2)]) (st' := [.int 1]) (w' := (fw z)) (cs' := 0) (ss' := 0) ?_ (fun _ _ => rfl)
  refine go_cl (k := 2) (st' := [.int 1]) (cs' := 0) (ss' := 0) rfl rfl rfl rfl rfl rfl rfl (ro_159 z) ?_
  refine go_seg 2 (pc' := 8) (ls' := [(0, .ref 1), (1, .int 1), (2, .int a2)]) (st' := [.int a2]) (w' := (fw z)) (cs' := 0) (ss' := 0) ?_ (fun _ _ => rfl)
  refine go_cl (k := 2) (st' := [.int 1]) (cs' := 0) (ss' := 0) rfl rfl rfl rfl rfl rfl rfl (ro_151 z a2 (by omega) (by omega)) ?_
  refine go_seg 4 (pc' := 25) (ls' := [(0, .ref 1), (1, .int 1), (2, .int a2)]) (st' := [.int 1, .ref 85]) (w' := (fw z)) (cs' := 0) (ss' := 0) ?_ (fun _ _ => rfl)
  refine go_cl (k := 2) (st' := [.int 1]) (cs' := 0) (ss' := 0) rfl rfl rfl rfl rfl rfl rfl (ro_160 z) ?_
  refine go_seg 3 (pc' := 33) (ls' := [(0, .ref 1), (1, .int 1), (2, .int a2)]) (st' := [.int 2, .ref 1]) (w' := (fw z)) (cs' := 0) (ss' := 0) ?_ (fun _ _ => rfl)
  refine go_cl (k := 2) (st' := [.int (-1000002)]) (cs' := 0) (ss' := 0) rfl rfl rfl rfl rfl rfl rfl (ro_127 z) ?_
  exact go_end 1 (fun _ _ => rfl)
theorem ro_162 (z : pq_C) : pq_Ru 1 161 [.long 1, .long 0, .long 3] (wd_1025 z) (some (.int 1), (wd_1025 z)) := by
  refine ru_of (k := 0) (M := pm_161) rfl rfl ?_
  refine go_seg 8 (pc' := 13) (ls' := [(0, .long 1), (2, .long 0), (4, .long 3)]) (st' := []) (w' := (wd_1025 z)) (cs' := 0) (ss' := 0) ?_ (fun _ _ => rfl)
  exact go_end 3 (fun _ _ => rfl)
theorem ro_163 (z : pq_C) : pq_Ru 2 164 [.int 1] (wd_1025 z) (some (.int 1), (wd_1025 z)) := by
  refine ru_of (k := 1) (M := pm_164) rfl rfl ?_
  refine go_seg 4 (pc' := 6) (ls' := [(0, .int 1)]) (st' := [.long 3, .long 0, .long 1]) (w' := (wd_1025 z)) (cs' := 0) (ss' := 0) ?_ (fun _ _ => rfl)
  refine go_cl (k := 1) (st' := [.int 1]) (cs' := 0) (ss' := 0) rfl rfl rfl rfl rfl rfl rfl (ro_162 z) ?_
  exact go_end 1 (fun _ _ => rfl)
theorem ro_164 (z : pq_C) (a2 : Int32) (h0 : 0 ≤ a2.toInt) (h1 : a2.toInt < 64) : pq_Ru 3 163 [.ref 90, .int 1, .int a2] (wd_1025 z) (some (.int (-1000002)), (wd_1026 z)) := by
  refine ru_of (k := 2) (M := pm_163) rfl rfl ?_
  refine go_seg 1 (pc' := 1) (ls' := [(0, .ref 90), (1, .int 1), (2, .int a2)]) (st' := [.int 1]) (w' := (wd_1025 z)) (cs' := 0) (ss' := 0) ?_ (fun _ _ => rfl)
  refine go_cl (k := 2) (st' := [.int 1]) (cs' := 0) (ss' := 0) rfl rfl rfl rfl rfl rfl rfl (ro_163 z) ?_
  refine go_seg 2 (pc' := 8) (ls' := [(0, .ref 90), (1, .int 1), (2, .int a2)]) (st' := [.int a2]) (w' := (wd_1025 z)) (cs' := 0) (ss' := 0) ?_ (fun _ _ => rfl)
  refine go_cl (k := 2) (st' := [.int 1]) (cs' := 0) (ss' := 0) rfl rfl rfl rfl rfl rfl rfl (ro_156 z a2 (by omega) (by omega)) ?_
  refine go_seg 8 (pc' := 33) (ls' := [(0, .ref 90), (1, .int 1), (2, .int a2)]) (st' := [.int (-1000002), .ref 90]) (w' := (wd_1025 z)) (cs' := 0) (ss' := 0) ?_ (fun _ _ => rfl)
  refine go_cl (k := 2) (st' := [.int (-1000002)]) (cs' := 0) (ss' := 0) rfl rfl rfl rfl rfl rfl rfl (ro_130 z) ?_
  exact go_end 1 (fun _ _ => rfl)
theorem lf_1_165 (a0 : Int32) (a2 : Int32) (a3 : Int32) (a4 : Int32) (a5 : Int32) (h0 : 0 ≤ a2.toInt) (h1 : a2.toInt < 64) : ∃ w', pq_Go 20 pm_law 245 [(3, .int 0), (2, .ref 90), (1, .ref 1), (0, .ref 0)] [] (fw (sz a0 1 a2 a3 a4 a5)) 109 12668 (some (.int 1), w') := by
  refine ⟨(wd_1026 (sz a0 1 a2 a3 a4 a5)), ?_⟩
  refine go_seg 8 (pc' := 253) (ls' := [(3, .int 0), (2, .ref 90), (1, .ref 1), (0, .ref 0)]) (st' := [.int 0, .ref 0, .int 1, .ref 1]) (w' := (fw (sz a0 1 a2 a3 a4 a5))) (cs' := 109) (ss' := 12668) ?_ (fun _ _ => rfl)
  refine go_seg 3 (pc' := 256) (ls' := [(3, .int 0), (2, .ref 90), (1, .ref 1), (0, .ref 0)]) (st' := [.int a2, .int 1, .ref 1]) (w' := (fw (sz a0 1 a2 a3 a4 a5))) (cs' := 109) (ss' := 12668) ?_ (fun _ _ => rfl)
  refine go_cl (k := 20) (st' := [.int (-1000002)]) (cs' := 109) (ss' := 12668) rfl rfl rfl rfl rfl rfl rfl (ro_161 (sz a0 1 a2 a3 a4 a5) a2 (by omega) (by omega)) ?_
  refine go_seg 8 (pc' := 267) (ls' := [(3, .int 0), (2, .ref 90), (1, .ref 1), (0, .ref 0)]) (st' := [.int 0, .ref 0, .int 1, .ref 90, .int (-1000002)]) (w' := (wd_1025 (sz a0 1 a2 a3 a4 a5))) (cs' := 109) (ss' := 12668) ?_ (fun _ _ => rfl)
  refine go_seg 3 (pc' := 270) (ls' := [(3, .int 0), (2, .ref 90), (1, .ref 1), (0, .ref 0)]) (st' := [.int a2, .int 1, .ref 90, .int (-1000002)]) (w' := (wd_1025 (sz a0 1 a2 a3 a4 a5))) (cs' := 109) (ss' := 12668) ?_ (fun _ _ => rfl)
  refine go_cl (k := 20) (st' := [.int (-1000002), .int (-1000002)]) (cs' := 109) (ss' := 12668) rfl rfl rfl rfl rfl rfl rfl (ro_164 (sz a0 1 a2 a3 a4 a5) a2 (by omega) (by omega)) ?_
  refine go_cmp true rfl (br_self _) ?_
  exact law_tail (f := sc a0 1 a2 a3 a4 a5) rfl
theorem ro_166 (z : pq_C) : pq_Ru 1 18 [.int 2] (fw z) (some (.int 1), (fw z)) := by
  refine ru_of (k := 0) (M := pm_18) rfl rfl ?_
  exact go_end 8 (fun _ _ => rfl)
theorem ro_167 (z : pq_C) : pq_Ru 2 19 [.ref 85, .int 2] (fw z) (some (.int 1), (fw z)) := by
  refine ru_of (k := 1) (M := pm_19) rfl rfl ?_
  refine go_seg 1 (pc' := 1) (ls' := [(0, .ref 85), (1, .int 2)]) (st' := [.int 2]) (w' := (fw z)) (cs' := 0) (ss' := 0) ?_ (fun _ _ => rfl)
  refine go_cl (k := 1) (st' := [.int 1]) (cs' := 0) (ss' := 0) rfl rfl rfl rfl rfl rfl rfl (ro_166 z) ?_
  refine go_seg 8 (pc' := 21) (ls' := [(0, .ref 85), (1, .int 2)]) (st' := [.int 1]) (w' := (fw z)) (cs' := 0) (ss' := 0) ?_ (fun _ _ => rfl)
  exact go_end 1 (fun _ _ => rfl)
theorem ro_168 (z : pq_C) (a2 : Int32) (h0 : 0 ≤ a2.toInt) (h1 : a2.toInt < 64) : pq_Ru 3 17 [.ref 1, .int 2, .int a2] (fw z) (some (.int (-1000002)), (wd_1025 z)) := by
  refine ru_of (k := 2) (M := pm_17) rfl rfl ?_
  refine go_seg 1 (pc' := 1) (ls' := [(0, .ref 1), (1, .int 2), (2, .int a2)]) (st' := [.int 2]) (w' := (fw z)) (cs' := 0) (ss' := 0) ?_ (fun _ _ => rfl)
  refine go_cl (k := 2) (st' := [.int 1]) (cs' := 0) (ss' := 0) rfl rfl rfl rfl rfl rfl rfl (ro_166 z) ?_
  refine go_seg 2 (pc' := 8) (ls' := [(0, .ref 1), (1, .int 2), (2, .int a2)]) (st' := [.int a2]) (w' := (fw z)) (cs' := 0) (ss' := 0) ?_ (fun _ _ => rfl)
  refine go_cl (k := 2) (st' := [.int 1]) (cs' := 0) (ss' := 0) rfl rfl rfl rfl rfl rfl rfl (ro_151 z a2 (by omega) (by omega)) ?_
  refine go_seg 4 (pc' := 25) (ls' := [(0, .ref 1), (1, .int 2), (2, .int a2)]) (st' := [.int 2, .ref 85]) (w' := (fw z)) (cs' := 0) (ss' := 0) ?_ (fun _ _ => rfl)
  refine go_cl (k := 2) (st' := [.int 1]) (cs' := 0) (ss' := 0) rfl rfl rfl rfl rfl rfl rfl (ro_167 z) ?_
  refine go_seg 3 (pc' := 33) (ls' := [(0, .ref 1), (1, .int 2), (2, .int a2)]) (st' := [.int 2, .ref 1]) (w' := (fw z)) (cs' := 0) (ss' := 0) ?_ (fun _ _ => rfl)
  refine go_cl (k := 2) (st' := [.int (-1000002)]) (cs' := 0) (ss' := 0) rfl rfl rfl rfl rfl rfl rfl (ro_127 z) ?_
  exact go_end 1 (fun _ _ => rfl)
theorem ro_169 (z : pq_C) : pq_Ru 1 161 [.long 2, .long 0, .long 3] (wd_1025 z) (some (.int 1), (wd_1025 z)) := by
  refine ru_of (k := 0) (M := pm_161) rfl rfl ?_
  refine go_seg 8 (pc' := 13) (ls' := [(0, .long 2), (2, .long 0), (4, .long 3)]) (st' := []) (w' := (wd_1025 z)) (cs' := 0) (ss' := 0) ?_ (fun _ _ => rfl)
  exact go_end 3 (fun _ _ => rfl)
theorem ro_170 (z : pq_C) : pq_Ru 2 164 [.int 2] (wd_1025 z) (some (.int 1), (wd_1025 z)) := by
  refine ru_of (k := 1) (M := pm_164) rfl rfl ?_
  refine go_seg 4 (pc' := 6) (ls' := [(0, .int 2)]) (st' := [.long 3, .long 0, .long 2]) (w' := (wd_1025 z)) (cs' := 0) (ss' := 0) ?_ (fun _ _ => rfl)
  refine go_cl (k := 1) (st' := [.int 1]) (cs' := 0) (ss' := 0) rfl rfl rfl rfl rfl rfl rfl (ro_169 z) ?_
  exact go_end 1 (fun _ _ => rfl)
theorem ro_171 (z : pq_C) (a2 : Int32) (h0 : 0 ≤ a2.toInt) (h1 : a2.toInt < 64) : pq_Ru 3 163 [.ref 90, .int 2, .int a2] (wd_1025 z) (some (.int (-1000002)), (wd_1026 z)) := by
  refine ru_of (k := 2) (M := pm_163) rfl rfl ?_
  refine go_seg 1 (pc' := 1) (ls' := [(0, .ref 90), (1, .int 2), (2, .int a2)]) (st' := [.int 2]) (w' := (wd_1025 z)) (cs' := 0) (ss' := 0) ?_ (fun _ _ => rfl)
  refine go_cl (k := 2) (st' := [.int 1]) (cs' := 0) (ss' := 0) rfl rfl rfl rfl rfl rfl rfl (ro_170 z) ?_
  refine go_seg 2 (pc' := 8) (ls' := [(0, .ref 90), (1, .int 2), (2, .int a2)]) (st' := [.int a2]) (w' := (wd_1025 z)) (cs' := 0) (ss' := 0) ?_ (fun _ _ => rfl)
  refine go_cl (k := 2) (st' := [.int 1]) (cs' := 0) (ss' := 0) rfl rfl rfl rfl rfl rfl rfl (ro_156 z a2 (by omega) (by omega)) ?_
  refine go_seg 8 (pc' := 33) (ls' := [(0, .ref 90), (1, .int 2), (2, .int a2)]) (st' := [.int (-1000002), .ref 90]) (w' := (wd_1025 z)) (cs' := 0) (ss' := 0) ?_ (fun _ _ => rfl)
  refine go_cl (k := 2) (st' := [.int (-1000002)]) (cs' := 0) (ss' := 0) rfl rfl rfl rfl rfl rfl rfl (ro_130 z) ?_
  exact go_end 1 (fun _ _ => rfl)
theorem lf_1_172 (a0 : Int32) (a2 : Int32) (a3 : Int32) (a4 : Int32) (a5 : Int32) (h0 : 0 ≤ a2.toInt) (h1 : a2.toInt < 64) : ∃ w', pq_Go 20 pm_law 245 [(3, .int 0), (2, .ref 90), (1, .ref 1), (0, .ref 0)] [] (fw (sz a0 2 a2 a3 a4 a5)) 109 12668 (some (.int 1), w') := by
  refine ⟨(wd_1026 (sz a0 2 a2 a3 a4 a5)), ?_⟩
  refine go_seg 8 (pc' := 253) (ls' := [(3, .int 0), (2, .ref 90), (1, .ref 1), (0, .ref 0)]) (st' := [.int 0, .ref 0, .int 2, .ref 1]) (w' := (fw (sz a0 2 a2 a3 a4 a5))) (cs' := 109) (ss' := 12668) ?_ (fun _ _ => rfl)
  refine go_seg 3 (pc' := 256) (ls' := [(3, .int 0), (2, .ref 90), (1, .ref 1), (0, .ref 0)]) (st' := [.int a2, .int 2, .ref 1]) (w' := (fw (sz a0 2 a2 a3 a4 a5))) (cs' := 109) (ss' := 12668) ?_ (fun _ _ => rfl)
  refine go_cl (k := 20) (st' := [.int (-1000002)]) (cs' := 109) (ss' := 12668) rfl rfl rfl rfl rfl rfl rfl (ro_168 (sz a0 2 a2 a3 a4 a5) a2 (by omega) (by omega)) ?_
  refine go_seg 8 (pc' := 267) (ls' := [(3, .int 0), (2, .ref 90), (1, .ref 1), (0, .ref 0)]) (st' := [.int 0, .ref 0, .int 2, .ref 90, .int (-1000002)]) (w' := (wd_1025 (sz a0 2 a2 a3 a4 a5))) (cs' := 109) (ss' := 12668) ?_ (fun _ _ => rfl)
  refine go_seg 3 (pc' := 270) (ls' := [(3, .int 0), (2, .ref 90), (1, .ref 1), (0, .ref 0)]) (st' := [.int a2, .int 2, .ref 90, .int (-1000002)]) (w' := (wd_1025 (sz a0 2 a2 a3 a4 a5))) (cs' := 109) (ss' := 12668) ?_ (fun _ _ => rfl)
  refine go_cl (k := 20) (st' := [.int (-1000002), .int (-1000002)]) (cs' := 109) (ss' := 12668) rfl rfl rfl rfl rfl rfl rfl (ro_171 (sz a0 2 a2 a3 a4 a5) a2 (by omega) (by omega)) ?_
  refine go_cmp true rfl (br_self _) ?_
  exact law_tail (f := sc a0 2 a2 a3 a4 a5) rfl
theorem ro_173 (z : pq_C) : pq_Ru 1 18 [.int 3] (fw z) (some (.int 1), (fw z)) := by
  refine ru_of (k := 0) (M := pm_18) rfl rfl ?_
  exact go_end 8 (fun _ _ => rfl)
theorem ro_174 (z : pq_C) : pq_Ru 2 19 [.ref 85, .int 3] (fw z) (some (.int 1), (fw z)) := by
  refine ru_of (k := 1) (M := pm_19) rfl rfl ?_
  refine go_seg 1 (pc' := 1) (ls' := [(0, .ref 85), (1, .int 3)]) (st' := [.int 3]) (w' := (fw z)) (cs' := 0) (ss' := 0) ?_ (fun _ _ => rfl)
  refine go_cl (k := 1) (st' := [.int 1]) (cs' := 0) (ss' := 0) rfl rfl rfl rfl rfl rfl rfl (ro_173 z) ?_
  refine go_seg 8 (pc' := 21) (ls' := [(0, .ref 85), (1, .int 3)]) (st' := [.int 1]) (w' := (fw z)) (cs' := 0) (ss' := 0) ?_ (fun _ _ => rfl)
  exact go_end 1 (fun _ _ => rfl)
theorem ro_175 (z : pq_C) (a2 : Int32) (h0 : 0 ≤ a2.toInt) (h1 : a2.toInt < 64) : pq_Ru 3 17 [.ref 1, .int 3, .int a2] (fw z) (some (.int (-1000002)), (wd_1025 z)) := by
  refine ru_of (k := 2) (M := pm_17) rfl rfl ?_
  refine go_seg 1 (pc' := 1) (ls' := [(0, .ref 1), (1, .int 3), (2, .int a2)]) (st' := [.int 3]) (w' := (fw z)) (cs' := 0) (ss' := 0) ?_ (fun _ _ => rfl)
  refine go_cl (k := 2) (st' := [.int 1]) (cs' := 0) (ss' := 0) rfl rfl rfl rfl rfl rfl rfl (ro_173 z) ?_
  refine go_seg 2 (pc' := 8) (ls' := [(0, .ref 1), (1, .int 3), (2, .int a2)]) (st' := [.int a2]) (w' := (fw z)) (cs' := 0) (ss' := 0) ?_ (fun _ _ => rfl)
  refine go_cl (k := 2) (st' := [.int 1]) (cs' := 0) (ss' := 0) rfl rfl rfl rfl rfl rfl rfl (ro_151 z a2 (by omega) (by omega)) ?_
  refine go_seg 4 (pc' := 25) (ls' := [(0, .ref 1), (1, .int 3), (2, .int a2)]) (st' := [.int 3, .ref 85]) (w' := (fw z)) (cs' := 0) (ss' := 0) ?_ (fun _ _ => rfl)
  refine go_cl (k := 2) (st' := [.int 1]) (cs' := 0) (ss' := 0) rfl rfl rfl rfl rfl rfl rfl (ro_174 z) ?_
  refine go_seg 3 (pc' := 33) (ls' := [(0, .ref 1), (1, .int 3), (2, .int a2)]) (st' := [.int 2, .ref 1]) (w' := (fw z)) (cs' := 0) (ss' := 0) ?_ (fun _ _ => rfl)
  refine go_cl (k := 2) (st' := [.int (-1000002)]) (cs' := 0) (ss' := 0) rfl rfl rfl rfl rfl rfl rfl (ro_127 z) ?_
  exact go_end 1 (fun _ _ => rfl)
theorem ro_176 (z : pq_C) : pq_Ru 1 161 [.long 3, .long 0, .long 3] (wd_1025 z) (some (.int 1), (wd_1025 z)) := by
  refine ru_of (k := 0) (M := pm_161) rfl rfl ?_
  refine go_seg 8 (pc' := 13) (ls' := [(0, .long 3), (2, .long 0), (4, .long 3)]) (st' := []) (w' := (wd_1025 z)) (cs' := 0) (ss' := 0) ?_ (fun _ _ => rfl)
  exact go_end 3 (fun _ _ => rfl)
theorem ro_177 (z : pq_C) : pq_Ru 2 164 [.int 3] (wd_1025 z) (some (.int 1), (wd_1025 z)) := by
  refine ru_of (k := 1) (M := pm_164) rfl rfl ?_
  refine go_seg 4 (pc' := 6) (ls' := [(0, .int 3)]) (st' := [.long 3, .long 0, .long 3]) (w' := (wd_1025 z)) (cs' := 0) (ss' := 0) ?_ (fun _ _ => rfl)
  refine go_cl (k := 1) (st' := [.int 1]) (cs' := 0) (ss' := 0) rfl rfl rfl rfl rfl rfl rfl (ro_176 z) ?_
  exact go_end 1 (fun _ _ => rfl)
theorem ro_178 (z : pq_C) (a2 : Int32) (h0 : 0 ≤ a2.toInt) (h1 : a2.toInt < 64) : pq_Ru 3 163 [.ref 90, .int 3, .int a2] (wd_1025 z) (some (.int (-1000002)), (wd_1026 z)) := by
  refine ru_of (k := 2) (M := pm_163) rfl rfl ?_
  refine go_seg 1 (pc' := 1) (ls' := [(0, .ref 90), (1, .int 3), (2, .int a2)]) (st' := [.int 3]) (w' := (wd_1025 z)) (cs' := 0) (ss' := 0) ?_ (fun _ _ => rfl)
  refine go_cl (k := 2) (st' := [.int 1]) (cs' := 0) (ss' := 0) rfl rfl rfl rfl rfl rfl rfl (ro_177 z) ?_
  refine go_seg 2 (pc' := 8) (ls' := [(0, .ref 90), (1, .int 3), (2, .int a2)]) (st' := [.int a2]) (w' := (wd_1025 z)) (cs' := 0) (ss' := 0) ?_ (fun _ _ => rfl)
  refine go_cl (k := 2) (st' := [.int 1]) (cs' := 0) (ss' := 0) rfl rfl rfl rfl rfl rfl rfl (ro_156 z a2 (by omega) (by omega)) ?_
  refine go_seg 8 (pc' := 33) (ls' := [(0, .ref 90), (1, .int 3), (2, .int a2)]) (st' := [.int (-1000002), .ref 90]) (w' := (wd_1025 z)) (cs' := 0) (ss' := 0) ?_ (fun _ _ => rfl)
  refine go_cl (k := 2) (st' := [.int (-1000002)]) (cs' := 0) (ss' := 0) rfl rfl rfl rfl rfl rfl rfl (ro_130 z) ?_
  exact go_end 1 (fun _ _ => rfl)
theorem lf_1_179 (a0 : Int32) (a2 : Int32) (a3 : Int32) (a4 : Int32) (a5 : Int32) (h0 : 0 ≤ a2.toInt) (h1 : a2.toInt < 64) : ∃ w', pq_Go 20 pm_law 245 [(3, .int 0), (2, .ref 90), (1, .ref 1), (0, .ref 0)] [] (fw (sz a0 3 a2 a3 a4 a5)) 109 12668 (some (.int 1), w') := by
  refine ⟨(wd_1026 (sz a0 3 a2 a3 a4 a5)), ?_⟩
  refine go_seg 8 (pc' := 253) (ls' := [(3, .int 0), (2, .ref 90), (1, .ref 1), (0, .ref 0)]) (st' := [.int 0, .ref 0, .int 3, .ref 1]) (w' := (fw (sz a0 3 a2 a3 a4 a5))) (cs' := 109) (ss' := 12668) ?_ (fun _ _ => rfl)
  refine go_seg 3 (pc' := 256) (ls' := [(3, .int 0), (2, .ref 90), (1, .ref 1), (0, .ref 0)]) (st' := [.int a2, .int 3, .ref 1]) (w' := (fw (sz a0 3 a2 a3 a4 a5))) (cs' := 109) (ss' := 12668) ?_ (fun _ _ => rfl)
  refine go_cl (k := 20) (st' := [.int (-1000002)]) (cs' := 109) (ss' := 12668) rfl rfl rfl rfl rfl rfl rfl (ro_175 (sz a0 3 a2 a3 a4 a5) a2 (by omega) (by omega)) ?_
  refine go_seg 8 (pc' := 267) (ls' := [(3, .int 0), (2, .ref 90), (1, .ref 1), (0, .ref 0)]) (st' := [.int 0, .ref 0, .int 3, .ref 90, .int (-1000002)]) (w' := (wd_1025 (sz a0 3 a2 a3 a4 a5))) (cs' := 109) (ss' := 12668) ?_ (fun _ _ => rfl)
  refine go_seg 3 (pc' := 270) (ls' := [(3, .int 0), (2, .ref 90), (1, .ref 1), (0, .ref 0)]) (st' := [.int a2, .int 3, .ref 90, .int (-1000002)]) (w' := (wd_1025 (sz a0 3 a2 a3 a4 a5))) (cs' := 109) (ss' := 12668) ?_ (fun _ _ => rfl)
  refine go_cl (k := 20) (st' := [.int (-1000002), .int (-1000002)]) (cs' := 109) (ss' := 12668) rfl rfl rfl rfl rfl rfl rfl (ro_178 (sz a0 3 a2 a3 a4 a5) a2 (by omega) (by omega)) ?_
  refine go_cmp true rfl (br_self _) ?_
  exact law_tail (f := sc a0 3 a2 a3 a4 a5) rfl
theorem ro_180 (z : pq_C) (a2 : Int32) (h0 : 0 ≤ a2.toInt) (h1 : 64 ≤ a2.toInt) : pq_Ru 1 13 [.int a2] (fw z) (some (.int 0), (fw z)) := by
  refine ru_of (k := 0) (M := pm_13) rfl rfl ?_
  refine go_seg 1 (pc' := 1) (ls' := [(0, .int a2)]) (st' := [.int a2]) (w' := (fw z)) (cs' := 0) (ss' := 0) ?_ (fun _ _ => rfl)
  refine go_if false rfl (br_lt_f (b := 0) rfl (by omega)) ?_
  refine go_seg 2 (pc' := 7) (ls' := [(0, .int a2)]) (st' := [.int 64, .int a2]) (w' := (fw z)) (cs' := 0) (ss' := 0) ?_ (fun _ _ => rfl)
  refine go_cmp true rfl (br_ge_t (b := 64) rfl (by omega)) ?_
  exact go_end 2 (fun _ _ => rfl)
theorem ro_181 (z : pq_C) (a1 : Int32) (a2 : Int32) (h0 : 0 ≤ a1.toInt) (h1 : a1.toInt < 4) (h2 : 0 ≤ a2.toInt) (h3 : 64 ≤ a2.toInt) : pq_Ru 3 17 [.ref 1, .int a1, .int a2] (fw z) (some (.int (-1000001)), (wd_1000 z)) := by
  refine ru_of (k := 2) (M := pm_17) rfl rfl ?_
  refine go_seg 1 (pc' := 1) (ls' := [(0, .ref 1), (1, .int a1), (2, .int a2)]) (st' := [.int a1]) (w' := (fw z)) (cs' := 0) (ss' := 0) ?_ (fun _ _ => rfl)
  refine go_cl (k := 2) (st' := [.int 1]) (cs' := 0) (ss' := 0) rfl rfl rfl rfl rfl rfl rfl (ro_143 z a1 (by omega) (by omega)) ?_
  refine go_seg 2 (pc' := 8) (ls' := [(0, .ref 1), (1, .int a1), (2, .int a2)]) (st' := [.int a2]) (w' := (fw z)) (cs' := 0) (ss' := 0) ?_ (fun _ _ => rfl)
  refine go_cl (k := 2) (st' := [.int 0]) (cs' := 0) (ss' := 0) rfl rfl rfl rfl rfl rfl rfl (ro_180 z a2 (by omega) (by omega)) ?_
  refine go_seg 3 (pc' := 16) (ls' := [(0, .ref 1), (1, .int a1), (2, .int a2)]) (st' := [.int 1, .ref 1]) (w' := (fw z)) (cs' := 0) (ss' := 0) ?_ (fun _ _ => rfl)
  refine go_cl (k := 2) (st' := [.int (-1000001)]) (cs' := 0) (ss' := 0) rfl rfl rfl rfl rfl rfl rfl (ro_2 z) ?_
  exact go_end 1 (fun _ _ => rfl)
theorem ro_182 (z : pq_C) (a2 : Int32) (h0 : 0 ≤ a2.toInt) (h1 : 64 ≤ a2.toInt) : pq_Ru 2 160 [.int a2] (wd_1000 z) (some (.int 0), (wd_1000 z)) := by
  refine ru_of (k := 1) (M := pm_160) rfl rfl ?_
  refine go_seg 4 (pc' := 6) (ls' := [(0, .int a2)]) (st' := [.long 63, .long 0, .long a2.toInt64]) (w' := (wd_1000 z)) (cs' := 0) (ss' := 0) ?_ (fun _ _ => rfl)
  refine go_cl (k := 1) (st' := [.int 0]) (cs' := 0) (ss' := 0) rfl rfl rfl rfl rfl rfl rfl (wi_f _ a2 0 63 0 63 rfl rfl (by omega)) ?_
  exact go_end 1 (fun _ _ => rfl)
theorem ro_183 (z : pq_C) (a1 : Int32) (a2 : Int32) (h0 : 0 ≤ a1.toInt) (h1 : a1.toInt < 4) (h2 : 0 ≤ a2.toInt) (h3 : 64 ≤ a2.toInt) : pq_Ru 3 163 [.ref 90, .int a1, .int a2] (wd_1000 z) (some (.int (-1000001)), (wd_1001 z)) := by
  refine ru_of (k := 2) (M := pm_163) rfl rfl ?_
  refine go_seg 1 (pc' := 1) (ls' := [(0, .ref 90), (1, .int a1), (2, .int a2)]) (st' := [.int a1]) (w' := (wd_1000 z)) (cs' := 0) (ss' := 0) ?_ (fun _ _ => rfl)
  refine go_cl (k := 2) (st' := [.int 1]) (cs' := 0) (ss' := 0) rfl rfl rfl rfl rfl rfl rfl (ro_146 z a1 (by omega) (by omega)) ?_
  refine go_seg 2 (pc' := 8) (ls' := [(0, .ref 90), (1, .int a1), (2, .int a2)]) (st' := [.int a2]) (w' := (wd_1000 z)) (cs' := 0) (ss' := 0) ?_ (fun _ _ => rfl)
  refine go_cl (k := 2) (st' := [.int 0]) (cs' := 0) (ss' := 0) rfl rfl rfl rfl rfl rfl rfl (ro_182 z a2 (by omega) (by omega)) ?_
  refine go_seg 3 (pc' := 17) (ls' := [(0, .ref 90), (1, .int a1), (2, .int a2)]) (st' := [.int (-1000001), .ref 90]) (w' := (wd_1000 z)) (cs' := 0) (ss' := 0) ?_ (fun _ _ => rfl)
  refine go_cl (k := 2) (st' := [.int (-1000001)]) (cs' := 0) (ss' := 0) rfl rfl rfl rfl rfl rfl rfl (ro_5 z) ?_
  exact go_end 1 (fun _ _ => rfl)
theorem lf_1_184 (a0 : Int32) (a1 : Int32) (a2 : Int32) (a3 : Int32) (a4 : Int32) (a5 : Int32) (h0 : 0 ≤ a1.toInt) (h1 : a1.toInt < 4) (h2 : 0 ≤ a2.toInt) (h3 : 64 ≤ a2.toInt) : ∃ w', pq_Go 20 pm_law 245 [(3, .int 0), (2, .ref 90), (1, .ref 1), (0, .ref 0)] [] (fw (sz a0 a1 a2 a3 a4 a5)) 109 12668 (some (.int 1), w') := by
  refine ⟨(wd_1001 (sz a0 a1 a2 a3 a4 a5)), ?_⟩
  refine go_seg 8 (pc' := 253) (ls' := [(3, .int 0), (2, .ref 90), (1, .ref 1), (0, .ref 0)]) (st' := [.int 0, .ref 0, .int a1, .ref 1]) (w' := (fw (sz a0 a1 a2 a3 a4 a5))) (cs' := 109) (ss' := 12668) ?_ (fun _ _ => rfl)
  refine go_seg 3 (pc' := 256) (ls' := [(3, .int 0), (2, .ref 90), (1, .ref 1), (0, .ref 0)]) (st' := [.int a2, .int a1, .ref 1]) (w' := (fw (sz a0 a1 a2 a3 a4 a5))) (cs' := 109) (ss' := 12668) ?_ (fun _ _ => rfl)
  refine go_cl (k := 20) (st' := [.int (-1000001)]) (cs' := 109) (ss' := 12668) rfl rfl rfl rfl rfl rfl rfl (ro_181 (sz a0 a1 a2 a3 a4 a5) a1 a2 (by omega) (by omega) (by omega) (by omega)) ?_
  refine go_seg 8 (pc' := 267) (ls' := [(3, .int 0), (2, .ref 90), (1, .ref 1), (0, .ref 0)]) (st' := [.int 0, .ref 0, .int a1, .ref 90, .int (-1000001)]) (w' := (wd_1000 (sz a0 a1 a2 a3 a4 a5))) (cs' := 109) (ss' := 12668) ?_ (fun _ _ => rfl)
  refine go_seg 3 (pc' := 270) (ls' := [(3, .int 0), (2, .ref 90), (1, .ref 1), (0, .ref 0)]) (st' := [.int a2, .int a1, .ref 90, .int (-1000001)]) (w' := (wd_1000 (sz a0 a1 a2 a3 a4 a5))) (cs' := 109) (ss' := 12668) ?_ (fun _ _ => rfl)
  refine go_cl (k := 20) (st' := [.int (-1000001), .int (-1000001)]) (cs' := 109) (ss' := 12668) rfl rfl rfl rfl rfl rfl rfl (ro_183 (sz a0 a1 a2 a3 a4 a5) a1 a2 (by omega) (by omega) (by omega) (by omega)) ?_
  refine go_cmp true rfl (br_self _) ?_
  exact law_tail (f := sc a0 a1 a2 a3 a4 a5) rfl
theorem ro_185 (z : pq_C) (a1 : Int32) (h0 : 0 ≤ a1.toInt) (h1 : 4 ≤ a1.toInt) : pq_Ru 1 18 [.int a1] (fw z) (some (.int 0), (fw z)) := by
  refine ru_of (k := 0) (M := pm_18) rfl rfl ?_
  refine go_seg 1 (pc' := 1) (ls' := [(0, .int a1)]) (st' := [.int a1]) (w' := (fw z)) (cs' := 0) (ss' := 0) ?_ (fun _ _ => rfl)
  refine go_if false rfl (br_lt_f (b := 0) rfl (by omega)) ?_
  refine go_seg 2 (pc' := 6) (ls' := [(0, .int a1)]) (st' := [.int 4, .int a1]) (w' := (fw z)) (cs' := 0) (ss' := 0) ?_ (fun _ _ => rfl)
  refine go_cmp true rfl (br_ge_t (b := 4) rfl (by omega)) ?_
  exact go_end 2 (fun _ _ => rfl)
theorem ro_186 (z : pq_C) (a1 : Int32) (a2 : Int32) (h0 : 0 ≤ a1.toInt) (h1 : 4 ≤ a1.toInt) : pq_Ru 3 17 [.ref 1, .int a1, .int a2] (fw z) (some (.int (-1000001)), (wd_1000 z)) := by
  refine ru_of (k := 2) (M := pm_17) rfl rfl ?_
  refine go_seg 1 (pc' := 1) (ls' := [(0, .ref 1), (1, .int a1), (2, .int a2)]) (st' := [.int a1]) (w' := (fw z)) (cs' := 0) (ss' := 0) ?_ (fun _ _ => rfl)
  refine go_cl (k := 2) (st' := [.int 0]) (cs' := 0) (ss' := 0) rfl rfl rfl rfl rfl rfl rfl (ro_185 z a1 (by omega) (by omega)) ?_
  refine go_seg 3 (pc' := 16) (ls' := [(0, .ref 1), (1, .int a1), (2, .int a2)]) (st' := [.int 1, .ref 1]) (w' := (fw z)) (cs' := 0) (ss' := 0) ?_ (fun _ _ => rfl)
  refine go_cl (k := 2) (st' := [.int (-1000001)]) (cs' := 0) (ss' := 0) rfl rfl rfl rfl rfl rfl rfl (ro_2 z) ?_
  exact go_end 1 (fun _ _ => rfl)
theorem ro_187 (z : pq_C) (a1 : Int32) (h0 : 0 ≤ a1.toInt) (h1 : 4 ≤ a1.toInt) : pq_Ru 2 164 [.int a1] (wd_1000 z) (some (.int 0), (wd_1000 z)) := by
  refine ru_of (k := 1) (M := pm_164) rfl rfl ?_
  refine go_seg 4 (pc' := 6) (ls' := [(0, .int a1)]) (st' := [.long 3, .long 0, .long a1.toInt64]) (w' := (wd_1000 z)) (cs' := 0) (ss' := 0) ?_ (fun _ _ => rfl)
  refine go_cl (k := 1) (st' := [.int 0]) (cs' := 0) (ss' := 0) rfl rfl rfl rfl rfl rfl rfl (wi_f _ a1 0 3 0 3 rfl rfl (by omega)) ?_
  exact go_end 1 (fun _ _ => rfl)
theorem ro_188 (z : pq_C) (a1 : Int32) (a2 : Int32) (h0 : 0 ≤ a1.toInt) (h1 : 4 ≤ a1.toInt) : pq_Ru 3 163 [.ref 90, .int a1, .int a2] (wd_1000 z) (some (.int (-1000001)), (wd_1001 z)) := by
  refine ru_of (k := 2) (M := pm_163) rfl rfl ?_
  refine go_seg 1 (pc' := 1) (ls' := [(0, .ref 90), (1, .int a1), (2, .int a2)]) (st' := [.int a1]) (w' := (wd_1000 z)) (cs' := 0) (ss' := 0) ?_ (fun _ _ => rfl)
  refine go_cl (k := 2) (st' := [.int 0]) (cs' := 0) (ss' := 0) rfl rfl rfl rfl rfl rfl rfl (ro_187 z a1 (by omega) (by omega)) ?_
  refine go_seg 3 (pc' := 17) (ls' := [(0, .ref 90), (1, .int a1), (2, .int a2)]) (st' := [.int (-1000001), .ref 90]) (w' := (wd_1000 z)) (cs' := 0) (ss' := 0) ?_ (fun _ _ => rfl)
  refine go_cl (k := 2) (st' := [.int (-1000001)]) (cs' := 0) (ss' := 0) rfl rfl rfl rfl rfl rfl rfl (ro_5 z) ?_
  exact go_end 1 (fun _ _ => rfl)
theorem lf_1_189 (a0 : Int32) (a1 : Int32) (a2 : Int32) (a3 : Int32) (a4 : Int32) (a5 : Int32) (h0 : 0 ≤ a1.toInt) (h1 : 4 ≤ a1.toInt) : ∃ w', pq_Go 20 pm_law 245 [(3, .int 0), (2, .ref 90), (1, .ref 1), (0, .ref 0)] [] (fw (sz a0 a1 a2 a3 a4 a5)) 109 12668 (some (.int 1), w') := by
  refine ⟨(wd_1001 (sz a0 a1 a2 a3 a4 a5)), ?_⟩
  refine go_seg 8 (pc' := 253) (ls' := [(3, .int 0), (2, .ref 90), (1, .ref 1), (0, .ref 0)]) (st' := [.int 0, .ref 0, .int a1, .ref 1]) (w' := (fw (sz a0 a1 a2 a3 a4 a5))) (cs' := 109) (ss' := 12668) ?_ (fun _ _ => rfl)
  refine go_seg 3 (pc' := 256) (ls' := [(3, .int 0), (2, .ref 90), (1, .ref 1), (0, .ref 0)]) (st' := [.int a2, .int a1, .ref 1]) (w' := (fw (sz a0 a1 a2 a3 a4 a5))) (cs' := 109) (ss' := 12668) ?_ (fun _ _ => rfl)
  refine go_cl (k := 20) (st' := [.int (-1000001)]) (cs' := 109) (ss' := 12668) rfl rfl rfl rfl rfl rfl rfl (ro_186 (sz a0 a1 a2 a3 a4 a5) a1 a2 (by omega) (by omega)) ?_
  refine go_seg 8 (pc' := 267) (ls' := [(3, .int 0), (2, .ref 90), (1, .ref 1), (0, .ref 0)]) (st' := [.int 0, .ref 0, .int a1, .ref 90, .int (-1000001)]) (w' := (wd_1000 (sz a0 a1 a2 a3 a4 a5))) (cs' := 109) (ss' := 12668) ?_ (fun _ _ => rfl)
  refine go_seg 3 (pc' := 270) (ls' := [(3, .int 0), (2, .ref 90), (1, .ref 1), (0, .ref 0)]) (st' := [.int a2, .int a1, .ref 90, .int (-1000001)]) (w' := (wd_1000 (sz a0 a1 a2 a3 a4 a5))) (cs' := 109) (ss' := 12668) ?_ (fun _ _ => rfl)
  refine go_cl (k := 20) (st' := [.int (-1000001), .int (-1000001)]) (cs' := 109) (ss' := 12668) rfl rfl rfl rfl rfl rfl rfl (ro_188 (sz a0 a1 a2 a3 a4 a5) a1 a2 (by omega) (by omega)) ?_
  refine go_cmp true rfl (br_self _) ?_
  exact law_tail (f := sc a0 a1 a2 a3 a4 a5) rfl
theorem op_1 (a0 a1 a2 a3 a4 a5 : Int32) : ∃ w', pq_Go 20 pm_law 245 [(3, .int 0), (2, .ref 90), (1, .ref 1), (0, .ref 0)] [] (fw (sz a0 a1 a2 a3 a4 a5)) 109 12668 (some (.int 1), w') := by
  by_cases c0 : a1.toInt < 0
  · exact lf_1_142 a0 a1 a2 a3 a4 a5 (by omega)
  · by_cases c1 : a1.toInt < 4
    · by_cases c2 : a2.toInt < 0
      · exact lf_1_149 a0 a1 a2 a3 a4 a5 (by omega) (by omega) (by omega)
      · by_cases c3 : a2.toInt < 64
        · by_cases e4_0 : a1 = 0
          · subst e4_0
            exact lf_1_158 a0 a2 a3 a4 a5 (by omega) (by omega)
          replace e4_0 := ne_t (b := 0) rfl e4_0
          by_cases e4_1 : a1 = 1
          · subst e4_1
            exact lf_1_165 a0 a2 a3 a4 a5 (by omega) (by omega)
          replace e4_1 := ne_t (b := 1) rfl e4_1
          by_cases e4_2 : a1 = 2
          · subst e4_2
            exact lf_1_172 a0 a2 a3 a4 a5 (by omega) (by omega)
          replace e4_2 := ne_t (b := 2) rfl e4_2
          by_cases e4_3 : a1 = 3
          · subst e4_3
            exact lf_1_179 a0 a2 a3 a4 a5 (by omega) (by omega)
          replace e4_3 := ne_t (b := 3) rfl e4_3
          exfalso
          omega
        · exact lf_1_184 a0 a1 a2 a3 a4 a5 (by omega) (by omega) (by omega) (by omega)
    · exact lf_1_189 a0 a1 a2 a3 a4 a5 (by omega) (by omega)
