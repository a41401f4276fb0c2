theorem ro_73 (z : pq_C) (a1 : Int32) (h0 : a1.toInt < 0) : pq_Ru 1 66 [.int a1] (fw z) (some (.int 0), (fw z)) := by
  refine ru_of (k := 0) (M := pm_66) rfl rfl ?_
  refine go_seg 1 (pc' := 1) (ls' := [(0, .int a1)]) (st' := [.int a1]) (w' := (fw z)) (cs' := 0) (ss' := 0) ?_ (fun _ _ => rfl)
  refine go_if true rfl (br_lt_t (b := 0) rfl (by omega)) ?_
  exact go_end 2 (fun _ _ => rfl)
theorem ro_74 (z : pq_C) (a1 : Int32) (a2 : Int32) (h0 : a1.toInt < 0) : pq_Ru 3 65 [.ref 1, .int a1, .int a2] (fw z) (some (.int (-1000001)), (wd_1000 z)) := by
  refine ru_of (k := 2) (M := pm_65) rfl rfl ?_
  refine go_seg 1 (pc' := 1) (ls' := [(0, .ref 1), (1, .int a1), (2, .int a2)]) (st' := [.int a1]) (w' := (fw z)) (cs' := 0) (ss' := 0) ?_ (fun _ _ => rfl)
  refine go_cl (k := 2) (st' := [.int 0]) (cs' := 0) (ss' := 0) rfl rfl rfl rfl rfl rfl rfl (ro_73 z a1 (by omega)) ?_
  refine go_seg 3 (pc' := 16) (ls' := [(0, .ref 1), (1, .int a1), (2, .int a2)]) (st' := [.int 1, .ref 1]) (w' := (fw z)) (cs' := 0) (ss' := 0) ?_ (fun _ _ => rfl)
  refine go_cl (k := 2) (st' := [.int (-1000001)]) (cs' := 0) (ss' := 0) rfl rfl rfl rfl rfl rfl rfl (ro_2 z) ?_
  exact go_end 1 (fun _ _ => rfl)
theorem ro_75 (z : pq_C) (a1 : Int32) (a2 : Int32) (h0 : a1.toInt < 0) : pq_Ru 2 196 [.ref 90, .int a1, .int a2] (wd_1000 z) (some (.int (-1000001)), (wd_1001 z)) := by
  refine ru_of (k := 1) (M := pm_196) rfl rfl ?_
  refine go_seg 4 (pc' := 6) (ls' := [(0, .ref 90), (1, .int a1), (2, .int a2)]) (st' := [.long 3, .long 0, .long a1.toInt64]) (w' := (wd_1000 z)) (cs' := 0) (ss' := 0) ?_ (fun _ _ => rfl)
  refine go_cl (k := 1) (st' := [.int 0]) (cs' := 0) (ss' := 0) rfl rfl rfl rfl rfl rfl rfl (wi_f _ a1 0 3 0 3 rfl rfl (by omega)) ?_
  refine go_seg 3 (pc' := 27) (ls' := [(0, .ref 90), (1, .int a1), (2, .int a2)]) (st' := [.int (-1000001), .ref 90]) (w' := (wd_1000 z)) (cs' := 0) (ss' := 0) ?_ (fun _ _ => rfl)
  refine go_cl (k := 1) (st' := [.int (-1000001)]) (cs' := 0) (ss' := 0) rfl rfl rfl rfl rfl rfl rfl (ro_5 z) ?_
  exact go_end 1 (fun _ _ => rfl)
theorem lf_16_76 (a0 : Int32) (a1 : Int32) (a2 : Int32) (a3 : Int32) (a4 : Int32) (a5 : Int32) (h0 : a1.toInt < 0) : ∃ w', pq_Go 20 pm_law 786 [(3, .int 0), (2, .ref 90), (1, .ref 1), (0, .ref 0)] [] (fw (sz a0 a1 a2 a3 a4 a5)) 109 12668 (some (.int 1), w') := by
  refine ⟨(wd_1001 (sz a0 a1 a2 a3 a4 a5)), ?_⟩
  refine go_seg 8 (pc' := 794) (ls' := [(3, .int 0), (2, .ref 90), (1, .ref 1), (0, .ref 0)]) (st' := [.int 0, .ref 0, .int a1, .ref 1]) (w' := (fw (sz a0 a1 a2 a3 a4 a5))) (cs' := 109) (ss' := 12668) ?_ (fun _ _ => rfl)
  refine go_seg 3 (pc' := 797) (ls' := [(3, .int 0), (2, .ref 90), (1, .ref 1), (0, .ref 0)]) (st' := [.int a2, .int a1, .ref 1]) (w' := (fw (sz a0 a1 a2 a3 a4 a5))) (cs' := 109) (ss' := 12668) ?_ (fun _ _ => rfl)
  refine go_cl (k := 20) (st' := [.int (-1000001)]) (cs' := 109) (ss' := 12668) rfl rfl rfl rfl rfl rfl rfl (ro_74 (sz a0 a1 a2 a3 a4 a5) a1 a2 (by omega)) ?_
  refine go_seg 8 (pc' := 808) (ls' := [(3, .int 0), (2, .ref 90), (1, .ref 1), (0, .ref 0)]) (st' := [.int 0, .ref 0, .int a1, .ref 90, .int (-1000001)]) (w' := (wd_1000 (sz a0 a1 a2 a3 a4 a5))) (cs' := 109) (ss' := 12668) ?_ (fun _ _ => rfl)
  refine go_seg 3 (pc' := 811) (ls' := [(3, .int 0), (2, .ref 90), (1, .ref 1), (0, .ref 0)]) (st' := [.int a2, .int a1, .ref 90, .int (-1000001)]) (w' := (wd_1000 (sz a0 a1 a2 a3 a4 a5))) (cs' := 109) (ss' := 12668) ?_ (fun _ _ => rfl)
  refine go_cl (k := 20) (st' := [.int (-1000001), .int (-1000001)]) (cs' := 109) (ss' := 12668) rfl rfl rfl rfl rfl rfl rfl (ro_75 (sz a0 a1 a2 a3 a4 a5) a1 a2 (by omega)) ?_
  refine go_cmp true rfl (br_self _) ?_
  exact law_tail (f := sc a0 a1 a2 a3 a4 a5) rfl
theorem ro_77 (z : pq_C) (a1 : Int32) (h0 : 0 ≤ a1.toInt) (h1 : a1.toInt < 4) : pq_Ru 1 66 [.int a1] (fw z) (some (.int 1), (fw z)) := by
  refine ru_of (k := 0) (M := pm_66) rfl rfl ?_
  refine go_seg 1 (pc' := 1) (ls' := [(0, .int a1)]) (st' := [.int a1]) (w' := (fw z)) (cs' := 0) (ss' := 0) ?_ (fun _ _ => rfl)
  refine go_if false rfl (br_lt_f (b := 0) rfl (by omega)) ?_
  refine go_seg 2 (pc' := 6) (ls' := [(0, .int a1)]) (st' := [.int 4, .int a1]) (w' := (fw z)) (cs' := 0) (ss' := 0) ?_ (fun _ _ => rfl)
  refine go_cmp false rfl (br_ge_f (b := 4) rfl (by omega)) ?_
  exact go_end 3 (fun _ _ => rfl)
theorem ro_78 (z : pq_C) (a2 : Int32) (h0 : a2.toInt < 0) : pq_Ru 1 67 [.int a2] (fw z) (some (.int 0), (fw z)) := by
  refine ru_of (k := 0) (M := pm_67) rfl rfl ?_
  refine go_seg 1 (pc' := 1) (ls' := [(0, .int a2)]) (st' := [.int a2]) (w' := (fw z)) (cs' := 0) (ss' := 0) ?_ (fun _ _ => rfl)
  refine go_if true rfl (br_lt_t (b := 0) rfl (by omega)) ?_
  exact go_end 2 (fun _ _ => rfl)
theorem ro_79 (z : pq_C) (a1 : Int32) (a2 : Int32) (h0 : 0 ≤ a1.toInt) (h1 : a1.toInt < 4) (h2 : a2.toInt < 0) : pq_Ru 3 65 [.ref 1, .int a1, .int a2] (fw z) (some (.int (-1000001)), (wd_1000 z)) := by
  refine ru_of (k := 2) (M := pm_65) rfl rfl ?_
  refine go_seg 1 (pc' := 1) (ls' := [(0, .ref 1), (1, .int a1), (2, .int a2)]) (st' := [.int a1]) (w' := (fw z)) (cs' := 0) (ss' := 0) ?_ (fun _ _ => rfl)
  refine go_cl (k := 2) (st' := [.int 1]) (cs' := 0) (ss' := 0) rfl rfl rfl rfl rfl rfl rfl (ro_77 z a1 (by omega) (by omega)) ?_
  refine go_seg 2 (pc' := 8) (ls' := [(0, .ref 1), (1, .int a1), (2, .int a2)]) (st' := [.int a2]) (w' := (fw z)) (cs' := 0) (ss' := 0) ?_ (fun _ _ => rfl)
  refine go_cl (k := 2) (st' := [.int 0]) (cs' := 0) (ss' := 0) rfl rfl rfl rfl rfl rfl rfl (ro_78 z a2 (by omega)) ?_
  refine go_seg 3 (pc' := 16) (ls' := [(0, .ref 1), (1, .int a1), (2, .int a2)]) (st' := [.int 1, .ref 1]) (w' := (fw z)) (cs' := 0) (ss' := 0) ?_ (fun _ _ => rfl)
  refine go_cl (k := 2) (st' := [.int (-1000001)]) (cs' := 0) (ss' := 0) rfl rfl rfl rfl rfl rfl rfl (ro_2 z) ?_
  exact go_end 1 (fun _ _ => rfl)
theorem ro_80 (z : pq_C) (a1 : Int32) (a2 : Int32) (h0 : 0 ≤ a1.toInt) (h1 : a1.toInt < 4) (h2 : a2.toInt < 0) : pq_Ru 2 196 [.ref 90, .int a1, .int a2] (wd_1000 z) (some (.int (-1000001)), (wd_1001 z)) := by
  refine ru_of (k := 1) (M := pm_196) rfl rfl ?_
  refine go_seg 4 (pc' := 6) (ls' := [(0, .ref 90), (1, .int a1), (2, .int a2)]) (st' := [.long 3, .long 0, .long a1.toInt64]) (w' := (wd_1000 z)) (cs' := 0) (ss' := 0) ?_ (fun _ _ => rfl)
  refine go_cl (k := 1) (st' := [.int 1]) (cs' := 0) (ss' := 0) rfl rfl rfl rfl rfl rfl rfl (wi_t _ a1 0 3 0 3 rfl rfl (by omega)) ?_
  refine go_seg 5 (pc' := 18) (ls' := [(0, .ref 90), (1, .int a1), (2, .int a2)]) (st' := [.long 3000, .long 0, .long a2.toInt64]) (w' := (wd_1000 z)) (cs' := 0) (ss' := 0) ?_ (fun _ _ => rfl)
  refine go_cl (k := 1) (st' := [.int 0]) (cs' := 0) (ss' := 0) rfl rfl rfl rfl rfl rfl rfl (wi_f _ a2 0 3000 0 3000 rfl rfl (by omega)) ?_
  refine go_seg 3 (pc' := 27) (ls' := [(0, .ref 90), (1, .int a1), (2, .int a2)]) (st' := [.int (-1000001), .ref 90]) (w' := (wd_1000 z)) (cs' := 0) (ss' := 0) ?_ (fun _ _ => rfl)
  refine go_cl (k := 1) (st' := [.int (-1000001)]) (cs' := 0) (ss' := 0) rfl rfl rfl rfl rfl rfl rfl (ro_5 z) ?_
  exact go_end 1 (fun _ _ => rfl)
theorem lf_16_81 (a0 : Int32) (a1 : Int32) (a2 : Int32) (a3 : Int32) (a4 : Int32) (a5 : Int32) (h0 : 0 ≤ a1.toInt) (h1 : a1.toInt < 4) (h2 : a2.toInt < 0) : ∃ w', pq_Go 20 pm_law 786 [(3, .int 0), (2, .ref 90), (1, .ref 1), (0, .ref 0)] [] (fw (sz a0 a1 a2 a3 a4 a5)) 109 12668 (some (.int 1), w') := by
  refine ⟨(wd_1001 (sz a0 a1 a2 a3 a4 a5)), ?_⟩
  refine go_seg 8 (pc' := 794) (ls' := [(3, .int 0), (2, .ref 90), (1, .ref 1), (0, .ref 0)]) (st' := [.int 0, .ref 0, .int a1, .ref 1]) (w' := (fw (sz a0 a1 a2 a3 a4 a5))) (cs' := 109) (ss' := 12668) ?_ (fun _ _ => rfl)
  refine go_seg 3 (pc' := 797) (ls' := [(3, .int 0), (2, .ref 90), (1, .ref 1), (0, .ref 0)]) (st' := [.int a2, .int a1, .ref 1]) (w' := (fw (sz a0 a1 a2 a3 a4 a5))) (cs' := 109) (ss' := 12668) ?_ (fun _ _ => rfl)
  refine go_cl (k := 20) (st' := [.int (-1000001)]) (cs' := 109) (ss' := 12668) rfl rfl rfl rfl rfl rfl rfl (ro_79 (sz a0 a1 a2 a3 a4 a5) a1 a2 (by omega) (by omega) (by omega)) ?_
  refine go_seg 8 (pc' := 808) (ls' := [(3, .int 0), (2, .ref 90), (1, .ref 1), (0, .ref 0)]) (st' := [.int 0, .ref 0, .int a1, .ref 90, .int (-1000001)]) (w' := (wd_1000 (sz a0 a1 a2 a3 a4 a5))) (cs' := 109) (ss' := 12668) ?_ (fun _ _ => rfl)
  refine go_seg 3 (pc' := 811) (ls' := [(3, .int 0), (2, .ref 90), (1, .ref 1), (0, .ref 0)]) (st' := [.int a2, .int a1, .ref 90, .int (-1000001)]) (w' := (wd_1000 (sz a0 a1 a2 a3 a4 a5))) (cs' := 109) (ss' := 12668) ?_ (fun _ _ => rfl)
  refine go_cl (k := 20) (st' := [.int (-1000001), .int (-1000001)]) (cs' := 109) (ss' := 12668) rfl rfl rfl rfl rfl rfl rfl (ro_80 (sz a0 a1 a2 a3 a4 a5) a1 a2 (by omega) (by omega) (by omega)) ?_
  refine go_cmp true rfl (br_self _) ?_
  exact law_tail (f := sc a0 a1 a2 a3 a4 a5) rfl
theorem ro_82 (z : pq_C) (a2 : Int32) (h0 : 0 ≤ a2.toInt) (h1 : a2.toInt < 3001) : pq_Ru 1 67 [.int a2] (fw z) (some (.int 1), (fw z)) := by
  refine ru_of (k := 0) (M := pm_67) rfl rfl ?_
  refine go_seg 1 (pc' := 1) (ls' := [(0, .int a2)]) (st' := [.int a2]) (w' := (fw z)) (cs' := 0) (ss' := 0) ?_ (fun _ _ => rfl)
  refine go_if false rfl (br_lt_f (b := 0) rfl (by omega)) ?_
  refine go_seg 2 (pc' := 8) (ls' := [(0, .int a2)]) (st' := [.int 3000, .int a2]) (w' := (fw z)) (cs' := 0) (ss' := 0) ?_ (fun _ _ => rfl)
  refine go_cmp false rfl (br_gt_f (b := 3000) rfl (by omega)) ?_
  exact go_end 3 (fun _ _ => rfl)
def wd_1015 (z : pq_C) : pq_W := ((fw z).set 70 (.inr (4, [.ref 71, .int 0, .ref 20, .int 0, .int 0, .int 0])))
def wd_1016 (z : pq_C) : pq_W := ((((wd_1015 z).set 70 (.inr (4, [.ref 71, .int 0, .ref 20, .int 0, .int 0, .int 0]))).set 70 (.inr (4, [.ref 71, .int 0, .ref 20, .int 0, .int 0, .int 0]))).set 70 (.inr (4, [.ref 71, .int 0, .ref 20, .int 0, .int 0, .int 0])))
def wd_1017 (z : pq_C) : pq_W := ((wd_1016 z).set 70 (.inr (4, [.ref 71, .int 0, .ref 20, .int 0, .int 0, .int (-1)])))
theorem ro_86 (z : pq_C) : pq_Ru 1 71 [.ref 70] (wd_1017 z) (some (.int (-1)), (wd_1017 z)) := by
  refine ru_of (k := 0) (M := pm_71) rfl rfl ?_
  refine go_seg 8 (pc' := 46) (ls' := [(0, .ref 70)]) (st' := []) (w' := (wd_1017 z)) (cs' := 0) (ss' := 0) ?_ (fun _ _ => rfl)
  exact go_end 2 (fun _ _ => rfl)
theorem ro_87 (z : pq_C) : pq_Ru 1 72 [.int (-1)] (wd_1017 z) (some (.int (-1)), (wd_1017 z)) := by
  refine ru_of (k := 0) (M := pm_72) rfl rfl ?_
  exact go_end 4 (fun _ _ => rfl)
theorem ro_88 (z : pq_C) : pq_Ru 1 73 [.int (-1)] (wd_1017 z) (some (.int 0), (wd_1017 z)) := by
  refine ru_of (k := 0) (M := pm_73) rfl rfl ?_
  exact go_end 5 (fun _ _ => rfl)
def wd_1018 (z : pq_C) : pq_W := ((wd_1017 z).set 70 (.inr (4, [.ref 71, .int 0, .ref 20, .int 0, .int 0, .int 0])))
theorem ro_89 (z : pq_C) : pq_Ru 1 77 [.ref 70] (wd_1017 z) (none, (wd_1018 z)) := by
  refine ru_of (k := 0) (M := pm_77) rfl rfl ?_
  exact go_end 8 (fun _ _ => rfl)
theorem ro_91 (z : pq_C) : pq_Ru 2 70 [.ref 70, .int 0] (wd_1017 z) (none, (wd_1018 z)) := by
  refine ru_of (k := 1) (M := pm_70) rfl rfl ?_
  refine go_seg 1 (pc' := 1) (ls' := [(0, .ref 70), (1, .int 0)]) (st' := [.ref 70]) (w' := (wd_1017 z)) (cs' := 0) (ss' := 0) ?_ (fun _ _ => rfl)
  refine go_cl (k := 1) (st' := [.int (-1)]) (cs' := 0) (ss' := 0) rfl rfl rfl rfl rfl rfl rfl (ro_86 z) ?_
  refine go_seg 2 (pc' := 6) (ls' := [(2, .int (-1)), (0, .ref 70), (1, .int 0)]) (st' := [.int (-1)]) (w' := (wd_1017 z)) (cs' := 0) (ss' := 0) ?_ (fun _ _ => rfl)
  refine go_cl (k := 1) (st' := [.int (-1)]) (cs' := 0) (ss' := 0) rfl rfl rfl rfl rfl rfl rfl (ro_87 z) ?_
  refine go_seg 2 (pc' := 11) (ls' := [(3, .int (-1)), (2, .int (-1)), (0, .ref 70), (1, .int 0)]) (st' := [.int (-1)]) (w' := (wd_1017 z)) (cs' := 0) (ss' := 0) ?_ (fun _ _ => rfl)
  refine go_cl (k := 1) (st' := [.int 0]) (cs' := 0) (ss' := 0) rfl rfl rfl rfl rfl rfl rfl (ro_88 z) ?_
  refine go_seg 8 (pc' := 56) (ls' := [(3, .int (-1)), (2, .int (-1)), (0, .ref 70), (1, .int 0)]) (st' := [.int 33, .int (-1)]) (w' := (wd_1017 z)) (cs' := 0) (ss' := 0) ?_ (fun _ _ => rfl)
  refine go_seg 8 (pc' := 124) (ls' := [(3, .int (-1)), (2, .int (-1)), (0, .ref 70), (1, .int 0)]) (st' := [.ref 70]) (w' := (wd_1017 z)) (cs' := 0) (ss' := 0) ?_ (fun _ _ => rfl)
  refine go_cl (k := 1) (st' := []) (cs' := 0) (ss' := 0) rfl rfl rfl rfl rfl rfl rfl (ro_89 z) ?_
  exact go_end 1 (fun _ _ => rfl)
theorem ro_92 (z : pq_C) : pq_Ru 3 69 [.ref 70, .int 5, .int 0] (wd_1017 z) (none, (wd_1018 z)) := by
  refine ru_of (k := 2) (M := pm_69) rfl rfl ?_
  refine go_seg 5 (pc' := 7) (ls' := [(0, .ref 70), (1, .int 5), (2, .int 0)]) (st' := [.int 0, .ref 70]) (w' := (wd_1017 z)) (cs' := 0) (ss' := 0) ?_ (fun _ _ => rfl)
  refine go_cl (k := 2) (st' := []) (cs' := 0) (ss' := 0) rfl rfl rfl rfl rfl rfl rfl (ro_91 z) ?_
  exact go_end 1 (fun _ _ => rfl)
theorem ro_93 (z : pq_C) : pq_Ru 4 69 [.ref 70, .int 4, .int 0] (wd_1017 z) (none, (wd_1018 z)) := by
  refine ru_of (k := 3) (M := pm_69) rfl rfl ?_
  refine go_seg 8 (pc' := 16) (ls' := [(0, .ref 70), (1, .int 4), (2, .int 0)]) (st' := [.int 0, .int 5, .ref 70]) (w' := (wd_1017 z)) (cs' := 0) (ss' := 0) ?_ (fun _ _ => rfl)
  refine go_cl (k := 3) (st' := []) (cs' := 0) (ss' := 0) rfl rfl rfl rfl rfl rfl rfl (ro_92 z) ?_
  refine go_seg 8 (pc' := 90) (ls' := [(3, .int 0), (0, .ref 70), (1, .int 4), (2, .int 0)]) (st' := []) (w' := (wd_1018 z)) (cs' := 0) (ss' := 0) ?_ (fun _ _ => rfl)
  exact go_end 1 (fun _ _ => rfl)
theorem ro_94 (z : pq_C) : pq_Ru 5 69 [.ref 70, .int 3, .int 0] (wd_1017 z) (none, (wd_1018 z)) := by
  refine ru_of (k := 4) (M := pm_69) rfl rfl ?_
  refine go_seg 8 (pc' := 16) (ls' := [(0, .ref 70), (1, .int 3), (2, .int 0)]) (st' := [.int 0, .int 4, .ref 70]) (w' := (wd_1017 z)) (cs' := 0) (ss' := 0) ?_ (fun _ _ => rfl)
  refine go_cl (k := 4) (st' := []) (cs' := 0) (ss' := 0) rfl rfl rfl rfl rfl rfl rfl (ro_93 z) ?_
  refine go_seg 8 (pc' := 90) (ls' := [(3, .int 0), (0, .ref 70), (1, .int 3), (2, .int 0)]) (st' := []) (w' := (wd_1018 z)) (cs' := 0) (ss' := 0) ?_ (fun _ _ => rfl)
  exact go_end 1 (fun _ _ => rfl)
theorem ro_95 (z : pq_C) : pq_Ru 6 69 [.ref 70, .int 2, .int 0] (wd_1017 z) (none, (wd_1018 z)) := by
  refine ru_of (k := 5) (M := pm_69) rfl rfl ?_
  refine go_seg 8 (pc' := 16) (ls' := [(0, .ref 70), (1, .int 2), (2, .int 0)]) (st' := [.int 0, .int 3, .ref 70]) (w' := (wd_1017 z)) (cs' := 0) (ss' := 0) ?_ (fun _ _ => rfl)
  refine go_cl (k := 5) (st' := []) (cs' := 0) (ss' := 0) rfl rfl rfl rfl rfl rfl rfl (ro_94 z) ?_
  refine go_seg 8 (pc' := 90) (ls' := [(3, .int 0), (0, .ref 70), (1, .int 2), (2, .int 0)]) (st' := []) (w' := (wd_1018 z)) (cs' := 0) (ss' := 0) ?_ (fun _ _ => rfl)
  exact go_end 1 (fun _ _ => rfl)
theorem ro_96 (z : pq_C) : pq_Ru 7 69 [.ref 70, .int 1, .int 0] (wd_1017 z) (none, (wd_1018 z)) := by
  refine ru_of (k := 6) (M := pm_69) rfl rfl ?_
  refine go_seg 8 (pc' := 16) (ls' := [(0, .ref 70), (1, .int 1), (2, .int 0)]) (st' := [.int 0, .int 2, .ref 70]) (w' := (wd_1017 z)) (cs' := 0) (ss' := 0) ?_ (fun _ _ => rfl)
  refine go_cl (k := 6) (st' := []) (cs' := 0) (ss' := 0) rfl rfl rfl rfl rfl rfl rfl (ro_95 z) ?_
  refine go_seg 8 (pc' := 90) (ls' := [(3, .int 0), (0, .ref 70), (1, .int 1), (2, .int 0)]) (st' := []) (w' := (wd_1018 z)) (cs' := 0) (ss' := 0) ?_ (fun _ _ => rfl)
  exact go_end 1 (fun _ _ => rfl)
theorem ro_97 (z : pq_C) : pq_Ru 8 69 [.ref 70, .int 0, .int 0] (wd_1017 z) (none, (wd_1018 z)) := by
  refine ru_of (k := 7) (M := pm_69) rfl rfl ?_
  refine go_seg 8 (pc' := 16) (ls' := [(0, .ref 70), (1, .int 0), (2, .int 0)]) (st' := [.int 0, .int 1, .ref 70]) (w' := (wd_1017 z)) (cs' := 0) (ss' := 0) ?_ (fun _ _ => rfl)
  refine go_cl (k := 7) (st' := []) (cs' := 0) (ss' := 0) rfl rfl rfl rfl rfl rfl rfl (ro_96 z) ?_
  refine go_seg 8 (pc' := 90) (ls' := [(3, .int 0), (0, .ref 70), (1, .int 0), (2, .int 0)]) (st' := []) (w' := (wd_1018 z)) (cs' := 0) (ss' := 0) ?_ (fun _ _ => rfl)
  exact go_end 1 (fun _ _ => rfl)
theorem ro_98 (z : pq_C) : pq_Ru 9 68 [.ref 70, .ref 20, .int 0] (fw z) (some (.int 0), (wd_1018 z)) := by
  refine ru_of (k := 8) (M := pm_68) rfl rfl ?_
  refine go_seg 8 (pc' := 12) (ls' := [(0, .ref 70), (1, .ref 20), (2, .int 0)]) (st' := [.int 0, .ref 70]) (w' := (wd_1015 z)) (cs' := 0) (ss' := 0) ?_ (fun _ _ => rfl)
  refine go_seg 8 (pc' := 26) (ls' := [(0, .ref 70), (1, .ref 20), (2, .int 0)]) (st' := [.ref 70]) (w' := (wd_1016 z)) (cs' := 0) (ss' := 0) ?_ (fun _ _ => rfl)
  refine go_seg 5 (pc' := 33) (ls' := [(0, .ref 70), (1, .ref 20), (2, .int 0)]) (st' := [.int 0, .int 0, .ref 70]) (w' := (wd_1017 z)) (cs' := 0) (ss' := 0) ?_ (fun _ _ => rfl)
  refine go_cl (k := 8) (st' := []) (cs' := 0) (ss' := 0) rfl rfl rfl rfl rfl rfl rfl (ro_97 z) ?_
  exact go_end 8 (fun _ _ => rfl)
def wd_1019 (z : pq_C) : pq_W := ((wd_1018 z).set 19 (.inr (8, [.ref 20, .int 0, .int 0, .ref 21, .ref 22, .ref 23, .ref 24])))
theorem ro_100 (z : pq_C) (a1 : Int32) (a2 : Int32) (h0 : 0 ≤ a1.toInt) (h1 : a1.toInt < 4) (h2 : 0 ≤ a2.toInt) (h3 : a2.toInt < 3001) : pq_Ru 10 65 [.ref 1, .int a1, .int a2] (fw z) (some (.int (-10)), (wd_1019 z)) := by
  refine ru_of (k := 9) (M := pm_65) rfl rfl ?_
  refine go_seg 1 (pc' := 1) (ls' := [(0, .ref 1), (1, .int a1), (2, .int a2)]) (st' := [.int a1]) (w' := (fw z)) (cs' := 0) (ss' := 0) ?_ (fun _ _ => rfl)
  refine go_cl (k := 9) (st' := [.int 1]) (cs' := 0) (ss' := 0) rfl rfl rfl rfl rfl rfl rfl (ro_77 z a1 (by omega) (by omega)) ?_
  refine go_seg 2 (pc' := 8) (ls' := [(0, .ref 1), (1, .int a1), (2, .int a2)]) (st' := [.int a2]) (w' := (fw z)) (cs' := 0) (ss' := 0) ?_ (fun _ _ => rfl)
  refine go_cl (k := 9) (st' := [.int 1]) (cs' := 0) (ss' := 0) rfl rfl rfl rfl rfl rfl rfl (ro_82 z a2 (by omega) (by omega)) ?_
  refine go_seg 8 (pc' := 42) (ls' := [(0, .ref 1), (1, .int a1), (2, .int a2)]) (st' := [.ref 70]) (w' := (fw z)) (cs' := 0) (ss' := 0) ?_ (fun _ _ => rfl)
  refine go_seg 6 (pc' := 56) (ls' := [(0, .ref 1), (1, .int a1), (2, .int a2)]) (st' := [.int 0, .ref 20, .ref 70]) (w' := (fw z)) (cs' := 0) (ss' := 0) ?_ (fun _ _ => rfl)
  refine go_cl (k := 9) (st' := [.int 0]) (cs' := 0) (ss' := 0) rfl rfl rfl rfl rfl rfl rfl (ro_98 z) ?_
  refine go_seg 8 (pc' := 74) (ls' := [(3, .int 0), (0, .ref 1), (1, .int a1), (2, .int a2)]) (st' := [.int (-10)]) (w' := (wd_1019 z)) (cs' := 0) (ss' := 0) ?_ (fun _ _ => rfl)
  exact go_end 4 (fun _ _ => rfl)
def wd_1020 (z : pq_C) : pq_W := (((wd_1019 z).set 90 (.inr (11, [.ref 91, .ref 92, .int 0, .ref 93, .ref 94, .ref 95, .ref 96, .ref 97, .int 0, .ref 98, .ref 99, .int 0, .int 0, .int 0, .ref 100, .int 0, .ref 101, .ref 102, .ref 103, .ref 104, .ref 105, .ref 106, .ref 107, .ref 108, .int 0, .ref 109]))).set 90 (.inr (11, [.ref 91, .ref 92, .int 0, .ref 93, .ref 94, .ref 95, .ref 96, .ref 97, .int 0, .ref 98, .ref 99, .int 0, .int 0, .int 0, .ref 100, .int 0, .ref 101, .ref 102, .ref 103, .ref 104, .ref 105, .ref 106, .ref 107, .ref 108, .int 0, .ref 109])))
def wd_1021 (z : pq_C) : pq_W := [z, .inr (10, [.ref 2, .ref 11, .ref 19, .ref 25, .ref 36, .ref 45, .ref 53, .ref 59, .ref 70, .ref 73, .ref 76, .ref 79, .ref 83, .ref 85, .ref 89, .int 0]), .inr (7, [.ref 3, .ref 4, .ref 5, .ref 6, .ref 7, .ref 8, .ref 9, .ref 10, .int 0, .int 10]), .inl (.int, 64, .inl (fl_c 64 (-1) (fun _ => 0))), .inl (.boolean, 64, .inl (fun _ => 0)), .inl (.int, 8, .inl (fun _ => 0)), .inl (.int, 8, .inl (fl_c 8 1000 (fun _ => 0))), .inl (.int, 8, .inl (fl_c 8 100 (fun _ => 0))), .inl (.int, 8, .inl (fun _ => 0)), .inl (.int, 8, .inl (fun _ => 0)), .inl (.int, 8, .inl (fun _ => 0)), .inr (2, [.int 0, .ref 12, .ref 13, .ref 14, .int 0, .ref 15, .ref 16, .ref 17, .ref 18]), .inl (.int, 8, .inl (fun _ => 0)), .inl (.boolean, 8, .inl (fun _ => 0)), .inl (.int, 64, .inl (fun _ => 0)), .inl (.int, 12, .inl (fun _ => 0)), .inl (.int, 12, .inl (fun _ => 0)), .inl (.int, 12, .inl (fun _ => 0)), .inl (.long, 8, .inr (fun _ => 0)), .inr (8, [.ref 20, .int 0, .int 0, .ref 21, .ref 22, .ref 23, .ref 24]), .inl (.byte, 60, .inl (fun _ => 0)), .inl (.int, 12, .inl (fun _ => 0)), .inl (.int, 12, .inl (fun _ => 0)), .inl (.int, 12, .inl (fun _ => 0)), .inl (.int, 720, .inl (fun _ => 0)), .inr (3, [.int 0, .ref 26, .ref 27, .ref 28, .ref 29, .ref 30, .ref 31, .int 0, .ref 32, .ref 33, .ref 34, .ref 35]), .inl (.int, 30, .inl (fun _ => 0)), .inl (.int, 30, .inl (fun _ => 0)), .inl (.int, 30, .inl (fl_c 30 (-1) (fun _ => 0))), .inl (.boolean, 30, .inl (fun _ => 0)), .inl (.int, 240, .inl (fun _ => 0)), .inl (.int, 240, .inl (fun _ => 0)), .inl (.int, 40, .inl (fun _ => 0)), .inl (.int, 40, .inl (fun _ => 0)), .inl (.int, 70, .inl (fun _ => 0)), .inl (.int, 840, .inl (fun _ => 0)), .inr (7, [.ref 37, .ref 38, .ref 39, .ref 40, .ref 41, .ref 42, .ref 43, .ref 44, .int 0, .int 10]), .inl (.int, 64, .inl (fl_c 64 (-1) (fun _ => 0))), .inl (.boolean, 64, .inl (fun _ => 0)), .inl (.int, 8, .inl (fun _ => 0)), .inl (.int, 8, .inl (fl_c 8 1000 (fun _ => 0))), .inl (.int, 8, .inl (fl_c 8 100 (fun _ => 0))), .inl (.int, 8, .inl (fun _ => 0)), .inl (.int, 8, .inl (fun _ => 0)), .inl (.int, 8, .inl (fun _ => 0)), .inr (2, [.int 0, .ref 46, .ref 47, .ref 48, .int 0, .ref 49, .ref 50, .ref 51, .ref 52]), .inl (.int, 8, .inl (fun _ => 0)), .inl (.boolean, 8, .inl (fun _ => 0)), .inl (.int, 64, .inl (fun _ => 0)), .inl (.int, 12, .inl (fun _ => 0)), .inl (.int, 12, .inl (fun _ => 0)), .inl (.int, 12, .inl (fun _ => 0)), .inl (.long, 8, .inr (fun _ => 0)), .inr (8, [.ref 54, .int 0, .int 0, .ref 55, .ref 56, .ref 57, .ref 58]), .inl (.byte, 60, .inl (fun _ => 0)), .inl (.int, 12, .inl (fun _ => 0)), .inl (.int, 12, .inl (fun _ => 0)), .inl (.int, 12, .inl (fun _ => 0)), .inl (.int, 720, .inl (fun _ => 0)), .inr (3, [.int 0, .ref 60, .ref 61, .ref 62, .ref 63, .ref 64, .ref 65, .int 0, .ref 66, .ref 67, .ref 68, .ref 69]), .inl (.int, 30, .inl (fun _ => 0)), .inl (.int, 30, .inl (fun _ => 0)), .inl (.int, 30, .inl (fl_c 30 (-1) (fun _ => 0))), .inl (.boolean, 30, .inl (fun _ => 0)), .inl (.int, 240, .inl (fun _ => 0)), .inl (.int, 240, .inl (fun _ => 0)), .inl (.int, 40, .inl (fun _ => 0)), .inl (.int, 40, .inl (fun _ => 0)), .inl (.int, 70, .inl (fun _ => 0)), .inl (.int, 840, .inl (fun _ => 0)), .inr (4, [.ref 71, .int 0, .ref 20, .int 0, .int 0, .int 0]), .inl (.int, 60, .inl (fun _ => 0)), .inl (.byte, 0, .inl (fun _ => 0)), .inr (1, [.ref 2, .ref 11, .ref 19, .ref 25, .ref 74, .ref 75]), .inl (.int, 6, .inl (fun _ => 0)), .inl (.int, 60, .inl (fun _ => 0)), .inr (0, [.ref 2, .ref 11, .ref 25, .ref 73, .ref 77, .ref 78]), .inl (.int, 128, .inl (fun _ => 0)), .inl (.int, 128, .inl (fun _ => 0)), .inr (5, [.ref 80, .int 0, .ref 2, .ref 73, .ref 81, .ref 82]), .inl (.int, 64, .inl (fun _ => 0)), .inl (.int, 8, .inl (fun _ => 0)), .inl (.long, 64, .inr (fun _ => 0)), .inr (9, [.ref 84, .int 0, .int 0, .int 0, .int 0]), .inl (.int, 40, .inl (fun _ => 0)), .inr (6, [.ref 86, .ref 87, .ref 88]), .inl (.int, 4, .inl (fun _ => 0)), .inl (.int, 96, .inl (fun _ => 0)), .inl (.int, 4, .inl (fun _ => 0)), .inl (.int, 6, .inl (fun _ => 0)), .inr (11, [.ref 91, .ref 92, .int 0, .ref 93, .ref 94, .ref 95, .ref 96, .ref 97, .int 0, .ref 98, .ref 99, .int 0, .int 0, .int 0, .ref 100, .int 0, .ref 101, .ref 102, .ref 103, .ref 104, .ref 105, .ref 106, .ref 107, .ref 108, .int 0, .ref 109]), .inl (.int, 2858, .inl (upd (upd (upd (upd (upd (upd (upd (upd (upd (upd (upd (upd (upd (upd (upd (upd (upd (upd (upd (upd (upd (upd (upd (upd (upd (upd (upd (upd (upd (upd (upd (upd (upd (upd (upd (upd (upd (upd (upd (upd (upd (upd (upd (upd (upd (upd (upd (upd (upd (upd (upd (upd (upd (upd (upd (upd (upd (upd (upd (upd (upd (upd (upd (upd (upd (upd (upd (upd (upd (upd (upd (upd (upd (upd (upd (upd (upd (upd (upd (upd (upd (fun _ => 0) 1 10) 10 (-1)) 11 (-1)) 12 (-1)) 13 (-1)) 14 (-1)) 15 (-1)) 16 (-1)) 17 (-1)) 18 (-1)) 19 (-1)) 20 (-1)) 21 (-1)) 22 (-1)) 23 (-1)) 24 (-1)) 25 (-1)) 26 (-1)) 27 (-1)) 28 (-1)) 29 (-1)) 30 (-1)) 31 (-1)) 32 (-1)) 33 (-1)) 34 (-1)) 35 (-1)) 36 (-1)) 37 (-1)) 38 (-1)) 39 (-1)) 40 (-1)) 41 (-1)) 42 (-1)) 43 (-1)) 44 (-1)) 45 (-1)) 46 (-1)) 47 (-1)) 48 (-1)) 49 (-1)) 50 (-1)) 51 (-1)) 52 (-1)) 53 (-1)) 54 (-1)) 55 (-1)) 56 (-1)) 57 (-1)) 58 (-1)) 59 (-1)) 60 (-1)) 61 (-1)) 62 (-1)) 63 (-1)) 64 (-1)) 65 (-1)) 66 (-1)) 67 (-1)) 68 (-1)) 69 (-1)) 70 (-1)) 71 (-1)) 72 (-1)) 73 (-1)) 139 1000) 140 100) 145 1000) 146 100) 151 1000) 152 100) 157 1000) 158 100) 163 1000) 164 100) 169 1000) 170 100) 175 1000) 176 100) 181 1000) 182 100)), .inl (.int, 2858, .inl (fun _ => 0)), .inl (.int, 6, .inl (fun _ => 0)), .inl (.int, 4, .inl (fun _ => 0)), .inl (.int, 4, .inl (fun _ => 0)), .inl (.int, 96, .inl (fun _ => 0)), .inl (.int, 40, .inl (fun _ => 0)), .inl (.long, 8, .inr (fun _ => 0)), .inl (.long, 8, .inr (fun _ => 0)), .inl (.int, 70, .inl (fun _ => 0)), .inl (.int, 70, .inl (fun _ => 0)), .inl (.int, 64, .inl (fun _ => 0)), .inl (.int, 64, .inl (fun _ => 0)), .inl (.int, 8, .inl (fun _ => 0)), .inl (.int, 64, .inl (fun _ => 0)), .inl (.int, 64, .inl (fun _ => 0)), .inl (.int, 64, .inl (fun _ => 0)), .inl (.int, 64, .inl (fun _ => 0)), .inl (.int, 24, .inl (fun _ => 0))]
theorem ro_103 (z : pq_C) : pq_Ru 1 203 [.ref 90] (wd_1021 z) (some (.int (-1)), (wd_1021 z)) := by
  refine ru_of (k := 0) (M := pm_203) rfl rfl ?_
  refine go_seg 8 (pc' := 17) (ls' := [(0, .ref 90)]) (st' := [.int 7, .ref 91, .int 0]) (w' := (wd_1021 z)) (cs' := 0) (ss' := 0) ?_ (fun _ _ => rfl)
  exact go_end 4 (fun _ _ => rfl)
theorem ro_104 (z : pq_C) : pq_Ru 1 161 [.long (-1), .long 48, .long 57] (wd_1021 z) (some (.int 0), (wd_1021 z)) := by
  refine ru_of (k := 0) (M := pm_161) rfl rfl ?_
  exact go_end 6 (fun _ _ => rfl)
def wd_1022 (z : pq_C) : pq_W := ((wd_1021 z).set 90 (.inr (11, [.ref 91, .ref 92, .int 0, .ref 93, .ref 94, .ref 95, .ref 96, .ref 97, .int 0, .ref 98, .ref 99, .int 0, .int 0, .int 1, .ref 100, .int 0, .ref 101, .ref 102, .ref 103, .ref 104, .ref 105, .ref 106, .ref 107, .ref 108, .int 0, .ref 109])))
theorem ro_105 (z : pq_C) : pq_Ru 2 202 [.ref 90] (wd_1021 z) (none, (wd_1022 z)) := by
  refine ru_of (k := 1) (M := pm_202) rfl rfl ?_
  refine go_seg 1 (pc' := 1) (ls' := [(0, .ref 90)]) (st' := [.ref 90]) (w' := (wd_1021 z)) (cs' := 0) (ss' := 0) ?_ (fun _ _ => rfl)
  refine go_cl (k := 1) (st' := [.int (-1)]) (cs' := 0) (ss' := 0) rfl rfl rfl rfl rfl rfl rfl (ro_103 z) ?_
  refine go_seg 8 (pc' := 115) (ls' := [(1, .int (-1)), (0, .ref 90)]) (st' := [.int (-1)]) (w' := (wd_1021 z)) (cs' := 0) (ss' := 0) ?_ (fun _ _ => rfl)
  refine go_seg 3 (pc' := 122) (ls' := [(1, .int (-1)), (0, .ref 90)]) (st' := [.long 57, .long 48, .long (-1)]) (w' := (wd_1021 z)) (cs' := 0) (ss' := 0) ?_ (fun _ _ => rfl)
  refine go_cl (k := 1) (st' := [.int 0]) (cs' := 0) (ss' := 0) rfl rfl rfl rfl rfl rfl rfl (ro_104 z) ?_
  refine go_seg 8 (pc' := 211) (ls' := [(1, .int (-1)), (0, .ref 90)]) (st' := [.int 1, .ref 90]) (w' := (wd_1021 z)) (cs' := 0) (ss' := 0) ?_ (fun _ _ => rfl)
  exact go_end 6 (fun _ _ => rfl)
theorem ro_107 (z : pq_C) : pq_Ru 1 203 [.ref 90] (wd_1022 z) (some (.int (-1)), (wd_1022 z)) := by
  refine ru_of (k := 0) (M := pm_203) rfl rfl ?_
  exact go_end 5 (fun _ _ => rfl)
theorem ro_108 (z : pq_C) : pq_Ru 3 201 [.ref 90] (wd_1021 z) (none, (wd_1022 z)) := by
  refine ru_of (k := 2) (M := pm_201) rfl rfl ?_
  refine go_seg 1 (pc' := 1) (ls' := [(0, .ref 90)]) (st' := [.ref 90]) (w' := (wd_1021 z)) (cs' := 0) (ss' := 0) ?_ (fun _ _ => rfl)
  refine go_cl (k := 2) (st' := []) (cs' := 0) (ss' := 0) rfl rfl rfl rfl rfl rfl rfl (ro_105 z) ?_
  refine go_seg 1 (pc' := 5) (ls' := [(0, .ref 90)]) (st' := [.ref 90]) (w' := (wd_1022 z)) (cs' := 0) (ss' := 0) ?_ (fun _ _ => rfl)
  refine go_cl (k := 2) (st' := [.int (-1)]) (cs' := 0) (ss' := 0) rfl rfl rfl rfl rfl rfl rfl (ro_107 z) ?_
  exact go_end 8 (fun _ _ => rfl)
theorem ro_109 (z : pq_C) : pq_Ru 4 200 [.ref 90] (wd_1021 z) (none, (wd_1022 z)) := by
  refine ru_of (k := 3) (M := pm_200) rfl rfl ?_
  refine go_seg 1 (pc' := 1) (ls' := [(0, .ref 90)]) (st' := [.ref 90]) (w' := (wd_1021 z)) (cs' := 0) (ss' := 0) ?_ (fun _ _ => rfl)
  refine go_cl (k := 3) (st' := []) (cs' := 0) (ss' := 0) rfl rfl rfl rfl rfl rfl rfl (ro_108 z) ?_
  refine go_seg 1 (pc' := 5) (ls' := [(0, .ref 90)]) (st' := [.ref 90]) (w' := (wd_1022 z)) (cs' := 0) (ss' := 0) ?_ (fun _ _ => rfl)
  refine go_cl (k := 3) (st' := [.int (-1)]) (cs' := 0) (ss' := 0) rfl rfl rfl rfl rfl rfl rfl (ro_107 z) ?_
  exact go_end 8 (fun _ _ => rfl)
theorem ro_110 (z : pq_C) : pq_Ru 5 199 [.ref 90] (wd_1021 z) (none, (wd_1022 z)) := by
  refine ru_of (k := 4) (M := pm_199) rfl rfl ?_
  refine go_seg 1 (pc' := 1) (ls' := [(0, .ref 90)]) (st' := [.ref 90]) (w' := (wd_1021 z)) (cs' := 0) (ss' := 0) ?_ (fun _ _ => rfl)
  refine go_cl (k := 4) (st' := []) (cs' := 0) (ss' := 0) rfl rfl rfl rfl rfl rfl rfl (ro_109 z) ?_
  refine go_seg 1 (pc' := 5) (ls' := [(0, .ref 90)]) (st' := [.ref 90]) (w' := (wd_1022 z)) (cs' := 0) (ss' := 0) ?_ (fun _ _ => rfl)
  refine go_cl (k := 4) (st' := [.int (-1)]) (cs' := 0) (ss' := 0) rfl rfl rfl rfl rfl rfl rfl (ro_107 z) ?_
  refine go_seg 8 (pc' := 22) (ls' := [(1, .int (-1)), (0, .ref 90)]) (st' := [.int (-1)]) (w' := (wd_1022 z)) (cs' := 0) (ss' := 0) ?_ (fun _ _ => rfl)
  exact go_end 3 (fun _ _ => rfl)
theorem ro_111 (z : pq_C) : pq_Ru 6 198 [.ref 90] (wd_1021 z) (none, (wd_1022 z)) := by
  refine ru_of (k := 5) (M := pm_198) rfl rfl ?_
  refine go_seg 1 (pc' := 1) (ls' := [(0, .ref 90)]) (st' := [.ref 90]) (w' := (wd_1021 z)) (cs' := 0) (ss' := 0) ?_ (fun _ _ => rfl)
  refine go_cl (k := 5) (st' := []) (cs' := 0) (ss' := 0) rfl rfl rfl rfl rfl rfl rfl (ro_110 z) ?_
  refine go_seg 1 (pc' := 5) (ls' := [(0, .ref 90)]) (st' := [.ref 90]) (w' := (wd_1022 z)) (cs' := 0) (ss' := 0) ?_ (fun _ _ => rfl)
  refine go_cl (k := 5) (st' := [.int (-1)]) (cs' := 0) (ss' := 0) rfl rfl rfl rfl rfl rfl rfl (ro_107 z) ?_
  exact go_end 3 (fun _ _ => rfl)
theorem ro_112 (z : pq_C) : pq_Ru 7 197 [.ref 90] (wd_1021 z) (none, (wd_1022 z)) := by
  refine ru_of (k := 6) (M := pm_197) rfl rfl ?_
  refine go_seg 1 (pc' := 1) (ls' := [(0, .ref 90)]) (st' := [.ref 90]) (w' := (wd_1021 z)) (cs' := 0) (ss' := 0) ?_ (fun _ _ => rfl)
  refine go_cl (k := 6) (st' := []) (cs' := 0) (ss' := 0) rfl rfl rfl rfl rfl rfl rfl (ro_111 z) ?_
  refine go_seg 1 (pc' := 5) (ls' := [(0, .ref 90)]) (st' := [.ref 90]) (w' := (wd_1022 z)) (cs' := 0) (ss' := 0) ?_ (fun _ _ => rfl)
  refine go_cl (k := 6) (st' := [.int (-1)]) (cs' := 0) (ss' := 0) rfl rfl rfl rfl rfl rfl rfl (ro_107 z) ?_
  exact go_end 3 (fun _ _ => rfl)
def wd_1023 (z : pq_C) : pq_W := ((wd_1022 z).set 90 (.inr (11, [.ref 91, .ref 92, .int 0, .ref 93, .ref 94, .ref 95, .ref 96, .ref 97, .int 0, .ref 98, .ref 99, .int 0, .int 0, .int 1, .ref 100, .int 0, .ref 101, .ref 102, .ref 103, .ref 104, .ref 105, .ref 106, .ref 107, .ref 108, .int 0, .ref 109])))
def wd_1024 (z : pq_C) : pq_W := ((wd_1023 z).set 91 (.inl (.int, 2858, .inl (upd (upd (upd (upd (upd (upd (upd (upd (upd (upd (upd (upd (upd (upd (upd (upd (upd (upd (upd (upd (upd (upd (upd (upd (upd (upd (upd (upd (upd (upd (upd (upd (upd (upd (upd (upd (upd (upd (upd (upd (upd (upd (upd (upd (upd (upd (upd (upd (upd (upd (upd (upd (upd (upd (upd (upd (upd (upd (upd (upd (upd (upd (upd (upd (upd (upd (upd (upd (upd (upd (upd (upd (upd (upd (upd (upd (upd (upd (upd (upd (upd (upd (fun _ => 0) 1 10) 10 (-1)) 11 (-1)) 12 (-1)) 13 (-1)) 14 (-1)) 15 (-1)) 16 (-1)) 17 (-1)) 18 (-1)) 19 (-1)) 20 (-1)) 21 (-1)) 22 (-1)) 23 (-1)) 24 (-1)) 25 (-1)) 26 (-1)) 27 (-1)) 28 (-1)) 29 (-1)) 30 (-1)) 31 (-1)) 32 (-1)) 33 (-1)) 34 (-1)) 35 (-1)) 36 (-1)) 37 (-1)) 38 (-1)) 39 (-1)) 40 (-1)) 41 (-1)) 42 (-1)) 43 (-1)) 44 (-1)) 45 (-1)) 46 (-1)) 47 (-1)) 48 (-1)) 49 (-1)) 50 (-1)) 51 (-1)) 52 (-1)) 53 (-1)) 54 (-1)) 55 (-1)) 56 (-1)) 57 (-1)) 58 (-1)) 59 (-1)) 60 (-1)) 61 (-1)) 62 (-1)) 63 (-1)) 64 (-1)) 65 (-1)) 66 (-1)) 67 (-1)) 68 (-1)) 69 (-1)) 70 (-1)) 71 (-1)) 72 (-1)) 73 (-1)) 139 1000) 140 100) 145 1000) 146 100) 151 1000) 152 100) 157 1000) 158 100) 163 1000) 164 100) 169 1000) 170 100) 175 1000) 176 100) 181 1000) 182 100) 7 0))))
theorem ro_115 (z : pq_C) (a1 : Int32) (a2 : Int32) (h0 : 0 ≤ a1.toInt) (h1 : a1.toInt < 4) (h2 : 0 ≤ a2.toInt) (h3 : a2.toInt < 3001) : pq_Ru 8 196 [.ref 90, .int a1, .int a2] (wd_1019 z) (some (.int (-10)), (wd_1024 z)) := by
  refine ru_of (k := 7) (M := pm_196) rfl rfl ?_
  refine go_seg 4 (pc' := 6) (ls' := [(0, .ref 90), (1, .int a1), (2, .int a2)]) (st' := [.long 3, .long 0, .long a1.toInt64]) (w' := (wd_1019 z)) (cs' := 0) (ss' := 0) ?_ (fun _ _ => rfl)
  refine go_cl (k := 7) (st' := [.int 1]) (cs' := 0) (ss' := 0) rfl rfl rfl rfl rfl rfl rfl (wi_t _ a1 0 3 0 3 rfl rfl (by omega)) ?_
  refine go_seg 5 (pc' := 18) (ls' := [(0, .ref 90), (1, .int a1), (2, .int a2)]) (st' := [.long 3000, .long 0, .long a2.toInt64]) (w' := (wd_1019 z)) (cs' := 0) (ss' := 0) ?_ (fun _ _ => rfl)
  refine go_cl (k := 7) (st' := [.int 1]) (cs' := 0) (ss' := 0) rfl rfl rfl rfl rfl rfl rfl (wi_t _ a2 0 3000 0 3000 rfl rfl (by omega)) ?_
  refine go_seg 8 (pc' := 41) (ls' := [(3, .int 0), (0, .ref 90), (1, .int a1), (2, .int a2)]) (st' := [.int 12, .int 0]) (w' := (wd_1019 z)) (cs' := 0) (ss' := 0) ?_ (fun _ _ => rfl)
  refine go_seg 8 (pc' := 62) (ls' := [(3, .int 0), (0, .ref 90), (1, .int a1), (2, .int a2)]) (st' := [.ref 90]) (w' := (wd_1020 z)) (cs' := 0) (ss' := 0) ?_ (fun _ _ => rfl)
  refine go_seg 6 (pc' := 72) (ls' := [(3, .int 0), (0, .ref 90), (1, .int a1), (2, .int a2)]) (st' := [.ref 90]) (w' := (wd_1021 z)) (cs' := 0) (ss' := 0) ?_ (fun _ _ => rfl)
  refine go_cl (k := 7) (st' := []) (cs' := 0) (ss' := 0) rfl rfl rfl rfl rfl rfl rfl (ro_112 z) ?_
  refine go_seg 8 (pc' := 106) (ls' := [(3, .int 0), (0, .ref 90), (1, .int a1), (2, .int a2)]) (st' := [.ref 90]) (w' := (wd_1023 z)) (cs' := 0) (ss' := 0) ?_ (fun _ _ => rfl)
  refine go_seg 8 (pc' := 122) (ls' := [(3, .int 0), (0, .ref 90), (1, .int a1), (2, .int a2)]) (st' := [.int (-10)]) (w' := (wd_1024 z)) (cs' := 0) (ss' := 0) ?_ (fun _ _ => rfl)
  exact go_end 4 (fun _ _ => rfl)
theorem lf_16_116 (a0 : Int32) (a1 : Int32) (a2 : Int32) (a3 : Int32) (a4 : Int32) (a5 : Int32) (h0 : 0 ≤ a1.toInt) (h1 : a1.toInt < 4) (h2 : 0 ≤ a2.toInt) (h3 : a2.toInt < 3001) : ∃ w', pq_Go 20 pm_law 786 [(3, .int 0), (2, .ref 90), (1, .ref 1), (0, .ref 0)] [] (fw (sz a0 a1 a2 a3 a4 a5)) 109 12668 (some (.int 1), w') := by
  refine ⟨(wd_1024 (sz a0 a1 a2 a3 a4 a5)), ?_⟩
  refine go_seg 8 (pc' := 794) (ls' := [(3, .int 0), (2, .ref 90), (1, .ref 1), (0, .ref 0)]) (st' := [.int 0, .ref 0, .int a1, .ref 1]) (w' := (fw (sz a0 a1 a2 a3 a4 a5))) (cs' := 109) (ss' := 12668) ?_ (fun _ _ => rfl)
  refine go_seg 3 (pc' := 797) (ls' := [(3, .int 0), (2, .ref 90), (1, .ref 1), (0, .ref 0)]) (st' := [.int a2, .int a1, .ref 1]) (w' := (fw (sz a0 a1 a2 a3 a4 a5))) (cs' := 109) (ss' := 12668) ?_ (fun _ _ => rfl)
  refine go_cl (k := 20) (st' := [.int (-10)]) (cs' := 109) (ss' := 12668) rfl rfl rfl rfl rfl rfl rfl (ro_100 (sz a0 a1 a2 a3 a4 a5) a1 a2 (by omega) (by omega) (by omega) (by omega)) ?_
  refine go_seg 8 (pc' := 808) (ls' := [(3, .int 0), (2, .ref 90), (1, .ref 1), (0, .ref 0)]) (st' := [.int 0, .ref 0, .int a1, .ref 90, .int (-10)]) (w' := (wd_1019 (sz a0 a1 a2 a3 a4 a5))) (cs' := 109) (ss' := 12668) ?_ (fun _ _ => rfl)
  refine go_seg 3 (pc' := 811) (ls' := [(3, .int 0), (2, .ref 90), (1, .ref 1), (0, .ref 0)]) (st' := [.int a2, .int a1, .ref 90, .int (-10)]) (w' := (wd_1019 (sz a0 a1 a2 a3 a4 a5))) (cs' := 109) (ss' := 12668) ?_ (fun _ _ => rfl)
  refine go_cl (k := 20) (st' := [.int (-10), .int (-10)]) (cs' := 109) (ss' := 12668) rfl rfl rfl rfl rfl rfl rfl (ro_115 (sz a0 a1 a2 a3 a4 a5) a1 a2 (by omega) (by omega) (by omega) (by omega)) ?_
  refine go_cmp true rfl (br_self _) ?_
  exact law_tail (f := sc a0 a1 a2 a3 a4 a5) rfl
theorem ro_117 (z : pq_C) (a2 : Int32) (h0 : 0 ≤ a2.toInt) (h1 : 3001 ≤ a2.toInt) : pq_Ru 1 67 [.int a2] (fw z) (some (.int 0), (fw z)) := by
  refine ru_of (k := 0) (M := pm_67) rfl rfl ?_
  refine go_seg 1 (pc' := 1) (ls' := [(0, .int a2)]) (st' := [.int a2]) (w' := (fw z)) (cs' := 0) (ss' := 0) ?_ (fun _ _ => rfl)
  refine go_if false rfl (br_lt_f (b := 0) rfl (by omega)) ?_
  refine go_seg 2 (pc' := 8) (ls' := [(0, .int a2)]) (st' := [.int 3000, .int a2]) (w' := (fw z)) (cs' := 0) (ss' := 0) ?_ (fun _ _ => rfl)
  refine go_cmp true rfl (br_gt_t (b := 3000) rfl (by omega)) ?_
  exact go_end 2 (fun _ _ => rfl)
theorem ro_118 (z : pq_C) (a1 : Int32) (a2 : Int32) (h0 : 0 ≤ a1.toInt) (h1 : a1.toInt < 4) (h2 : 0 ≤ a2.toInt) (h3 : 3001 ≤ a2.toInt) : pq_Ru 3 65 [.ref 1, .int a1, .int a2] (fw z) (some (.int (-1000001)), (wd_1000 z)) := by
  refine ru_of (k := 2) (M := pm_65) rfl rfl ?_
  refine go_seg 1 (pc' := 1) (ls' := [(0, .ref 1), (1, .int a1), (2, .int a2)]) (st' := [.int a1]) (w' := (fw z)) (cs' := 0) (ss' := 0) ?_ (fun _ _ => rfl)
  refine go_cl (k := 2) (st' := [.int 1]) (cs' := 0) (ss' := 0) rfl rfl rfl rfl rfl rfl rfl (ro_77 z a1 (by omega) (by omega)) ?_
  refine go_seg 2 (pc' := 8) (ls' := [(0, .ref 1), (1, .int a1), (2, .int a2)]) (st' := [.int a2]) (w' := (fw z)) (cs' := 0) (ss' := 0) ?_ (fun _ _ => rfl)
  refine go_cl (k := 2) (st' := [.int 0]) (cs' := 0) (ss' := 0) rfl rfl rfl rfl rfl rfl rfl (ro_117 z a2 (by omega) (by omega)) ?_
  refine go_seg 3 (pc' := 16) (ls' := [(0, .ref 1), (1, .int a1), (2, .int a2)]) (st' := [.int 1, .ref 1]) (w' := (fw z)) (cs' := 0) (ss' := 0) ?_ (fun _ _ => rfl)
  refine go_cl (k := 2) (st' := [.int (-1000001)]) (cs' := 0) (ss' := 0) rfl rfl rfl rfl rfl rfl rfl (ro_2 z) ?_
  exact go_end 1 (fun _ _ => rfl)
theorem ro_119 (z : pq_C) (a1 : Int32) (a2 : Int32) (h0 : 0 ≤ a1.toInt) (h1 : a1.toInt < 4) (h2 : 0 ≤ a2.toInt) (h3 : 3001 ≤ a2.toInt) : pq_Ru 2 196 [.ref 90, .int a1, .int a2] (wd_1000 z) (some (.int (-1000001)), (wd_1001 z)) := by
  refine ru_of (k := 1) (M := pm_196) rfl rfl ?_
  refine go_seg 4 (pc' := 6) (ls' := [(0, .ref 90), (1, .int a1), (2, .int a2)]) (st' := [.long 3, .long 0, .long a1.toInt64]) (w' := (wd_1000 z)) (cs' := 0) (ss' := 0) ?_ (fun _ _ => rfl)
  refine go_cl (k := 1) (st' := [.int 1]) (cs' := 0) (ss' := 0) rfl rfl rfl rfl rfl rfl rfl (wi_t _ a1 0 3 0 3 rfl rfl (by omega)) ?_
  refine go_seg 5 (pc' := 18) (ls' := [(0, .ref 90), (1, .int a1), (2, .int a2)]) (st' := [.long 3000, .long 0, .long a2.toInt64]) (w' := (wd_1000 z)) (cs' := 0) (ss' := 0) ?_ (fun _ _ => rfl)
  refine go_cl (k := 1) (st' := [.int 0]) (cs' := 0) (ss' := 0) rfl rfl rfl rfl rfl rfl rfl (wi_f _ a2 0 3000 0 3000 rfl rfl (by omega)) ?_
  refine go_seg 3 (pc' := 27) (ls' := [(0, .ref 90), (1, .int a1), (2, .int a2)]) (st' := [.int (-1000001), .ref 90]) (w' := (wd_1000 z)) (cs' := 0) (ss' := 0) ?_ (fun _ _ => rfl)
  refine go_cl (k := 1) (st' := [.int (-1000001)]) (cs' := 0) (ss' := 0) rfl rfl rfl rfl rfl rfl rfl (ro_5 z) ?_
  exact go_end 1 (fun _ _ => rfl)
theorem lf_16_120 (a0 : Int32) (a1 : Int32) (a2 : Int32) (a3 : Int32) (a4 : Int32) (a5 : Int32) (h0 : 0 ≤ a1.toInt) (h1 : a1.toInt < 4) (h2 : 0 ≤ a2.toInt) (h3 : 3001 ≤ a2.toInt) : ∃ w', pq_Go 20 pm_law 786 [(3, .int 0), (2, .ref 90), (1, .ref 1), (0, .ref 0)] [] (fw (sz a0 a1 a2 a3 a4 a5)) 109 12668 (some (.int 1), w') := by
  refine ⟨(wd_1001 (sz a0 a1 a2 a3 a4 a5)), ?_⟩
  refine go_seg 8 (pc' := 794) (ls' := [(3, .int 0), (2, .ref 90), (1, .ref 1), (0, .ref 0)]) (st' := [.int 0, .ref 0, .int a1, .ref 1]) (w' := (fw (sz a0 a1 a2 a3 a4 a5))) (cs' := 109) (ss' := 12668) ?_ (fun _ _ => rfl)
  refine go_seg 3 (pc' := 797) (ls' := [(3, .int 0), (2, .ref 90), (1, .ref 1), (0, .ref 0)]) (st' := [.int a2, .int a1, .ref 1]) (w' := (fw (sz a0 a1 a2 a3 a4 a5))) (cs' := 109) (ss' := 12668) ?_ (fun _ _ => rfl)
  refine go_cl (k := 20) (st' := [.int (-1000001)]) (cs' := 109) (ss' := 12668) rfl rfl rfl rfl rfl rfl rfl (ro_118 (sz a0 a1 a2 a3 a4 a5) a1 a2 (by omega) (by omega) (by omega) (by omega)) ?_
  refine go_seg 8 (pc' := 808) (ls' := [(3, .int 0), (2, .ref 90), (1, .ref 1), (0, .ref 0)]) (st' := [.int 0, .ref 0, .int a1, .ref 90, .int (-1000001)]) (w' := (wd_1000 (sz a0 a1 a2 a3 a4 a5))) (cs' := 109) (ss' := 12668) ?_ (fun _ _ => rfl)
  refine go_seg 3 (pc' := 811) (ls' := [(3, .int 0), (2, .ref 90), (1, .ref 1), (0, .ref 0)]) (st' := [.int a2, .int a1, .ref 90, .int (-1000001)]) (w' := (wd_1000 (sz a0 a1 a2 a3 a4 a5))) (cs' := 109) (ss' := 12668) ?_ (fun _ _ => rfl)
  refine go_cl (k := 20) (st' := [.int (-1000001), .int (-1000001)]) (cs' := 109) (ss' := 12668) rfl rfl rfl rfl rfl rfl rfl (ro_119 (sz a0 a1 a2 a3 a4 a5) a1 a2 (by omega) (by omega) (by omega) (by omega)) ?_
  refine go_cmp true rfl (br_self _) ?_
  exact law_tail (f := sc a0 a1 a2 a3 a4 a5) rfl
theorem ro_121 (z : pq_C) (a1 : Int32) (h0 : 0 ≤ a1.toInt) (h1 : 4 ≤ a1.toInt) : pq_Ru 1 66 [.int a1] (fw z) (some (.int 0), (fw z)) := by
  refine ru_of (k := 0) (M := pm_66) rfl rfl ?_
  refine go_seg 1 (pc' := 1) (ls' := [(0, .int a1)]) (st' := [.int a1]) (w' := (fw z)) (cs' := 0) (ss' := 0) ?_ (fun _ _ => rfl)
  refine go_if false rfl (br_lt_f (b := 0) rfl (by omega)) ?_
  refine go_seg 2 (pc' := 6) (ls' := [(0, .int a1)]) (st' := [.int 4, .int a1]) (w' := (fw z)) (cs' := 0) (ss' := 0) ?_ (fun _ _ => rfl)
  refine go_cmp true rfl (br_ge_t (b := 4) rfl (by omega)) ?_
  exact go_end 2 (fun _ _ => rfl)
theorem ro_122 (z : pq_C) (a1 : Int32) (a2 : Int32) (h0 : 0 ≤ a1.toInt) (h1 : 4 ≤ a1.toInt) : pq_Ru 3 65 [.ref 1, .int a1, .int a2] (fw z) (some (.int (-1000001)), (wd_1000 z)) := by
  refine ru_of (k := 2) (M := pm_65) rfl rfl ?_
  refine go_seg 1 (pc' := 1) (ls' := [(0, .ref 1), (1, .int a1), (2, .int a2)]) (st' := [.int a1]) (w' := (fw z)) (cs' := 0) (ss' := 0) ?_ (fun _ _ => rfl)
  refine go_cl (k := 2) (st' := [.int 0]) (cs' := 0) (ss' := 0) rfl rfl rfl rfl rfl rfl rfl (ro_121 z a1 (by omega) (by omega)) ?_
  refine go_seg 3 (pc' := 16) (ls' := [(0, .ref 1), (1, .int a1), (2, .int a2)]) (st' := [.int 1, .ref 1]) (w' := (fw z)) (cs' := 0) (ss' := 0) ?_ (fun _ _ => rfl)
  refine go_cl (k := 2) (st' := [.int (-1000001)]) (cs' := 0) (ss' := 0) rfl rfl rfl rfl rfl rfl rfl (ro_2 z) ?_
  exact go_end 1 (fun _ _ => rfl)
theorem ro_123 (z : pq_C) (a1 : Int32) (a2 : Int32) (h0 : 0 ≤ a1.toInt) (h1 : 4 ≤ a1.toInt) : pq_Ru 2 196 [.ref 90, .int a1, .int a2] (wd_1000 z) (some (.int (-1000001)), (wd_1001 z)) := by
  refine ru_of (k := 1) (M := pm_196) rfl rfl ?_
  refine go_seg 4 (pc' := 6) (ls' := [(0, .ref 90), (1, .int a1), (2, .int a2)]) (st' := [.long 3, .long 0, .long a1.toInt64]) (w' := (wd_1000 z)) (cs' := 0) (ss' := 0) ?_ (fun _ _ => rfl)
  refine go_cl (k := 1) (st' := [.int 0]) (cs' := 0) (ss' := 0) rfl rfl rfl rfl rfl rfl rfl (wi_f _ a1 0 3 0 3 rfl rfl (by omega)) ?_
  refine go_seg 3 (pc' := 27) (ls' := [(0, .ref 90), (1, .int a1), (2, .int a2)]) (st' := [.int (-1000001), .ref 90]) (w' := (wd_1000 z)) (cs' := 0) (ss' := 0) ?_ (fun _ _ => rfl)
  refine go_cl (k := 1) (st' := [.int (-1000001)]) (cs' := 0) (ss' := 0) rfl rfl rfl rfl rfl rfl rfl (ro_5 z) ?_
  exact go_end 1 (fun _ _ => rfl)
theorem lf_16_124 (a0 : Int32) (a1 : Int32) (a2 : Int32) (a3 : Int32) (a4 : Int32) (a5 : Int32) (h0 : 0 ≤ a1.toInt) (h1 : 4 ≤ a1.toInt) : ∃ w', pq_Go 20 pm_law 786 [(3, .int 0), (2, .ref 90), (1, .ref 1), (0, .ref 0)] [] (fw (sz a0 a1 a2 a3 a4 a5)) 109 12668 (some (.int 1), w') := by
  refine ⟨(wd_1001 (sz a0 a1 a2 a3 a4 a5)), ?_⟩
  refine go_seg 8 (pc' := 794) (ls' := [(3, .int 0), (2, .ref 90), (1, .ref 1), (0, .ref 0)]) (st' := [.int 0, .ref 0, .int a1, .ref 1]) (w' := (fw (sz a0 a1 a2 a3 a4 a5))) (cs' := 109) (ss' := 12668) ?_ (fun _ _ => rfl)
  refine go_seg 3 (pc' := 797) (ls' := [(3, .int 0), (2, .ref 90), (1, .ref 1), (0, .ref 0)]) (st' := [.int a2, .int a1, .ref 1]) (w' := (fw (sz a0 a1 a2 a3 a4 a5))) (cs' := 109) (ss' := 12668) ?_ (fun _ _ => rfl)
  refine go_cl (k := 20) (st' := [.int (-1000001)]) (cs' := 109) (ss' := 12668) rfl rfl rfl rfl rfl rfl rfl (ro_122 (sz a0 a1 a2 a3 a4 a5) a1 a2 (by omega) (by omega)) ?_
  refine go_seg 8 (pc' := 808) (ls' := [(3, .int 0), (2, .ref 90), (1, .ref 1), (0, .ref 0)]) (st' := [.int 0, .ref 0, .int a1, .ref 90, .int (-1000001)]) (w' := (wd_1000 (sz a0 a1 a2 a3 a4 a5))) (cs' := 109) (ss' := 12668) ?_ (fun _ _ => rfl)
  refine go_seg 3 (pc' := 811) (ls' := [(3, .int 0), (2, .ref 90), (1, .ref 1), (0, .ref 0)]) (st' := [.int a2, .int a1, .ref 90, .int (-1000001)]) (w' := (wd_1000 (sz a0 a1 a2 a3 a4 a5))) (cs' := 109) (ss' := 12668) ?_ (fun _ _ => rfl)
  refine go_cl (k := 20) (st' := [.int (-1000001), .int (-1000001)]) (cs' := 109) (ss' := 12668) rfl rfl rfl rfl rfl rfl rfl (ro_123 (sz a0 a1 a2 a3 a4 a5) a1 a2 (by omega) (by omega)) ?_
  refine go_cmp true rfl (br_self _) ?_
  exact law_tail (f := sc a0 a1 a2 a3 a4 a5) rfl
theorem op_16 (a0 a1 a2 a3 a4 a5 : Int32) : ∃ w', pq_Go 20 pm_law 786 [(3, .int 0), (2, .ref 90), (1, .ref 1), (0, .ref 0)] [] (fw (sz a0 a1 a2 a3 a4 a5)) 109 12668 (some (.int 1), w') := by
  by_cases c0 : a1.toInt < 0
  · exact lf_16_76 a0 a1 a2 a3 a4 a5 (by omega)
  · by_cases c1 : a1.toInt < 4
    · by_cases c2 : a2.toInt < 0
      · exact lf_16_81 a0 a1 a2 a3 a4 a5 (by omega) (by omega) (by omega)
      · by_cases c3 : a2.toInt < 3001
        · exact lf_16_116 a0 a1 a2 a3 a4 a5 (by omega) (by omega) (by omega) (by omega)
        · exact lf_16_120 a0 a1 a2 a3 a4 a5 (by omega) (by omega) (by omega) (by omega)
    · exact lf_16_124 a0 a1 a2 a3 a4 a5 (by omega) (by omega)
