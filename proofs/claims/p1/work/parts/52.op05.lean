theorem ro_540 (z : pq_C) (a1 : Int32) (a2 : Int32) (h0 : a1.toInt < 0) : pq_Ru 3 28 [.ref 1, .int a1, .int a2] (fw z) (some (.int (-1000001)), (wd_1000 z)) := by
  refine ru_of (k := 2) (M := pm_28) rfl rfl ?_
  refine go_seg 1 (pc' := 1) (ls' := [(0, .ref 1), (1, .int a1), (2, .int a2)]) (st' := [.int a1]) (w' := (fw z)) (cs' := 0) (ss' := 0) ?_ (fun _ _ => rfl)
  refine go_cl (k := 2) (st' := [.int 0]) (cs' := 0) (ss' := 0) rfl rfl rfl rfl rfl rfl rfl (ro_326 z a1 (by omega)) ?_
  refine go_seg 3 (pc' := 20) (ls' := [(0, .ref 1), (1, .int a1), (2, .int a2)]) (st' := [.int 1, .ref 1]) (w' := (fw z)) (cs' := 0) (ss' := 0) ?_ (fun _ _ => rfl)
  refine go_cl (k := 2) (st' := [.int (-1000001)]) (cs' := 0) (ss' := 0) rfl rfl rfl rfl rfl rfl rfl (ro_2 z) ?_
  exact go_end 1 (fun _ _ => rfl)
theorem ro_541 (z : pq_C) (a1 : Int32) (a2 : Int32) (h0 : a1.toInt < 0) : pq_Ru 3 172 [.ref 90, .int a1, .int a2] (wd_1000 z) (some (.int (-1000001)), (wd_1001 z)) := by
  refine ru_of (k := 2) (M := pm_172) rfl rfl ?_
  refine go_seg 1 (pc' := 1) (ls' := [(0, .ref 90), (1, .int a1), (2, .int a2)]) (st' := [.int a1]) (w' := (wd_1000 z)) (cs' := 0) (ss' := 0) ?_ (fun _ _ => rfl)
  refine go_cl (k := 2) (st' := [.int 0]) (cs' := 0) (ss' := 0) rfl rfl rfl rfl rfl rfl rfl (ro_328 z a1 (by omega)) ?_
  refine go_seg 3 (pc' := 22) (ls' := [(0, .ref 90), (1, .int a1), (2, .int a2)]) (st' := [.int (-1000001), .ref 90]) (w' := (wd_1000 z)) (cs' := 0) (ss' := 0) ?_ (fun _ _ => rfl)
  refine go_cl (k := 2) (st' := [.int (-1000001)]) (cs' := 0) (ss' := 0) rfl rfl rfl rfl rfl rfl rfl (ro_5 z) ?_
  exact go_end 1 (fun _ _ => rfl)
theorem lf_5_542 (a0 : Int32) (a1 : Int32) (a2 : Int32) (a3 : Int32) (a4 : Int32) (a5 : Int32) (h0 : a1.toInt < 0) : ∃ w', pq_Go 20 pm_law 403 [(3, .int 0), (2, .ref 90), (1, .ref 1), (0, .ref 0)] [] (fw (sz a0 a1 a2 a3 a4 a5)) 109 12668 (some (.int 1), w') := by
  refine ⟨(wd_1001 (sz a0 a1 a2 a3 a4 a5)), ?_⟩
  refine go_seg 8 (pc' := 411) (ls' := [(3, .int 0), (2, .ref 90), (1, .ref 1), (0, .ref 0)]) (st' := [.int 0, .ref 0, .int a1, .ref 1]) (w' := (fw (sz a0 a1 a2 a3 a4 a5))) (cs' := 109) (ss' := 12668) ?_ (fun _ _ => rfl)
  refine go_seg 3 (pc' := 414) (ls' := [(3, .int 0), (2, .ref 90), (1, .ref 1), (0, .ref 0)]) (st' := [.int a2, .int a1, .ref 1]) (w' := (fw (sz a0 a1 a2 a3 a4 a5))) (cs' := 109) (ss' := 12668) ?_ (fun _ _ => rfl)
  refine go_cl (k := 20) (st' := [.int (-1000001)]) (cs' := 109) (ss' := 12668) rfl rfl rfl rfl rfl rfl rfl (ro_540 (sz a0 a1 a2 a3 a4 a5) a1 a2 (by omega)) ?_
  refine go_seg 8 (pc' := 425) (ls' := [(3, .int 0), (2, .ref 90), (1, .ref 1), (0, .ref 0)]) (st' := [.int 0, .ref 0, .int a1, .ref 90, .int (-1000001)]) (w' := (wd_1000 (sz a0 a1 a2 a3 a4 a5))) (cs' := 109) (ss' := 12668) ?_ (fun _ _ => rfl)
  refine go_seg 3 (pc' := 428) (ls' := [(3, .int 0), (2, .ref 90), (1, .ref 1), (0, .ref 0)]) (st' := [.int a2, .int a1, .ref 90, .int (-1000001)]) (w' := (wd_1000 (sz a0 a1 a2 a3 a4 a5))) (cs' := 109) (ss' := 12668) ?_ (fun _ _ => rfl)
  refine go_cl (k := 20) (st' := [.int (-1000001), .int (-1000001)]) (cs' := 109) (ss' := 12668) rfl rfl rfl rfl rfl rfl rfl (ro_541 (sz a0 a1 a2 a3 a4 a5) a1 a2 (by omega)) ?_
  refine go_cmp true rfl (br_self _) ?_
  exact law_tail (f := sc a0 a1 a2 a3 a4 a5) rfl
theorem ro_543 (z : pq_C) (a2 : Int32) (h0 : a2.toInt < 0) : pq_Ru 1 16 [.int a2, .int 0, .int 9999] (fw z) (some (.int 0), (fw z)) := by
  refine ru_of (k := 0) (M := pm_16) rfl rfl ?_
  refine go_seg 2 (pc' := 2) (ls' := [(0, .int a2), (1, .int 0), (2, .int 9999)]) (st' := [.int 0, .int a2]) (w' := (fw z)) (cs' := 0) (ss' := 0) ?_ (fun _ _ => rfl)
  refine go_cmp true rfl (br_lt_t (b := 0) rfl (by omega)) ?_
  exact go_end 2 (fun _ _ => rfl)
theorem ro_544 (z : pq_C) (a1 : Int32) (a2 : Int32) (h0 : 0 ≤ a1.toInt) (h1 : a1.toInt < 8) (h2 : a2.toInt < 0) : pq_Ru 3 28 [.ref 1, .int a1, .int a2] (fw z) (some (.int (-1000001)), (wd_1000 z)) := by
  refine ru_of (k := 2) (M := pm_28) rfl rfl ?_
  refine go_seg 1 (pc' := 1) (ls' := [(0, .ref 1), (1, .int a1), (2, .int a2)]) (st' := [.int a1]) (w' := (fw z)) (cs' := 0) (ss' := 0) ?_ (fun _ _ => rfl)
  refine go_cl (k := 2) (st' := [.int 1]) (cs' := 0) (ss' := 0) rfl rfl rfl rfl rfl rfl rfl (ro_331 z a1 (by omega) (by omega)) ?_
  refine go_seg 4 (pc' := 12) (ls' := [(0, .ref 1), (1, .int a1), (2, .int a2)]) (st' := [.int 9999, .int 0, .int a2]) (w' := (fw z)) (cs' := 0) (ss' := 0) ?_ (fun _ _ => rfl)
  refine go_cl (k := 2) (st' := [.int 0]) (cs' := 0) (ss' := 0) rfl rfl rfl rfl rfl rfl rfl (ro_543 z a2 (by omega)) ?_
  refine go_seg 3 (pc' := 20) (ls' := [(0, .ref 1), (1, .int a1), (2, .int a2)]) (st' := [.int 1, .ref 1]) (w' := (fw z)) (cs' := 0) (ss' := 0) ?_ (fun _ _ => rfl)
  refine go_cl (k := 2) (st' := [.int (-1000001)]) (cs' := 0) (ss' := 0) rfl rfl rfl rfl rfl rfl rfl (ro_2 z) ?_
  exact go_end 1 (fun _ _ => rfl)
theorem ro_545 (z : pq_C) (a1 : Int32) (h0 : 0 ≤ a1.toInt) (h1 : a1.toInt < 8) : pq_Ru 2 167 [.int a1] (wd_1000 z) (some (.int 1), (wd_1000 z)) := by
  refine ru_of (k := 1) (M := pm_167) rfl rfl ?_
  refine go_seg 4 (pc' := 6) (ls' := [(0, .int a1)]) (st' := [.long 7, .long 0, .long a1.toInt64]) (w' := (wd_1000 z)) (cs' := 0) (ss' := 0) ?_ (fun _ _ => rfl)
  refine go_cl (k := 1) (st' := [.int 1]) (cs' := 0) (ss' := 0) rfl rfl rfl rfl rfl rfl rfl (wi_t _ a1 0 7 0 7 rfl rfl (by omega)) ?_
  exact go_end 1 (fun _ _ => rfl)
theorem ro_546 (z : pq_C) (a1 : Int32) (a2 : Int32) (h0 : 0 ≤ a1.toInt) (h1 : a1.toInt < 8) (h2 : a2.toInt < 0) : pq_Ru 3 172 [.ref 90, .int a1, .int a2] (wd_1000 z) (some (.int (-1000001)), (wd_1001 z)) := by
  refine ru_of (k := 2) (M := pm_172) rfl rfl ?_
  refine go_seg 1 (pc' := 1) (ls' := [(0, .ref 90), (1, .int a1), (2, .int a2)]) (st' := [.int a1]) (w' := (wd_1000 z)) (cs' := 0) (ss' := 0) ?_ (fun _ _ => rfl)
  refine go_cl (k := 2) (st' := [.int 1]) (cs' := 0) (ss' := 0) rfl rfl rfl rfl rfl rfl rfl (ro_545 z a1 (by omega) (by omega)) ?_
  refine go_seg 5 (pc' := 13) (ls' := [(0, .ref 90), (1, .int a1), (2, .int a2)]) (st' := [.long 9999, .long 0, .long a2.toInt64]) (w' := (wd_1000 z)) (cs' := 0) (ss' := 0) ?_ (fun _ _ => rfl)
  refine go_cl (k := 2) (st' := [.int 0]) (cs' := 0) (ss' := 0) rfl rfl rfl rfl rfl rfl rfl (wi_f _ a2 0 9999 0 9999 rfl rfl (by omega)) ?_
  refine go_seg 3 (pc' := 22) (ls' := [(0, .ref 90), (1, .int a1), (2, .int a2)]) (st' := [.int (-1000001), .ref 90]) (w' := (wd_1000 z)) (cs' := 0) (ss' := 0) ?_ (fun _ _ => rfl)
  refine go_cl (k := 2) (st' := [.int (-1000001)]) (cs' := 0) (ss' := 0) rfl rfl rfl rfl rfl rfl rfl (ro_5 z) ?_
  exact go_end 1 (fun _ _ => rfl)
theorem lf_5_547 (a0 : Int32) (a1 : Int32) (a2 : Int32) (a3 : Int32) (a4 : Int32) (a5 : Int32) (h0 : 0 ≤ a1.toInt) (h1 : a1.toInt < 8) (h2 : a2.toInt < 0) : ∃ w', pq_Go 20 pm_law 403 [(3, .int 0), (2, .ref 90), (1, .ref 1), (0, .ref 0)] [] (fw (sz a0 a1 a2 a3 a4 a5)) 109 12668 (some (.int 1), w') := by
  refine ⟨(wd_1001 (sz a0 a1 a2 a3 a4 a5)), ?_⟩
  refine go_seg 8 (pc' := 411) (ls' := [(3, .int 0), (2, .ref 90), (1, .ref 1), (0, .ref 0)]) (st' := [.int 0, .ref 0, .int a1, .ref 1]) (w' := (fw (sz a0 a1 a2 a3 a4 a5))) (cs' := 109) (ss' := 12668) ?_ (fun _ _ => rfl)
  refine go_seg 3 (pc' := 414) (ls' := [(3, .int 0), (2, .ref 90), (1, .ref 1), (0, .ref 0)]) (st' := [.int a2, .int a1, .ref 1]) (w' := (fw (sz a0 a1 a2 a3 a4 a5))) (cs' := 109) (ss' := 12668) ?_ (fun _ _ => rfl)
  refine go_cl (k := 20) (st' := [.int (-1000001)]) (cs' := 109) (ss' := 12668) rfl rfl rfl rfl rfl rfl rfl (ro_544 (sz a0 a1 a2 a3 a4 a5) a1 a2 (by omega) (by omega) (by omega)) ?_
  refine go_seg 8 (pc' := 425) (ls' := [(3, .int 0), (2, .ref 90), (1, .ref 1), (0, .ref 0)]) (st' := [.int 0, .ref 0, .int a1, .ref 90, .int (-1000001)]) (w' := (wd_1000 (sz a0 a1 a2 a3 a4 a5))) (cs' := 109) (ss' := 12668) ?_ (fun _ _ => rfl)
  refine go_seg 3 (pc' := 428) (ls' := [(3, .int 0), (2, .ref 90), (1, .ref 1), (0, .ref 0)]) (st' := [.int a2, .int a1, .ref 90, .int (-1000001)]) (w' := (wd_1000 (sz a0 a1 a2 a3 a4 a5))) (cs' := 109) (ss' := 12668) ?_ (fun _ _ => rfl)
  refine go_cl (k := 20) (st' := [.int (-1000001), .int (-1000001)]) (cs' := 109) (ss' := 12668) rfl rfl rfl rfl rfl rfl rfl (ro_546 (sz a0 a1 a2 a3 a4 a5) a1 a2 (by omega) (by omega) (by omega)) ?_
  refine go_cmp true rfl (br_self _) ?_
  exact law_tail (f := sc a0 a1 a2 a3 a4 a5) rfl
theorem ro_548 (z : pq_C) : pq_Ru 1 24 [.int 0] (fw z) (some (.int 1), (fw z)) := by
  refine ru_of (k := 0) (M := pm_24) rfl rfl ?_
  exact go_end 8 (fun _ _ => rfl)
theorem ro_549 (z : pq_C) (a2 : Int32) (h0 : 0 ≤ a2.toInt) (h1 : a2.toInt < 10000) : pq_Ru 1 16 [.int a2, .int 0, .int 9999] (fw z) (some (.int 1), (fw z)) := by
  refine ru_of (k := 0) (M := pm_16) rfl rfl ?_
  refine go_seg 2 (pc' := 2) (ls' := [(0, .int a2), (1, .int 0), (2, .int 9999)]) (st' := [.int 0, .int a2]) (w' := (fw z)) (cs' := 0) (ss' := 0) ?_ (fun _ _ => rfl)
  refine go_cmp false rfl (br_lt_f (b := 0) rfl (by omega)) ?_
  refine go_seg 2 (pc' := 7) (ls' := [(0, .int a2), (1, .int 0), (2, .int 9999)]) (st' := [.int 9999, .int a2]) (w' := (fw z)) (cs' := 0) (ss' := 0) ?_ (fun _ _ => rfl)
  refine go_cmp false rfl (br_gt_f (b := 9999) rfl (by omega)) ?_
  exact go_end 3 (fun _ _ => rfl)
def wd_1029 (z : pq_C) (a2 : Int32) : pq_W := ((fw z).set 7 (.inl (.int, 8, .inl (upd (fl_c 8 100 (fun _ => 0)) 0 a2))))
theorem ro_550 (z : pq_C) (a2 : Int32) (h0 : 0 ≤ a2.toInt) (h1 : a2.toInt < 10000) : pq_Ru 2 28 [.ref 1, .int 0, .int a2] (fw z) (some (.int 100), (wd_1029 z a2)) := by
  refine ru_of (k := 1) (M := pm_28) rfl rfl ?_
  refine go_seg 1 (pc' := 1) (ls' := [(0, .ref 1), (1, .int 0), (2, .int a2)]) (st' := [.int 0]) (w' := (fw z)) (cs' := 0) (ss' := 0) ?_ (fun _ _ => rfl)
  refine go_cl (k := 1) (st' := [.int 1]) (cs' := 0) (ss' := 0) rfl rfl rfl rfl rfl rfl rfl (ro_548 z) ?_
  refine go_seg 4 (pc' := 12) (ls' := [(0, .ref 1), (1, .int 0), (2, .int a2)]) (st' := [.int 9999, .int 0, .int a2]) (w' := (fw z)) (cs' := 0) (ss' := 0) ?_ (fun _ _ => rfl)
  refine go_cl (k := 1) (st' := [.int 1]) (cs' := 0) (ss' := 0) rfl rfl rfl rfl rfl rfl rfl (ro_549 z a2 (by omega) (by omega)) ?_
  refine go_seg 8 (pc' := 35) (ls' := [(3, .int 100), (0, .ref 1), (1, .int 0), (2, .int a2)]) (st' := [.ref 1]) (w' := (fw z)) (cs' := 0) (ss' := 0) ?_ (fun _ _ => rfl)
  exact go_end 7 (fun _ _ => rfl)
theorem ro_552 (z : pq_C) (a2 : Int32) (h0 : 0 ≤ a2.toInt) (h1 : a2.toInt < 10000) : pq_Ru 1 161 [.long 0, .long 0, .long 7] (wd_1029 z a2) (some (.int 1), (wd_1029 z a2)) := by
  refine ru_of (k := 0) (M := pm_161) rfl rfl ?_
  refine go_seg 8 (pc' := 13) (ls' := [(0, .long 0), (2, .long 0), (4, .long 7)]) (st' := []) (w' := (wd_1029 z a2)) (cs' := 0) (ss' := 0) ?_ (fun _ _ => rfl)
  exact go_end 3 (fun _ _ => rfl)
theorem ro_553 (z : pq_C) (a2 : Int32) (h0 : 0 ≤ a2.toInt) (h1 : a2.toInt < 10000) : pq_Ru 2 167 [.int 0] (wd_1029 z a2) (some (.int 1), (wd_1029 z a2)) := by
  refine ru_of (k := 1) (M := pm_167) rfl rfl ?_
  refine go_seg 4 (pc' := 6) (ls' := [(0, .int 0)]) (st' := [.long 7, .long 0, .long 0]) (w' := (wd_1029 z a2)) (cs' := 0) (ss' := 0) ?_ (fun _ _ => rfl)
  refine go_cl (k := 1) (st' := [.int 1]) (cs' := 0) (ss' := 0) rfl rfl rfl rfl rfl rfl rfl (ro_552 z a2 (by omega) (by omega)) ?_
  exact go_end 1 (fun _ _ => rfl)
theorem ro_554 (z : pq_C) (a2 : Int32) (h0 : 0 ≤ a2.toInt) (h1 : a2.toInt < 10000) : pq_Ru 1 168 [.int 0, .int 2] (wd_1029 z a2) (some (.int 140), (wd_1029 z a2)) := by
  refine ru_of (k := 0) (M := pm_168) rfl rfl ?_
  exact go_end 8 (fun _ _ => rfl)
def wd_1030 (z : pq_C) (a2 : Int32) : pq_W := ((wd_1029 z a2).set 91 (.inl (.int, 2858, .inl (upd (upd (upd (upd (upd (upd (upd (upd (upd (upd (upd (upd (upd (upd (upd (upd (upd (upd (upd (upd (upd (upd (upd (upd (upd (upd (upd (upd (upd (upd (upd (upd (upd (upd (upd (upd (upd (upd (upd (upd (upd (upd (upd (upd (upd (upd (upd (upd (upd (upd (upd (upd (upd (upd (upd (upd (upd (upd (upd (upd (upd (upd (upd (upd (upd (upd (upd (upd (upd (upd (upd (upd (upd (upd (upd (upd (upd (upd (upd (upd (upd (upd (fun _ => 0) 1 10) 10 (-1)) 11 (-1)) 12 (-1)) 13 (-1)) 14 (-1)) 15 (-1)) 16 (-1)) 17 (-1)) 18 (-1)) 19 (-1)) 20 (-1)) 21 (-1)) 22 (-1)) 23 (-1)) 24 (-1)) 25 (-1)) 26 (-1)) 27 (-1)) 28 (-1)) 29 (-1)) 30 (-1)) 31 (-1)) 32 (-1)) 33 (-1)) 34 (-1)) 35 (-1)) 36 (-1)) 37 (-1)) 38 (-1)) 39 (-1)) 40 (-1)) 41 (-1)) 42 (-1)) 43 (-1)) 44 (-1)) 45 (-1)) 46 (-1)) 47 (-1)) 48 (-1)) 49 (-1)) 50 (-1)) 51 (-1)) 52 (-1)) 53 (-1)) 54 (-1)) 55 (-1)) 56 (-1)) 57 (-1)) 58 (-1)) 59 (-1)) 60 (-1)) 61 (-1)) 62 (-1)) 63 (-1)) 64 (-1)) 65 (-1)) 66 (-1)) 67 (-1)) 68 (-1)) 69 (-1)) 70 (-1)) 71 (-1)) 72 (-1)) 73 (-1)) 139 1000) 140 100) 145 1000) 146 100) 151 1000) 152 100) 157 1000) 158 100) 163 1000) 164 100) 169 1000) 170 100) 175 1000) 176 100) 181 1000) 182 100) 140 a2))))
theorem ro_555 (z : pq_C) (a2 : Int32) (h0 : 0 ≤ a2.toInt) (h1 : a2.toInt < 10000) : pq_Ru 3 172 [.ref 90, .int 0, .int a2] (wd_1029 z a2) (some (.int 100), (wd_1030 z a2)) := by
  refine ru_of (k := 2) (M := pm_172) rfl rfl ?_
  refine go_seg 1 (pc' := 1) (ls' := [(0, .ref 90), (1, .int 0), (2, .int a2)]) (st' := [.int 0]) (w' := (wd_1029 z a2)) (cs' := 0) (ss' := 0) ?_ (fun _ _ => rfl)
  refine go_cl (k := 2) (st' := [.int 1]) (cs' := 0) (ss' := 0) rfl rfl rfl rfl rfl rfl rfl (ro_553 z a2 (by omega) (by omega)) ?_
  refine go_seg 5 (pc' := 13) (ls' := [(0, .ref 90), (1, .int 0), (2, .int a2)]) (st' := [.long 9999, .long 0, .long a2.toInt64]) (w' := (wd_1029 z a2)) (cs' := 0) (ss' := 0) ?_ (fun _ _ => rfl)
  refine go_cl (k := 2) (st' := [.int 1]) (cs' := 0) (ss' := 0) rfl rfl rfl rfl rfl rfl rfl (wi_t _ a2 0 9999 0 9999 rfl rfl (by omega)) ?_
  refine go_seg 5 (pc' := 32) (ls' := [(0, .ref 90), (1, .int 0), (2, .int a2)]) (st' := [.int 2, .int 0, .ref 91]) (w' := (wd_1029 z a2)) (cs' := 0) (ss' := 0) ?_ (fun _ _ => rfl)
  refine go_cl (k := 2) (st' := [.int 140, .ref 91]) (cs' := 0) (ss' := 0) rfl rfl rfl rfl rfl rfl rfl (ro_554 z a2 (by omega) (by omega)) ?_
  refine go_seg 6 (pc' := 43) (ls' := [(3, .int 100), (0, .ref 90), (1, .int 0), (2, .int a2)]) (st' := [.int 2, .int 0, .ref 91]) (w' := (wd_1029 z a2)) (cs' := 0) (ss' := 0) ?_ (fun _ _ => rfl)
  refine go_cl (k := 2) (st' := [.int 140, .ref 91]) (cs' := 0) (ss' := 0) rfl rfl rfl rfl rfl rfl rfl (ro_554 z a2 (by omega) (by omega)) ?_
  exact go_end 4 (fun _ _ => rfl)
theorem lf_5_557 (a0 : Int32) (a2 : Int32) (a3 : Int32) (a4 : Int32) (a5 : Int32) (h0 : 0 ≤ a2.toInt) (h1 : a2.toInt < 10000) : ∃ w', pq_Go 20 pm_law 403 [(3, .int 0), (2, .ref 90), (1, .ref 1), (0, .ref 0)] [] (fw (sz a0 0 a2 a3 a4 a5)) 109 12668 (some (.int 1), w') := by
  refine ⟨(wd_1030 (sz a0 0 a2 a3 a4 a5) a2), ?_⟩
  refine go_seg 8 (pc' := 411) (ls' := [(3, .int 0), (2, .ref 90), (1, .ref 1), (0, .ref 0)]) (st' := [.int 0, .ref 0, .int 0, .ref 1]) (w' := (fw (sz a0 0 a2 a3 a4 a5))) (cs' := 109) (ss' := 12668) ?_ (fun _ _ => rfl)
  refine go_seg 3 (pc' := 414) (ls' := [(3, .int 0), (2, .ref 90), (1, .ref 1), (0, .ref 0)]) (st' := [.int a2, .int 0, .ref 1]) (w' := (fw (sz a0 0 a2 a3 a4 a5))) (cs' := 109) (ss' := 12668) ?_ (fun _ _ => rfl)
  refine go_cl (k := 20) (st' := [.int 100]) (cs' := 109) (ss' := 12668) rfl rfl rfl rfl rfl rfl rfl (ro_550 (sz a0 0 a2 a3 a4 a5) a2 (by omega) (by omega)) ?_
  refine go_seg 8 (pc' := 425) (ls' := [(3, .int 0), (2, .ref 90), (1, .ref 1), (0, .ref 0)]) (st' := [.int 0, .ref 0, .int 0, .ref 90, .int 100]) (w' := (wd_1029 (sz a0 0 a2 a3 a4 a5) a2)) (cs' := 109) (ss' := 12668) ?_ (fun _ _ => rfl)
  refine go_seg 3 (pc' := 428) (ls' := [(3, .int 0), (2, .ref 90), (1, .ref 1), (0, .ref 0)]) (st' := [.int a2, .int 0, .ref 90, .int 100]) (w' := (wd_1029 (sz a0 0 a2 a3 a4 a5) a2)) (cs' := 109) (ss' := 12668) ?_ (fun _ _ => rfl)
  refine go_cl (k := 20) (st' := [.int 100, .int 100]) (cs' := 109) (ss' := 12668) rfl rfl rfl rfl rfl rfl rfl (ro_555 (sz a0 0 a2 a3 a4 a5) a2 (by omega) (by omega)) ?_
  refine go_cmp true rfl (br_self _) ?_
  exact law_tail (f := sc a0 0 a2 a3 a4 a5) rfl
theorem ro_558 (z : pq_C) : pq_Ru 1 24 [.int 1] (fw z) (some (.int 1), (fw z)) := by
  refine ru_of (k := 0) (M := pm_24) rfl rfl ?_
  exact go_end 8 (fun _ _ => rfl)
def wd_1031 (z : pq_C) (a2 : Int32) : pq_W := ((fw z).set 7 (.inl (.int, 8, .inl (upd (fl_c 8 100 (fun _ => 0)) 1 a2))))
theorem ro_559 (z : pq_C) (a2 : Int32) (h0 : 0 ≤ a2.toInt) (h1 : a2.toInt < 10000) : pq_Ru 2 28 [.ref 1, .int 1, .int a2] (fw z) (some (.int 100), (wd_1031 z a2)) := by
  refine ru_of (k := 1) (M := pm_28) rfl rfl ?_
  refine go_seg 1 (pc' := 1) (ls' := [(0, .ref 1), (1, .int 1), (2, .int a2)]) (st' := [.int 1]) (w' := (fw z)) (cs' := 0) (ss' := 0) ?_ (fun _ _ => rfl)
  refine go_cl (k := 1) (st' := [.int 1]) (cs' := 0) (ss' := 0) rfl rfl rfl rfl rfl rfl rfl (ro_558 z) ?_
  refine go_seg 4 (pc' := 12) (ls' := [(0, .ref 1), (1, .int 1), (2, .int a2)]) (st' := [.int 9999, .int 0, .int a2]) (w' := (fw z)) (cs' := 0) (ss' := 0) ?_ (fun _ _ => rfl)
  refine go_cl (k := 1) (st' := [.int 1]) (cs' := 0) (ss' := 0) rfl rfl rfl rfl rfl rfl rfl (ro_549 z a2 (by omega) (by omega)) ?_
  refine go_seg 8 (pc' := 35) (ls' := [(3, .int 100), (0, .ref 1), (1, .int 1), (2, .int a2)]) (st' := [.ref 1]) (w' := (fw z)) (cs' := 0) (ss' := 0) ?_ (fun _ _ => rfl)
  exact go_end 7 (fun _ _ => rfl)
theorem ro_561 (z : pq_C) (a2 : Int32) (h0 : 0 ≤ a2.toInt) (h1 : a2.toInt < 10000) : pq_Ru 1 161 [.long 1, .long 0, .long 7] (wd_1031 z a2) (some (.int 1), (wd_1031 z a2)) := by
  refine ru_of (k := 0) (M := pm_161) rfl rfl ?_
  refine go_seg 8 (pc' := 13) (ls' := [(0, .long 1), (2, .long 0), (4, .long 7)]) (st' := []) (w' := (wd_1031 z a2)) (cs' := 0) (ss' := 0) ?_ (fun _ _ => rfl)
  exact go_end 3 (fun _ _ => rfl)
theorem ro_562 (z : pq_C) (a2 : Int32) (h0 : 0 ≤ a2.toInt) (h1 : a2.toInt < 10000) : pq_Ru 2 167 [.int 1] (wd_1031 z a2) (some (.int 1), (wd_1031 z a2)) := by
  refine ru_of (k := 1) (M := pm_167) rfl rfl ?_
  refine go_seg 4 (pc' := 6) (ls' := [(0, .int 1)]) (st' := [.long 7, .long 0, .long 1]) (w' := (wd_1031 z a2)) (cs' := 0) (ss' := 0) ?_ (fun _ _ => rfl)
  refine go_cl (k := 1) (st' := [.int 1]) (cs' := 0) (ss' := 0) rfl rfl rfl rfl rfl rfl rfl (ro_561 z a2 (by omega) (by omega)) ?_
  exact go_end 1 (fun _ _ => rfl)
theorem ro_563 (z : pq_C) (a2 : Int32) (h0 : 0 ≤ a2.toInt) (h1 : a2.toInt < 10000) : pq_Ru 1 168 [.int 1, .int 2] (wd_1031 z a2) (some (.int 146), (wd_1031 z a2)) := by
  refine ru_of (k := 0) (M := pm_168) rfl rfl ?_
  exact go_end 8 (fun _ _ => rfl)
def wd_1032 (z : pq_C) (a2 : Int32) : pq_W := ((wd_1031 z a2).set 91 (.inl (.int, 2858, .inl (upd (upd (upd (upd (upd (upd (upd (upd (upd (upd (upd (upd (upd (upd (upd (upd (upd (upd (upd (upd (upd (upd (upd (upd (upd (upd (upd (upd (upd (upd (upd (upd (upd (upd (upd (upd (upd (upd (upd (upd (upd (upd (upd (upd (upd (upd (upd (upd (upd (upd (upd (upd (upd (upd (upd (upd (upd (upd (upd (upd (upd (upd (upd (upd (upd (upd (upd (upd (upd (upd (upd (upd (upd (upd (upd (upd (upd (upd (upd (upd (upd (upd (fun _ => 0) 1 10) 10 (-1)) 11 (-1)) 12 (-1)) 13 (-1)) 14 (-1)) 15 (-1)) 16 (-1)) 17 (-1)) 18 (-1)) 19 (-1)) 20 (-1)) 21 (-1)) 22 (-1)) 23 (-1)) 24 (-1)) 25 (-1)) 26 (-1)) 27 (-1)) 28 (-1)) 29 (-1)) 30 (-1)) 31 (-1)) 32 (-1)) 33 (-1)) 34 (-1)) 35 (-1)) 36 (-1)) 37 (-1)) 38 (-1)) 39 (-1)) 40 (-1)) 41 (-1)) 42 (-1)) 43 (-1)) 44 (-1)) 45 (-1)) 46 (-1)) 47 (-1)) 48 (-1)) 49 (-1)) 50 (-1)) 51 (-1)) 52 (-1)) 53 (-1)) 54 (-1)) 55 (-1)) 56 (-1)) 57 (-1)) 58 (-1)) 59 (-1)) 60 (-1)) 61 (-1)) 62 (-1)) 63 (-1)) 64 (-1)) 65 (-1)) 66 (-1)) 67 (-1)) 68 (-1)) 69 (-1)) 70 (-1)) 71 (-1)) 72 (-1)) 73 (-1)) 139 1000) 140 100) 145 1000) 146 100) 151 1000) 152 100) 157 1000) 158 100) 163 1000) 164 100) 169 1000) 170 100) 175 1000) 176 100) 181 1000) 182 100) 146 a2))))
theorem ro_564 (z : pq_C) (a2 : Int32) (h0 : 0 ≤ a2.toInt) (h1 : a2.toInt < 10000) : pq_Ru 3 172 [.ref 90, .int 1, .int a2] (wd_1031 z a2) (some (.int 100), (wd_1032 z a2)) := by
  refine ru_of (k := 2) (M := pm_172) rfl rfl ?_
  refine go_seg 1 (pc' := 1) (ls' := [(0, .ref 90), (1, .int 1), (2, .int a2)]) (st' := [.int 1]) (w' := (wd_1031 z a2)) (cs' := 0) (ss' := 0) ?_ (fun _ _ => rfl)
  refine go_cl (k := 2) (st' := [.int 1]) (cs' := 0) (ss' := 0) rfl rfl rfl rfl rfl rfl rfl (ro_562 z a2 (by omega) (by omega)) ?_
  refine go_seg 5 (pc' := 13) (ls' := [(0, .ref 90), (1, .int 1), (2, .int a2)]) (st' := [.long 9999, .long 0, .long a2.toInt64]) (w' := (wd_1031 z a2)) (cs' := 0) (ss' := 0) ?_ (fun _ _ => rfl)
  refine go_cl (k := 2) (st' := [.int 1]) (cs' := 0) (ss' := 0) rfl rfl rfl rfl rfl rfl rfl (wi_t _ a2 0 9999 0 9999 rfl rfl (by omega)) ?_
  refine go_seg 5 (pc' := 32) (ls' := [(0, .ref 90), (1, .int 1), (2, .int a2)]) (st' := [.int 2, .int 1, .ref 91]) (w' := (wd_1031 z a2)) (cs' := 0) (ss' := 0) ?_ (fun _ _ => rfl)
  refine go_cl (k := 2) (st' := [.int 146, .ref 91]) (cs' := 0) (ss' := 0) rfl rfl rfl rfl rfl rfl rfl (ro_563 z a2 (by omega) (by omega)) ?_
  refine go_seg 6 (pc' := 43) (ls' := [(3, .int 100), (0, .ref 90), (1, .int 1), (2, .int a2)]) (st' := [.int 2, .int 1, .ref 91]) (w' := (wd_1031 z a2)) (cs' := 0) (ss' := 0) ?_ (fun _ _ => rfl)
  refine go_cl (k := 2) (st' := [.int 146, .ref 91]) (cs' := 0) (ss' := 0) rfl rfl rfl rfl rfl rfl rfl (ro_563 z a2 (by omega) (by omega)) ?_
  exact go_end 4 (fun _ _ => rfl)
theorem lf_5_566 (a0 : Int32) (a2 : Int32) (a3 : Int32) (a4 : Int32) (a5 : Int32) (h0 : 0 ≤ a2.toInt) (h1 : a2.toInt < 10000) : ∃ w', pq_Go 20 pm_law 403 [(3, .int 0), (2, .ref 90), (1, .ref 1), (0, .ref 0)] [] (fw (sz a0 1 a2 a3 a4 a5)) 109 12668 (some (.int 1), w') := by
  refine ⟨(wd_1032 (sz a0 1 a2 a3 a4 a5) a2), ?_⟩
  refine go_seg 8 (pc' := 411) (ls' := [(3, .int 0), (2, .ref 90), (1, .ref 1), (0, .ref 0)]) (st' := [.int 0, .ref 0, .int 1, .ref 1]) (w' := (fw (sz a0 1 a2 a3 a4 a5))) (cs' := 109) (ss' := 12668) ?_ (fun _ _ => rfl)
  refine go_seg 3 (pc' := 414) (ls' := [(3, .int 0), (2, .ref 90), (1, .ref 1), (0, .ref 0)]) (st' := [.int a2, .int 1, .ref 1]) (w' := (fw (sz a0 1 a2 a3 a4 a5))) (cs' := 109) (ss' := 12668) ?_ (fun _ _ => rfl)
  refine go_cl (k := 20) (st' := [.int 100]) (cs' := 109) (ss' := 12668) rfl rfl rfl rfl rfl rfl rfl (ro_559 (sz a0 1 a2 a3 a4 a5) a2 (by omega) (by omega)) ?_
  refine go_seg 8 (pc' := 425) (ls' := [(3, .int 0), (2, .ref 90), (1, .ref 1), (0, .ref 0)]) (st' := [.int 0, .ref 0, .int 1, .ref 90, .int 100]) (w' := (wd_1031 (sz a0 1 a2 a3 a4 a5) a2)) (cs' := 109) (ss' := 12668) ?_ (fun _ _ => rfl)
  refine go_seg 3 (pc' := 428) (ls' := [(3, .int 0), (2, .ref 90), (1, .ref 1), (0, .ref 0)]) (st' := [.int a2, .int 1, .ref 90, .int 100]) (w' := (wd_1031 (sz a0 1 a2 a3 a4 a5) a2)) (cs' := 109) (ss' := 12668) ?_ (fun _ _ => rfl)
  refine go_cl (k := 20) (st' := [.int 100, .int 100]) (cs' := 109) (ss' := 12668) rfl rfl rfl rfl rfl rfl rfl (ro_564 (sz a0 1 a2 a3 a4 a5) a2 (by omega) (by omega)) ?_
  refine go_cmp true rfl (br_self _) ?_
  exact law_tail (f := sc a0 1 a2 a3 a4 a5) rfl
theorem ro_567 (z : pq_C) : pq_Ru 1 24 [.int 2] (fw z) (some (.int 1), (fw z)) := by
  refine ru_of (k := 0) (M := pm_24) rfl rfl ?_
  exact go_end 8 (fun _ _ => rfl)
def wd_1033 (z : pq_C) (a2 : Int32) : pq_W := ((fw z).set 7 (.inl (.int, 8, .inl (upd (fl_c 8 100 (fun _ => 0)) 2 a2))))
theorem ro_568 (z : pq_C) (a2 : Int32) (h0 : 0 ≤ a2.toInt) (h1 : a2.toInt < 10000) : pq_Ru 2 28 [.ref 1, .int 2, .int a2] (fw z) (some (.int 100), (wd_1033 z a2)) := by
  refine ru_of (k := 1) (M := pm_28) rfl rfl ?_
  refine go_seg 1 (pc' := 1) (ls' := [(0, .ref 1), (1, .int 2), (2, .int a2)]) (st' := [.int 2]) (w' := (fw z)) (cs' := 0) (ss' := 0) ?_ (fun _ _ => rfl)
  refine go_cl (k := 1) (st' := [.int 1]) (cs' := 0) (ss' := 0) rfl rfl rfl rfl rfl rfl rfl (ro_567 z) ?_
  refine go_seg 4 (pc' := 12) (ls' := [(0, .ref 1), (1, .int 2), (2, .int a2)]) (st' := [.int 9999, .int 0, .int a2]) (w' := (fw z)) (cs' := 0) (ss' := 0) ?_ (fun _ _ => rfl)
  refine go_cl (k := 1) (st' := [.int 1]) (cs' := 0) (ss' := 0) rfl rfl rfl rfl rfl rfl rfl (ro_549 z a2 (by omega) (by omega)) ?_
  refine go_seg 8 (pc' := 35) (ls' := [(3, .int 100), (0, .ref 1), (1, .int 2), (2, .int a2)]) (st' := [.ref 1]) (w' := (fw z)) (cs' := 0) (ss' := 0) ?_ (fun _ _ => rfl)
  exact go_end 7 (fun _ _ => rfl)
theorem ro_570 (z : pq_C) (a2 : Int32) (h0 : 0 ≤ a2.toInt) (h1 : a2.toInt < 10000) : pq_Ru 1 161 [.long 2, .long 0, .long 7] (wd_1033 z a2) (some (.int 1), (wd_1033 z a2)) := by
  refine ru_of (k := 0) (M := pm_161) rfl rfl ?_
  refine go_seg 8 (pc' := 13) (ls' := [(0, .long 2), (2, .long 0), (4, .long 7)]) (st' := []) (w' := (wd_1033 z a2)) (cs' := 0) (ss' := 0) ?_ (fun _ _ => rfl)
  exact go_end 3 (fun _ _ => rfl)
theorem ro_571 (z : pq_C) (a2 : Int32) (h0 : 0 ≤ a2.toInt) (h1 : a2.toInt < 10000) : pq_Ru 2 167 [.int 2] (wd_1033 z a2) (some (.int 1), (wd_1033 z a2)) := by
  refine ru_of (k := 1) (M := pm_167) rfl rfl ?_
  refine go_seg 4 (pc' := 6) (ls' := [(0, .int 2)]) (st' := [.long 7, .long 0, .long 2]) (w' := (wd_1033 z a2)) (cs' := 0) (ss' := 0) ?_ (fun _ _ => rfl)
  refine go_cl (k := 1) (st' := [.int 1]) (cs' := 0) (ss' := 0) rfl rfl rfl rfl rfl rfl rfl (ro_570 z a2 (by omega) (by omega)) ?_
  exact go_end 1 (fun _ _ => rfl)
theorem ro_572 (z : pq_C) (a2 : Int32) (h0 : 0 ≤ a2.toInt) (h1 : a2.toInt < 10000) : pq_Ru 1 168 [.int 2, .int 2] (wd_1033 z a2) (some (.int 152), (wd_1033 z a2)) := by
  refine ru_of (k := 0) (M := pm_168) rfl rfl ?_
  exact go_end 8 (fun _ _ => rfl)
def wd_1034 (z : pq_C) (a2 : Int32) : pq_W := ((wd_1033 z a2).set 91 (.inl (.int, 2858, .inl (upd (upd (upd (upd (upd (upd (upd (upd (upd (upd (upd (upd (upd (upd (upd (upd (upd (upd (upd (upd (upd (upd (upd (upd (upd (upd (upd (upd (upd (upd (upd (upd (upd (upd (upd (upd (upd (upd (upd (upd (upd (upd (upd (upd (upd (upd (upd (upd (upd (upd (upd (upd (upd (upd (upd (upd (upd (upd (upd (upd (upd (upd (upd (upd (upd (upd (upd (upd (upd (upd (upd (upd (upd (upd (upd (upd (upd (upd (upd (upd (upd (upd (fun _ => 0) 1 10) 10 (-1)) 11 (-1)) 12 (-1)) 13 (-1)) 14 (-1)) 15 (-1)) 16 (-1)) 17 (-1)) 18 (-1)) 19 (-1)) 20 (-1)) 21 (-1)) 22 (-1)) 23 (-1)) 24 (-1)) 25 (-1)) 26 (-1)) 27 (-1)) 28 (-1)) 29 (-1)) 30 (-1)) 31 (-1)) 32 (-1)) 33 (-1)) 34 (-1)) 35 (-1)) 36 (-1)) 37 (-1)) 38 (-1)) 39 (-1)) 40 (-1)) 41 (-1)) 42 (-1)) 43 (-1)) 44 (-1)) 45 (-1)) 46 (-1)) 47 (-1)) 48 (-1)) 49 (-1)) 50 (-1)) 51 (-1)) 52 (-1)) 53 (-1)) 54 (-1)) 55 (-1)) 56 (-1)) 57 (-1)) 58 (-1)) 59 (-1)) 60 (-1)) 61 (-1)) 62 (-1)) 63 (-1)) 64 (-1)) 65 (-1)) 66 (-1)) 67 (-1)) 68 (-1)) 69 (-1)) 70 (-1)) 71 (-1)) 72 (-1)) 73 (-1)) 139 1000) 140 100) 145 1000) 146 100) 151 1000) 152 100) 157 1000) 158 100) 163 1000) 164 100) 169 1000) 170 100) 175 1000) 176 100) 181 1000) 182 100) 152 a2))))
theorem ro_573 (z : pq_C) (a2 : Int32) (h0 : 0 ≤ a2.toInt) (h1 : a2.toInt < 10000) : pq_Ru 3 172 [.ref 90, .int 2, .int a2] (wd_1033 z a2) (some (.int 100), (wd_1034 z a2)) := by
  refine ru_of (k := 2) (M := pm_172) rfl rfl ?_
  refine go_seg 1 (pc' := 1) (ls' := [(0, .ref 90), (1, .int 2), (2, .int a2)]) (st' := [.int 2]) (w' := (wd_1033 z a2)) (cs' := 0) (ss' := 0) ?_ (fun _ _ => rfl)
  refine go_cl (k := 2) (st' := [.int 1]) (cs' := 0) (ss' := 0) rfl rfl rfl rfl rfl rfl rfl (ro_571 z a2 (by omega) (by omega)) ?_
  refine go_seg 5 (pc' := 13) (ls' := [(0, .ref 90), (1, .int 2), (2, .int a2)]) (st' := [.long 9999, .long 0, .long a2.toInt64]) (w' := (wd_1033 z a2)) (cs' := 0) (ss' := 0) ?_ (fun _ _ => rfl)
  refine go_cl (k := 2) (st' := [.int 1]) (cs' := 0) (ss' := 0) rfl rfl rfl rfl rfl rfl rfl (wi_t _ a2 0 9999 0 9999 rfl rfl (by omega)) ?_
  refine go_seg 5 (pc' := 32) (ls' := [(0, .ref 90), (1, .int 2), (2, .int a2)]) (st' := [.int 2, .int 2, .ref 91]) (w' := (wd_1033 z a2)) (cs' := 0) (ss' := 0) ?_ (fun _ _ => rfl)
  refine go_cl (k := 2) (st' := [.int 152, .ref 91]) (cs' := 0) (ss' := 0) rfl rfl rfl rfl rfl rfl rfl (ro_572 z a2 (by omega) (by omega)) ?_
  refine go_seg 6 (pc' := 43) (ls' := [(3, .int 100), (0, .ref 90), (1, .int 2), (2, .int a2)]) (st' := [.int 2, .int 2, .ref 91]) (w' := (wd_1033 z a2)) (cs' := 0) (ss' := 0) ?_ (fun _ _ => rfl)
  refine go_cl (k := 2) (st' := [.int 152, .ref 91]) (cs' := 0) (ss' := 0) rfl rfl rfl rfl rfl rfl rfl (ro_572 z a2 (by omega) (by omega)) ?_
  exact go_end 4 (fun _ _ => rfl)
theorem lf_5_575 (a0 : Int32) (a2 : Int32) (a3 : Int32) (a4 : Int32) (a5 : Int32) (h0 : 0 ≤ a2.toInt) (h1 : a2.toInt < 10000) : ∃ w', pq_Go 20 pm_law 403 [(3, .int 0), (2, .ref 90), (1, .ref 1), (0, .ref 0)] [] (fw (sz a0 2 a2 a3 a4 a5)) 109 12668 (some (.int 1), w') := by
  refine ⟨(wd_1034 (sz a0 2 a2 a3 a4 a5) a2), ?_⟩
  refine go_seg 8 (pc' := 411) (ls' := [(3, .int 0), (2, .ref 90), (1, .ref 1), (0, .ref 0)]) (st' := [.int 0, .ref 0, .int 2, .ref 1]) (w' := (fw (sz a0 2 a2 a3 a4 a5))) (cs' := 109) (ss' := 12668) ?_ (fun _ _ => rfl)
  refine go_seg 3 (pc' := 414) (ls' := [(3, .int 0), (2, .ref 90), (1, .ref 1), (0, .ref 0)]) (st' := [.int a2, .int 2, .ref 1]) (w' := (fw (sz a0 2 a2 a3 a4 a5))) (cs' := 109) (ss' := 12668) ?_ (fun _ _ => rfl)
  refine go_cl (k := 20) (st' := [.int 100]) (cs' := 109) (ss' := 12668) rfl rfl rfl rfl rfl rfl rfl (ro_568 (sz a0 2 a2 a3 a4 a5) a2 (by omega) (by omega)) ?_
  refine go_seg 8 (pc' := 425) (ls' := [(3, .int 0), (2, .ref 90), (1, .ref 1), (0, .ref 0)]) (st' := [.int 0, .ref 0, .int 2, .ref 90, .int 100]) (w' := (wd_1033 (sz a0 2 a2 a3 a4 a5) a2)) (cs' := 109) (ss' := 12668) ?_ (fun _ _ => rfl)
  refine go_seg 3 (pc' := 428) (ls' := [(3, .int 0), (2, .ref 90), (1, .ref 1), (0, .ref 0)]) (st' := [.int a2, .int 2, .ref 90, .int 100]) (w' := (wd_1033 (sz a0 2 a2 a3 a4 a5) a2)) (cs' := 109) (ss' := 12668) ?_ (fun _ _ => rfl)
  refine go_cl (k := 20) (st' := [.int 100, .int 100]) (cs' := 109) (ss' := 12668) rfl rfl rfl rfl rfl rfl rfl (ro_573 (sz a0 2 a2 a3 a4 a5) a2 (by omega) (by omega)) ?_
  refine go_cmp true rfl (br_self _) ?_
  exact law_tail (f := sc a0 2 a2 a3 a4 a5) rfl
theorem ro_576 (z : pq_C) : pq_Ru 1 24 [.int 3] (fw z) (some (.int 1), (fw z)) := by
  refine ru_of (k := 0) (M := pm_24) rfl rfl ?_
  exact go_end 8 (fun _ _ => rfl)
def wd_1035 (z : pq_C) (a2 : Int32) : pq_W := ((fw z).set 7 (.inl (.int, 8, .inl (upd (fl_c 8 100 (fun _ => 0)) 3 a2))))
theorem ro_577 (z : pq_C) (a2 : Int32) (h0 : 0 ≤ a2.toInt) (h1 : a2.toInt < 10000) : pq_Ru 2 28 [.ref 1, .int 3, .int a2] (fw z) (some (.int 100), (wd_1035 z a2)) := by
  refine ru_of (k := 1) (M := pm_28) rfl rfl ?_
  refine go_seg 1 (pc' := 1) (ls' := [(0, .ref 1), (1, .int 3), (2, .int a2)]) (st' := [.int 3]) (w' := (fw z)) (cs' := 0) (ss' := 0) ?_ (fun _ _ => rfl)
  refine go_cl (k := 1) (st' := [.int 1]) (cs' := 0) (ss' := 0) rfl rfl rfl rfl rfl rfl rfl (ro_576 z) ?_
  refine go_seg 4 (pc' := 12) (ls' := [(0, .ref 1), (1, .int 3), (2, .int a2)]) (st' := [.int 9999, .int 0, .int a2]) (w' := (fw z)) (cs' := 0) (ss' := 0) ?_ (fun _ _ => rfl)
  refine go_cl (k := 1) (st' := [.int 1]) (cs' := 0) (ss' := 0) rfl rfl rfl rfl rfl rfl rfl (ro_549 z a2 (by omega) (by omega)) ?_
  refine go_seg 8 (pc' := 35) (ls' := [(3, .int 100), (0, .ref 1), (1, .int 3), (2, .int a2)]) (st' := [.ref 1]) (w' := (fw z)) (cs' := 0) (ss' := 0) ?_ (fun _ _ => rfl)
  exact go_end 7 (fun _ _ => rfl)
theorem ro_579 (z : pq_C) (a2 : Int32) (h0 : 0 ≤ a2.toInt) (h1 : a2.toInt < 10000) : pq_Ru 1 161 [.long 3, .long 0, .long 7] (wd_1035 z a2) (some (.int 1), (wd_1035 z a2)) := by
  refine ru_of (k := 0) (M := pm_161) rfl rfl ?_
  refine go_seg 8 (pc' := 13) (ls' := [(0, .long 3), (2, .long 0), (4, .long 7)]) (st' := []) (w' := (wd_1035 z a2)) (cs' := 0) (ss' := 0) ?_ (fun _ _ => rfl)
  exact go_end 3 (fun _ _ => rfl)
theorem ro_580 (z : pq_C) (a2 : Int32) (h0 : 0 ≤ a2.toInt) (h1 : a2.toInt < 10000) : pq_Ru 2 167 [.int 3] (wd_1035 z a2) (some (.int 1), (wd_1035 z a2)) := by
  refine ru_of (k := 1) (M := pm_167) rfl rfl ?_
  refine go_seg 4 (pc' := 6) (ls' := [(0, .int 3)]) (st' := [.long 7, .long 0, .long 3]) (w' := (wd_1035 z a2)) (cs' := 0) (ss' := 0) ?_ (fun _ _ => rfl)
  refine go_cl (k := 1) (st' := [.int 1]) (cs' := 0) (ss' := 0) rfl rfl rfl rfl rfl rfl rfl (ro_579 z a2 (by omega) (by omega)) ?_
  exact go_end 1 (fun _ _ => rfl)
theorem ro_581 (z : pq_C) (a2 : Int32) (h0 : 0 ≤ a2.toInt) (h1 : a2.toInt < 10000) : pq_Ru 1 168 [.int 3, .int 2] (wd_1035 z a2) (some (.int 158), (wd_1035 z a2)) := by
  refine ru_of (k := 0) (M := pm_168) rfl rfl ?_
  exact go_end 8 (fun _ _ => rfl)
def wd_1036 (z : pq_C) (a2 : Int32) : pq_W := ((wd_1035 z a2).set 91 (.inl (.int, 2858, .inl (upd (upd (upd (upd (upd (upd (upd (upd (upd (upd (upd (upd (upd (upd (upd (upd (upd (upd (upd (upd (upd (upd (upd (upd (upd (upd (upd (upd (upd (upd (upd (upd (upd (upd (upd (upd (upd (upd (upd (upd (upd (upd (upd (upd (upd (upd (upd (upd (upd (upd (upd (upd (upd (upd (upd (upd (upd (upd (upd (upd (upd (upd (upd (upd (upd (upd (upd (upd (upd (upd (upd (upd (upd (upd (upd (upd (upd (upd (upd (upd (upd (upd (fun _ => 0) 1 10) 10 (-1)) 11 (-1)) 12 (-1)) 13 (-1)) 14 (-1)) 15 (-1)) 16 (-1)) 17 (-1)) 18 (-1)) 19 (-1)) 20 (-1)) 21 (-1)) 22 (-1)) 23 (-1)) 24 (-1)) 25 (-1)) 26 (-1)) 27 (-1)) 28 (-1)) 29 (-1)) 30 (-1)) 31 (-1)) 32 (-1)) 33 (-1)) 34 (-1)) 35 (-1)) 36 (-1)) 37 (-1)) 38 (-1)) 39 (-1)) 40 (-1)) 41 (-1)) 42 (-1)) 43 (-1)) 44 (-1)) 45 (-1)) 46 (-1)) 47 (-1)) 48 (-1)) 49 (-1)) 50 (-1)) 51 (-1)) 52 (-1)) 53 (-1)) 54 (-1)) 55 (-1)) 56 (-1)) 57 (-1)) 58 (-1)) 59 (-1)) 60 (-1)) 61 (-1)) 62 (-1)) 63 (-1)) 64 (-1)) 65 (-1)) 66 (-1)) 67 (-1)) 68 (-1)) 69 (-1)) 70 (-1)) 71 (-1)) 72 (-1)) 73 (-1)) 139 1000) 140 100) 145 1000) 146 100) 151 1000) 152 100) 157 1000) 158 100) 163 1000) 164 100) 169 1000) 170 100) 175 1000) 176 100) 181 1000) 182 100) 158 a2))))
theorem ro_582 (z : pq_C) (a2 : Int32) (h0 : 0 ≤ a2.toInt) (h1 : a2.toInt < 10000) : pq_Ru 3 172 [.ref 90, .int 3, .int a2] (wd_1035 z a2) (some (.int 100), (wd_1036 z a2)) := by
  refine ru_of (k := 2) (M := pm_172) rfl rfl ?_
  refine go_seg 1 (pc' := 1) (ls' := [(0, .ref 90), (1, .int 3), (2, .int a2)]) (st' := [.int 3]) (w' := (wd_1035 z a2)) (cs' := 0) (ss' := 0) ?_ (fun _ _ => rfl)
  refine go_cl (k := 2) (st' := [.int 1]) (cs' := 0) (ss' := 0) rfl rfl rfl rfl rfl rfl rfl (ro_580 z a2 (by omega) (by omega)) ?_
  refine go_seg 5 (pc' := 13) (ls' := [(0, .ref 90), (1, .int 3), (2, .int a2)]) (st' := [.long 9999, .long 0, .long a2.toInt64]) (w' := (wd_1035 z a2)) (cs' := 0) (ss' := 0) ?_ (fun _ _ => rfl)
  refine go_cl (k := 2) (st' := [.int 1]) (cs' := 0) (ss' := 0) rfl rfl rfl rfl rfl rfl rfl (wi_t _ a2 0 9999 0 9999 rfl rfl (by omega)) ?_
  refine go_seg 5 (pc' := 32) (ls' := [(0, .ref 90), (1, .int 3), (2, .int a2)]) (st' := [.int 2, .int 3, .ref 91]) (w' := (wd_1035 z a2)) (cs' := 0) (ss' := 0) ?_ (fun _ _ => rfl)
  refine go_cl (k := 2) (st' := [.int 158, .ref 91]) (cs' := 0) (ss' := 0) rfl rfl rfl rfl rfl rfl rfl (ro_581 z a2 (by omega) (by omega)) ?_
  refine go_seg 6 (pc' := 43) (ls' := [(3, .int 100), (0, .ref 90), (1, .int 3), (2, .int a2)]) (st' := [.int 2, .int 3, .ref 91]) (w' := (wd_1035 z a2)) (cs' := 0) (ss' := 0) ?_ (fun _ _ => rfl)
  refine go_cl (k := 2) (st' := [.int 158, .ref 91]) (cs' := 0) (ss' := 0) rfl rfl rfl rfl rfl rfl rfl (ro_581 z a2 (by omega) (by omega)) ?_
  exact go_end 4 (fun _ _ => rfl)
theorem lf_5_584 (a0 : Int32) (a2 : Int32) (a3 : Int32) (a4 : Int32) (a5 : Int32) (h0 : 0 ≤ a2.toInt) (h1 : a2.toInt < 10000) : ∃ w', pq_Go 20 pm_law 403 [(3, .int 0), (2, .ref 90), (1, .ref 1), (0, .ref 0)] [] (fw (sz a0 3 a2 a3 a4 a5)) 109 12668 (some (.int 1), w') := by
  refine ⟨(wd_1036 (sz a0 3 a2 a3 a4 a5) a2), ?_⟩
  refine go_seg 8 (pc' := 411) (ls' := [(3, .int 0), (2, .ref 90), (1, .ref 1), (0, .ref 0)]) (st' := [.int 0, .ref 0, .int 3, .ref 1]) (w' := (fw (sz a0 3 a2 a3 a4 a5))) (cs' := 109) (ss' := 12668) ?_ (fun _ _ => rfl)
  refine go_seg 3 (pc' := 414) (ls' := [(3, .int 0), (2, .ref 90), (1, .ref 1), (0, .ref 0)]) (st' := [.int a2, .int 3, .ref 1]) (w' := (fw (sz a0 3 a2 a3 a4 a5))) (cs' := 109) (ss' := 12668) ?_ (fun _ _ => rfl)
  refine go_cl (k := 20) (st' := [.int 100]) (cs' := 109) (ss' := 12668) rfl rfl rfl rfl rfl rfl rfl (ro_577 (sz a0 3 a2 a3 a4 a5) a2 (by omega) (by omega)) ?_
  refine go_seg 8 (pc' := 425) (ls' := [(3, .int 0), (2, .ref 90), (1, .ref 1), (0, .ref 0)]) (st' := [.int 0, .ref 0, .int 3, .ref 90, .int 100]) (w' := (wd_1035 (sz a0 3 a2 a3 a4 a5) a2)) (cs' := 109) (ss' := 12668) ?_ (fun _ _ => rfl)
  refine go_seg 3 (pc' := 428) (ls' := [(3, .int 0), (2, .ref 90), (1, .ref 1), (0, .ref 0)]) (st' := [.int a2, .int 3, .ref 90, .int 100]) (w' := (wd_1035 (sz a0 3 a2 a3 a4 a5) a2)) (cs' := 109) (ss' := 12668) ?_ (fun _ _ => rfl)
  refine go_cl (k := 20) (st' := [.int 100, .int 100]) (cs' := 109) (ss' := 12668) rfl rfl rfl rfl rfl rfl rfl (ro_582 (sz a0 3 a2 a3 a4 a5) a2 (by omega) (by omega)) ?_
  refine go_cmp true rfl (br_self _) ?_
  exact law_tail (f := sc a0 3 a2 a3 a4 a5) rfl
theorem ro_585 (z : pq_C) : pq_Ru 1 24 [.int 4] (fw z) (some (.int 1), (fw z)) := by
  refine ru_of (k := 0) (M := pm_24) rfl rfl ?_
  exact go_end 8 (fun _ _ => rfl)
def wd_1037 (z : pq_C) (a2 : Int32) : pq_W := ((fw z).set 7 (.inl (.int, 8, .inl (upd (fl_c 8 100 (fun _ => 0)) 4 a2))))
theorem ro_586 (z : pq_C) (a2 : Int32) (h0 : 0 ≤ a2.toInt) (h1 : a2.toInt < 10000) : pq_Ru 2 28 [.ref 1, .int 4, .int a2] (fw z) (some (.int 100), (wd_1037 z a2)) := by
  refine ru_of (k := 1) (M := pm_28) rfl rfl ?_
  refine go_seg 1 (pc' := 1) (ls' := [(0, .ref 1), (1, .int 4), (2, .int a2)]) (st' := [.int 4]) (w' := (fw z)) (cs' := 0) (ss' := 0) ?_ (fun _ _ => rfl)
  refine go_cl (k := 1) (st' := [.int 1]) (cs' := 0) (ss' := 0) rfl rfl rfl rfl rfl rfl rfl (ro_585 z) ?_
  refine go_seg 4 (pc' := 12) (ls' := [(0, .ref 1), (1, .int 4), (2, .int a2)]) (st' := [.int 9999, .int 0, .int a2]) (w' := (fw z)) (cs' := 0) (ss' := 0) ?_ (fun _ _ => rfl)
  refine go_cl (k := 1) (st' := [.int 1]) (cs' := 0) (ss' := 0) rfl rfl rfl rfl rfl rfl rfl (ro_549 z a2 (by omega) (by omega)) ?_
  refine go_seg 8 (pc' := 35) (ls' := [(3, .int 100), (0, .ref 1), (1, .int 4), (2, .int a2)]) (st' := [.ref 1]) (w' := (fw z)) (cs' := 0) (ss' := 0) ?_ (fun _ _ => rfl)
  exact go_end 7 (fun _ _ => rfl)
theorem ro_588 (z : pq_C) (a2 : Int32) (h0 : 0 ≤ a2.toInt) (h1 : a2.toInt < 10000) : pq_Ru 1 161 [.long 4, .long 0, .long 7] (wd_1037 z a2) (some (.int 1), (wd_1037 z a2)) := by
  refine ru_of (k := 0) (M := pm_161) rfl rfl ?_
  refine go_seg 8 (pc' := 13) (ls' := [(0, .long 4), (2, .long 0), (4, .long 7)]) (st' := []) (w' := (wd_1037 z a2)) (cs' := 0) (ss' := 0) ?_ (fun _ _ => rfl)
  exact go_end 3 (fun _ _ => rfl)
theorem ro_589 (z : pq_C) (a2 : Int32) (h0 : 0 ≤ a2.toInt) (h1 : a2.toInt < 10000) : pq_Ru 2 167 [.int 4] (wd_1037 z a2) (some (.int 1), (wd_1037 z a2)) := by
  refine ru_of (k := 1) (M := pm_167) rfl rfl ?_
  refine go_seg 4 (pc' := 6) (ls' := [(0, .int 4)]) (st' := [.long 7, .long 0, .long 4]) (w' := (wd_1037 z a2)) (cs' := 0) (ss' := 0) ?_ (fun _ _ => rfl)
  refine go_cl (k := 1) (st' := [.int 1]) (cs' := 0) (ss' := 0) rfl rfl rfl rfl rfl rfl rfl (ro_588 z a2 (by omega) (by omega)) ?_
  exact go_end 1 (fun _ _ => rfl)
theorem ro_590 (z : pq_C) (a2 : Int32) (h0 : 0 ≤ a2.toInt) (h1 : a2.toInt < 10000) : pq_Ru 1 168 [.int 4, .int 2] (wd_1037 z a2) (some (.int 164), (wd_1037 z a2)) := by
  refine ru_of (k := 0) (M := pm_168) rfl rfl ?_
  exact go_end 8 (fun _ _ => rfl)
def wd_1038 (z : pq_C) (a2 : Int32) : pq_W := ((wd_1037 z a2).set 91 (.inl (.int, 2858, .inl (upd (upd (upd (upd (upd (upd (upd (upd (upd (upd (upd (upd (upd (upd (upd (upd (upd (upd (upd (upd (upd (upd (upd (upd (upd (upd (upd (upd (upd (upd (upd (upd (upd (upd (upd (upd (upd (upd (upd (upd (upd (upd (upd (upd (upd (upd (upd (upd (upd (upd (upd (upd (upd (upd (upd (upd (upd (upd (upd (upd (upd (upd (upd (upd (upd (upd (upd (upd (upd (upd (upd (upd (upd (upd (upd (upd (upd (upd (upd (upd (upd (upd (fun _ => 0) 1 10) 10 (-1)) 11 (-1)) 12 (-1)) 13 (-1)) 14 (-1)) 15 (-1)) 16 (-1)) 17 (-1)) 18 (-1)) 19 (-1)) 20 (-1)) 21 (-1)) 22 (-1)) 23 (-1)) 24 (-1)) 25 (-1)) 26 (-1)) 27 (-1)) 28 (-1)) 29 (-1)) 30 (-1)) 31 (-1)) 32 (-1)) 33 (-1)) 34 (-1)) 35 (-1)) 36 (-1)) 37 (-1)) 38 (-1)) 39 (-1)) 40 (-1)) 41 (-1)) 42 (-1)) 43 (-1)) 44 (-1)) 45 (-1)) 46 (-1)) 47 (-1)) 48 (-1)) 49 (-1)) 50 (-1)) 51 (-1)) 52 (-1)) 53 (-1)) 54 (-1)) 55 (-1)) 56 (-1)) 57 (-1)) 58 (-1)) 59 (-1)) 60 (-1)) 61 (-1)) 62 (-1)) 63 (-1)) 64 (-1)) 65 (-1)) 66 (-1)) 67 (-1)) 68 (-1)) 69 (-1)) 70 (-1)) 71 (-1)) 72 (-1)) 73 (-1)) 139 1000) 140 100) 145 1000) 146 100) 151 1000) 152 100) 157 1000) 158 100) 163 1000) 164 100) 169 1000) 170 100) 175 1000) 176 100) 181 1000) 182 100) 164 a2))))
theorem ro_591 (z : pq_C) (a2 : Int32) (h0 : 0 ≤ a2.toInt) (h1 : a2.toInt < 10000) : pq_Ru 3 172 [.ref 90, .int 4, .int a2] (wd_1037 z a2) (some (.int 100), (wd_1038 z a2)) := by
  refine ru_of (k := 2) (M := pm_172) rfl rfl ?_
  refine go_seg 1 (pc' := 1) (ls' := [(0, .ref 90), (1, .int 4), (2, .int a2)]) (st' := [.int 4]) (w' := (wd_1037 z a2)) (cs' := 0) (ss' := 0) ?_ (fun _ _ => rfl)
  refine go_cl (k := 2) (st' := [.int 1]) (cs' := 0) (ss' := 0) rfl rfl rfl rfl rfl rfl rfl (ro_589 z a2 (by omega) (by omega)) ?_
  refine go_seg 5 (pc' := 13) (ls' := [(0, .ref 90), (1, .int 4), (2, .int a2)]) (st' := [.long 9999, .long 0, .long a2.toInt64]) (w' := (wd_1037 z a2)) (cs' := 0) (ss' := 0) ?_ (fun _ _ => rfl)
  refine go_cl (k := 2) (st' := [.int 1]) (cs' := 0) (ss' := 0) rfl rfl rfl rfl rfl rfl rfl (wi_t _ a2 0 9999 0 9999 rfl rfl (by omega)) ?_
  refine go_seg 5 (pc' := 32) (ls' := [(0, .ref 90), (1, .int 4), (2, .int a2)]) (st' := [.int 2, .int 4, .ref 91]) (w' := (wd_1037 z a2)) (cs' := 0) (ss' := 0) ?_ (fun _ _ => rfl)
  refine go_cl (k := 2) (st' := [.int 164, .ref 91]) (cs' := 0) (ss' := 0) rfl rfl rfl rfl rfl rfl rfl (ro_590 z a2 (by omega) (by omega)) ?_
  refine go_seg 6 (pc' := 43) (ls' := [(3, .int 100), (0, .ref 90), (1, .int 4), (2, .int a2)]) (st' := [.int 2, .int 4, .ref 91]) (w' := (wd_1037 z a2)) (cs' := 0) (ss' := 0) ?_ (fun _ _ => rfl)
  refine go_cl (k := 2) (st' := [.int 164, .ref 91]) (cs' := 0) (ss' := 0) rfl rfl rfl rfl rfl rfl rfl (ro_590 z a2 (by omega) (by omega)) ?_
  exact go_end 4 (fun _ _ => rfl)
theorem lf_5_593 (a0 : Int32) (a2 : Int32) (a3 : Int32) (a4 : Int32) (a5 : Int32) (h0 : 0 ≤ a2.toInt) (h1 : a2.toInt < 10000) : ∃ w', pq_Go 20 pm_law 403 [(3, .int 0), (2, .ref 90), (1, .ref 1), (0, .ref 0)] [] (fw (sz a0 4 a2 a3 a4 a5)) 109 12668 (some (.int 1), w') := by
  refine ⟨(wd_1038 (sz a0 4 a2 a3 a4 a5) a2), ?_⟩
  refine go_seg 8 (pc' := 411) (ls' := [(3, .int 0), (2, .ref 90), (1, .ref 1), (0, .ref 0)]) (st' := [.int 0, .ref 0, .int 4, .ref 1]) (w' := (fw (sz a0 4 a2 a3 a4 a5))) (cs' := 109) (ss' := 12668) ?_ (fun _ _ => rfl)
  refine go_seg 3 (pc' := 414) (ls' := [(3, .int 0), (2, .ref 90), (1, .ref 1), (0, .ref 0)]) (st' := [.int a2, .int 4, .ref 1]) (w' := (fw (sz a0 4 a2 a3 a4 a5))) (cs' := 109) (ss' := 12668) ?_ (fun _ _ => rfl)
  refine go_cl (k := 20) (st' := [.int 100]) (cs' := 109) (ss' := 12668) rfl rfl rfl rfl rfl rfl rfl (ro_586 (sz a0 4 a2 a3 a4 a5) a2 (by omega) (by omega)) ?_
  refine go_seg 8 (pc' := 425) (ls' := [(3, .int 0), (2, .ref 90), (1, .ref 1), (0, .ref 0)]) (st' := [.int 0, .ref 0, .int 4, .ref 90, .int 100]) (w' := (wd_1037 (sz a0 4 a2 a3 a4 a5) a2)) (cs' := 109) (ss' := 12668) ?_ (fun _ _ => rfl)
  refine go_seg 3 (pc' := 428) (ls' := [(3, .int 0), (2, .ref 90), (1, .ref 1), (0, .ref 0)]) (st' := [.int a2, .int 4, .ref 90, .int 100]) (w' := (wd_1037 (sz a0 4 a2 a3 a4 a5) a2)) (cs' := 109) (ss' := 12668) ?_ (fun _ _ => rfl)
  refine go_cl (k := 20) (st' := [.int 100, .int 100]) (cs' := 109) (ss' := 12668) rfl rfl rfl rfl rfl rfl rfl (ro_591 (sz a0 4 a2 a3 a4 a5) a2 (by omega) (by omega)) ?_
  refine go_cmp true rfl (br_self _) ?_
  exact law_tail (f := sc a0 4 a2 a3 a4 a5) rfl
theorem ro_594 (z : pq_C) : pq_Ru 1 24 [.int 5] (fw z) (some (.int 1), (fw z)) := by
  refine ru_of (k := 0) (M := pm_24) rfl rfl ?_
  exact go_end 8 (fun _ _ => rfl)
def wd_1039 (z : pq_C) (a2 : Int32) : pq_W := ((fw z).set 7 (.inl (.int, 8, .inl (upd (fl_c 8 100 (fun _ => 0)) 5 a2))))
theorem ro_595 (z : pq_C) (a2 : Int32) (h0 : 0 ≤ a2.toInt) (h1 : a2.toInt < 10000) : pq_Ru 2 28 [.ref 1, .int 5, .int a2] (fw z) (some (.int 100), (wd_1039 z a2)) := by
  refine ru_of (k := 1) (M := pm_28) rfl rfl ?_
  refine go_seg 1 (pc' := 1) (ls' := [(0, .ref 1), (1, .int 5), (2, .int a2)]) (st' := [.int 5]) (w' := (fw z)) (cs' := 0) (ss' := 0) ?_ (fun _ _ => rfl)
  refine go_cl (k := 1) (st' := [.int 1]) (cs' := 0) (ss' := 0) rfl rfl rfl rfl rfl rfl rfl (ro_594 z) ?_
  refine go_seg 4 (pc' := 12) (ls' := [(0, .ref 1), (1, .int 5), (2, .int a2)]) (st' := [.int 9999, .int 0, .int a2]) (w' := (fw z)) (cs' := 0) (ss' := 0) ?_ (fun _ _ => rfl)
  refine go_cl (k := 1) (st' := [.int 1]) (cs' := 0) (ss' := 0) rfl rfl rfl rfl rfl rfl rfl (ro_549 z a2 (by omega) (by omega)) ?_
  refine go_seg 8 (pc' := 35) (ls' := [(3, .int 100), (0, .ref 1), (1, .int 5), (2, .int a2)]) (st' := [.ref 1]) (w' := (fw z)) (cs' := 0) (ss' := 0) ?_ (fun _ _ => rfl)
  exact go_end 7 (fun _ _ => rfl)
theorem ro_597 (z : pq_C) (a2 : Int32) (h0 : 0 ≤ a2.toInt) (h1 : a2.toInt < 10000) : pq_Ru 1 161 [.long 5, .long 0, .long 7] (wd_1039 z a2) (some (.int 1), (wd_1039 z a2)) := by
  refine ru_of (k := 0) (M := pm_161) rfl rfl ?_
  refine go_seg 8 (pc' := 13) (ls' := [(0, .long 5), (2, .long 0), (4, .long 7)]) (st' := []) (w' := (wd_1039 z a2)) (cs' := 0) (ss' := 0) ?_ (fun _ _ => rfl)
  exact go_end 3 (fun _ _ => rfl)
theorem ro_598 (z : pq_C) (a2 : Int32) (h0 : 0 ≤ a2.toInt) (h1 : a2.toInt < 10000) : pq_Ru 2 167 [.int 5] (wd_1039 z a2) (some (.int 1), (wd_1039 z a2)) := by
  refine ru_of (k := 1) (M := pm_167) rfl rfl ?_
  refine go_seg 4 (pc' := 6) (ls' := [(0, .int 5)]) (st' := [.long 7, .long 0, .long 5]) (w' := (wd_1039 z a2)) (cs' := 0) (ss' := 0) ?_ (fun _ _ => rfl)
  refine go_cl (k := 1) (st' := [.int 1]) (cs' := 0) (ss' := 0) rfl rfl rfl rfl rfl rfl rfl (ro_597 z a2 (by omega) (by omega)) ?_
  exact go_end 1 (fun _ _ => rfl)
theorem ro_599 (z : pq_C) (a2 : Int32) (h0 : 0 ≤ a2.toInt) (h1 : a2.toInt < 10000) : pq_Ru 1 168 [.int 5, .int 2] (wd_1039 z a2) (some (.int 170), (wd_1039 z a2)) := by
  refine ru_of (k := 0) (M := pm_168) rfl rfl ?_
  exact go_end 8 (fun _ _ => rfl)
def wd_1040 (z : pq_C) (a2 : Int32) : pq_W := ((wd_1039 z a2).set 91 (.inl (.int, 2858, .inl (upd (upd (upd (upd (upd (upd (upd (upd (upd (upd (upd (upd (upd (upd (upd (upd (upd (upd (upd (upd (upd (upd (upd (upd (upd (upd (upd (upd (upd (upd (upd (upd (upd (upd (upd (upd (upd (upd (upd (upd (upd (upd (upd (upd (upd (upd (upd (upd (upd (upd (upd (upd (upd (upd (upd (upd (upd (upd (upd (upd (upd (upd (upd (upd (upd (upd (upd (upd (upd (upd (upd (upd (upd (upd (upd (upd (upd (upd (upd (upd (upd (upd (fun _ => 0) 1 10) 10 (-1)) 11 (-1)) 12 (-1)) 13 (-1)) 14 (-1)) 15 (-1)) 16 (-1)) 17 (-1)) 18 (-1)) 19 (-1)) 20 (-1)) 21 (-1)) 22 (-1)) 23 (-1)) 24 (-1)) 25 (-1)) 26 (-1)) 27 (-1)) 28 (-1)) 29 (-1)) 30 (-1)) 31 (-1)) 32 (-1)) 33 (-1)) 34 (-1)) 35 (-1)) 36 (-1)) 37 (-1)) 38 (-1)) 39 (-1)) 40 (-1)) 41 (-1)) 42 (-1)) 43 (-1)) 44 (-1)) 45 (-1)) 46 (-1)) 47 (-1)) 48 (-1)) 49 (-1)) 50 (-1)) 51 (-1)) 52 (-1)) 53 (-1)) 54 (-1)) 55 (-1)) 56 (-1)) 57 (-1)) 58 (-1)) 59 (-1)) 60 (-1)) 61 (-1)) 62 (-1)) 63 (-1)) 64 (-1)) 65 (-1)) 66 (-1)) 67 (-1)) 68 (-1)) 69 (-1)) 70 (-1)) 71 (-1)) 72 (-1)) 73 (-1)) 139 1000) 140 100) 145 1000) 146 100) 151 1000) 152 100) 157 1000) 158 100) 163 1000) 164 100) 169 1000) 170 100) 175 1000) 176 100) 181 1000) 182 100) 170 a2))))
theorem ro_600 (z : pq_C) (a2 : Int32) (h0 : 0 ≤ a2.toInt) (h1 : a2.toInt < 10000) : pq_Ru 3 172 [.ref 90, .int 5, .int a2] (wd_1039 z a2) (some (.int 100), (wd_1040 z a2)) := by
  refine ru_of (k := 2) (M := pm_172) rfl rfl ?_
  refine go_seg 1 (pc' := 1) (ls' := [(0, .ref 90), (1, .int 5), (2, .int a2)]) (st' := [.int 5]) (w' := (wd_1039 z a2)) (cs' := 0) (ss' := 0) ?_ (fun _ _ => rfl)
  refine go_cl (k := 2) (st' := [.int 1]) (cs' := 0) (ss' := 0) rfl rfl rfl rfl rfl rfl rfl (ro_598 z a2 (by omega) (by omega)) ?_
  refine go_seg 5 (pc' := 13) (ls' := [(0, .ref 90), (1, .int 5), (2, .int a2)]) (st' := [.long 9999, .long 0, .long a2.toInt64]) (w' := (wd_1039 z a2)) (cs' := 0) (ss' := 0) ?_ (fun _ _ => rfl)
  refine go_cl (k := 2) (st' := [.int 1]) (cs' := 0) (ss' := 0) rfl rfl rfl rfl rfl rfl rfl (wi_t _ a2 0 9999 0 9999 rfl rfl (by omega)) ?_
  refine go_seg 5 (pc' := 32) (ls' := [(0, .ref 90), (1, .int 5), (2, .int a2)]) (st' := [.int 2, .int 5, .ref 91]) (w' := (wd_1039 z a2)) (cs' := 0) (ss' := 0) ?_ (fun _ _ => rfl)
  refine go_cl (k := 2) (st' := [.int 170, .ref 91]) (cs' := 0) (ss' := 0) rfl rfl rfl rfl rfl rfl rfl (ro_599 z a2 (by omega) (by omega)) ?_
  refine go_seg 6 (pc' := 43) (ls' := [(3, .int 100), (0, .ref 90), (1, .int 5), (2, .int a2)]) (st' := [.int 2, .int 5, .ref 91]) (w' := (wd_1039 z a2)) (cs' := 0) (ss' := 0) ?_ (fun _ _ => rfl)
  refine go_cl (k := 2) (st' := [.int 170, .ref 91]) (cs' := 0) (ss' := 0) rfl rfl rfl rfl rfl rfl rfl (ro_599 z a2 (by omega) (by omega)) ?_
  exact go_end 4 (fun _ _ => rfl)
theorem lf_5_602 (a0 : Int32) (a2 : Int32) (a3 : Int32) (a4 : Int32) (a5 : Int32) (h0 : 0 ≤ a2.toInt) (h1 : a2.toInt < 10000) : ∃ w', pq_Go 20 pm_law 403 [(3, .int 0), (2, .ref 90), (1, .ref 1), (0, .ref 0)] [] (fw (sz a0 5 a2 a3 a4 a5)) 109 12668 (some (.int 1), w') := by
  refine ⟨(wd_1040 (sz a0 5 a2 a3 a4 a5) a2), ?_⟩
  refine go_seg 8 (pc' := 411) (ls' := [(3, .int 0), (2, .ref 90), (1, .ref 1), (0, .ref 0)]) (st' := [.int 0, .ref 0, .int 5, .ref 1]) (w' := (fw (sz a0 5 a2 a3 a4 a5))) (cs' := 109) (ss' := 12668) ?_ (fun _ _ => rfl)
  refine go_seg 3 (pc' := 414) (ls' := [(3, .int 0), (2, .ref 90), (1, .ref 1), (0, .ref 0)]) (st' := [.int a2, .int 5, .ref 1]) (w' := (fw (sz a0 5 a2 a3 a4 a5))) (cs' := 109) (ss' := 12668) ?_ (fun _ _ => rfl)
  refine go_cl (k := 20) (st' := [.int 100]) (cs' := 109) (ss' := 12668) rfl rfl rfl rfl rfl rfl rfl (ro_595 (sz a0 5 a2 a3 a4 a5) a2 (by omega) (by omega)) ?_
  refine go_seg 8 (pc' := 425) (ls' := [(3, .int 0), (2, .ref 90), (1, .ref 1), (0, .ref 0)]) (st' := [.int 0, .ref 0, .int 5, .ref 90, .int 100]) (w' := (wd_1039 (sz a0 5 a2 a3 a4 a5) a2)) (cs' := 109) (ss' := 12668) ?_ (fun _ _ => rfl)
  refine go_seg 3 (pc' := 428) (ls' := [(3, .int 0), (2, .ref 90), (1, .ref 1), (0, .ref 0)]) (st' := [.int a2, .int 5, .ref 90, .int 100]) (w' := (wd_1039 (sz a0 5 a2 a3 a4 a5) a2)) (cs' := 109) (ss' := 12668) ?_ (fun _ _ => rfl)
  refine go_cl (k := 20) (st' := [.int 100, .int 100]) (cs' := 109) (ss' := 12668) rfl rfl rfl rfl rfl rfl rfl (ro_600 (sz a0 5 a2 a3 a4 a5) a2 (by omega) (by omega)) ?_
  refine go_cmp true rfl (br_self _) ?_
  exact law_tail (f := sc a0 5 a2 a3 a4 a5) rfl
theorem ro_603 (z : pq_C) : pq_Ru 1 24 [.int 6] (fw z) (some (.int 1), (fw z)) := by
  refine ru_of (k := 0) (M := pm_24) rfl rfl ?_
  exact go_end 8 (fun _ _ => rfl)
def wd_1041 (z : pq_C) (a2 : Int32) : pq_W := ((fw z).set 7 (.inl (.int, 8, .inl (upd (fl_c 8 100 (fun _ => 0)) 6 a2))))
theorem ro_604 (z : pq_C) (a2 : Int32) (h0 : 0 ≤ a2.toInt) (h1 : a2.toInt < 10000) : pq_Ru 2 28 [.ref 1, .int 6, .int a2] (fw z) (some (.int 100), (wd_1041 z a2)) := by
  refine ru_of (k := 1) (M := pm_28) rfl rfl ?_
  refine go_seg 1 (pc' := 1) (ls' := [(0, .ref 1), (1, .int 6), (2, .int a2)]) (st' := [.int 6]) (w' := (fw z)) (cs' := 0) (ss' := 0) ?_ (fun _ _ => rfl)
  refine go_cl (k := 1) (st' := [.int 1]) (cs' := 0) (ss' := 0) rfl rfl rfl rfl rfl rfl rfl (ro_603 z) ?_
  refine go_seg 4 (pc' := 12) (ls' := [(0, .ref 1), (1, .int 6), (2, .int a2)]) (st' := [.int 9999, .int 0, .int a2]) (w' := (fw z)) (cs' := 0) (ss' := 0) ?_ (fun _ _ => rfl)
  refine go_cl (k := 1) (st' := [.int 1]) (cs' := 0) (ss' := 0) rfl rfl rfl rfl rfl rfl rfl (ro_549 z a2 (by omega) (by omega)) ?_
  refine go_seg 8 (pc' := 35) (ls' := [(3, .int 100), (0, .ref 1), (1, .int 6), (2, .int a2)]) (st' := [.ref 1]) (w' := (fw z)) (cs' := 0) (ss' := 0) ?_ (fun _ _ => rfl)
  exact go_end 7 (fun _ _ => rfl)
theorem ro_606 (z : pq_C) (a2 : Int32) (h0 : 0 ≤ a2.toInt) (h1 : a2.toInt < 10000) : pq_Ru 1 161 [.long 6, .long 0, .long 7] (wd_1041 z a2) (some (.int 1), (wd_1041 z a2)) := by
  refine ru_of (k := 0) (M := pm_161) rfl rfl ?_
  refine go_seg 8 (pc' := 13) (ls' := [(0, .long 6), (2, .long 0), (4, .long 7)]) (st' := []) (w' := (wd_1041 z a2)) (cs' := 0) (ss' := 0) ?_ (fun _ _ => rfl)
  exact go_end 3 (fun _ _ => rfl)
theorem ro_607 (z : pq_C) (a2 : Int32) (h0 : 0 ≤ a2.toInt) (h1 : a2.toInt < 10000) : pq_Ru 2 167 [.int 6] (wd_1041 z a2) (some (.int 1), (wd_1041 z a2)) := by
  refine ru_of (k := 1) (M := pm_167) rfl rfl ?_
  refine go_seg 4 (pc' := 6) (ls' := [(0, .int 6)]) (st' := [.long 7, .long 0, .long 6]) (w' := (wd_1041 z a2)) (cs' := 0) (ss' := 0) ?_ (fun _ _ => rfl)
  refine go_cl (k := 1) (st' := [.int 1]) (cs' := 0) (ss' := 0) rfl rfl rfl rfl rfl rfl rfl (ro_606 z a2 (by omega) (by omega)) ?_
  exact go_end 1 (fun _ _ => rfl)
theorem ro_608 (z : pq_C) (a2 : Int32) (h0 : 0 ≤ a2.toInt) (h1 : a2.toInt < 10000) : pq_Ru 1 168 [.int 6, .int 2] (wd_1041 z a2) (some (.int 176), (wd_1041 z a2)) := by
  refine ru_of (k := 0) (M := pm_168) rfl rfl ?_
  exact go_end 8 (fun _ _ => rfl)
def wd_1042 (z : pq_C) (a2 : Int32) : pq_W := ((wd_1041 z a2).set 91 (.inl (.int, 2858, .inl (upd (upd (upd (upd (upd (upd (upd (upd (upd (upd (upd (upd (upd (upd (upd (upd (upd (upd (upd (upd (upd (upd (upd (upd (upd (upd (upd (upd (upd (upd (upd (upd (upd (upd (upd (upd (upd (upd (upd (upd (upd (upd (upd (upd (upd (upd (upd (upd (upd (upd (upd (upd (upd (upd (upd (upd (upd (upd (upd (upd (upd (upd (upd (upd (upd (upd (upd (upd (upd (upd (upd (upd (upd (upd (upd (upd (upd (upd (upd (upd (upd (upd (fun _ => 0) 1 10) 10 (-1)) 11 (-1)) 12 (-1)) 13 (-1)) 14 (-1)) 15 (-1)) 16 (-1)) 17 (-1)) 18 (-1)) 19 (-1)) 20 (-1)) 21 (-1)) 22 (-1)) 23 (-1)) 24 (-1)) 25 (-1)) 26 (-1)) 27 (-1)) 28 (-1)) 29 (-1)) 30 (-1)) 31 (-1)) 32 (-1)) 33 (-1)) 34 (-1)) 35 (-1)) 36 (-1)) 37 (-1)) 38 (-1)) 39 (-1)) 40 (-1)) 41 (-1)) 42 (-1)) 43 (-1)) 44 (-1)) 45 (-1)) 46 (-1)) 47 (-1)) 48 (-1)) 49 (-1)) 50 (-1)) 51 (-1)) 52 (-1)) 53 (-1)) 54 (-1)) 55 (-1)) 56 (-1)) 57 (-1)) 58 (-1)) 59 (-1)) 60 (-1)) 61 (-1)) 62 (-1)) 63 (-1)) 64 (-1)) 65 (-1)) 66 (-1)) 67 (-1)) 68 (-1)) 69 (-1)) 70 (-1)) 71 (-1)) 72 (-1)) 73 (-1)) 139 1000) 140 100) 145 1000) 146 100) 151 1000) 152 100) 157 1000) 158 100) 163 1000) 164 100) 169 1000) 170 100) 175 1000) 176 100) 181 1000) 182 100) 176 a2))))
theorem ro_609 (z : pq_C) (a2 : Int32) (h0 : 0 ≤ a2.toInt) (h1 : a2.toInt < 10000) : pq_Ru 3 172 [.ref 90, .int 6, .int a2] (wd_1041 z a2) (some (.int 100), (wd_1042 z a2)) := by
  refine ru_of (k := 2) (M := pm_172) rfl rfl ?_
  refine go_seg 1 (pc' := 1) (ls' := [(0, .ref 90), (1, .int 6), (2, .int a2)]) (st' := [.int 6]) (w' := (wd_1041 z a2)) (cs' := 0) (ss' := 0) ?_ (fun _ _ => rfl)
  refine go_cl (k := 2) (st' := [.int 1]) (cs' := 0) (ss' := 0) rfl rfl rfl rfl rfl rfl rfl (ro_607 z a2 (by omega) (by omega)) ?_
  refine go_seg 5 (pc' := 13) (ls' := [(0, .ref 90), (1, .int 6), (2, .int a2)]) (st' := [.long 9999, .long 0, .long a2.toInt64]) (w' := (wd_1041 z a2)) (cs' := 0) (ss' := 0) ?_ (fun _ _ => rfl)
  refine go_cl (k := 2) (st' := [.int 1]) (cs' := 0) (ss' := 0) rfl rfl rfl rfl rfl rfl rfl (wi_t _ a2 0 9999 0 9999 rfl rfl (by omega)) ?_
  refine go_seg 5 (pc' := 32) (ls' := [(0, .ref 90), (1, .int 6), (2, .int a2)]) (st' := [.int 2, .int 6, .ref 91]) (w' := (wd_1041 z a2)) (cs' := 0) (ss' := 0) ?_ (fun _ _ => rfl)
  refine go_cl (k := 2) (st' := [.int 176, .ref 91]) (cs' := 0) (ss' := 0) rfl rfl rfl rfl rfl rfl rfl (ro_608 z a2 (by omega) (by omega)) ?_
  refine go_seg 6 (pc' := 43) (ls' := [(3, .int 100), (0, .ref 90), (1, .int 6), (2, .int a2)]) (st' := [.int 2, .int 6, .ref 91]) (w' := (wd_1041 z a2)) (cs' := 0) (ss' := 0) ?_ (fun _ _ => rfl)
  refine go_cl (k := 2) (st' := [.int 176, .ref 91]) (cs' := 0) (ss' := 0) rfl rfl rfl rfl rfl rfl rfl (ro_608 z a2 (by omega) (by omega)) ?_
  exact go_end 4 (fun _ _ => rfl)
theorem lf_5_611 (a0 : Int32) (a2 : Int32) (a3 : Int32) (a4 : Int32) (a5 : Int32) (h0 : 0 ≤ a2.toInt) (h1 : a2.toInt < 10000) : ∃ w', pq_Go 20 pm_law 403 [(3, .int 0), (2, .ref 90), (1, .ref 1), (0, .ref 0)] [] (fw (sz a0 6 a2 a3 a4 a5)) 109 12668 (some (.int 1), w') := by
  refine ⟨(wd_1042 (sz a0 6 a2 a3 a4 a5) a2), ?_⟩
  refine go_seg 8 (pc' := 411) (ls' := [(3, .int 0), (2, .ref 90), (1, .ref 1), (0, .ref 0)]) (st' := [.int 0, .ref 0, .int 6, .ref 1]) (w' := (fw (sz a0 6 a2 a3 a4 a5))) (cs' := 109) (ss' := 12668) ?_ (fun _ _ => rfl)
  refine go_seg 3 (pc' := 414) (ls' := [(3, .int 0), (2, .ref 90), (1, .ref 1), (0, .ref 0)]) (st' := [.int a2, .int 6, .ref 1]) (w' := (fw (sz a0 6 a2 a3 a4 a5))) (cs' := 109) (ss' := 12668) ?_ (fun _ _ => rfl)
  refine go_cl (k := 20) (st' := [.int 100]) (cs' := 109) (ss' := 12668) rfl rfl rfl rfl rfl rfl rfl (ro_604 (sz a0 6 a2 a3 a4 a5) a2 (by omega) (by omega)) ?_
  refine go_seg 8 (pc' := 425) (ls' := [(3, .int 0), (2, .ref 90), (1, .ref 1), (0, .ref 0)]) (st' := [.int 0, .ref 0, .int 6, .ref 90, .int 100]) (w' := (wd_1041 (sz a0 6 a2 a3 a4 a5) a2)) (cs' := 109) (ss' := 12668) ?_ (fun _ _ => rfl)
  refine go_seg 3 (pc' := 428) (ls' := [(3, .int 0), (2, .ref 90), (1, .ref 1), (0, .ref 0)]) (st' := [.int a2, .int 6, .ref 90, .int 100]) (w' := (wd_1041 (sz a0 6 a2 a3 a4 a5) a2)) (cs' := 109) (ss' := 12668) ?_ (fun _ _ => rfl)
  refine go_cl (k := 20) (st' := [.int 100, .int 100]) (cs' := 109) (ss' := 12668) rfl rfl rfl rfl rfl rfl rfl (ro_609 (sz a0 6 a2 a3 a4 a5) a2 (by omega) (by omega)) ?_
  refine go_cmp true rfl (br_self _) ?_
  exact law_tail (f := sc a0 6 a2 a3 a4 a5) rfl
theorem ro_612 (z : pq_C) : pq_Ru 1 24 [.int 7] (fw z) (some (.int 1), (fw z)) := by
  refine ru_of (k := 0) (M := pm_24) rfl rfl ?_
  exact go_end 8 (fun _ _ => rfl)
def wd_1043 (z : pq_C) (a2 : Int32) : pq_W := ((fw z).set 7 (.inl (.int, 8, .inl (upd (fl_c 8 100 (fun _ => 0)) 7 a2))))
theorem ro_613 (z : pq_C) (a2 : Int32) (h0 : 0 ≤ a2.toInt) (h1 : a2.toInt < 10000) : pq_Ru 2 28 [.ref 1, .int 7, .int a2] (fw z) (some (.int 100), (wd_1043 z a2)) := by
  refine ru_of (k := 1) (M := pm_28) rfl rfl ?_
  refine go_seg 1 (pc' := 1) (ls' := [(0, .ref 1), (1, .int 7), (2, .int a2)]) (st' := [.int 7]) (w' := (fw z)) (cs' := 0) (ss' := 0) ?_ (fun _ _ => rfl)
  refine go_cl (k := 1) (st' := [.int 1]) (cs' := 0) (ss' := 0) rfl rfl rfl rfl rfl rfl rfl (ro_612 z) ?_
  refine go_seg 4 (pc' := 12) (ls' := [(0, .ref 1), (1, .int 7), (2, .int a2)]) (st' := [.int 9999, .int 0, .int a2]) (w' := (fw z)) (cs' := 0) (ss' := 0) ?_ (fun _ _ => rfl)
  refine go_cl (k := 1) (st' := [.int 1]) (cs' := 0) (ss' := 0) rfl rfl rfl rfl rfl rfl rfl (ro_549 z a2 (by omega) (by omega)) ?_
  refine go_seg 8 (pc' := 35) (ls' := [(3, .int 100), (0, .ref 1), (1, .int 7), (2, .int a2)]) (st' := [.ref 1]) (w' := (fw z)) (cs' := 0) (ss' := 0) ?_ (fun _ _ => rfl)
  exact go_end 7 (fun _ _ => rfl)
theorem ro_615 (z : pq_C) (a2 : Int32) (h0 : 0 ≤ a2.toInt) (h1 : a2.toInt < 10000) : pq_Ru 1 161 [.long 7, .long 0, .long 7] (wd_1043 z a2) (some (.int 1), (wd_1043 z a2)) := by
  refine ru_of (k := 0) (M := pm_161) rfl rfl ?_
  refine go_seg 8 (pc' := 13) (ls' := [(0, .long 7), (2, .long 0), (4, .long 7)]) (st' := []) (w' := (wd_1043 z a2)) (cs' := 0) (ss' := 0) ?_ (fun _ _ => rfl)
  exact go_end 3 (fun _ _ => rfl)
theorem ro_616 (z : pq_C) (a2 : Int32) (h0 : 0 ≤ a2.toInt) (h1 : a2.toInt < 10000) : pq_Ru 2 167 [.int 7] (wd_1043 z a2) (some (.int 1), (wd_1043 z a2)) := by
  refine ru_of (k := 1) (M := pm_167) rfl rfl ?_
  refine go_seg 4 (pc' := 6) (ls' := [(0, .int 7)]) (st' := [.long 7, .long 0, .long 7]) (w' := (wd_1043 z a2)) (cs' := 0) (ss' := 0) ?_ (fun _ _ => rfl)
  refine go_cl (k := 1) (st' := [.int 1]) (cs' := 0) (ss' := 0) rfl rfl rfl rfl rfl rfl rfl (ro_615 z a2 (by omega) (by omega)) ?_
  exact go_end 1 (fun _ _ => rfl)
theorem ro_617 (z : pq_C) (a2 : Int32) (h0 : 0 ≤ a2.toInt) (h1 : a2.toInt < 10000) : pq_Ru 1 168 [.int 7, .int 2] (wd_1043 z a2) (some (.int 182), (wd_1043 z a2)) := by
  refine ru_of (k := 0) (M := pm_168) rfl rfl ?_
  exact go_end 8 (fun _ _ => rfl)
def wd_1044 (z : pq_C) (a2 : Int32) : pq_W := ((wd_1043 z a2).set 91 (.inl (.int, 2858, .inl (upd (upd (upd (upd (upd (upd (upd (upd (upd (upd (upd (upd (upd (upd (upd (upd (upd (upd (upd (upd (upd (upd (upd (upd (upd (upd (upd (upd (upd (upd (upd (upd (upd (upd (upd (upd (upd (upd (upd (upd (upd (upd (upd (upd (upd (upd (upd (upd (upd (upd (upd (upd (upd (upd (upd (upd (upd (upd (upd (upd (upd (upd (upd (upd (upd (upd (upd (upd (upd (upd (upd (upd (upd (upd (upd (upd (upd (upd (upd (upd (upd (upd (fun _ => 0) 1 10) 10 (-1)) 11 (-1)) 12 (-1)) 13 (-1)) 14 (-1)) 15 (-1)) 16 (-1)) 17 (-1)) 18 (-1)) 19 (-1)) 20 (-1)) 21 (-1)) 22 (-1)) 23 (-1)) 24 (-1)) 25 (-1)) 26 (-1)) 27 (-1)) 28 (-1)) 29 (-1)) 30 (-1)) 31 (-1)) 32 (-1)) 33 (-1)) 34 (-1)) 35 (-1)) 36 (-1)) 37 (-1)) 38 (-1)) 39 (-1)) 40 (-1)) 41 (-1)) 42 (-1)) 43 (-1)) 44 (-1)) 45 (-1)) 46 (-1)) 47 (-1)) 48 (-1)) 49 (-1)) 50 (-1)) 51 (-1)) 52 (-1)) 53 (-1)) 54 (-1)) 55 (-1)) 56 (-1)) 57 (-1)) 58 (-1)) 59 (-1)) 60 (-1)) 61 (-1)) 62 (-1)) 63 (-1)) 64 (-1)) 65 (-1)) 66 (-1)) 67 (-1)) 68 (-1)) 69 (-1)) 70 (-1)) 71 (-1)) 72 (-1)) 73 (-1)) 139 1000) 140 100) 145 1000) 146 100) 151 1000) 152 100) 157 1000) 158 100) 163 1000) 164 100) 169 1000) 170 100) 175 1000) 176 100) 181 1000) 182 100) 182 a2))))
theorem ro_618 (z : pq_C) (a2 : Int32) (h0 : 0 ≤ a2.toInt) (h1 : a2.toInt < 10000) : pq_Ru 3 172 [.ref 90, .int 7, .int a2] (wd_1043 z a2) (some (.int 100), (wd_1044 z a2)) := by
  refine ru_of (k := 2) (M := pm_172) rfl rfl ?_
  refine go_seg 1 (pc' := 1) (ls' := [(0, .ref 90), (1, .int 7), (2, .int a2)]) (st' := [.int 7]) (w' := (wd_1043 z a2)) (cs' := 0) (ss' := 0) ?_ (fun _ _ => rfl)
  refine go_cl (k := 2) (st' := [.int 1]) (cs' := 0) (ss' := 0) rfl rfl rfl rfl rfl rfl rfl (ro_616 z a2 (by omega) (by omega)) ?_
  refine go_seg 5 (pc' := 13) (ls' := [(0, .ref 90), (1, .int 7), (2, .int a2)]) (st' := [.long 9999, .long 0, .long a2.toInt64]) (w' := (wd_1043 z a2)) (cs' := 0) (ss' := 0) ?_ (fun _ _ => rfl)
  refine go_cl (k := 2) (st' := [.int 1]) (cs' := 0) (ss' := 0) rfl rfl rfl rfl rfl rfl rfl (wi_t _ a2 0 9999 0 9999 rfl rfl (by omega)) ?_
  refine go_seg 5 (pc' := 32) (ls' := [(0, .ref 90), (1, .int 7), (2, .int a2)]) (st' := [.int 2, .int 7, .ref 91]) (w' := (wd_1043 z a2)) (cs' := 0) (ss' := 0) ?_ (fun _ _ => rfl)
  refine go_cl (k := 2) (st' := [.int 182, .ref 91]) (cs' := 0) (ss' := 0) rfl rfl rfl rfl rfl rfl rfl (ro_617 z a2 (by omega) (by omega)) ?_
  refine go_seg 6 (pc' := 43) (ls' := [(3, .int 100), (0, .ref 90), (1, .int 7), (2, .int a2)]) (st' := [.int 2, .int 7, .ref 91]) (w' := (wd_1043 z a2)) (cs' := 0) (ss' := 0) ?_ (fun _ _ => rfl)
  refine go_cl (k := 2) (st' := [.int 182, .ref 91]) (cs' := 0) (ss' := 0) rfl rfl rfl rfl rfl rfl rfl (ro_617 z a2 (by omega) (by omega)) ?_
  exact go_end 4 (fun _ _ => rfl)
theorem lf_5_620 (a0 : Int32) (a2 : Int32) (a3 : Int32) (a4 : Int32) (a5 : Int32) (h0 : 0 ≤ a2.toInt) (h1 : a2.toInt < 10000) : ∃ w', pq_Go 20 pm_law 403 [(3, .int 0), (2, .ref 90), (1, .ref 1), (0, .ref 0)] [] (fw (sz a0 7 a2 a3 a4 a5)) 109 12668 (some (.int 1), w') := by
  refine ⟨(wd_1044 (sz a0 7 a2 a3 a4 a5) a2), ?_⟩
  refine go_seg 8 (pc' := 411) (ls' := [(3, .int 0), (2, .ref 90), (1, .ref 1), (0, .ref 0)]) (st' := [.int 0, .ref 0, .int 7, .ref 1]) (w' := (fw (sz a0 7 a2 a3 a4 a5))) (cs' := 109) (ss' := 12668) ?_ (fun _ _ => rfl)
  refine go_seg 3 (pc' := 414) (ls' := [(3, .int 0), (2, .ref 90), (1, .ref 1), (0, .ref 0)]) (st' := [.int a2, .int 7, .ref 1]) (w' := (fw (sz a0 7 a2 a3 a4 a5))) (cs' := 109) (ss' := 12668) ?_ (fun _ _ => rfl)
  refine go_cl (k := 20) (st' := [.int 100]) (cs' := 109) (ss' := 12668) rfl rfl rfl rfl rfl rfl rfl (ro_613 (sz a0 7 a2 a3 a4 a5) a2 (by omega) (by omega)) ?_
  refine go_seg 8 (pc' := 425) (ls' := [(3, .int 0), (2, .ref 90), (1, .ref 1), (0, .ref 0)]) (st' := [.int 0, .ref 0, .int 7, .ref 90, .int 100]) (w' := (wd_1043 (sz a0 7 a2 a3 a4 a5) a2)) (cs' := 109) (ss' := 12668) ?_ (fun _ _ => rfl)
  refine go_seg 3 (pc' := 428) (ls' := [(3, .int 0), (2, .ref 90), (1, .ref 1), (0, .ref 0)]) (st' := [.int a2, .int 7, .ref 90, .int 100]) (w' := (wd_1043 (sz a0 7 a2 a3 a4 a5) a2)) (cs' := 109) (ss' := 12668) ?_ (fun _ _ => rfl)
  refine go_cl (k := 20) (st' := [.int 100, .int 100]) (cs' := 109) (ss' := 12668) rfl rfl rfl rfl rfl rfl rfl (ro_618 (sz a0 7 a2 a3 a4 a5) a2 (by omega) (by omega)) ?_
  refine go_cmp true rfl (br_self _) ?_
  exact law_tail (f := sc a0 7 a2 a3 a4 a5) rfl
theorem ro_621 (z : pq_C) (a2 : Int32) (h0 : 0 ≤ a2.toInt) (h1 : 10000 ≤ a2.toInt) : pq_Ru 1 16 [.int a2, .int 0, .int 9999] (fw z) (some (.int 0), (fw z)) := by
  refine ru_of (k := 0) (M := pm_16) rfl rfl ?_
  refine go_seg 2 (pc' := 2) (ls' := [(0, .int a2), (1, .int 0), (2, .int 9999)]) (st' := [.int 0, .int a2]) (w' := (fw z)) (cs' := 0) (ss' := 0) ?_ (fun _ _ => rfl)
  refine go_cmp false rfl (br_lt_f (b := 0) rfl (by omega)) ?_
  refine go_seg 2 (pc' := 7) (ls' := [(0, .int a2), (1, .int 0), (2, .int 9999)]) (st' := [.int 9999, .int a2]) (w' := (fw z)) (cs' := 0) (ss' := 0) ?_ (fun _ _ => rfl)
  refine go_cmp true rfl (br_gt_t (b := 9999) rfl (by omega)) ?_
  exact go_end 2 (fun _ _ => rfl)
theorem ro_622 (z : pq_C) (a1 : Int32) (a2 : Int32) (h0 : 0 ≤ a1.toInt) (h1 : a1.toInt < 8) (h2 : 0 ≤ a2.toInt) (h3 : 10000 ≤ a2.toInt) : pq_Ru 3 28 [.ref 1, .int a1, .int a2] (fw z) (some (.int (-1000001)), (wd_1000 z)) := by
  refine ru_of (k := 2) (M := pm_28) rfl rfl ?_
  refine go_seg 1 (pc' := 1) (ls' := [(0, .ref 1), (1, .int a1), (2, .int a2)]) (st' := [.int a1]) (w' := (fw z)) (cs' := 0) (ss' := 0) ?_ (fun _ _ => rfl)
  refine go_cl (k := 2) (st' := [.int 1]) (cs' := 0) (ss' := 0) rfl rfl rfl rfl rfl rfl rfl (ro_331 z a1 (by omega) (by omega)) ?_
  refine go_seg 4 (pc' := 12) (ls' := [(0, .ref 1), (1, .int a1), (2, .int a2)]) (st' := [.int 9999, .int 0, .int a2]) (w' := (fw z)) (cs' := 0) (ss' := 0) ?_ (fun _ _ => rfl)
  refine go_cl (k := 2) (st' := [.int 0]) (cs' := 0) (ss' := 0) rfl rfl rfl rfl rfl rfl rfl (ro_621 z a2 (by omega) (by omega)) ?_
  refine go_seg 3 (pc' := 20) (ls' := [(0, .ref 1), (1, .int a1), (2, .int a2)]) (st' := [.int 1, .ref 1]) (w' := (fw z)) (cs' := 0) (ss' := 0) ?_ (fun _ _ => rfl)
  refine go_cl (k := 2) (st' := [.int (-1000001)]) (cs' := 0) (ss' := 0) rfl rfl rfl rfl rfl rfl rfl (ro_2 z) ?_
  exact go_end 1 (fun _ _ => rfl)
theorem ro_623 (z : pq_C) (a1 : Int32) (a2 : Int32) (h0 : 0 ≤ a1.toInt) (h1 : a1.toInt < 8) (h2 : 0 ≤ a2.toInt) (h3 : 10000 ≤ a2.toInt) : pq_Ru 3 172 [.ref 90, .int a1, .int a2] (wd_1000 z) (some (.int (-1000001)), (wd_1001 z)) := by
  refine ru_of (k := 2) (M := pm_172) rfl rfl ?_
  refine go_seg 1 (pc' := 1) (ls' := [(0, .ref 90), (1, .int a1), (2, .int a2)]) (st' := [.int a1]) (w' := (wd_1000 z)) (cs' := 0) (ss' := 0) ?_ (fun _ _ => rfl)
  refine go_cl (k := 2) (st' := [.int 1]) (cs' := 0) (ss' := 0) rfl rfl rfl rfl rfl rfl rfl (ro_545 z a1 (by omega) (by omega)) ?_
  refine go_seg 5 (pc' := 13) (ls' := [(0, .ref 90), (1, .int a1), (2, .int a2)]) (st' := [.long 9999, .long 0, .long a2.toInt64]) (w' := (wd_1000 z)) (cs' := 0) (ss' := 0) ?_ (fun _ _ => rfl)
  refine go_cl (k := 2) (st' := [.int 0]) (cs' := 0) (ss' := 0) rfl rfl rfl rfl rfl rfl rfl (wi_f _ a2 0 9999 0 9999 rfl rfl (by omega)) ?_
  refine go_seg 3 (pc' := 22) (ls' := [(0, .ref 90), (1, .int a1), (2, .int a2)]) (st' := [.int (-1000001), .ref 90]) (w' := (wd_1000 z)) (cs' := 0) (ss' := 0) ?_ (fun _ _ => rfl)
  refine go_cl (k := 2) (st' := [.int (-1000001)]) (cs' := 0) (ss' := 0) rfl rfl rfl rfl rfl rfl rfl (ro_5 z) ?_
  exact go_end 1 (fun _ _ => rfl)
theorem lf_5_624 (a0 : Int32) (a1 : Int32) (a2 : Int32) (a3 : Int32) (a4 : Int32) (a5 : Int32) (h0 : 0 ≤ a1.toInt) (h1 : a1.toInt < 8) (h2 : 0 ≤ a2.toInt) (h3 : 10000 ≤ a2.toInt) : ∃ w', pq_Go 20 pm_law 403 [(3, .int 0), (2, .ref 90), (1, .ref 1), (0, .ref 0)] [] (fw (sz a0 a1 a2 a3 a4 a5)) 109 12668 (some (.int 1), w') := by
  refine ⟨(wd_1001 (sz a0 a1 a2 a3 a4 a5)), ?_⟩
  refine go_seg 8 (pc' := 411) (ls' := [(3, .int 0), (2, .ref 90), (1, .ref 1), (0, .ref 0)]) (st' := [.int 0, .ref 0, .int a1, .ref 1]) (w' := (fw (sz a0 a1 a2 a3 a4 a5))) (cs' := 109) (ss' := 12668) ?_ (fun _ _ => rfl)
  refine go_seg 3 (pc' := 414) (ls' := [(3, .int 0), (2, .ref 90), (1, .ref 1), (0, .ref 0)]) (st' := [.int a2, .int a1, .ref 1]) (w' := (fw (sz a0 a1 a2 a3 a4 a5))) (cs' := 109) (ss' := 12668) ?_ (fun _ _ => rfl)
  refine go_cl (k := 20) (st' := [.int (-1000001)]) (cs' := 109) (ss' := 12668) rfl rfl rfl rfl rfl rfl rfl (ro_622 (sz a0 a1 a2 a3 a4 a5) a1 a2 (by omega) (by omega) (by omega) (by omega)) ?_
  refine go_seg 8 (pc' := 425) (ls' := [(3, .int 0), (2, .ref 90), (1, .ref 1), (0, .ref 0)]) (st' := [.int 0, .ref 0, .int a1, .ref 90, .int (-1000001)]) (w' := (wd_1000 (sz a0 a1 a2 a3 a4 a5))) (cs' := 109) (ss' := 12668) ?_ (fun _ _ => rfl)
  refine go_seg 3 (pc' := 428) (ls' := [(3, .int 0), (2, .ref 90), (1, .ref 1), (0, .ref 0)]) (st' := [.int a2, .int a1, .ref 90, .int (-1000001)]) (w' := (wd_1000 (sz a0 a1 a2 a3 a4 a5))) (cs' := 109) (ss' := 12668) ?_ (fun _ _ => rfl)
  refine go_cl (k := 20) (st' := [.int (-1000001), .int (-1000001)]) (cs' := 109) (ss' := 12668) rfl rfl rfl rfl rfl rfl rfl (ro_623 (sz a0 a1 a2 a3 a4 a5) a1 a2 (by omega) (by omega) (by omega) (by omega)) ?_
  refine go_cmp true rfl (br_self _) ?_
  exact law_tail (f := sc a0 a1 a2 a3 a4 a5) rfl
theorem ro_625 (z : pq_C) (a1 : Int32) (a2 : Int32) (h0 : 0 ≤ a1.toInt) (h1 : 8 ≤ a1.toInt) : pq_Ru 3 28 [.ref 1, .int a1, .int a2] (fw z) (some (.int (-1000001)), (wd_1000 z)) := by
  refine ru_of (k := 2) (M := pm_28) rfl rfl ?_
  refine go_seg 1 (pc' := 1) (ls' := [(0, .ref 1), (1, .int a1), (2, .int a2)]) (st' := [.int a1]) (w' := (fw z)) (cs' := 0) (ss' := 0) ?_ (fun _ _ => rfl)
  refine go_cl (k := 2) (st' := [.int 0]) (cs' := 0) (ss' := 0) rfl rfl rfl rfl rfl rfl rfl (ro_338 z a1 (by omega) (by omega)) ?_
  refine go_seg 3 (pc' := 20) (ls' := [(0, .ref 1), (1, .int a1), (2, .int a2)]) (st' := [.int 1, .ref 1]) (w' := (fw z)) (cs' := 0) (ss' := 0) ?_ (fun _ _ => rfl)
  refine go_cl (k := 2) (st' := [.int (-1000001)]) (cs' := 0) (ss' := 0) rfl rfl rfl rfl rfl rfl rfl (ro_2 z) ?_
  exact go_end 1 (fun _ _ => rfl)
theorem ro_626 (z : pq_C) (a1 : Int32) (a2 : Int32) (h0 : 0 ≤ a1.toInt) (h1 : 8 ≤ a1.toInt) : pq_Ru 3 172 [.ref 90, .int a1, .int a2] (wd_1000 z) (some (.int (-1000001)), (wd_1001 z)) := by
  refine ru_of (k := 2) (M := pm_172) rfl rfl ?_
  refine go_seg 1 (pc' := 1) (ls' := [(0, .ref 90), (1, .int a1), (2, .int a2)]) (st' := [.int a1]) (w' := (wd_1000 z)) (cs' := 0) (ss' := 0) ?_ (fun _ _ => rfl)
  refine go_cl (k := 2) (st' := [.int 0]) (cs' := 0) (ss' := 0) rfl rfl rfl rfl rfl rfl rfl (ro_340 z a1 (by omega) (by omega)) ?_
  refine go_seg 3 (pc' := 22) (ls' := [(0, .ref 90), (1, .int a1), (2, .int a2)]) (st' := [.int (-1000001), .ref 90]) (w' := (wd_1000 z)) (cs' := 0) (ss' := 0) ?_ (fun _ _ => rfl)
  refine go_cl (k := 2) (st' := [.int (-1000001)]) (cs' := 0) (ss' := 0) rfl rfl rfl rfl rfl rfl rfl (ro_5 z) ?_
  exact go_end 1 (fun _ _ => rfl)
theorem lf_5_627 (a0 : Int32) (a1 : Int32) (a2 : Int32) (a3 : Int32) (a4 : Int32) (a5 : Int32) (h0 : 0 ≤ a1.toInt) (h1 : 8 ≤ a1.toInt) : ∃ w', pq_Go 20 pm_law 403 [(3, .int 0), (2, .ref 90), (1, .ref 1), (0, .ref 0)] [] (fw (sz a0 a1 a2 a3 a4 a5)) 109 12668 (some (.int 1), w') := by
  refine ⟨(wd_1001 (sz a0 a1 a2 a3 a4 a5)), ?_⟩
  refine go_seg 8 (pc' := 411) (ls' := [(3, .int 0), (2, .ref 90), (1, .ref 1), (0, .ref 0)]) (st' := [.int 0, .ref 0, .int a1, .ref 1]) (w' := (fw (sz a0 a1 a2 a3 a4 a5))) (cs' := 109) (ss' := 12668) ?_ (fun _ _ => rfl)
  refine go_seg 3 (pc' := 414) (ls' := [(3, .int 0), (2, .ref 90), (1, .ref 1), (0, .ref 0)]) (st' := [.int a2, .int a1, .ref 1]) (w' := (fw (sz a0 a1 a2 a3 a4 a5))) (cs' := 109) (ss' := 12668) ?_ (fun _ _ => rfl)
  refine go_cl (k := 20) (st' := [.int (-1000001)]) (cs' := 109) (ss' := 12668) rfl rfl rfl rfl rfl rfl rfl (ro_625 (sz a0 a1 a2 a3 a4 a5) a1 a2 (by omega) (by omega)) ?_
  refine go_seg 8 (pc' := 425) (ls' := [(3, .int 0), (2, .ref 90), (1, .ref 1), (0, .ref 0)]) (st' := [.int 0, .ref 0, .int a1, .ref 90, .int (-1000001)]) (w' := (wd_1000 (sz a0 a1 a2 a3 a4 a5))) (cs' := 109) (ss' := 12668) ?_ (fun _ _ => rfl)
  refine go_seg 3 (pc' := 428) (ls' := [(3, .int 0), (2, .ref 90), (1, .ref 1), (0, .ref 0)]) (st' := [.int a2, .int a1, .ref 90, .int (-1000001)]) (w' := (wd_1000 (sz a0 a1 a2 a3 a4 a5))) (cs' := 109) (ss' := 12668) ?_ (fun _ _ => rfl)
  refine go_cl (k := 20) (st' := [.int (-1000001), .int (-1000001)]) (cs' := 109) (ss' := 12668) rfl rfl rfl rfl rfl rfl rfl (ro_626 (sz a0 a1 a2 a3 a4 a5) a1 a2 (by omega) (by omega)) ?_
  refine go_cmp true rfl (br_self _) ?_
  exact law_tail (f := sc a0 a1 a2 a3 a4 a5) rfl
theorem op_5 (a0 a1 a2 a3 a4 a5 : Int32) : ∃ w', pq_Go 20 pm_law 403 [(3, .int 0), (2, .ref 90), (1, .ref 1), (0, .ref 0)] [] (fw (sz a0 a1 a2 a3 a4 a5)) 109 12668 (some (.int 1), w') := by
  by_cases c0 : a1.toInt < 0
  · exact lf_5_542 a0 a1 a2 a3 a4 a5 (by omega)
  · by_cases c1 : a1.toInt < 8
    · by_cases c2 : a2.toInt < 0
      · exact lf_5_547 a0 a1 a2 a3 a4 a5 (by omega) (by omega) (by omega)
      · by_cases c3 : a2.toInt < 10000
        · by_cases e4_0 : a1 = 0
          · subst e4_0
            exact lf_5_557 a0 a2 a3 a4 a5 (by omega) (by omega)
          replace e4_0 := ne_t (b := 0) rfl e4_0
          by_cases e4_1 : a1 = 1
          · subst e4_1
            exact lf_5_566 a0 a2 a3 a4 a5 (by omega) (by omega)
          replace e4_1 := ne_t (b := 1) rfl e4_1
          by_cases e4_2 : a1 = 2
          · subst e4_2
            exact lf_5_575 a0 a2 a3 a4 a5 (by omega) (by omega)
          replace e4_2 := ne_t (b := 2) rfl e4_2
          by_cases e4_3 : a1 = 3
          · subst e4_3
            exact lf_5_584 a0 a2 a3 a4 a5 (by omega) (by omega)
          replace e4_3 := ne_t (b := 3) rfl e4_3
          by_cases e4_4 : a1 = 4
          · subst e4_4
            exact lf_5_593 a0 a2 a3 a4 a5 (by omega) (by omega)
          replace e4_4 := ne_t (b := 4) rfl e4_4
          by_cases e4_5 : a1 = 5
          · subst e4_5
            exact lf_5_602 a0 a2 a3 a4 a5 (by omega) (by omega)
          replace e4_5 := ne_t (b := 5) rfl e4_5
          by_cases e4_6 : a1 = 6
          · subst e4_6
            exact lf_5_611 a0 a2 a3 a4 a5 (by omega) (by omega)
          replace e4_6 := ne_t (b := 6) rfl e4_6
          by_cases e4_7 : a1 = 7
          · subst e4_7
            exact lf_5_620 a0 a2 a3 a4 a5 (by omega) (by omega)
          replace e4_7 := ne_t (b := 7) rfl e4_7
          exfalso
          omega
        · exact lf_5_624 a0 a1 a2 a3 a4 a5 (by omega) (by omega) (by omega) (by omega)
    · exact lf_5_627 a0 a1 a2 a3 a4 a5 (by omega) (by omega)
