theorem ro_1715 (z : pq_C) (a1 : Int32) (h0 : a1.toInt < 0) : pq_Ru 3 22 [.ref 1, .int a1, .int 0] (fw z) (some (.int (-1000001)), (wd_1000 z)) := by
  refine ru_of (k := 2) (M := pm_22) rfl rfl ?_
  refine go_seg 1 (pc' := 1) (ls' := [(0, .ref 1), (1, .int a1), (2, .int 0)]) (st' := [.int a1]) (w' := (fw z)) (cs' := 0) (ss' := 0) ?_ (fun _ _ => rfl)
  refine go_cl (k := 2) (st' := [.int 0]) (cs' := 0) (ss' := 0) rfl rfl rfl rfl rfl rfl rfl (ro_1181 z a1 (by omega)) ?_
  refine go_seg 3 (pc' := 9) (ls' := [(0, .ref 1), (1, .int a1), (2, .int 0)]) (st' := [.int 1, .ref 1]) (w' := (fw z)) (cs' := 0) (ss' := 0) ?_ (fun _ _ => rfl)
  refine go_cl (k := 2) (st' := [.int (-1000001)]) (cs' := 0) (ss' := 0) rfl rfl rfl rfl rfl rfl rfl (ro_2 z) ?_
  exact go_end 1 (fun _ _ => rfl)
theorem ro_1716 (z : pq_C) (a1 : Int32) (h0 : a1.toInt < 0) : pq_Ru 3 165 [.ref 90, .int a1, .int 0] (wd_1000 z) (some (.int (-1000001)), (wd_1001 z)) := by
  refine ru_of (k := 2) (M := pm_165) rfl rfl ?_
  refine go_seg 1 (pc' := 1) (ls' := [(0, .ref 90), (1, .int a1), (2, .int 0)]) (st' := [.int a1]) (w' := (wd_1000 z)) (cs' := 0) (ss' := 0) ?_ (fun _ _ => rfl)
  refine go_cl (k := 2) (st' := [.int 0]) (cs' := 0) (ss' := 0) rfl rfl rfl rfl rfl rfl rfl (ro_1183 z a1 (by omega)) ?_
  refine go_seg 3 (pc' := 10) (ls' := [(0, .ref 90), (1, .int a1), (2, .int 0)]) (st' := [.int (-1000001), .ref 90]) (w' := (wd_1000 z)) (cs' := 0) (ss' := 0) ?_ (fun _ _ => rfl)
  refine go_cl (k := 2) (st' := [.int (-1000001)]) (cs' := 0) (ss' := 0) rfl rfl rfl rfl rfl rfl rfl (ro_5 z) ?_
  exact go_end 1 (fun _ _ => rfl)
theorem lf_2_1717 (a0 : Int32) (a1 : Int32) (a3 : Int32) (a4 : Int32) (a5 : Int32) (h0 : a1.toInt < 0) : ∃ w', pq_Go 20 pm_law 278 [(3, .int 0), (2, .ref 90), (1, .ref 1), (0, .ref 0)] [] (fw (sz a0 a1 0 a3 a4 a5)) 109 12668 (some (.int 1), w') := by
  refine ⟨(wd_1001 (sz a0 a1 0 a3 a4 a5)), ?_⟩
  refine go_seg 8 (pc' := 286) (ls' := [(3, .int 0), (2, .ref 90), (1, .ref 1), (0, .ref 0)]) (st' := [.int 0, .ref 0, .int a1, .ref 1]) (w' := (fw (sz a0 a1 0 a3 a4 a5))) (cs' := 109) (ss' := 12668) ?_ (fun _ _ => rfl)
  refine go_seg 5 (pc' := 297) (ls' := [(3, .int 0), (2, .ref 90), (1, .ref 1), (0, .ref 0)]) (st' := [.int 0, .int a1, .ref 1]) (w' := (fw (sz a0 a1 0 a3 a4 a5))) (cs' := 109) (ss' := 12668) ?_ (fun _ _ => rfl)
  refine go_cl (k := 20) (st' := [.int (-1000001)]) (cs' := 109) (ss' := 12668) rfl rfl rfl rfl rfl rfl rfl (ro_1715 (sz a0 a1 0 a3 a4 a5) a1 (by omega)) ?_
  refine go_seg 8 (pc' := 308) (ls' := [(3, .int 0), (2, .ref 90), (1, .ref 1), (0, .ref 0)]) (st' := [.int 0, .ref 0, .int a1, .ref 90, .int (-1000001)]) (w' := (wd_1000 (sz a0 a1 0 a3 a4 a5))) (cs' := 109) (ss' := 12668) ?_ (fun _ _ => rfl)
  refine go_seg 5 (pc' := 319) (ls' := [(3, .int 0), (2, .ref 90), (1, .ref 1), (0, .ref 0)]) (st' := [.int 0, .int a1, .ref 90, .int (-1000001)]) (w' := (wd_1000 (sz a0 a1 0 a3 a4 a5))) (cs' := 109) (ss' := 12668) ?_ (fun _ _ => rfl)
  refine go_cl (k := 20) (st' := [.int (-1000001), .int (-1000001)]) (cs' := 109) (ss' := 12668) rfl rfl rfl rfl rfl rfl rfl (ro_1716 (sz a0 a1 0 a3 a4 a5) a1 (by omega)) ?_
  refine go_cmp true rfl (br_self _) ?_
  exact law_tail (f := sc a0 a1 0 a3 a4 a5) rfl
def wd_1344 (z : pq_C) : pq_W := ((fw z).set 4 (.inl (.boolean, 64, .inl (upd (fun _ => 0) 0 0))))
theorem ro_1719 (z : pq_C) : pq_Ru 2 22 [.ref 1, .int 0, .int 0] (fw z) (some (.int 0), (wd_1344 z)) := by
  refine ru_of (k := 1) (M := pm_22) rfl rfl ?_
  refine go_seg 1 (pc' := 1) (ls' := [(0, .ref 1), (1, .int 0), (2, .int 0)]) (st' := [.int 0]) (w' := (fw z)) (cs' := 0) (ss' := 0) ?_ (fun _ _ => rfl)
  refine go_cl (k := 1) (st' := [.int 1]) (cs' := 0) (ss' := 0) rfl rfl rfl rfl rfl rfl rfl (ro_1192 z) ?_
  refine go_seg 8 (pc' := 24) (ls' := [(3, .int 0), (0, .ref 1), (1, .int 0), (2, .int 0)]) (st' := [.ref 1]) (w' := (fw z)) (cs' := 0) (ss' := 0) ?_ (fun _ _ => rfl)
  refine go_seg 8 (pc' := 38) (ls' := [(3, .int 0), (0, .ref 1), (1, .int 0), (2, .int 0)]) (st' := []) (w' := (wd_1344 z)) (cs' := 0) (ss' := 0) ?_ (fun _ _ => rfl)
  exact go_end 3 (fun _ _ => rfl)
theorem ro_1720 (z : pq_C) : pq_Ru 1 161 [.long 0, .long 0, .long 63] (wd_1344 z) (some (.int 1), (wd_1344 z)) := by
  refine ru_of (k := 0) (M := pm_161) rfl rfl ?_
  refine go_seg 8 (pc' := 13) (ls' := [(0, .long 0), (2, .long 0), (4, .long 63)]) (st' := []) (w' := (wd_1344 z)) (cs' := 0) (ss' := 0) ?_ (fun _ _ => rfl)
  exact go_end 3 (fun _ _ => rfl)
theorem ro_1721 (z : pq_C) : pq_Ru 2 160 [.int 0] (wd_1344 z) (some (.int 1), (wd_1344 z)) := by
  refine ru_of (k := 1) (M := pm_160) rfl rfl ?_
  refine go_seg 4 (pc' := 6) (ls' := [(0, .int 0)]) (st' := [.long 63, .long 0, .long 0]) (w' := (wd_1344 z)) (cs' := 0) (ss' := 0) ?_ (fun _ _ => rfl)
  refine go_cl (k := 1) (st' := [.int 1]) (cs' := 0) (ss' := 0) rfl rfl rfl rfl rfl rfl rfl (ro_1720 z) ?_
  exact go_end 1 (fun _ _ => rfl)
def wd_1345 (z : pq_C) : pq_W := ((wd_1344 z).set 91 (.inl (.int, 2858, .inl (upd (upd (upd (upd (upd (upd (upd (upd (upd (upd (upd (upd (upd (upd (upd (upd (upd (upd (upd (upd (upd (upd (upd (upd (upd (upd (upd (upd (upd (upd (upd (upd (upd (upd (upd (upd (upd (upd (upd (upd (upd (upd (upd (upd (upd (upd (upd (upd (upd (upd (upd (upd (upd (upd (upd (upd (upd (upd (upd (upd (upd (upd (upd (upd (upd (upd (upd (upd (upd (upd (upd (upd (upd (upd (upd (upd (upd (upd (upd (upd (upd (upd (fun _ => 0) 1 10) 10 (-1)) 11 (-1)) 12 (-1)) 13 (-1)) 14 (-1)) 15 (-1)) 16 (-1)) 17 (-1)) 18 (-1)) 19 (-1)) 20 (-1)) 21 (-1)) 22 (-1)) 23 (-1)) 24 (-1)) 25 (-1)) 26 (-1)) 27 (-1)) 28 (-1)) 29 (-1)) 30 (-1)) 31 (-1)) 32 (-1)) 33 (-1)) 34 (-1)) 35 (-1)) 36 (-1)) 37 (-1)) 38 (-1)) 39 (-1)) 40 (-1)) 41 (-1)) 42 (-1)) 43 (-1)) 44 (-1)) 45 (-1)) 46 (-1)) 47 (-1)) 48 (-1)) 49 (-1)) 50 (-1)) 51 (-1)) 52 (-1)) 53 (-1)) 54 (-1)) 55 (-1)) 56 (-1)) 57 (-1)) 58 (-1)) 59 (-1)) 60 (-1)) 61 (-1)) 62 (-1)) 63 (-1)) 64 (-1)) 65 (-1)) 66 (-1)) 67 (-1)) 68 (-1)) 69 (-1)) 70 (-1)) 71 (-1)) 72 (-1)) 73 (-1)) 139 1000) 140 100) 145 1000) 146 100) 151 1000) 152 100) 157 1000) 158 100) 163 1000) 164 100) 169 1000) 170 100) 175 1000) 176 100) 181 1000) 182 100) 74 0))))
theorem ro_1722 (z : pq_C) : pq_Ru 3 165 [.ref 90, .int 0, .int 0] (wd_1344 z) (some (.int 0), (wd_1345 z)) := by
  refine ru_of (k := 2) (M := pm_165) rfl rfl ?_
  refine go_seg 1 (pc' := 1) (ls' := [(0, .ref 90), (1, .int 0), (2, .int 0)]) (st' := [.int 0]) (w' := (wd_1344 z)) (cs' := 0) (ss' := 0) ?_ (fun _ _ => rfl)
  refine go_cl (k := 2) (st' := [.int 1]) (cs' := 0) (ss' := 0) rfl rfl rfl rfl rfl rfl rfl (ro_1721 z) ?_
  refine go_seg 8 (pc' := 24) (ls' := [(0, .ref 90), (1, .int 0), (2, .int 0)]) (st' := [.int 0, .int 0]) (w' := (wd_1344 z)) (cs' := 0) (ss' := 0) ?_ (fun _ _ => rfl)
  refine go_seg 8 (pc' := 47) (ls' := [(3, .int 0), (0, .ref 90), (1, .int 0), (2, .int 0)]) (st' := [.int 74, .ref 91]) (w' := (wd_1344 z)) (cs' := 0) (ss' := 0) ?_ (fun _ _ => rfl)
  exact go_end 8 (fun _ _ => rfl)
theorem lf_2_1724 (a0 : Int32) (a3 : Int32) (a4 : Int32) (a5 : Int32) : ∃ w', pq_Go 20 pm_law 278 [(3, .int 0), (2, .ref 90), (1, .ref 1), (0, .ref 0)] [] (fw (sz a0 0 0 a3 a4 a5)) 109 12668 (some (.int 1), w') := by
  refine ⟨(wd_1345 (sz a0 0 0 a3 a4 a5)), ?_⟩
  refine go_seg 8 (pc' := 286) (ls' := [(3, .int 0), (2, .ref 90), (1, .ref 1), (0, .ref 0)]) (st' := [.int 0, .ref 0, .int 0, .ref 1]) (w' := (fw (sz a0 0 0 a3 a4 a5))) (cs' := 109) (ss' := 12668) ?_ (fun _ _ => rfl)
  refine go_seg 5 (pc' := 297) (ls' := [(3, .int 0), (2, .ref 90), (1, .ref 1), (0, .ref 0)]) (st' := [.int 0, .int 0, .ref 1]) (w' := (fw (sz a0 0 0 a3 a4 a5))) (cs' := 109) (ss' := 12668) ?_ (fun _ _ => rfl)
  refine go_cl (k := 20) (st' := [.int 0]) (cs' := 109) (ss' := 12668) rfl rfl rfl rfl rfl rfl rfl (ro_1719 (sz a0 0 0 a3 a4 a5)) ?_
  refine go_seg 8 (pc' := 308) (ls' := [(3, .int 0), (2, .ref 90), (1, .ref 1), (0, .ref 0)]) (st' := [.int 0, .ref 0, .int 0, .ref 90, .int 0]) (w' := (wd_1344 (sz a0 0 0 a3 a4 a5))) (cs' := 109) (ss' := 12668) ?_ (fun _ _ => rfl)
  refine go_seg 5 (pc' := 319) (ls' := [(3, .int 0), (2, .ref 90), (1, .ref 1), (0, .ref 0)]) (st' := [.int 0, .int 0, .ref 90, .int 0]) (w' := (wd_1344 (sz a0 0 0 a3 a4 a5))) (cs' := 109) (ss' := 12668) ?_ (fun _ _ => rfl)
  refine go_cl (k := 20) (st' := [.int 0, .int 0]) (cs' := 109) (ss' := 12668) rfl rfl rfl rfl rfl rfl rfl (ro_1722 (sz a0 0 0 a3 a4 a5)) ?_
  refine go_cmp true rfl (br_self _) ?_
  exact law_tail (f := sc a0 0 0 a3 a4 a5) rfl
def wd_1346 (z : pq_C) : pq_W := ((fw z).set 4 (.inl (.boolean, 64, .inl (upd (fun _ => 0) 1 0))))
theorem ro_1726 (z : pq_C) : pq_Ru 2 22 [.ref 1, .int 1, .int 0] (fw z) (some (.int 0), (wd_1346 z)) := by
  refine ru_of (k := 1) (M := pm_22) rfl rfl ?_
  refine go_seg 1 (pc' := 1) (ls' := [(0, .ref 1), (1, .int 1), (2, .int 0)]) (st' := [.int 1]) (w' := (fw z)) (cs' := 0) (ss' := 0) ?_ (fun _ _ => rfl)
  refine go_cl (k := 1) (st' := [.int 1]) (cs' := 0) (ss' := 0) rfl rfl rfl rfl rfl rfl rfl (ro_1201 z) ?_
  refine go_seg 8 (pc' := 24) (ls' := [(3, .int 0), (0, .ref 1), (1, .int 1), (2, .int 0)]) (st' := [.ref 1]) (w' := (fw z)) (cs' := 0) (ss' := 0) ?_ (fun _ _ => rfl)
  refine go_seg 8 (pc' := 38) (ls' := [(3, .int 0), (0, .ref 1), (1, .int 1), (2, .int 0)]) (st' := []) (w' := (wd_1346 z)) (cs' := 0) (ss' := 0) ?_ (fun _ _ => rfl)
  exact go_end 3 (fun _ _ => rfl)
theorem ro_1727 (z : pq_C) : pq_Ru 1 161 [.long 1, .long 0, .long 63] (wd_1346 z) (some (.int 1), (wd_1346 z)) := by
  refine ru_of (k := 0) (M := pm_161) rfl rfl ?_
  refine go_seg 8 (pc' := 13) (ls' := [(0, .long 1), (2, .long 0), (4, .long 63)]) (st' := []) (w' := (wd_1346 z)) (cs' := 0) (ss' := 0) ?_ (fun _ _ => rfl)
  exact go_end 3 (fun _ _ => rfl)
theorem ro_1728 (z : pq_C) : pq_Ru 2 160 [.int 1] (wd_1346 z) (some (.int 1), (wd_1346 z)) := by
  refine ru_of (k := 1) (M := pm_160) rfl rfl ?_
  refine go_seg 4 (pc' := 6) (ls' := [(0, .int 1)]) (st' := [.long 63, .long 0, .long 1]) (w' := (wd_1346 z)) (cs' := 0) (ss' := 0) ?_ (fun _ _ => rfl)
  refine go_cl (k := 1) (st' := [.int 1]) (cs' := 0) (ss' := 0) rfl rfl rfl rfl rfl rfl rfl (ro_1727 z) ?_
  exact go_end 1 (fun _ _ => rfl)
def wd_1347 (z : pq_C) : pq_W := ((wd_1346 z).set 91 (.inl (.int, 2858, .inl (upd (upd (upd (upd (upd (upd (upd (upd (upd (upd (upd (upd (upd (upd (upd (upd (upd (upd (upd (upd (upd (upd (upd (upd (upd (upd (upd (upd (upd (upd (upd (upd (upd (upd (upd (upd (upd (upd (upd (upd (upd (upd (upd (upd (upd (upd (upd (upd (upd (upd (upd (upd (upd (upd (upd (upd (upd (upd (upd (upd (upd (upd (upd (upd (upd (upd (upd (upd (upd (upd (upd (upd (upd (upd (upd (upd (upd (upd (upd (upd (upd (upd (fun _ => 0) 1 10) 10 (-1)) 11 (-1)) 12 (-1)) 13 (-1)) 14 (-1)) 15 (-1)) 16 (-1)) 17 (-1)) 18 (-1)) 19 (-1)) 20 (-1)) 21 (-1)) 22 (-1)) 23 (-1)) 24 (-1)) 25 (-1)) 26 (-1)) 27 (-1)) 28 (-1)) 29 (-1)) 30 (-1)) 31 (-1)) 32 (-1)) 33 (-1)) 34 (-1)) 35 (-1)) 36 (-1)) 37 (-1)) 38 (-1)) 39 (-1)) 40 (-1)) 41 (-1)) 42 (-1)) 43 (-1)) 44 (-1)) 45 (-1)) 46 (-1)) 47 (-1)) 48 (-1)) 49 (-1)) 50 (-1)) 51 (-1)) 52 (-1)) 53 (-1)) 54 (-1)) 55 (-1)) 56 (-1)) 57 (-1)) 58 (-1)) 59 (-1)) 60 (-1)) 61 (-1)) 62 (-1)) 63 (-1)) 64 (-1)) 65 (-1)) 66 (-1)) 67 (-1)) 68 (-1)) 69 (-1)) 70 (-1)) 71 (-1)) 72 (-1)) 73 (-1)) 139 1000) 140 100) 145 1000) 146 100) 151 1000) 152 100) 157 1000) 158 100) 163 1000) 164 100) 169 1000) 170 100) 175 1000) 176 100) 181 1000) 182 100) 75 0))))
theorem ro_1729 (z : pq_C) : pq_Ru 3 165 [.ref 90, .int 1, .int 0] (wd_1346 z) (some (.int 0), (wd_1347 z)) := by
  refine ru_of (k := 2) (M := pm_165) rfl rfl ?_
  refine go_seg 1 (pc' := 1) (ls' := [(0, .ref 90), (1, .int 1), (2, .int 0)]) (st' := [.int 1]) (w' := (wd_1346 z)) (cs' := 0) (ss' := 0) ?_ (fun _ _ => rfl)
  refine go_cl (k := 2) (st' := [.int 1]) (cs' := 0) (ss' := 0) rfl rfl rfl rfl rfl rfl rfl (ro_1728 z) ?_
  refine go_seg 8 (pc' := 24) (ls' := [(0, .ref 90), (1, .int 1), (2, .int 0)]) (st' := [.int 0, .int 0]) (w' := (wd_1346 z)) (cs' := 0) (ss' := 0) ?_ (fun _ _ => rfl)
  refine go_seg 8 (pc' := 47) (ls' := [(3, .int 0), (0, .ref 90), (1, .int 1), (2, .int 0)]) (st' := [.int 74, .ref 91]) (w' := (wd_1346 z)) (cs' := 0) (ss' := 0) ?_ (fun _ _ => rfl)
  exact go_end 8 (fun _ _ => rfl)
theorem lf_2_1731 (a0 : Int32) (a3 : Int32) (a4 : Int32) (a5 : Int32) : ∃ w', pq_Go 20 pm_law 278 [(3, .int 0), (2, .ref 90), (1, .ref 1), (0, .ref 0)] [] (fw (sz a0 1 0 a3 a4 a5)) 109 12668 (some (.int 1), w') := by
  refine ⟨(wd_1347 (sz a0 1 0 a3 a4 a5)), ?_⟩
  refine go_seg 8 (pc' := 286) (ls' := [(3, .int 0), (2, .ref 90), (1, .ref 1), (0, .ref 0)]) (st' := [.int 0, .ref 0, .int 1, .ref 1]) (w' := (fw (sz a0 1 0 a3 a4 a5))) (cs' := 109) (ss' := 12668) ?_ (fun _ _ => rfl)
  refine go_seg 5 (pc' := 297) (ls' := [(3, .int 0), (2, .ref 90), (1, .ref 1), (0, .ref 0)]) (st' := [.int 0, .int 1, .ref 1]) (w' := (fw (sz a0 1 0 a3 a4 a5))) (cs' := 109) (ss' := 12668) ?_ (fun _ _ => rfl)
  refine go_cl (k := 20) (st' := [.int 0]) (cs' := 109) (ss' := 12668) rfl rfl rfl rfl rfl rfl rfl (ro_1726 (sz a0 1 0 a3 a4 a5)) ?_
  refine go_seg 8 (pc' := 308) (ls' := [(3, .int 0), (2, .ref 90), (1, .ref 1), (0, .ref 0)]) (st' := [.int 0, .ref 0, .int 1, .ref 90, .int 0]) (w' := (wd_1346 (sz a0 1 0 a3 a4 a5))) (cs' := 109) (ss' := 12668) ?_ (fun _ _ => rfl)
  refine go_seg 5 (pc' := 319) (ls' := [(3, .int 0), (2, .ref 90), (1, .ref 1), (0, .ref 0)]) (st' := [.int 0, .int 1, .ref 90, .int 0]) (w' := (wd_1346 (sz a0 1 0 a3 a4 a5))) (cs' := 109) (ss' := 12668) ?_ (fun _ _ => rfl)
  refine go_cl (k := 20) (st' := [.int 0, .int 0]) (cs' := 109) (ss' := 12668) rfl rfl rfl rfl rfl rfl rfl (ro_1729 (sz a0 1 0 a3 a4 a5)) ?_
  refine go_cmp true rfl (br_self _) ?_
  exact law_tail (f := sc a0 1 0 a3 a4 a5) rfl
def wd_1348 (z : pq_C) : pq_W := ((fw z).set 4 (.inl (.boolean, 64, .inl (upd (fun _ => 0) 2 0))))
theorem ro_1733 (z : pq_C) : pq_Ru 2 22 [.ref 1, .int 2, .int 0] (fw z) (some (.int 0), (wd_1348 z)) := by
  refine ru_of (k := 1) (M := pm_22) rfl rfl ?_
  refine go_seg 1 (pc' := 1) (ls' := [(0, .ref 1), (1, .int 2), (2, .int 0)]) (st' := [.int 2]) (w' := (fw z)) (cs' := 0) (ss' := 0) ?_ (fun _ _ => rfl)
  refine go_cl (k := 1) (st' := [.int 1]) (cs' := 0) (ss' := 0) rfl rfl rfl rfl rfl rfl rfl (ro_1209 z) ?_
  refine go_seg 8 (pc' := 24) (ls' := [(3, .int 0), (0, .ref 1), (1, .int 2), (2, .int 0)]) (st' := [.ref 1]) (w' := (fw z)) (cs' := 0) (ss' := 0) ?_ (fun _ _ => rfl)
  refine go_seg 8 (pc' := 38) (ls' := [(3, .int 0), (0, .ref 1), (1, .int 2), (2, .int 0)]) (st' := []) (w' := (wd_1348 z)) (cs' := 0) (ss' := 0) ?_ (fun _ _ => rfl)
  exact go_end 3 (fun _ _ => rfl)
theorem ro_1734 (z : pq_C) : pq_Ru 1 161 [.long 2, .long 0, .long 63] (wd_1348 z) (some (.int 1), (wd_1348 z)) := by
  refine ru_of (k := 0) (M := pm_161) rfl rfl ?_
  refine go_seg 8 (pc' := 13) (ls' := [(0, .long 2), (2, .long 0), (4, .long 63)]) (st' := []) (w' := (wd_1348 z)) (cs' := 0) (ss' := 0) ?_ (fun _ _ => rfl)
  exact go_end 3 (fun _ _ => rfl)
theorem ro_1735 (z : pq_C) : pq_Ru 2 160 [.int 2] (wd_1348 z) (some (.int 1), (wd_1348 z)) := by
  refine ru_of (k := 1) (M := pm_160) rfl rfl ?_
  refine go_seg 4 (pc' := 6) (ls' := [(0, .int 2)]) (st' := [.long 63, .long 0, .long 2]) (w' := (wd_1348 z)) (cs' := 0) (ss' := 0) ?_ (fun _ _ => rfl)
  refine go_cl (k := 1) (st' := [.int 1]) (cs' := 0) (ss' := 0) rfl rfl rfl rfl rfl rfl rfl (ro_1734 z) ?_
  exact go_end 1 (fun _ _ => rfl)
def wd_1349 (z : pq_C) : pq_W := ((wd_1348 z).set 91 (.inl (.int, 2858, .inl (upd (upd (upd (upd (upd (upd (upd (upd (upd (upd (upd (upd (upd (upd (upd (upd (upd (upd (upd (upd (upd (upd (upd (upd (upd (upd (upd (upd (upd (upd (upd (upd (upd (upd (upd (upd (upd (upd (upd (upd (upd (upd (upd (upd (upd (upd (upd (upd (upd (upd (upd (upd (upd (upd (upd (upd (upd (upd (upd (upd (upd (upd (upd (upd (upd (upd (upd (upd (upd (upd (upd (upd (upd (upd (upd (upd (upd (upd (upd (upd (upd (upd (fun _ => 0) 1 10) 10 (-1)) 11 (-1)) 12 (-1)) 13 (-1)) 14 (-1)) 15 (-1)) 16 (-1)) 17 (-1)) 18 (-1)) 19 (-1)) 20 (-1)) 21 (-1)) 22 (-1)) 23 (-1)) 24 (-1)) 25 (-1)) 26 (-1)) 27 (-1)) 28 (-1)) 29 (-1)) 30 (-1)) 31 (-1)) 32 (-1)) 33 (-1)) 34 (-1)) 35 (-1)) 36 (-1)) 37 (-1)) 38 (-1)) 39 (-1)) 40 (-1)) 41 (-1)) 42 (-1)) 43 (-1)) 44 (-1)) 45 (-1)) 46 (-1)) 47 (-1)) 48 (-1)) 49 (-1)) 50 (-1)) 51 (-1)) 52 (-1)) 53 (-1)) 54 (-1)) 55 (-1)) 56 (-1)) 57 (-1)) 58 (-1)) 59 (-1)) 60 (-1)) 61 (-1)) 62 (-1)) 63 (-1)) 64 (-1)) 65 (-1)) 66 (-1)) 67 (-1)) 68 (-1)) 69 (-1)) 70 (-1)) 71 (-1)) 72 (-1)) 73 (-1)) 139 1000) 140 100) 145 1000) 146 100) 151 1000) 152 100) 157 1000) 158 100) 163 1000) 164 100) 169 1000) 170 100) 175 1000) 176 100) 181 1000) 182 100) 76 0))))
theorem ro_1736 (z : pq_C) : pq_Ru 3 165 [.ref 90, .int 2, .int 0] (wd_1348 z) (some (.int 0), (wd_1349 z)) := by
  refine ru_of (k := 2) (M := pm_165) rfl rfl ?_
  refine go_seg 1 (pc' := 1) (ls' := [(0, .ref 90), (1, .int 2), (2, .int 0)]) (st' := [.int 2]) (w' := (wd_1348 z)) (cs' := 0) (ss' := 0) ?_ (fun _ _ => rfl)
  refine go_cl (k := 2) (st' := [.int 1]) (cs' := 0) (ss' := 0) rfl rfl rfl rfl rfl rfl rfl (ro_1735 z) ?_
  refine go_seg 8 (pc' := 24) (ls' := [(0, .ref 90), (1, .int 2), (2, .int 0)]) (st' := [.int 0, .int 0]) (w' := (wd_1348 z)) (cs' := 0) (ss' := 0) ?_ (fun _ _ => rfl)
  refine go_seg 8 (pc' := 47) (ls' := [(3, .int 0), (0, .ref 90), (1, .int 2), (2, .int 0)]) (st' := [.int 74, .ref 91]) (w' := (wd_1348 z)) (cs' := 0) (ss' := 0) ?_ (fun _ _ => rfl)
  exact go_end 8 (fun _ _ => rfl)
theorem lf_2_1738 (a0 : Int32) (a3 : Int32) (a4 : Int32) (a5 : Int32) : ∃ w', pq_Go 20 pm_law 278 [(3, .int 0), (2, .ref 90), (1, .ref 1), (0, .ref 0)] [] (fw (sz a0 2 0 a3 a4 a5)) 109 12668 (some (.int 1), w') := by
  refine ⟨(wd_1349 (sz a0 2 0 a3 a4 a5)), ?_⟩
  refine go_seg 8 (pc' := 286) (ls' := [(3, .int 0), (2, .ref 90), (1, .ref 1), (0, .ref 0)]) (st' := [.int 0, .ref 0, .int 2, .ref 1]) (w' := (fw (sz a0 2 0 a3 a4 a5))) (cs' := 109) (ss' := 12668) ?_ (fun _ _ => rfl)
  refine go_seg 5 (pc' := 297) (ls' := [(3, .int 0), (2, .ref 90), (1, .ref 1), (0, .ref 0)]) (st' := [.int 0, .int 2, .ref 1]) (w' := (fw (sz a0 2 0 a3 a4 a5))) (cs' := 109) (ss' := 12668) ?_ (fun _ _ => rfl)
  refine go_cl (k := 20) (st' := [.int 0]) (cs' := 109) (ss' := 12668) rfl rfl rfl rfl rfl rfl rfl (ro_1733 (sz a0 2 0 a3 a4 a5)) ?_
  refine go_seg 8 (pc' := 308) (ls' := [(3, .int 0), (2, .ref 90), (1, .ref 1), (0, .ref 0)]) (st' := [.int 0, .ref 0, .int 2, .ref 90, .int 0]) (w' := (wd_1348 (sz a0 2 0 a3 a4 a5))) (cs' := 109) (ss' := 12668) ?_ (fun _ _ => rfl)
  refine go_seg 5 (pc' := 319) (ls' := [(3, .int 0), (2, .ref 90), (1, .ref 1), (0, .ref 0)]) (st' := [.int 0, .int 2, .ref 90, .int 0]) (w' := (wd_1348 (sz a0 2 0 a3 a4 a5))) (cs' := 109) (ss' := 12668) ?_ (fun _ _ => rfl)
  refine go_cl (k := 20) (st' := [.int 0, .int 0]) (cs' := 109) (ss' := 12668) rfl rfl rfl rfl rfl rfl rfl (ro_1736 (sz a0 2 0 a3 a4 a5)) ?_
  refine go_cmp true rfl (br_self _) ?_
  exact law_tail (f := sc a0 2 0 a3 a4 a5) rfl
def wd_1350 (z : pq_C) : pq_W := ((fw z).set 4 (.inl (.boolean, 64, .inl (upd (fun _ => 0) 3 0))))
theorem ro_1740 (z : pq_C) : pq_Ru 2 22 [.ref 1, .int 3, .int 0] (fw z) (some (.int 0), (wd_1350 z)) := by
  refine ru_of (k := 1) (M := pm_22) rfl rfl ?_
  refine go_seg 1 (pc' := 1) (ls' := [(0, .ref 1), (1, .int 3), (2, .int 0)]) (st' := [.int 3]) (w' := (fw z)) (cs' := 0) (ss' := 0) ?_ (fun _ _ => rfl)
  refine go_cl (k := 1) (st' := [.int 1]) (cs' := 0) (ss' := 0) rfl rfl rfl rfl rfl rfl rfl (ro_1217 z) ?_
  refine go_seg 8 (pc' := 24) (ls' := [(3, .int 0), (0, .ref 1), (1, .int 3), (2, .int 0)]) (st' := [.ref 1]) (w' := (fw z)) (cs' := 0) (ss' := 0) ?_ (fun _ _ => rfl)
  refine go_seg 8 (pc' := 38) (ls' := [(3, .int 0), (0, .ref 1), (1, .int 3), (2, .int 0)]) (st' := []) (w' := (wd_1350 z)) (cs' := 0) (ss' := 0) ?_ (fun _ _ => rfl)
  exact go_end 3 (fun _ _ => rfl)
theorem ro_1741 (z : pq_C) : pq_Ru 1 161 [.long 3, .long 0, .long 63] (wd_1350 z) (some (.int 1), (wd_1350 z)) := by
  refine ru_of (k := 0) (M := pm_161) rfl rfl ?_
  refine go_seg 8 (pc' := 13) (ls' := [(0, .long 3), (2, .long 0), (4, .long 63)]) (st' := []) (w' := (wd_1350 z)) (cs' := 0) (ss' := 0) ?_ (fun _ _ => rfl)
  exact go_end 3 (fun _ _ => rfl)
theorem ro_1742 (z : pq_C) : pq_Ru 2 160 [.int 3] (wd_1350 z) (some (.int 1), (wd_1350 z)) := by
  refine ru_of (k := 1) (M := pm_160) rfl rfl ?_
  refine go_seg 4 (pc' := 6) (ls' := [(0, .int 3)]) (st' := [.long 63, .long 0, .long 3]) (w' := (wd_1350 z)) (cs' := 0) (ss' := 0) ?_ (fun _ _ => rfl)
  refine go_cl (k := 1) (st' := [.int 1]) (cs' := 0) (ss' := 0) rfl rfl rfl rfl rfl rfl rfl (ro_1741 z) ?_
  exact go_end 1 (fun _ _ => rfl)
def wd_1351 (z : pq_C) : pq_W := ((wd_1350 z).set 91 (.inl (.int, 2858, .inl (upd (upd (upd (upd (upd (upd (upd (upd (upd (upd (upd (upd (upd (upd (upd (upd (upd (upd (upd (upd (upd (upd (upd (upd (upd (upd (upd (upd (upd (upd (upd (upd (upd (upd (upd (upd (upd (upd (upd (upd (upd (upd (upd (upd (upd (upd (upd (upd (upd (upd (upd (upd (upd (upd (upd (upd (upd (upd (upd (upd (upd (upd (upd (upd (upd (upd (upd (upd (upd (upd (upd (upd (upd (upd (upd (upd (upd (upd (upd (upd (upd (upd (fun _ => 0) 1 10) 10 (-1)) 11 (-1)) 12 (-1)) 13 (-1)) 14 (-1)) 15 (-1)) 16 (-1)) 17 (-1)) 18 (-1)) 19 (-1)) 20 (-1)) 21 (-1)) 22 (-1)) 23 (-1)) 24 (-1)) 25 (-1)) 26 (-1)) 27 (-1)) 28 (-1)) 29 (-1)) 30 (-1)) 31 (-1)) 32 (-1)) 33 (-1)) 34 (-1)) 35 (-1)) 36 (-1)) 37 (-1)) 38 (-1)) 39 (-1)) 40 (-1)) 41 (-1)) 42 (-1)) 43 (-1)) 44 (-1)) 45 (-1)) 46 (-1)) 47 (-1)) 48 (-1)) 49 (-1)) 50 (-1)) 51 (-1)) 52 (-1)) 53 (-1)) 54 (-1)) 55 (-1)) 56 (-1)) 57 (-1)) 58 (-1)) 59 (-1)) 60 (-1)) 61 (-1)) 62 (-1)) 63 (-1)) 64 (-1)) 65 (-1)) 66 (-1)) 67 (-1)) 68 (-1)) 69 (-1)) 70 (-1)) 71 (-1)) 72 (-1)) 73 (-1)) 139 1000) 140 100) 145 1000) 146 100) 151 1000) 152 100) 157 1000) 158 100) 163 1000) 164 100) 169 1000) 170 100) 175 1000) 176 100) 181 1000) 182 100) 77 0))))
theorem ro_1743 (z : pq_C) : pq_Ru 3 165 [.ref 90, .int 3, .int 0] (wd_1350 z) (some (.int 0), (wd_1351 z)) := by
  refine ru_of (k := 2) (M := pm_165) rfl rfl ?_
  refine go_seg 1 (pc' := 1) (ls' := [(0, .ref 90), (1, .int 3), (2, .int 0)]) (st' := [.int 3]) (w' := (wd_1350 z)) (cs' := 0) (ss' := 0) ?_ (fun _ _ => rfl)
  refine go_cl (k := 2) (st' := [.int 1]) (cs' := 0) (ss' := 0) rfl rfl rfl rfl rfl rfl rfl (ro_1742 z) ?_
  refine go_seg 8 (pc' := 24) (ls' := [(0, .ref 90), (1, .int 3), (2, .int 0)]) (st' := [.int 0, .int 0]) (w' := (wd_1350 z)) (cs' := 0) (ss' := 0) ?_ (fun _ _ => rfl)
  refine go_seg 8 (pc' := 47) (ls' := [(3, .int 0), (0, .ref 90), (1, .int 3), (2, .int 0)]) (st' := [.int 74, .ref 91]) (w' := (wd_1350 z)) (cs' := 0) (ss' := 0) ?_ (fun _ _ => rfl)
  exact go_end 8 (fun _ _ => rfl)
theorem lf_2_1745 (a0 : Int32) (a3 : Int32) (a4 : Int32) (a5 : Int32) : ∃ w', pq_Go 20 pm_law 278 [(3, .int 0), (2, .ref 90), (1, .ref 1), (0, .ref 0)] [] (fw (sz a0 3 0 a3 a4 a5)) 109 12668 (some (.int 1), w') := by
  refine ⟨(wd_1351 (sz a0 3 0 a3 a4 a5)), ?_⟩
  refine go_seg 8 (pc' := 286) (ls' := [(3, .int 0), (2, .ref 90), (1, .ref 1), (0, .ref 0)]) (st' := [.int 0, .ref 0, .int 3, .ref 1]) (w' := (fw (sz a0 3 0 a3 a4 a5))) (cs' := 109) (ss' := 12668) ?_ (fun _ _ => rfl)
  refine go_seg 5 (pc' := 297) (ls' := [(3, .int 0), (2, .ref 90), (1, .ref 1), (0, .ref 0)]) (st' := [.int 0, .int 3, .ref 1]) (w' := (fw (sz a0 3 0 a3 a4 a5))) (cs' := 109) (ss' := 12668) ?_ (fun _ _ => rfl)
  refine go_cl (k := 20) (st' := [.int 0]) (cs' := 109) (ss' := 12668) rfl rfl rfl rfl rfl rfl rfl (ro_1740 (sz a0 3 0 a3 a4 a5)) ?_
  refine go_seg 8 (pc' := 308) (ls' := [(3, .int 0), (2, .ref 90), (1, .ref 1), (0, .ref 0)]) (st' := [.int 0, .ref 0, .int 3, .ref 90, .int 0]) (w' := (wd_1350 (sz a0 3 0 a3 a4 a5))) (cs' := 109) (ss' := 12668) ?_ (fun _ _ => rfl)
  refine go_seg 5 (pc' := 319) (ls' := [(3, .int 0), (2, .ref 90), (1, .ref 1), (0, .ref 0)]) (st' := [.int 0, .int 3, .ref 90, .int 0]) (w' := (wd_1350 (sz a0 3 0 a3 a4 a5))) (cs' := 109) (ss' := 12668) ?_ (fun _ _ => rfl)
  refine go_cl (k := 20) (st' := [.int 0, .int 0]) (cs' := 109) (ss' := 12668) rfl rfl rfl rfl rfl rfl rfl (ro_1743 (sz a0 3 0 a3 a4 a5)) ?_
  refine go_cmp true rfl (br_self _) ?_
  exact law_tail (f := sc a0 3 0 a3 a4 a5) rfl
def wd_1352 (z : pq_C) : pq_W := ((fw z).set 4 (.inl (.boolean, 64, .inl (upd (fun _ => 0) 4 0))))
theorem ro_1747 (z : pq_C) : pq_Ru 2 22 [.ref 1, .int 4, .int 0] (fw z) (some (.int 0), (wd_1352 z)) := by
  refine ru_of (k := 1) (M := pm_22) rfl rfl ?_
  refine go_seg 1 (pc' := 1) (ls' := [(0, .ref 1), (1, .int 4), (2, .int 0)]) (st' := [.int 4]) (w' := (fw z)) (cs' := 0) (ss' := 0) ?_ (fun _ _ => rfl)
  refine go_cl (k := 1) (st' := [.int 1]) (cs' := 0) (ss' := 0) rfl rfl rfl rfl rfl rfl rfl (ro_1225 z) ?_
  refine go_seg 8 (pc' := 24) (ls' := [(3, .int 0), (0, .ref 1), (1, .int 4), (2, .int 0)]) (st' := [.ref 1]) (w' := (fw z)) (cs' := 0) (ss' := 0) ?_ (fun _ _ => rfl)
  refine go_seg 8 (pc' := 38) (ls' := [(3, .int 0), (0, .ref 1), (1, .int 4), (2, .int 0)]) (st' := []) (w' := (wd_1352 z)) (cs' := 0) (ss' := 0) ?_ (fun _ _ => rfl)
  exact go_end 3 (fun _ _ => rfl)
theorem ro_1748 (z : pq_C) : pq_Ru 1 161 [.long 4, .long 0, .long 63] (wd_1352 z) (some (.int 1), (wd_1352 z)) := by
  refine ru_of (k := 0) (M := pm_161) rfl rfl ?_
  refine go_seg 8 (pc' := 13) (ls' := [(0, .long 4), (2, .long 0), (4, .long 63)]) (st' := []) (w' := (wd_1352 z)) (cs' := 0) (ss' := 0) ?_ (fun _ _ => rfl)
  exact go_end 3 (fun _ _ => rfl)
theorem ro_1749 (z : pq_C) : pq_Ru 2 160 [.int 4] (wd_1352 z) (some (.int 1), (wd_1352 z)) := by
  refine ru_of (k := 1) (M := pm_160) rfl rfl ?_
  refine go_seg 4 (pc' := 6) (ls' := [(0, .int 4)]) (st' := [.long 63, .long 0, .long 4]) (w' := (wd_1352 z)) (cs' := 0) (ss' := 0) ?_ (fun _ _ => rfl)
  refine go_cl (k := 1) (st' := [.int 1]) (cs' := 0) (ss' := 0) rfl rfl rfl rfl rfl rfl rfl (ro_1748 z) ?_
  exact go_end 1 (fun _ _ => rfl)
def wd_1353 (z : pq_C) : pq_W := ((wd_1352 z).set 91 (.inl (.int, 2858, .inl (upd (upd (upd (upd (upd (upd (upd (upd (upd (upd (upd (upd (upd (upd (upd (upd (upd (upd (upd (upd (upd (upd (upd (upd (upd (upd (upd (upd (upd (upd (upd (upd (upd (upd (upd (upd (upd (upd (upd (upd (upd (upd (upd (upd (upd (upd (upd (upd (upd (upd (upd (upd (upd (upd (upd (upd (upd (upd (upd (upd (upd (upd (upd (upd (upd (upd (upd (upd (upd (upd (upd (upd (upd (upd (upd (upd (upd (upd (upd (upd (upd (upd (fun _ => 0) 1 10) 10 (-1)) 11 (-1)) 12 (-1)) 13 (-1)) 14 (-1)) 15 (-1)) 16 (-1)) 17 (-1)) 18 (-1)) 19 (-1)) 20 (-1)) 21 (-1)) 22 (-1)) 23 (-1)) 24 (-1)) 25 (-1)) 26 (-1)) 27 (-1)) 28 (-1)) 29 (-1)) 30 (-1)) 31 (-1)) 32 (-1)) 33 (-1)) 34 (-1)) 35 (-1)) 36 (-1)) 37 (-1)) 38 (-1)) 39 (-1)) 40 (-1)) 41 (-1)) 42 (-1)) 43 (-1)) 44 (-1)) 45 (-1)) 46 (-1)) 47 (-1)) 48 (-1)) 49 (-1)) 50 (-1)) 51 (-1)) 52 (-1)) 53 (-1)) 54 (-1)) 55 (-1)) 56 (-1)) 57 (-1)) 58 (-1)) 59 (-1)) 60 (-1)) 61 (-1)) 62 (-1)) 63 (-1)) 64 (-1)) 65 (-1)) 66 (-1)) 67 (-1)) 68 (-1)) 69 (-1)) 70 (-1)) 71 (-1)) 72 (-1)) 73 (-1)) 139 1000) 140 100) 145 1000) 146 100) 151 1000) 152 100) 157 1000) 158 100) 163 1000) 164 100) 169 1000) 170 100) 175 1000) 176 100) 181 1000) 182 100) 78 0))))
theorem ro_1750 (z : pq_C) : pq_Ru 3 165 [.ref 90, .int 4, .int 0] (wd_1352 z) (some (.int 0), (wd_1353 z)) := by
  refine ru_of (k := 2) (M := pm_165) rfl rfl ?_
  refine go_seg 1 (pc' := 1) (ls' := [(0, .ref 90), (1, .int 4), (2, .int 0)]) (st' := [.int 4]) (w' := (wd_1352 z)) (cs' := 0) (ss' := 0) ?_ (fun _ _ => rfl)
  refine go_cl (k := 2) (st' := [.int 1]) (cs' := 0) (ss' := 0) rfl rfl rfl rfl rfl rfl rfl (ro_1749 z) ?_
  refine go_seg 8 (pc' := 24) (ls' := [(0, .ref 90), (1, .int 4), (2, .int 0)]) (st' := [.int 0, .int 0]) (w' := (wd_1352 z)) (cs' := 0) (ss' := 0) ?_ (fun _ _ => rfl)
  refine go_seg 8 (pc' := 47) (ls' := [(3, .int 0), (0, .ref 90), (1, .int 4), (2, .int 0)]) (st' := [.int 74, .ref 91]) (w' := (wd_1352 z)) (cs' := 0) (ss' := 0) ?_ (fun _ _ => rfl)
  exact go_end 8 (fun _ _ => rfl)
theorem lf_2_1752 (a0 : Int32) (a3 : Int32) (a4 : Int32) (a5 : Int32) : ∃ w', pq_Go 20 pm_law 278 [(3, .int 0), (2, .ref 90), (1, .ref 1), (0, .ref 0)] [] (fw (sz a0 4 0 a3 a4 a5)) 109 12668 (some (.int 1), w') := by
  refine ⟨(wd_1353 (sz a0 4 0 a3 a4 a5)), ?_⟩
  refine go_seg 8 (pc' := 286) (ls' := [(3, .int 0), (2, .ref 90), (1, .ref 1), (0, .ref 0)]) (st' := [.int 0, .ref 0, .int 4, .ref 1]) (w' := (fw (sz a0 4 0 a3 a4 a5))) (cs' := 109) (ss' := 12668) ?_ (fun _ _ => rfl)
  refine go_seg 5 (pc' := 297) (ls' := [(3, .int 0), (2, .ref 90), (1, .ref 1), (0, .ref 0)]) (st' := [.int 0, .int 4, .ref 1]) (w' := (fw (sz a0 4 0 a3 a4 a5))) (cs' := 109) (ss' := 12668) ?_ (fun _ _ => rfl)
  refine go_cl (k := 20) (st' := [.int 0]) (cs' := 109) (ss' := 12668) rfl rfl rfl rfl rfl rfl rfl (ro_1747 (sz a0 4 0 a3 a4 a5)) ?_
  refine go_seg 8 (pc' := 308) (ls' := [(3, .int 0), (2, .ref 90), (1, .ref 1), (0, .ref 0)]) (st' := [.int 0, .ref 0, .int 4, .ref 90, .int 0]) (w' := (wd_1352 (sz a0 4 0 a3 a4 a5))) (cs' := 109) (ss' := 12668) ?_ (fun _ _ => rfl)
  refine go_seg 5 (pc' := 319) (ls' := [(3, .int 0), (2, .ref 90), (1, .ref 1), (0, .ref 0)]) (st' := [.int 0, .int 4, .ref 90, .int 0]) (w' := (wd_1352 (sz a0 4 0 a3 a4 a5))) (cs' := 109) (ss' := 12668) ?_ (fun _ _ => rfl)
  refine go_cl (k := 20) (st' := [.int 0, .int 0]) (cs' := 109) (ss' := 12668) rfl rfl rfl rfl rfl rfl rfl (ro_1750 (sz a0 4 0 a3 a4 a5)) ?_
  refine go_cmp true rfl (br_self _) ?_
  exact law_tail (f := sc a0 4 0 a3 a4 a5) rfl
def wd_1354 (z : pq_C) : pq_W := ((fw z).set 4 (.inl (.boolean, 64, .inl (upd (fun _ => 0) 5 0))))
theorem ro_1754 (z : pq_C) : pq_Ru 2 22 [.ref 1, .int 5, .int 0] (fw z) (some (.int 0), (wd_1354 z)) := by
  refine ru_of (k := 1) (M := pm_22) rfl rfl ?_
  refine go_seg 1 (pc' := 1) (ls' := [(0, .ref 1), (1, .int 5), (2, .int 0)]) (st' := [.int 5]) (w' := (fw z)) (cs' := 0) (ss' := 0) ?_ (fun _ _ => rfl)
  refine go_cl (k := 1) (st' := [.int 1]) (cs' := 0) (ss' := 0) rfl rfl rfl rfl rfl rfl rfl (ro_1233 z) ?_
  refine go_seg 8 (pc' := 24) (ls' := [(3, .int 0), (0, .ref 1), (1, .int 5), (2, .int 0)]) (st' := [.ref 1]) (w' := (fw z)) (cs' := 0) (ss' := 0) ?_ (fun _ _ => rfl)
  refine go_seg 8 (pc' := 38) (ls' := [(3, .int 0), (0, .ref 1), (1, .int 5), (2, .int 0)]) (st' := []) (w' := (wd_1354 z)) (cs' := 0) (ss' := 0) ?_ (fun _ _ => rfl)
  exact go_end 3 (fun _ _ => rfl)
theorem ro_1755 (z : pq_C) : pq_Ru 1 161 [.long 5, .long 0, .long 63] (wd_1354 z) (some (.int 1), (wd_1354 z)) := by
  refine ru_of (k := 0) (M := pm_161) rfl rfl ?_
  refine go_seg 8 (pc' := 13) (ls' := [(0, .long 5), (2, .long 0), (4, .long 63)]) (st' := []) (w' := (wd_1354 z)) (cs' := 0) (ss' := 0) ?_ (fun _ _ => rfl)
  exact go_end 3 (fun _ _ => rfl)
theorem ro_1756 (z : pq_C) : pq_Ru 2 160 [.int 5] (wd_1354 z) (some (.int 1), (wd_1354 z)) := by
  refine ru_of (k := 1) (M := pm_160) rfl rfl ?_
  refine go_seg 4 (pc' := 6) (ls' := [(0, .int 5)]) (st' := [.long 63, .long 0, .long 5]) (w' := (wd_1354 z)) (cs' := 0) (ss' := 0) ?_ (fun _ _ => rfl)
  refine go_cl (k := 1) (st' := [.int 1]) (cs' := 0) (ss' := 0) rfl rfl rfl rfl rfl rfl rfl (ro_1755 z) ?_
  exact go_end 1 (fun _ _ => rfl)
def wd_1355 (z : pq_C) : pq_W := ((wd_1354 z).set 91 (.inl (.int, 2858, .inl (upd (upd (upd (upd (upd (upd (upd (upd (upd (upd (upd (upd (upd (upd (upd (upd (upd (upd (upd (upd (upd (upd (upd (upd (upd (upd (upd (upd (upd (upd (upd (upd (upd (upd (upd (upd (upd (upd (upd (upd (upd (upd (upd (upd (upd (upd (upd (upd (upd (upd (upd (upd (upd (upd (upd (upd (upd (upd (upd (upd (upd (upd (upd (upd (upd (upd (upd (upd (upd (upd (upd (upd (upd (upd (upd (upd (upd (upd (upd (upd (upd (upd (fun _ => 0) 1 10) 10 (-1)) 11 (-1)) 12 (-1)) 13 (-1)) 14 (-1)) 15 (-1)) 16 (-1)) 17 (-1)) 18 (-1)) 19 (-1)) 20 (-1)) 21 (-1)) 22 (-1)) 23 (-1)) 24 (-1)) 25 (-1)) 26 (-1)) 27 (-1)) 28 (-1)) 29 (-1)) 30 (-1)) 31 (-1)) 32 (-1)) 33 (-1)) 34 (-1)) 35 (-1)) 36 (-1)) 37 (-1)) 38 (-1)) 39 (-1)) 40 (-1)) 41 (-1)) 42 (-1)) 43 (-1)) 44 (-1)) 45 (-1)) 46 (-1)) 47 (-1)) 48 (-1)) 49 (-1)) 50 (-1)) 51 (-1)) 52 (-1)) 53 (-1)) 54 (-1)) 55 (-1)) 56 (-1)) 57 (-1)) 58 (-1)) 59 (-1)) 60 (-1)) 61 (-1)) 62 (-1)) 63 (-1)) 64 (-1)) 65 (-1)) 66 (-1)) 67 (-1)) 68 (-1)) 69 (-1)) 70 (-1)) 71 (-1)) 72 (-1)) 73 (-1)) 139 1000) 140 100) 145 1000) 146 100) 151 1000) 152 100) 157 1000) 158 100) 163 1000) 164 100) 169 1000) 170 100) 175 1000) 176 100) 181 1000) 182 100) 79 0))))
theorem ro_1757 (z : pq_C) : pq_Ru 3 165 [.ref 90, .int 5, .int 0] (wd_1354 z) (some (.int 0), (wd_1355 z)) := by
  refine ru_of (k := 2) (M := pm_165) rfl rfl ?_
  refine go_seg 1 (pc' := 1) (ls' := [(0, .ref 90), (1, .int 5), (2, .int 0)]) (st' := [.int 5]) (w' := (wd_1354 z)) (cs' := 0) (ss' := 0) ?_ (fun _ _ => rfl)
  refine go_cl (k := 2) (st' := [.int 1]) (cs' := 0) (ss' := 0) rfl rfl rfl rfl rfl rfl rfl (ro_1756 z) ?_
  refine go_seg 8 (pc' := 24) (ls' := [(0, .ref 90), (1, .int 5), (2, .int 0)]) (st' := [.int 0, .int 0]) (w' := (wd_1354 z)) (cs' := 0) (ss' := 0) ?_ (fun _ _ => rfl)
  refine go_seg 8 (pc' := 47) (ls' := [(3, .int 0), (0, .ref 90), (1, .int 5), (2, .int 0)]) (st' := [.int 74, .ref 91]) (w' := (wd_1354 z)) (cs' := 0) (ss' := 0) ?_ (fun _ _ => rfl)
  exact go_end 8 (fun _ _ => rfl)
theorem lf_2_1759 (a0 : Int32) (a3 : Int32) (a4 : Int32) (a5 : Int32) : ∃ w', pq_Go 20 pm_law 278 [(3, .int 0), (2, .ref 90), (1, .ref 1), (0, .ref 0)] [] (fw (sz a0 5 0 a3 a4 a5)) 109 12668 (some (.int 1), w') := by
  refine ⟨(wd_1355 (sz a0 5 0 a3 a4 a5)), ?_⟩
  refine go_seg 8 (pc' := 286) (ls' := [(3, .int 0), (2, .ref 90), (1, .ref 1), (0, .ref 0)]) (st' := [.int 0, .ref 0, .int 5, .ref 1]) (w' := (fw (sz a0 5 0 a3 a4 a5))) (cs' := 109) (ss' := 12668) ?_ (fun _ _ => rfl)
  refine go_seg 5 (pc' := 297) (ls' := [(3, .int 0), (2, .ref 90), (1, .ref 1), (0, .ref 0)]) (st' := [.int 0, .int 5, .ref 1]) (w' := (fw (sz a0 5 0 a3 a4 a5))) (cs' := 109) (ss' := 12668) ?_ (fun _ _ => rfl)
  refine go_cl (k := 20) (st' := [.int 0]) (cs' := 109) (ss' := 12668) rfl rfl rfl rfl rfl rfl rfl (ro_1754 (sz a0 5 0 a3 a4 a5)) ?_
  refine go_seg 8 (pc' := 308) (ls' := [(3, .int 0), (2, .ref 90), (1, .ref 1), (0, .ref 0)]) (st' := [.int 0, .ref 0, .int 5, .ref 90, .int 0]) (w' := (wd_1354 (sz a0 5 0 a3 a4 a5))) (cs' := 109) (ss' := 12668) ?_ (fun _ _ => rfl)
  refine go_seg 5 (pc' := 319) (ls' := [(3, .int 0), (2, .ref 90), (1, .ref 1), (0, .ref 0)]) (st' := [.int 0, .int 5, .ref 90, .int 0]) (w' := (wd_1354 (sz a0 5 0 a3 a4 a5))) (cs' := 109) (ss' := 12668) ?_ (fun _ _ => rfl)
  refine go_cl (k := 20) (st' := [.int 0, .int 0]) (cs' := 109) (ss' := 12668) rfl rfl rfl rfl rfl rfl rfl (ro_1757 (sz a0 5 0 a3 a4 a5)) ?_
  refine go_cmp true rfl (br_self _) ?_
  exact law_tail (f := sc a0 5 0 a3 a4 a5) rfl
def wd_1356 (z : pq_C) : pq_W := ((fw z).set 4 (.inl (.boolean, 64, .inl (upd (fun _ => 0) 6 0))))
theorem ro_1761 (z : pq_C) : pq_Ru 2 22 [.ref 1, .int 6, .int 0] (fw z) (some (.int 0), (wd_1356 z)) := by
  refine ru_of (k := 1) (M := pm_22) rfl rfl ?_
  refine go_seg 1 (pc' := 1) (ls' := [(0, .ref 1), (1, .int 6), (2, .int 0)]) (st' := [.int 6]) (w' := (fw z)) (cs' := 0) (ss' := 0) ?_ (fun _ _ => rfl)
  refine go_cl (k := 1) (st' := [.int 1]) (cs' := 0) (ss' := 0) rfl rfl rfl rfl rfl rfl rfl (ro_1241 z) ?_
  refine go_seg 8 (pc' := 24) (ls' := [(3, .int 0), (0, .ref 1), (1, .int 6), (2, .int 0)]) (st' := [.ref 1]) (w' := (fw z)) (cs' := 0) (ss' := 0) ?_ (fun _ _ => rfl)
  refine go_seg 8 (pc' := 38) (ls' := [(3, .int 0), (0, .ref 1), (1, .int 6), (2, .int 0)]) (st' := []) (w' := (wd_1356 z)) (cs' := 0) (ss' := 0) ?_ (fun _ _ => rfl)
  exact go_end 3 (fun _ _ => rfl)
theorem ro_1762 (z : pq_C) : pq_Ru 1 161 [.long 6, .long 0, .long 63] (wd_1356 z) (some (.int 1), (wd_1356 z)) := by
  refine ru_of (k := 0) (M := pm_161) rfl rfl ?_
  refine go_seg 8 (pc' := 13) (ls' := [(0, .long 6), (2, .long 0), (4, .long 63)]) (st' := []) (w' := (wd_1356 z)) (cs' := 0) (ss' := 0) ?_ (fun _ _ => rfl)
  exact go_end 3 (fun _ _ => rfl)
theorem ro_1763 (z : pq_C) : pq_Ru 2 160 [.int 6] (wd_1356 z) (some (.int 1), (wd_1356 z)) := by
  refine ru_of (k := 1) (M := pm_160) rfl rfl ?_
  refine go_seg 4 (pc' := 6) (ls' := [(0, .int 6)]) (st' := [.long 63, .long 0, .long 6]) (w' := (wd_1356 z)) (cs' := 0) (ss' := 0) ?_ (fun _ _ => rfl)
  refine go_cl (k := 1) (st' := [.int 1]) (cs' := 0) (ss' := 0) rfl rfl rfl rfl rfl rfl rfl (ro_1762 z) ?_
  exact go_end 1 (fun _ _ => rfl)
def wd_1357 (z : pq_C) : pq_W := ((wd_1356 z).set 91 (.inl (.int, 2858, .inl (upd (upd (upd (upd (upd (upd (upd (upd (upd (upd (upd (upd (upd (upd (upd (upd (upd (upd (upd (upd (upd (upd (upd (upd (upd (upd (upd (upd (upd (upd (upd (upd (upd (upd (upd (upd (upd (upd (upd (upd (upd (upd (upd (upd (upd (upd (upd (upd (upd (upd (upd (upd (upd (upd (upd (upd (upd (upd (upd (upd (upd (upd (upd (upd (upd (upd (upd (upd (upd (upd (upd (upd (upd (upd (upd (upd (upd (upd (upd (upd (upd (upd (fun _ => 0) 1 10) 10 (-1)) 11 (-1)) 12 (-1)) 13 (-1)) 14 (-1)) 15 (-1)) 16 (-1)) 17 (-1)) 18 (-1)) 19 (-1)) 20 (-1)) 21 (-1)) 22 (-1)) 23 (-1)) 24 (-1)) 25 (-1)) 26 (-1)) 27 (-1)) 28 (-1)) 29 (-1)) 30 (-1)) 31 (-1)) 32 (-1)) 33 (-1)) 34 (-1)) 35 (-1)) 36 (-1)) 37 (-1)) 38 (-1)) 39 (-1)) 40 (-1)) 41 (-1)) 42 (-1)) 43 (-1)) 44 (-1)) 45 (-1)) 46 (-1)) 47 (-1)) 48 (-1)) 49 (-1)) 50 (-1)) 51 (-1)) 52 (-1)) 53 (-1)) 54 (-1)) 55 (-1)) 56 (-1)) 57 (-1)) 58 (-1)) 59 (-1)) 60 (-1)) 61 (-1)) 62 (-1)) 63 (-1)) 64 (-1)) 65 (-1)) 66 (-1)) 67 (-1)) 68 (-1)) 69 (-1)) 70 (-1)) 71 (-1)) 72 (-1)) 73 (-1)) 139 1000) 140 100) 145 1000) 146 100) 151 1000) 152 100) 157 1000) 158 100) 163 1000) 164 100) 169 1000) 170 100) 175 1000) 176 100) 181 1000) 182 100) 80 0))))
theorem ro_1764 (z : pq_C) : pq_Ru 3 165 [.ref 90, .int 6, .int 0] (wd_1356 z) (some (.int 0), (wd_1357 z)) := by
  refine ru_of (k := 2) (M := pm_165) rfl rfl ?_
  refine go_seg 1 (pc' := 1) (ls' := [(0, .ref 90), (1, .int 6), (2, .int 0)]) (st' := [.int 6]) (w' := (wd_1356 z)) (cs' := 0) (ss' := 0) ?_ (fun _ _ => rfl)
  refine go_cl (k := 2) (st' := [.int 1]) (cs' := 0) (ss' := 0) rfl rfl rfl rfl rfl rfl rfl (ro_1763 z) ?_
  refine go_seg 8 (pc' := 24) (ls' := [(0, .ref 90), (1, .int 6), (2, .int 0)]) (st' := [.int 0, .int 0]) (w' := (wd_1356 z)) (cs' := 0) (ss' := 0) ?_ (fun _ _ => rfl)
  refine go_seg 8 (pc' := 47) (ls' := [(3, .int 0), (0, .ref 90), (1, .int 6), (2, .int 0)]) (st' := [.int 74, .ref 91]) (w' := (wd_1356 z)) (cs' := 0) (ss' := 0) ?_ (fun _ _ => rfl)
  exact go_end 8 (fun _ _ => rfl)
theorem lf_2_1766 (a0 : Int32) (a3 : Int32) (a4 : Int32) (a5 : Int32) : ∃ w', pq_Go 20 pm_law 278 [(3, .int 0), (2, .ref 90), (1, .ref 1), (0, .ref 0)] [] (fw (sz a0 6 0 a3 a4 a5)) 109 12668 (some (.int 1), w') := by
  refine ⟨(wd_1357 (sz a0 6 0 a3 a4 a5)), ?_⟩
  refine go_seg 8 (pc' := 286) (ls' := [(3, .int 0), (2, .ref 90), (1, .ref 1), (0, .ref 0)]) (st' := [.int 0, .ref 0, .int 6, .ref 1]) (w' := (fw (sz a0 6 0 a3 a4 a5))) (cs' := 109) (ss' := 12668) ?_ (fun _ _ => rfl)
  refine go_seg 5 (pc' := 297) (ls' := [(3, .int 0), (2, .ref 90), (1, .ref 1), (0, .ref 0)]) (st' := [.int 0, .int 6, .ref 1]) (w' := (fw (sz a0 6 0 a3 a4 a5))) (cs' := 109) (ss' := 12668) ?_ (fun _ _ => rfl)
  refine go_cl (k := 20) (st' := [.int 0]) (cs' := 109) (ss' := 12668) rfl rfl rfl rfl rfl rfl rfl (ro_1761 (sz a0 6 0 a3 a4 a5)) ?_
  refine go_seg 8 (pc' := 308) (ls' := [(3, .int 0), (2, .ref 90), (1, .ref 1), (0, .ref 0)]) (st' := [.int 0, .ref 0, .int 6, .ref 90, .int 0]) (w' := (wd_1356 (sz a0 6 0 a3 a4 a5))) (cs' := 109) (ss' := 12668) ?_ (fun _ _ => rfl)
  refine go_seg 5 (pc' := 319) (ls' := [(3, .int 0), (2, .ref 90), (1, .ref 1), (0, .ref 0)]) (st' := [.int 0, .int 6, .ref 90, .int 0]) (w' := (wd_1356 (sz a0 6 0 a3 a4 a5))) (cs' := 109) (ss' := 12668) ?_ (fun _ _ => rfl)
  refine go_cl (k := 20) (st' := [.int 0, .int 0]) (cs' := 109) (ss' := 12668) rfl rfl rfl rfl rfl rfl rfl (ro_1764 (sz a0 6 0 a3 a4 a5)) ?_
  refine go_cmp true rfl (br_self _) ?_
  exact law_tail (f := sc a0 6 0 a3 a4 a5) rfl
def wd_1358 (z : pq_C) : pq_W := ((fw z).set 4 (.inl (.boolean, 64, .inl (upd (fun _ => 0) 7 0))))
theorem ro_1768 (z : pq_C) : pq_Ru 2 22 [.ref 1, .int 7, .int 0] (fw z) (some (.int 0), (wd_1358 z)) := by
  refine ru_of (k := 1) (M := pm_22) rfl rfl ?_
  refine go_seg 1 (pc' := 1) (ls' := [(0, .ref 1), (1, .int 7), (2, .int 0)]) (st' := [.int 7]) (w' := (fw z)) (cs' := 0) (ss' := 0) ?_ (fun _ _ => rfl)
  refine go_cl (k := 1) (st' := [.int 1]) (cs' := 0) (ss' := 0) rfl rfl rfl rfl rfl rfl rfl (ro_1249 z) ?_
  refine go_seg 8 (pc' := 24) (ls' := [(3, .int 0), (0, .ref 1), (1, .int 7), (2, .int 0)]) (st' := [.ref 1]) (w' := (fw z)) (cs' := 0) (ss' := 0) ?_ (fun _ _ => rfl)
  refine go_seg 8 (pc' := 38) (ls' := [(3, .int 0), (0, .ref 1), (1, .int 7), (2, .int 0)]) (st' := []) (w' := (wd_1358 z)) (cs' := 0) (ss' := 0) ?_ (fun _ _ => rfl)
  exact go_end 3 (fun _ _ => rfl)
theorem ro_1769 (z : pq_C) : pq_Ru 1 161 [.long 7, .long 0, .long 63] (wd_1358 z) (some (.int 1), (wd_1358 z)) := by
  refine ru_of (k := 0) (M := pm_161) rfl rfl ?_
  refine go_seg 8 (pc' := 13) (ls' := [(0, .long 7), (2, .long 0), (4, .long 63)]) (st' := []) (w' := (wd_1358 z)) (cs' := 0) (ss' := 0) ?_ (fun _ _ => rfl)
  exact go_end 3 (fun _ _ => rfl)
theorem ro_1770 (z : pq_C) : pq_Ru 2 160 [.int 7] (wd_1358 z) (some (.int 1), (wd_1358 z)) := by
  refine ru_of (k := 1) (M := pm_160) rfl rfl ?_
  refine go_seg 4 (pc' := 6) (ls' := [(0, .int 7)]) (st' := [.long 63, .long 0, .long 7]) (w' := (wd_1358 z)) (cs' := 0) (ss' := 0) ?_ (fun _ _ => rfl)
  refine go_cl (k := 1) (st' := [.int 1]) (cs' := 0) (ss' := 0) rfl rfl rfl rfl rfl rfl rfl (ro_1769 z) ?_
  exact go_end 1 (fun _ _ => rfl)
def wd_1359 (z : pq_C) : pq_W := ((wd_1358 z).set 91 (.inl (.int, 2858, .inl (upd (upd (upd (upd (upd (upd (upd (upd (upd (upd (upd (upd (upd (upd (upd (upd (upd (upd (upd (upd (upd (upd (upd (upd (upd (upd (upd (upd (upd (upd (upd (upd (upd (upd (upd (upd (upd (upd (upd (upd (upd (upd (upd (upd (upd (upd (upd (upd (upd (upd (upd (upd (upd (upd (upd (upd (upd (upd (upd (upd (upd (upd (upd (upd (upd (upd (upd (upd (upd (upd (upd (upd (upd (upd (upd (upd (upd (upd (upd (upd (upd (upd (fun _ => 0) 1 10) 10 (-1)) 11 (-1)) 12 (-1)) 13 (-1)) 14 (-1)) 15 (-1)) 16 (-1)) 17 (-1)) 18 (-1)) 19 (-1)) 20 (-1)) 21 (-1)) 22 (-1)) 23 (-1)) 24 (-1)) 25 (-1)) 26 (-1)) 27 (-1)) 28 (-1)) 29 (-1)) 30 (-1)) 31 (-1)) 32 (-1)) 33 (-1)) 34 (-1)) 35 (-1)) 36 (-1)) 37 (-1)) 38 (-1)) 39 (-1)) 40 (-1)) 41 (-1)) 42 (-1)) 43 (-1)) 44 (-1)) 45 (-1)) 46 (-1)) 47 (-1)) 48 (-1)) 49 (-1)) 50 (-1)) 51 (-1)) 52 (-1)) 53 (-1)) 54 (-1)) 55 (-1)) 56 (-1)) 57 (-1)) 58 (-1)) 59 (-1)) 60 (-1)) 61 (-1)) 62 (-1)) 63 (-1)) 64 (-1)) 65 (-1)) 66 (-1)) 67 (-1)) 68 (-1)) 69 (-1)) 70 (-1)) 71 (-1)) 72 (-1)) 73 (-1)) 139 1000) 140 100) 145 1000) 146 100) 151 1000) 152 100) 157 1000) 158 100) 163 1000) 164 100) 169 1000) 170 100) 175 1000) 176 100) 181 1000) 182 100) 81 0))))
theorem ro_1771 (z : pq_C) : pq_Ru 3 165 [.ref 90, .int 7, .int 0] (wd_1358 z) (some (.int 0), (wd_1359 z)) := by
  refine ru_of (k := 2) (M := pm_165) rfl rfl ?_
  refine go_seg 1 (pc' := 1) (ls' := [(0, .ref 90), (1, .int 7), (2, .int 0)]) (st' := [.int 7]) (w' := (wd_1358 z)) (cs' := 0) (ss' := 0) ?_ (fun _ _ => rfl)
  refine go_cl (k := 2) (st' := [.int 1]) (cs' := 0) (ss' := 0) rfl rfl rfl rfl rfl rfl rfl (ro_1770 z) ?_
  refine go_seg 8 (pc' := 24) (ls' := [(0, .ref 90), (1, .int 7), (2, .int 0)]) (st' := [.int 0, .int 0]) (w' := (wd_1358 z)) (cs' := 0) (ss' := 0) ?_ (fun _ _ => rfl)
  refine go_seg 8 (pc' := 47) (ls' := [(3, .int 0), (0, .ref 90), (1, .int 7), (2, .int 0)]) (st' := [.int 74, .ref 91]) (w' := (wd_1358 z)) (cs' := 0) (ss' := 0) ?_ (fun _ _ => rfl)
  exact go_end 8 (fun _ _ => rfl)
theorem lf_2_1773 (a0 : Int32) (a3 : Int32) (a4 : Int32) (a5 : Int32) : ∃ w', pq_Go 20 pm_law 278 [(3, .int 0), (2, .ref 90), (1, .ref 1), (0, .ref 0)] [] (fw (sz a0 7 0 a3 a4 a5)) 109 12668 (some (.int 1), w') := by
  refine ⟨(wd_1359 (sz a0 7 0 a3 a4 a5)), ?_⟩
  refine go_seg 8 (pc' := 286) (ls' := [(3, .int 0), (2, .ref 90), (1, .ref 1), (0, .ref 0)]) (st' := [.int 0, .ref 0, .int 7, .ref 1]) (w' := (fw (sz a0 7 0 a3 a4 a5))) (cs' := 109) (ss' := 12668) ?_ (fun _ _ => rfl)
  refine go_seg 5 (pc' := 297) (ls' := [(3, .int 0), (2, .ref 90), (1, .ref 1), (0, .ref 0)]) (st' := [.int 0, .int 7, .ref 1]) (w' := (fw (sz a0 7 0 a3 a4 a5))) (cs' := 109) (ss' := 12668) ?_ (fun _ _ => rfl)
  refine go_cl (k := 20) (st' := [.int 0]) (cs' := 109) (ss' := 12668) rfl rfl rfl rfl rfl rfl rfl (ro_1768 (sz a0 7 0 a3 a4 a5)) ?_
  refine go_seg 8 (pc' := 308) (ls' := [(3, .int 0), (2, .ref 90), (1, .ref 1), (0, .ref 0)]) (st' := [.int 0, .ref 0, .int 7, .ref 90, .int 0]) (w' := (wd_1358 (sz a0 7 0 a3 a4 a5))) (cs' := 109) (ss' := 12668) ?_ (fun _ _ => rfl)
  refine go_seg 5 (pc' := 319) (ls' := [(3, .int 0), (2, .ref 90), (1, .ref 1), (0, .ref 0)]) (st' := [.int 0, .int 7, .ref 90, .int 0]) (w' := (wd_1358 (sz a0 7 0 a3 a4 a5))) (cs' := 109) (ss' := 12668) ?_ (fun _ _ => rfl)
  refine go_cl (k := 20) (st' := [.int 0, .int 0]) (cs' := 109) (ss' := 12668) rfl rfl rfl rfl rfl rfl rfl (ro_1771 (sz a0 7 0 a3 a4 a5)) ?_
  refine go_cmp true rfl (br_self _) ?_
  exact law_tail (f := sc a0 7 0 a3 a4 a5) rfl
def wd_1360 (z : pq_C) : pq_W := ((fw z).set 4 (.inl (.boolean, 64, .inl (upd (fun _ => 0) 8 0))))
theorem ro_1775 (z : pq_C) : pq_Ru 2 22 [.ref 1, .int 8, .int 0] (fw z) (some (.int 0), (wd_1360 z)) := by
  refine ru_of (k := 1) (M := pm_22) rfl rfl ?_
  refine go_seg 1 (pc' := 1) (ls' := [(0, .ref 1), (1, .int 8), (2, .int 0)]) (st' := [.int 8]) (w' := (fw z)) (cs' := 0) (ss' := 0) ?_ (fun _ _ => rfl)
  refine go_cl (k := 1) (st' := [.int 1]) (cs' := 0) (ss' := 0) rfl rfl rfl rfl rfl rfl rfl (ro_1257 z) ?_
  refine go_seg 8 (pc' := 24) (ls' := [(3, .int 0), (0, .ref 1), (1, .int 8), (2, .int 0)]) (st' := [.ref 1]) (w' := (fw z)) (cs' := 0) (ss' := 0) ?_ (fun _ _ => rfl)
  refine go_seg 8 (pc' := 38) (ls' := [(3, .int 0), (0, .ref 1), (1, .int 8), (2, .int 0)]) (st' := []) (w' := (wd_1360 z)) (cs' := 0) (ss' := 0) ?_ (fun _ _ => rfl)
  exact go_end 3 (fun _ _ => rfl)
theorem ro_1776 (z : pq_C) : pq_Ru 1 161 [.long 8, .long 0, .long 63] (wd_1360 z) (some (.int 1), (wd_1360 z)) := by
  refine ru_of (k := 0) (M := pm_161) rfl rfl ?_
  refine go_seg 8 (pc' := 13) (ls' := [(0, .long 8), (2, .long 0), (4, .long 63)]) (st' := []) (w' := (wd_1360 z)) (cs' := 0) (ss' := 0) ?_ (fun _ _ => rfl)
  exact go_end 3 (fun _ _ => rfl)
theorem ro_1777 (z : pq_C) : pq_Ru 2 160 [.int 8] (wd_1360 z) (some (.int 1), (wd_1360 z)) := by
  refine ru_of (k := 1) (M := pm_160) rfl rfl ?_
  refine go_seg 4 (pc' := 6) (ls' := [(0, .int 8)]) (st' := [.long 63, .long 0, .long 8]) (w' := (wd_1360 z)) (cs' := 0) (ss' := 0) ?_ (fun _ _ => rfl)
  refine go_cl (k := 1) (st' := [.int 1]) (cs' := 0) (ss' := 0) rfl rfl rfl rfl rfl rfl rfl (ro_1776 z) ?_
  exact go_end 1 (fun _ _ => rfl)
def wd_1361 (z : pq_C) : pq_W := ((wd_1360 z).set 91 (.inl (.int, 2858, .inl (upd (upd (upd (upd (upd (upd (upd (upd (upd (upd (upd (upd (upd (upd (upd (upd (upd (upd (upd (upd (upd (upd (upd (upd (upd (upd (upd (upd (upd (upd (upd (upd (upd (upd (upd (upd (upd (upd (upd (upd (upd (upd (upd (upd (upd (upd (upd (upd (upd (upd (upd (upd (upd (upd (upd (upd (upd (upd (upd (upd (upd (upd (upd (upd (upd (upd (upd (upd (upd (upd (upd (upd (upd (upd (upd (upd (upd (upd (upd (upd (upd (upd (fun _ => 0) 1 10) 10 (-1)) 11 (-1)) 12 (-1)) 13 (-1)) 14 (-1)) 15 (-1)) 16 (-1)) 17 (-1)) 18 (-1)) 19 (-1)) 20 (-1)) 21 (-1)) 22 (-1)) 23 (-1)) 24 (-1)) 25 (-1)) 26 (-1)) 27 (-1)) 28 (-1)) 29 (-1)) 30 (-1)) 31 (-1)) 32 (-1)) 33 (-1)) 34 (-1)) 35 (-1)) 36 (-1)) 37 (-1)) 38 (-1)) 39 (-1)) 40 (-1)) 41 (-1)) 42 (-1)) 43 (-1)) 44 (-1)) 45 (-1)) 46 (-1)) 47 (-1)) 48 (-1)) 49 (-1)) 50 (-1)) 51 (-1)) 52 (-1)) 53 (-1)) 54 (-1)) 55 (-1)) 56 (-1)) 57 (-1)) 58 (-1)) 59 (-1)) 60 (-1)) 61 (-1)) 62 (-1)) 63 (-1)) 64 (-1)) 65 (-1)) 66 (-1)) 67 (-1)) 68 (-1)) 69 (-1)) 70 (-1)) 71 (-1)) 72 (-1)) 73 (-1)) 139 1000) 140 100) 145 1000) 146 100) 151 1000) 152 100) 157 1000) 158 100) 163 1000) 164 100) 169 1000) 170 100) 175 1000) 176 100) 181 1000) 182 100) 82 0))))
theorem ro_1778 (z : pq_C) : pq_Ru 3 165 [.ref 90, .int 8, .int 0] (wd_1360 z) (some (.int 0), (wd_1361 z)) := by
  refine ru_of (k := 2) (M := pm_165) rfl rfl ?_
  refine go_seg 1 (pc' := 1) (ls' := [(0, .ref 90), (1, .int 8), (2, .int 0)]) (st' := [.int 8]) (w' := (wd_1360 z)) (cs' := 0) (ss' := 0) ?_ (fun _ _ => rfl)
  refine go_cl (k := 2) (st' := [.int 1]) (cs' := 0) (ss' := 0) rfl rfl rfl rfl rfl rfl rfl (ro_1777 z) ?_
  refine go_seg 8 (pc' := 24) (ls' := [(0, .ref 90), (1, .int 8), (2, .int 0)]) (st' := [.int 0, .int 0]) (w' := (wd_1360 z)) (cs' := 0) (ss' := 0) ?_ (fun _ _ => rfl)
  refine go_seg 8 (pc' := 47) (ls' := [(3, .int 0), (0, .ref 90), (1, .int 8), (2, .int 0)]) (st' := [.int 74, .ref 91]) (w' := (wd_1360 z)) (cs' := 0) (ss' := 0) ?_ (fun _ _ => rfl)
  exact go_end 8 (fun _ _ => rfl)
theorem lf_2_1780 (a0 : Int32) (a3 : Int32) (a4 : Int32) (a5 : Int32) : ∃ w', pq_Go 20 pm_law 278 [(3, .int 0), (2, .ref 90), (1, .ref 1), (0, .ref 0)] [] (fw (sz a0 8 0 a3 a4 a5)) 109 12668 (some (.int 1), w') := by
  refine ⟨(wd_1361 (sz a0 8 0 a3 a4 a5)), ?_⟩
  refine go_seg 8 (pc' := 286) (ls' := [(3, .int 0), (2, .ref 90), (1, .ref 1), (0, .ref 0)]) (st' := [.int 0, .ref 0, .int 8, .ref 1]) (w' := (fw (sz a0 8 0 a3 a4 a5))) (cs' := 109) (ss' := 12668) ?_ (fun _ _ => rfl)
  refine go_seg 5 (pc' := 297) (ls' := [(3, .int 0), (2, .ref 90), (1, .ref 1), (0, .ref 0)]) (st' := [.int 0, .int 8, .ref 1]) (w' := (fw (sz a0 8 0 a3 a4 a5))) (cs' := 109) (ss' := 12668) ?_ (fun _ _ => rfl)
  refine go_cl (k := 20) (st' := [.int 0]) (cs' := 109) (ss' := 12668) rfl rfl rfl rfl rfl rfl rfl (ro_1775 (sz a0 8 0 a3 a4 a5)) ?_
  refine go_seg 8 (pc' := 308) (ls' := [(3, .int 0), (2, .ref 90), (1, .ref 1), (0, .ref 0)]) (st' := [.int 0, .ref 0, .int 8, .ref 90, .int 0]) (w' := (wd_1360 (sz a0 8 0 a3 a4 a5))) (cs' := 109) (ss' := 12668) ?_ (fun _ _ => rfl)
  refine go_seg 5 (pc' := 319) (ls' := [(3, .int 0), (2, .ref 90), (1, .ref 1), (0, .ref 0)]) (st' := [.int 0, .int 8, .ref 90, .int 0]) (w' := (wd_1360 (sz a0 8 0 a3 a4 a5))) (cs' := 109) (ss' := 12668) ?_ (fun _ _ => rfl)
  refine go_cl (k := 20) (st' := [.int 0, .int 0]) (cs' := 109) (ss' := 12668) rfl rfl rfl rfl rfl rfl rfl (ro_1778 (sz a0 8 0 a3 a4 a5)) ?_
  refine go_cmp true rfl (br_self _) ?_
  exact law_tail (f := sc a0 8 0 a3 a4 a5) rfl
def wd_1362 (z : pq_C) : pq_W := ((fw z).set 4 (.inl (.boolean, 64, .inl (upd (fun _ => 0) 9 0))))
theorem ro_1782 (z : pq_C) : pq_Ru 2 22 [.ref 1, .int 9, .int 0] (fw z) (some (.int 0), (wd_1362 z)) := by
  refine ru_of (k := 1) (M := pm_22) rfl rfl ?_
  refine go_seg 1 (pc' := 1) (ls' := [(0, .ref 1), (1, .int 9), (2, .int 0)]) (st' := [.int 9]) (w' := (fw z)) (cs' := 0) (ss' := 0) ?_ (fun _ _ => rfl)
  refine go_cl (k := 1) (st' := [.int 1]) (cs' := 0) (ss' := 0) rfl rfl rfl rfl rfl rfl rfl (ro_1265 z) ?_
  refine go_seg 8 (pc' := 24) (ls' := [(3, .int 0), (0, .ref 1), (1, .int 9), (2, .int 0)]) (st' := [.ref 1]) (w' := (fw z)) (cs' := 0) (ss' := 0) ?_ (fun _ _ => rfl)
  refine go_seg 8 (pc' := 38) (ls' := [(3, .int 0), (0, .ref 1), (1, .int 9), (2, .int 0)]) (st' := []) (w' := (wd_1362 z)) (cs' := 0) (ss' := 0) ?_ (fun _ _ => rfl)
  exact go_end 3 (fun _ _ => rfl)
theorem ro_1783 (z : pq_C) : pq_Ru 1 161 [.long 9, .long 0, .long 63] (wd_1362 z) (some (.int 1), (wd_1362 z)) := by
  refine ru_of (k := 0) (M := pm_161) rfl rfl ?_
  refine go_seg 8 (pc' := 13) (ls' := [(0, .long 9), (2, .long 0), (4, .long 63)]) (st' := []) (w' := (wd_1362 z)) (cs' := 0) (ss' := 0) ?_ (fun _ _ => rfl)
  exact go_end 3 (fun _ _ => rfl)
theorem ro_1784 (z : pq_C) : pq_Ru 2 160 [.int 9] (wd_1362 z) (some (.int 1), (wd_1362 z)) := by
  refine ru_of (k := 1) (M := pm_160) rfl rfl ?_
  refine go_seg 4 (pc' := 6) (ls' := [(0, .int 9)]) (st' := [.long 63, .long 0, .long 9]) (w' := (wd_1362 z)) (cs' := 0) (ss' := 0) ?_ (fun _ _ => rfl)
  refine go_cl (k := 1) (st' := [.int 1]) (cs' := 0) (ss' := 0) rfl rfl rfl rfl rfl rfl rfl (ro_1783 z) ?_
  exact go_end 1 (fun _ _ => rfl)
def wd_1363 (z : pq_C) : pq_W := ((wd_1362 z).set 91 (.inl (.int, 2858, .inl (upd (upd (upd (upd (upd (upd (upd (upd (upd (upd (upd (upd (upd (upd (upd (upd (upd (upd (upd (upd (upd (upd (upd (upd (upd (upd (upd (upd (upd (upd (upd (upd (upd (upd (upd (upd (upd (upd (upd (upd (upd (upd (upd (upd (upd (upd (upd (upd (upd (upd (upd (upd (upd (upd (upd (upd (upd (upd (upd (upd (upd (upd (upd (upd (upd (upd (upd (upd (upd (upd (upd (upd (upd (upd (upd (upd (upd (upd (upd (upd (upd (upd (fun _ => 0) 1 10) 10 (-1)) 11 (-1)) 12 (-1)) 13 (-1)) 14 (-1)) 15 (-1)) 16 (-1)) 17 (-1)) 18 (-1)) 19 (-1)) 20 (-1)) 21 (-1)) 22 (-1)) 23 (-1)) 24 (-1)) 25 (-1)) 26 (-1)) 27 (-1)) 28 (-1)) 29 (-1)) 30 (-1)) 31 (-1)) 32 (-1)) 33 (-1)) 34 (-1)) 35 (-1)) 36 (-1)) 37 (-1)) 38 (-1)) 39 (-1)) 40 (-1)) 41 (-1)) 42 (-1)) 43 (-1)) 44 (-1)) 45 (-1)) 46 (-1)) 47 (-1)) 48 (-1)) 49 (-1)) 50 (-1)) 51 (-1)) 52 (-1)) 53 (-1)) 54 (-1)) 55 (-1)) 56 (-1)) 57 (-1)) 58 (-1)) 59 (-1)) 60 (-1)) 61 (-1)) 62 (-1)) 63 (-1)) 64 (-1)) 65 (-1)) 66 (-1)) 67 (-1)) 68 (-1)) 69 (-1)) 70 (-1)) 71 (-1)) 72 (-1)) 73 (-1)) 139 1000) 140 100) 145 1000) 146 100) 151 1000) 152 100) 157 1000) 158 100) 163 1000) 164 100) 169 1000) 170 100) 175 1000) 176 100) 181 1000) 182 100) 83 0))))
theorem ro_1785 (z : pq_C) : pq_Ru 3 165 [.ref 90, .int 9, .int 0] (wd_1362 z) (some (.int 0), (wd_1363 z)) := by
  refine ru_of (k := 2) (M := pm_165) rfl rfl ?_
  refine go_seg 1 (pc' := 1) (ls' := [(0, .ref 90), (1, .int 9), (2, .int 0)]) (st' := [.int 9]) (w' := (wd_1362 z)) (cs' := 0) (ss' := 0) ?_ (fun _ _ => rfl)
  refine go_cl (k := 2) (st' := [.int 1]) (cs' := 0) (ss' := 0) rfl rfl rfl rfl rfl rfl rfl (ro_1784 z) ?_
  refine go_seg 8 (pc' := 24) (ls' := [(0, .ref 90), (1, .int 9), (2, .int 0)]) (st' := [.int 0, .int 0]) (w' := (wd_1362 z)) (cs' := 0) (ss' := 0) ?_ (fun _ _ => rfl)
  refine go_seg 8 (pc' := 47) (ls' := [(3, .int 0), (0, .ref 90), (1, .int 9), (2, .int 0)]) (st' := [.int 74, .ref 91]) (w' := (wd_1362 z)) (cs' := 0) (ss' := 0) ?_ (fun _ _ => rfl)
  exact go_end 8 (fun _ _ => rfl)
theorem lf_2_1787 (a0 : Int32) (a3 : Int32) (a4 : Int32) (a5 : Int32) : ∃ w', pq_Go 20 pm_law 278 [(3, .int 0), (2, .ref 90), (1, .ref 1), (0, .ref 0)] [] (fw (sz a0 9 0 a3 a4 a5)) 109 12668 (some (.int 1), w') := by
  refine ⟨(wd_1363 (sz a0 9 0 a3 a4 a5)), ?_⟩
  refine go_seg 8 (pc' := 286) (ls' := [(3, .int 0), (2, .ref 90), (1, .ref 1), (0, .ref 0)]) (st' := [.int 0, .ref 0, .int 9, .ref 1]) (w' := (fw (sz a0 9 0 a3 a4 a5))) (cs' := 109) (ss' := 12668) ?_ (fun _ _ => rfl)
  refine go_seg 5 (pc' := 297) (ls' := [(3, .int 0), (2, .ref 90), (1, .ref 1), (0, .ref 0)]) (st' := [.int 0, .int 9, .ref 1]) (w' := (fw (sz a0 9 0 a3 a4 a5))) (cs' := 109) (ss' := 12668) ?_ (fun _ _ => rfl)
  refine go_cl (k := 20) (st' := [.int 0]) (cs' := 109) (ss' := 12668) rfl rfl rfl rfl rfl rfl rfl (ro_1782 (sz a0 9 0 a3 a4 a5)) ?_
  refine go_seg 8 (pc' := 308) (ls' := [(3, .int 0), (2, .ref 90), (1, .ref 1), (0, .ref 0)]) (st' := [.int 0, .ref 0, .int 9, .ref 90, .int 0]) (w' := (wd_1362 (sz a0 9 0 a3 a4 a5))) (cs' := 109) (ss' := 12668) ?_ (fun _ _ => rfl)
  refine go_seg 5 (pc' := 319) (ls' := [(3, .int 0), (2, .ref 90), (1, .ref 1), (0, .ref 0)]) (st' := [.int 0, .int 9, .ref 90, .int 0]) (w' := (wd_1362 (sz a0 9 0 a3 a4 a5))) (cs' := 109) (ss' := 12668) ?_ (fun _ _ => rfl)
  refine go_cl (k := 20) (st' := [.int 0, .int 0]) (cs' := 109) (ss' := 12668) rfl rfl rfl rfl rfl rfl rfl (ro_1785 (sz a0 9 0 a3 a4 a5)) ?_
  refine go_cmp true rfl (br_self _) ?_
  exact law_tail (f := sc a0 9 0 a3 a4 a5) rfl
def wd_1364 (z : pq_C) : pq_W := ((fw z).set 4 (.inl (.boolean, 64, .inl (upd (fun _ => 0) 10 0))))
theorem ro_1789 (z : pq_C) : pq_Ru 2 22 [.ref 1, .int 10, .int 0] (fw z) (some (.int 0), (wd_1364 z)) := by
  refine ru_of (k := 1) (M := pm_22) rfl rfl ?_
  refine go_seg 1 (pc' := 1) (ls' := [(0, .ref 1), (1, .int 10), (2, .int 0)]) (st' := [.int 10]) (w' := (fw z)) (cs' := 0) (ss' := 0) ?_ (fun _ _ => rfl)
  refine go_cl (k := 1) (st' := [.int 1]) (cs' := 0) (ss' := 0) rfl rfl rfl rfl rfl rfl rfl (ro_1273 z) ?_
  refine go_seg 8 (pc' := 24) (ls' := [(3, .int 0), (0, .ref 1), (1, .int 10), (2, .int 0)]) (st' := [.ref 1]) (w' := (fw z)) (cs' := 0) (ss' := 0) ?_ (fun _ _ => rfl)
  refine go_seg 8 (pc' := 38) (ls' := [(3, .int 0), (0, .ref 1), (1, .int 10), (2, .int 0)]) (st' := []) (w' := (wd_1364 z)) (cs' := 0) (ss' := 0) ?_ (fun _ _ => rfl)
  exact go_end 3 (fun _ _ => rfl)
theorem ro_1790 (z : pq_C) : pq_Ru 1 161 [.long 10, .long 0, .long 63] (wd_1364 z) (some (.int 1), (wd_1364 z)) := by
  refine ru_of (k := 0) (M := pm_161) rfl rfl ?_
  refine go_seg 8 (pc' := 13) (ls' := [(0, .long 10), (2, .long 0), (4, .long 63)]) (st' := []) (w' := (wd_1364 z)) (cs' := 0) (ss' := 0) ?_ (fun _ _ => rfl)
  exact go_end 3 (fun _ _ => rfl)
theorem ro_1791 (z : pq_C) : pq_Ru 2 160 [.int 10] (wd_1364 z) (some (.int 1), (wd_1364 z)) := by
  refine ru_of (k := 1) (M := pm_160) rfl rfl ?_
  refine go_seg 4 (pc' := 6) (ls' := [(0, .int 10)]) (st' := [.long 63, .long 0, .long 10]) (w' := (wd_1364 z)) (cs' := 0) (ss' := 0) ?_ (fun _ _ => rfl)
  refine go_cl (k := 1) (st' := [.int 1]) (cs' := 0) (ss' := 0) rfl rfl rfl rfl rfl rfl rfl (ro_1790 z) ?_
  exact go_end 1 (fun _ _ => rfl)
def wd_1365 (z : pq_C) : pq_W := ((wd_1364 z).set 91 (.inl (.int, 2858, .inl (upd (upd (upd (upd (upd (upd (upd (upd (upd (upd (upd (upd (upd (upd (upd (upd (upd (upd (upd (upd (upd (upd (upd (upd (upd (upd (upd (upd (upd (upd (upd (upd (upd (upd (upd (upd (upd (upd (upd (upd (upd (upd (upd (upd (upd (upd (upd (upd (upd (upd (upd (upd (upd (upd (upd (upd (upd (upd (upd (upd (upd (upd (upd (upd (upd (upd (upd (upd (upd (upd (upd (upd (upd (upd (upd (upd (upd (upd (upd (upd (upd (upd (fun _ => 0) 1 10) 10 (-1)) 11 (-1)) 12 (-1)) 13 (-1)) 14 (-1)) 15 (-1)) 16 (-1)) 17 (-1)) 18 (-1)) 19 (-1)) 20 (-1)) 21 (-1)) 22 (-1)) 23 (-1)) 24 (-1)) 25 (-1)) 26 (-1)) 27 (-1)) 28 (-1)) 29 (-1)) 30 (-1)) 31 (-1)) 32 (-1)) 33 (-1)) 34 (-1)) 35 (-1)) 36 (-1)) 37 (-1)) 38 (-1)) 39 (-1)) 40 (-1)) 41 (-1)) 42 (-1)) 43 (-1)) 44 (-1)) 45 (-1)) 46 (-1)) 47 (-1)) 48 (-1)) 49 (-1)) 50 (-1)) 51 (-1)) 52 (-1)) 53 (-1)) 54 (-1)) 55 (-1)) 56 (-1)) 57 (-1)) 58 (-1)) 59 (-1)) 60 (-1)) 61 (-1)) 62 (-1)) 63 (-1)) 64 (-1)) 65 (-1)) 66 (-1)) 67 (-1)) 68 (-1)) 69 (-1)) 70 (-1)) 71 (-1)) 72 (-1)) 73 (-1)) 139 1000) 140 100) 145 1000) 146 100) 151 1000) 152 100) 157 1000) 158 100) 163 1000) 164 100) 169 1000) 170 100) 175 1000) 176 100) 181 1000) 182 100) 84 0))))
theorem ro_1792 (z : pq_C) : pq_Ru 3 165 [.ref 90, .int 10, .int 0] (wd_1364 z) (some (.int 0), (wd_1365 z)) := by
  refine ru_of (k := 2) (M := pm_165) rfl rfl ?_
  refine go_seg 1 (pc' := 1) (ls' := [(0, .ref 90), (1, .int 10), (2, .int 0)]) (st' := [.int 10]) (w' := (wd_1364 z)) (cs' := 0) (ss' := 0) ?_ (fun _ _ => rfl)
  refine go_cl (k := 2) (st' := [.int 1]) (cs' := 0) (ss' := 0) rfl rfl rfl rfl rfl rfl rfl (ro_1791 z) ?_
  refine go_seg 8 (pc' := 24) (ls' := [(0, .ref 90), (1, .int 10), (2, .int 0)]) (st' := [.int 0, .int 0]) (w' := (wd_1364 z)) (cs' := 0) (ss' := 0) ?_ (fun _ _ => rfl)
  refine go_seg 8 (pc' := 47) (ls' := [(3, .int 0), (0, .ref 90), (1, .int 10), (2, .int 0)]) (st' := [.int 74, .ref 91]) (w' := (wd_1364 z)) (cs' := 0) (ss' := 0) ?_ (fun _ _ => rfl)
  exact go_end 8 (fun _ _ => rfl)
theorem lf_2_1794 (a0 : Int32) (a3 : Int32) (a4 : Int32) (a5 : Int32) : ∃ w', pq_Go 20 pm_law 278 [(3, .int 0), (2, .ref 90), (1, .ref 1), (0, .ref 0)] [] (fw (sz a0 10 0 a3 a4 a5)) 109 12668 (some (.int 1), w') := by
  refine ⟨(wd_1365 (sz a0 10 0 a3 a4 a5)), ?_⟩
  refine go_seg 8 (pc' := 286) (ls' := [(3, .int 0), (2, .ref 90), (1, .ref 1), (0, .ref 0)]) (st' := [.int 0, .ref 0, .int 10, .ref 1]) (w' := (fw (sz a0 10 0 a3 a4 a5))) (cs' := 109) (ss' := 12668) ?_ (fun _ _ => rfl)
  refine go_seg 5 (pc' := 297) (ls' := [(3, .int 0), (2, .ref 90), (1, .ref 1), (0, .ref 0)]) (st' := [.int 0, .int 10, .ref 1]) (w' := (fw (sz a0 10 0 a3 a4 a5))) (cs' := 109) (ss' := 12668) ?_ (fun _ _ => rfl)
  refine go_cl (k := 20) (st' := [.int 0]) (cs' := 109) (ss' := 12668) rfl rfl rfl rfl rfl rfl rfl (ro_1789 (sz a0 10 0 a3 a4 a5)) ?_
  refine go_seg 8 (pc' := 308) (ls' := [(3, .int 0), (2, .ref 90), (1, .ref 1), (0, .ref 0)]) (st' := [.int 0, .ref 0, .int 10, .ref 90, .int 0]) (w' := (wd_1364 (sz a0 10 0 a3 a4 a5))) (cs' := 109) (ss' := 12668) ?_ (fun _ _ => rfl)
  refine go_seg 5 (pc' := 319) (ls' := [(3, .int 0), (2, .ref 90), (1, .ref 1), (0, .ref 0)]) (st' := [.int 0, .int 10, .ref 90, .int 0]) (w' := (wd_1364 (sz a0 10 0 a3 a4 a5))) (cs' := 109) (ss' := 12668) ?_ (fun _ _ => rfl)
  refine go_cl (k := 20) (st' := [.int 0, .int 0]) (cs' := 109) (ss' := 12668) rfl rfl rfl rfl rfl rfl rfl (ro_1792 (sz a0 10 0 a3 a4 a5)) ?_
  refine go_cmp true rfl (br_self _) ?_
  exact law_tail (f := sc a0 10 0 a3 a4 a5) rfl
def wd_1366 (z : pq_C) : pq_W := ((fw z).set 4 (.inl (.boolean, 64, .inl (upd (fun _ => 0) 11 0))))
theorem ro_1796 (z : pq_C) : pq_Ru 2 22 [.ref 1, .int 11, .int 0] (fw z) (some (.int 0), (wd_1366 z)) := by
  refine ru_of (k := 1) (M := pm_22) rfl rfl ?_
  refine go_seg 1 (pc' := 1) (ls' := [(0, .ref 1), (1, .int 11), (2, .int 0)]) (st' := [.int 11]) (w' := (fw z)) (cs' := 0) (ss' := 0) ?_ (fun _ _ => rfl)
  refine go_cl (k := 1) (st' := [.int 1]) (cs' := 0) (ss' := 0) rfl rfl rfl rfl rfl rfl rfl (ro_1281 z) ?_
  refine go_seg 8 (pc' := 24) (ls' := [(3, .int 0), (0, .ref 1), (1, .int 11), (2, .int 0)]) (st' := [.ref 1]) (w' := (fw z)) (cs' := 0) (ss' := 0) ?_ (fun _ _ => rfl)
  refine go_seg 8 (pc' := 38) (ls' := [(3, .int 0), (0, .ref 1), (1, .int 11), (2, .int 0)]) (st' := []) (w' := (wd_1366 z)) (cs' := 0) (ss' := 0) ?_ (fun _ _ => rfl)
  exact go_end 3 (fun _ _ => rfl)
theorem ro_1797 (z : pq_C) : pq_Ru 1 161 [.long 11, .long 0, .long 63] (wd_1366 z) (some (.int 1), (wd_1366 z)) := by
  refine ru_of (k := 0) (M := pm_161) rfl rfl ?_
  refine go_seg 8 (pc' := 13) (ls' := [(0, .long 11), (2, .long 0), (4, .long 63)]) (st' := []) (w' := (wd_1366 z)) (cs' := 0) (ss' := 0) ?_ (fun _ _ => rfl)
  exact go_end 3 (fun _ _ => rfl)
theorem ro_1798 (z : pq_C) : pq_Ru 2 160 [.int 11] (wd_1366 z) (some (.int 1), (wd_1366 z)) := by
  refine ru_of (k := 1) (M := pm_160) rfl rfl ?_
  refine go_seg 4 (pc' := 6) (ls' := [(0, .int 11)]) (st' := [.long 63, .long 0, .long 11]) (w' := (wd_1366 z)) (cs' := 0) (ss' := 0) ?_ (fun _ _ => rfl)
  refine go_cl (k := 1) (st' := [.int 1]) (cs' := 0) (ss' := 0) rfl rfl rfl rfl rfl rfl rfl (ro_1797 z) ?_
  exact go_end 1 (fun _ _ => rfl)
def wd_1367 (z : pq_C) : pq_W := ((wd_1366 z).set 91 (.inl (.int, 2858, .inl (upd (upd (upd (upd (upd (upd (upd (upd (upd (upd (upd (upd (upd (upd (upd (upd (upd (upd (upd (upd (upd (upd (upd (upd (upd (upd (upd (upd (upd (upd (upd (upd (upd (upd (upd (upd (upd (upd (upd (upd (upd (upd (upd (upd (upd (upd (upd (upd (upd (upd (upd (upd (upd (upd (upd (upd (upd (upd (upd (upd (upd (upd (upd (upd (upd (upd (upd (upd (upd (upd (upd (upd (upd (upd (upd (upd (upd (upd (upd (upd (upd (upd (fun _ => 0) 1 10) 10 (-1)) 11 (-1)) 12 (-1)) 13 (-1)) 14 (-1)) 15 (-1)) 16 (-1)) 17 (-1)) 18 (-1)) 19 (-1)) 20 (-1)) 21 (-1)) 22 (-1)) 23 (-1)) 24 (-1)) 25 (-1)) 26 (-1)) 27 (-1)) 28 (-1)) 29 (-1)) 30 (-1)) 31 (-1)) 32 (-1)) 33 (-1)) 34 (-1)) 35 (-1)) 36 (-1)) 37 (-1)) 38 (-1)) 39 (-1)) 40 (-1)) 41 (-1)) 42 (-1)) 43 (-1)) 44 (-1)) 45 (-1)) 46 (-1)) 47 (-1)) 48 (-1)) 49 (-1)) 50 (-1)) 51 (-1)) 52 (-1)) 53 (-1)) 54 (-1)) 55 (-1)) 56 (-1)) 57 (-1)) 58 (-1)) 59 (-1)) 60 (-1)) 61 (-1)) 62 (-1)) 63 (-1)) 64 (-1)) 65 (-1)) 66 (-1)) 67 (-1)) 68 (-1)) 69 (-1)) 70 (-1)) 71 (-1)) 72 (-1)) 73 (-1)) 139 1000) 140 100) 145 1000) 146 100) 151 1000) 152 100) 157 1000) 158 100) 163 1000) 164 100) 169 1000) 170 100) 175 1000) 176 100) 181 1000) 182 100) 85 0))))
theorem ro_1799 (z : pq_C) : pq_Ru 3 165 [.ref 90, .int 11, .int 0] (wd_1366 z) (some (.int 0), (wd_1367 z)) := by
  refine ru_of (k := 2) (M := pm_165) rfl rfl ?_
  refine go_seg 1 (pc' := 1) (ls' := [(0, .ref 90), (1, .int 11), (2, .int 0)]) (st' := [.int 11]) (w' := (wd_1366 z)) (cs' := 0) (ss' := 0) ?_ (fun _ _ => rfl)
  refine go_cl (k := 2) (st' := [.int 1]) (cs' := 0) (ss' := 0) rfl rfl rfl rfl rfl rfl rfl (ro_1798 z) ?_
  refine go_seg 8 (pc' := 24) (ls' := [(0, .ref 90), (1, .int 11), (2, .int 0)]) (st' := [.int 0, .int 0]) (w' := (wd_1366 z)) (cs' := 0) (ss' := 0) ?_ (fun _ _ => rfl)
  refine go_seg 8 (pc' := 47) (ls' := [(3, .int 0), (0, .ref 90), (1, .int 11), (2, .int 0)]) (st' := [.int 74, .ref 91]) (w' := (wd_1366 z)) (cs' := 0) (ss' := 0) ?_ (fun _ _ => rfl)
  exact go_end 8 (fun _ _ => rfl)
theorem lf_2_1801 (a0 : Int32) (a3 : Int32) (a4 : Int32) (a5 : Int32) : ∃ w', pq_Go 20 pm_law 278 [(3, .int 0), (2, .ref 90), (1, .ref 1), (0, .ref 0)] [] (fw (sz a0 11 0 a3 a4 a5)) 109 12668 (some (.int 1), w') := by
  refine ⟨(wd_1367 (sz a0 11 0 a3 a4 a5)), ?_⟩
  refine go_seg 8 (pc' := 286) (ls' := [(3, .int 0), (2, .ref 90), (1, .ref 1), (0, .ref 0)]) (st' := [.int 0, .ref 0, .int 11, .ref 1]) (w' := (fw (sz a0 11 0 a3 a4 a5))) (cs' := 109) (ss' := 12668) ?_ (fun _ _ => rfl)
  refine go_seg 5 (pc' := 297) (ls' := [(3, .int 0), (2, .ref 90), (1, .ref 1), (0, .ref 0)]) (st' := [.int 0, .int 11, .ref 1]) (w' := (fw (sz a0 11 0 a3 a4 a5))) (cs' := 109) (ss' := 12668) ?_ (fun _ _ => rfl)
  refine go_cl (k := 20) (st' := [.int 0]) (cs' := 109) (ss' := 12668) rfl rfl rfl rfl rfl rfl rfl (ro_1796 (sz a0 11 0 a3 a4 a5)) ?_
  refine go_seg 8 (pc' := 308) (ls' := [(3, .int 0), (2, .ref 90), (1, .ref 1), (0, .ref 0)]) (st' := [.int 0, .ref 0, .int 11, .ref 90, .int 0]) (w' := (wd_1366 (sz a0 11 0 a3 a4 a5))) (cs' := 109) (ss' := 12668) ?_ (fun _ _ => rfl)
  refine go_seg 5 (pc' := 319) (ls' := [(3, .int 0), (2, .ref 90), (1, .ref 1), (0, .ref 0)]) (st' := [.int 0, .int 11, .ref 90, .int 0]) (w' := (wd_1366 (sz a0 11 0 a3 a4 a5))) (cs' := 109) (ss' := 12668) ?_ (fun _ _ => rfl)
  refine go_cl (k := 20) (st' := [.int 0, .int 0]) (cs' := 109) (ss' := 12668) rfl rfl rfl rfl rfl rfl rfl (ro_1799 (sz a0 11 0 a3 a4 a5)) ?_
  refine go_cmp true rfl (br_self _) ?_
  exact law_tail (f := sc a0 11 0 a3 a4 a5) rfl
def wd_1368 (z : pq_C) : pq_W := ((fw z).set 4 (.inl (.boolean, 64, .inl (upd (fun _ => 0) 12 0))))
theorem ro_1803 (z : pq_C) : pq_Ru 2 22 [.ref 1, .int 12, .int 0] (fw z) (some (.int 0), (wd_1368 z)) := by
  refine ru_of (k := 1) (M := pm_22) rfl rfl ?_
  refine go_seg 1 (pc' := 1) (ls' := [(0, .ref 1), (1, .int 12), (2, .int 0)]) (st' := [.int 12]) (w' := (fw z)) (cs' := 0) (ss' := 0) ?_ (fun _ _ => rfl)
  refine go_cl (k := 1) (st' := [.int 1]) (cs' := 0) (ss' := 0) rfl rfl rfl rfl rfl rfl rfl (ro_1289 z) ?_
  refine go_seg 8 (pc' := 24) (ls' := [(3, .int 0), (0, .ref 1), (1, .int 12), (2, .int 0)]) (st' := [.ref 1]) (w' := (fw z)) (cs' := 0) (ss' := 0) ?_ (fun _ _ => rfl)
  refine go_seg 8 (pc' := 38) (ls' := [(3, .int 0), (0, .ref 1), (1, .int 12), (2, .int 0)]) (st' := []) (w' := (wd_1368 z)) (cs' := 0) (ss' := 0) ?_ (fun _ _ => rfl)
  exact go_end 3 (fun _ _ => rfl)
theorem ro_1804 (z : pq_C) : pq_Ru 1 161 [.long 12, .long 0, .long 63] (wd_1368 z) (some (.int 1), (wd_1368 z)) := by
  refine ru_of (k := 0) (M := pm_161) rfl rfl ?_
  refine go_seg 8 (pc' := 13) (ls' := [(0, .long 12), (2, .long 0), (4, .long 63)]) (st' := []) (w' := (wd_1368 z)) (cs' := 0) (ss' := 0) ?_ (fun _ _ => rfl)
  exact go_end 3 (fun _ _ => rfl)
theorem ro_1805 (z : pq_C) : pq_Ru 2 160 [.int 12] (wd_1368 z) (some (.int 1), (wd_1368 z)) := by
  refine ru_of (k := 1) (M := pm_160) rfl rfl ?_
  refine go_seg 4 (pc' := 6) (ls' := [(0, .int 12)]) (st' := [.long 63, .long 0, .long 12]) (w' := (wd_1368 z)) (cs' := 0) (ss' := 0) ?_ (fun _ _ => rfl)
  refine go_cl (k := 1) (st' := [.int 1]) (cs' := 0) (ss' := 0) rfl rfl rfl rfl rfl rfl rfl (ro_1804 z) ?_
  exact go_end 1 (fun _ _ => rfl)
def wd_1369 (z : pq_C) : pq_W := ((wd_1368 z).set 91 (.inl (.int, 2858, .inl (upd (upd (upd (upd (upd (upd (upd (upd (upd (upd (upd (upd (upd (upd (upd (upd (upd (upd (upd (upd (upd (upd (upd (upd (upd (upd (upd (upd (upd (upd (upd (upd (upd (upd (upd (upd (upd (upd (upd (upd (upd (upd (upd (upd (upd (upd (upd (upd (upd (upd (upd (upd (upd (upd (upd (upd (upd (upd (upd (upd (upd (upd (upd (upd (upd (upd (upd (upd (upd (upd (upd (upd (upd (upd (upd (upd (upd (upd (upd (upd (upd (upd (fun _ => 0) 1 10) 10 (-1)) 11 (-1)) 12 (-1)) 13 (-1)) 14 (-1)) 15 (-1)) 16 (-1)) 17 (-1)) 18 (-1)) 19 (-1)) 20 (-1)) 21 (-1)) 22 (-1)) 23 (-1)) 24 (-1)) 25 (-1)) 26 (-1)) 27 (-1)) 28 (-1)) 29 (-1)) 30 (-1)) 31 (-1)) 32 (-1)) 33 (-1)) 34 (-1)) 35 (-1)) 36 (-1)) 37 (-1)) 38 (-1)) 39 (-1)) 40 (-1)) 41 (-1)) 42 (-1)) 43 (-1)) 44 (-1)) 45 (-1)) 46 (-1)) 47 (-1)) 48 (-1)) 49 (-1)) 50 (-1)) 51 (-1)) 52 (-1)) 53 (-1)) 54 (-1)) 55 (-1)) 56 (-1)) 57 (-1)) 58 (-1)) 59 (-1)) 60 (-1)) 61 (-1)) 62 (-1)) 63 (-1)) 64 (-1)) 65 (-1)) 66 (-1)) 67 (-1)) 68 (-1)) 69 (-1)) 70 (-1)) 71 (-1)) 72 (-1)) 73 (-1)) 139 1000) 140 100) 145 1000) 146 100) 151 1000) 152 100) 157 1000) 158 100) 163 1000) 164 100) 169 1000) 170 100) 175 1000) 176 100) 181 1000) 182 100) 86 0))))
theorem ro_1806 (z : pq_C) : pq_Ru 3 165 [.ref 90, .int 12, .int 0] (wd_1368 z) (some (.int 0), (wd_1369 z)) := by
  refine ru_of (k := 2) (M := pm_165) rfl rfl ?_
  refine go_seg 1 (pc' := 1) (ls' := [(0, .ref 90), (1, .int 12), (2, .int 0)]) (st' := [.int 12]) (w' := (wd_1368 z)) (cs' := 0) (ss' := 0) ?_ (fun _ _ => rfl)
  refine go_cl (k := 2) (st' := [.int 1]) (cs' := 0) (ss' := 0) rfl rfl rfl rfl rfl rfl rfl (ro_1805 z) ?_
  refine go_seg 8 (pc' := 24) (ls' := [(0, .ref 90), (1, .int 12), (2, .int 0)]) (st' := [.int 0, .int 0]) (w' := (wd_1368 z)) (cs' := 0) (ss' := 0) ?_ (fun _ _ => rfl)
  refine go_seg 8 (pc' := 47) (ls' := [(3, .int 0), (0, .ref 90), (1, .int 12), (2, .int 0)]) (st' := [.int 74, .ref 91]) (w' := (wd_1368 z)) (cs' := 0) (ss' := 0) ?_ (fun _ _ => rfl)
  exact go_end 8 (fun _ _ => rfl)
theorem lf_2_1808 (a0 : Int32) (a3 : Int32) (a4 : Int32) (a5 : Int32) : ∃ w', pq_Go 20 pm_law 278 [(3, .int 0), (2, .ref 90), (1, .ref 1), (0, .ref 0)] [] (fw (sz a0 12 0 a3 a4 a5)) 109 12668 (some (.int 1), w') := by
  refine ⟨(wd_1369 (sz a0 12 0 a3 a4 a5)), ?_⟩
  refine go_seg 8 (pc' := 286) (ls' := [(3, .int 0), (2, .ref 90), (1, .ref 1), (0, .ref 0)]) (st' := [.int 0, .ref 0, .int 12, .ref 1]) (w' := (fw (sz a0 12 0 a3 a4 a5))) (cs' := 109) (ss' := 12668) ?_ (fun _ _ => rfl)
  refine go_seg 5 (pc' := 297) (ls' := [(3, .int 0), (2, .ref 90), (1, .ref 1), (0, .ref 0)]) (st' := [.int 0, .int 12, .ref 1]) (w' := (fw (sz a0 12 0 a3 a4 a5))) (cs' := 109) (ss' := 12668) ?_ (fun _ _ => rfl)
  refine go_cl (k := 20) (st' := [.int 0]) (cs' := 109) (ss' := 12668) rfl rfl rfl rfl rfl rfl rfl (ro_1803 (sz a0 12 0 a3 a4 a5)) ?_
  refine go_seg 8 (pc' := 308) (ls' := [(3, .int 0), (2, .ref 90), (1, .ref 1), (0, .ref 0)]) (st' := [.int 0, .ref 0, .int 12, .ref 90, .int 0]) (w' := (wd_1368 (sz a0 12 0 a3 a4 a5))) (cs' := 109) (ss' := 12668) ?_ (fun _ _ => rfl)
  refine go_seg 5 (pc' := 319) (ls' := [(3, .int 0), (2, .ref 90), (1, .ref 1), (0, .ref 0)]) (st' := [.int 0, .int 12, .ref 90, .int 0]) (w' := (wd_1368 (sz a0 12 0 a3 a4 a5))) (cs' := 109) (ss' := 12668) ?_ (fun _ _ => rfl)
  refine go_cl (k := 20) (st' := [.int 0, .int 0]) (cs' := 109) (ss' := 12668) rfl rfl rfl rfl rfl rfl rfl (ro_1806 (sz a0 12 0 a3 a4 a5)) ?_
  refine go_cmp true rfl (br_self _) ?_
  exact law_tail (f := sc a0 12 0 a3 a4 a5) rfl
def wd_1370 (z : pq_C) : pq_W := ((fw z).set 4 (.inl (.boolean, 64, .inl (upd (fun _ => 0) 13 0))))
theorem ro_1810 (z : pq_C) : pq_Ru 2 22 [.ref 1, .int 13, .int 0] (fw z) (some (.int 0), (wd_1370 z)) := by
  refine ru_of (k := 1) (M := pm_22) rfl rfl ?_
  refine go_seg 1 (pc' := 1) (ls' := [(0, .ref 1), (1, .int 13), (2, .int 0)]) (st' := [.int 13]) (w' := (fw z)) (cs' := 0) (ss' := 0) ?_ (fun _ _ => rfl)
  refine go_cl (k := 1) (st' := [.int 1]) (cs' := 0) (ss' := 0) rfl rfl rfl rfl rfl rfl rfl (ro_1297 z) ?_
  refine go_seg 8 (pc' := 24) (ls' := [(3, .int 0), (0, .ref 1), (1, .int 13), (2, .int 0)]) (st' := [.ref 1]) (w' := (fw z)) (cs' := 0) (ss' := 0) ?_ (fun _ _ => rfl)
  refine go_seg 8 (pc' := 38) (ls' := [(3, .int 0), (0, .ref 1), (1, .int 13), (2, .int 0)]) (st' := []) (w' := (wd_1370 z)) (cs' := 0) (ss' := 0) ?_ (fun _ _ => rfl)
  exact go_end 3 (fun _ _ => rfl)
theorem ro_1811 (z : pq_C) : pq_Ru 1 161 [.long 13, .long 0, .long 63] (wd_1370 z) (some (.int 1), (wd_1370 z)) := by
  refine ru_of (k := 0) (M := pm_161) rfl rfl ?_
  refine go_seg 8 (pc' := 13) (ls' := [(0, .long 13), (2, .long 0), (4, .long 63)]) (st' := []) (w' := (wd_1370 z)) (cs' := 0) (ss' := 0) ?_ (fun _ _ => rfl)
  exact go_end 3 (fun _ _ => rfl)
theorem ro_1812 (z : pq_C) : pq_Ru 2 160 [.int 13] (wd_1370 z) (some (.int 1), (wd_1370 z)) := by
  refine ru_of (k := 1) (M := pm_160) rfl rfl ?_
  refine go_seg 4 (pc' := 6) (ls' := [(0, .int 13)]) (st' := [.long 63, .long 0, .long 13]) (w' := (wd_1370 z)) (cs' := 0) (ss' := 0) ?_ (fun _ _ => rfl)
  refine go_cl (k := 1) (st' := [.int 1]) (cs' := 0) (ss' := 0) rfl rfl rfl rfl rfl rfl rfl (ro_1811 z) ?_
  exact go_end 1 (fun _ _ => rfl)
def wd_1371 (z : pq_C) : pq_W := ((wd_1370 z).set 91 (.inl (.int, 2858, .inl (upd (upd (upd (upd (upd (upd (upd (upd (upd (upd (upd (upd (upd (upd (upd (upd (upd (upd (upd (upd (upd (upd (upd (upd (upd (upd (upd (upd (upd (upd (upd (upd (upd (upd (upd (upd (upd (upd (upd (upd (upd (upd (upd (upd (upd (upd (upd (upd (upd (upd (upd (upd (upd (upd (upd (upd (upd (upd (upd (upd (upd (upd (upd (upd (upd (upd (upd (upd (upd (upd (upd (upd (upd (upd (upd (upd (upd (upd (upd (upd (upd (upd (fun _ => 0) 1 10) 10 (-1)) 11 (-1)) 12 (-1)) 13 (-1)) 14 (-1)) 15 (-1)) 16 (-1)) 17 (-1)) 18 (-1)) 19 (-1)) 20 (-1)) 21 (-1)) 22 (-1)) 23 (-1)) 24 (-1)) 25 (-1)) 26 (-1)) 27 (-1)) 28 (-1)) 29 (-1)) 30 (-1)) 31 (-1)) 32 (-1)) 33 (-1)) 34 (-1)) 35 (-1)) 36 (-1)) 37 (-1)) 38 (-1)) 39 (-1)) 40 (-1)) 41 (-1)) 42 (-1)) 43 (-1)) 44 (-1)) 45 (-1)) 46 (-1)) 47 (-1)) 48 (-1)) 49 (-1)) 50 (-1)) 51 (-1)) 52 (-1)) 53 (-1)) 54 (-1)) 55 (-1)) 56 (-1)) 57 (-1)) 58 (-1)) 59 (-1)) 60 (-1)) 61 (-1)) 62 (-1)) 63 (-1)) 64 (-1)) 65 (-1)) 66 (-1)) 67 (-1)) 68 (-1)) 69 (-1)) 70 (-1)) 71 (-1)) 72 (-1)) 73 (-1)) 139 1000) 140 100) 145 1000) 146 100) 151 1000) 152 100) 157 1000) 158 100) 163 1000) 164 100) 169 1000) 170 100) 175 1000) 176 100) 181 1000) 182 100) 87 0))))
theorem ro_1813 (z : pq_C) : pq_Ru 3 165 [.ref 90, .int 13, .int 0] (wd_1370 z) (some (.int 0), (wd_1371 z)) := by
  refine ru_of (k := 2) (M := pm_165) rfl rfl ?_
  refine go_seg 1 (pc' := 1) (ls' := [(0, .ref 90), (1, .int 13), (2, .int 0)]) (st' := [.int 13]) (w' := (wd_1370 z)) (cs' := 0) (ss' := 0) ?_ (fun _ _ => rfl)
  refine go_cl (k := 2) (st' := [.int 1]) (cs' := 0) (ss' := 0) rfl rfl rfl rfl rfl rfl rfl (ro_1812 z) ?_
  refine go_seg 8 (pc' := 24) (ls' := [(0, .ref 90), (1, .int 13), (2, .int 0)]) (st' := [.int 0, .int 0]) (w' := (wd_1370 z)) (cs' := 0) (ss' := 0) ?_ (fun _ _ => rfl)
  refine go_seg 8 (pc' := 47) (ls' := [(3, .int 0), (0, .ref 90), (1, .int 13), (2, .int 0)]) (st' := [.int 74, .ref 91]) (w' := (wd_1370 z)) (cs' := 0) (ss' := 0) ?_ (fun _ _ => rfl)
  exact go_end 8 (fun _ _ => rfl)
theorem lf_2_1815 (a0 : Int32) (a3 : Int32) (a4 : Int32) (a5 : Int32) : ∃ w', pq_Go 20 pm_law 278 [(3, .int 0), (2, .ref 90), (1, .ref 1), (0, .ref 0)] [] (fw (sz a0 13 0 a3 a4 a5)) 109 12668 (some (.int 1), w') := by
  refine ⟨(wd_1371 (sz a0 13 0 a3 a4 a5)), ?_⟩
  refine go_seg 8 (pc' := 286) (ls' := [(3, .int 0), (2, .ref 90), (1, .ref 1), (0, .ref 0)]) (st' := [.int 0, .ref 0, .int 13, .ref 1]) (w' := (fw (sz a0 13 0 a3 a4 a5))) (cs' := 109) (ss' := 12668) ?_ (fun _ _ => rfl)
  refine go_seg 5 (pc' := 297) (ls' := [(3, .int 0), (2, .ref 90), (1, .ref 1), (0, .ref 0)]) (st' := [.int 0, .int 13, .ref 1]) (w' := (fw (sz a0 13 0 a3 a4 a5))) (cs' := 109) (ss' := 12668) ?_ (fun _ _ => rfl)
  refine go_cl (k := 20) (st' := [.int 0]) (cs' := 109) (ss' := 12668) rfl rfl rfl rfl rfl rfl rfl (ro_1810 (sz a0 13 0 a3 a4 a5)) ?_
  refine go_seg 8 (pc' := 308) (ls' := [(3, .int 0), (2, .ref 90), (1, .ref 1), (0, .ref 0)]) (st' := [.int 0, .ref 0, .int 13, .ref 90, .int 0]) (w' := (wd_1370 (sz a0 13 0 a3 a4 a5))) (cs' := 109) (ss' := 12668) ?_ (fun _ _ => rfl)
  refine go_seg 5 (pc' := 319) (ls' := [(3, .int 0), (2, .ref 90), (1, .ref 1), (0, .ref 0)]) (st' := [.int 0, .int 13, .ref 90, .int 0]) (w' := (wd_1370 (sz a0 13 0 a3 a4 a5))) (cs' := 109) (ss' := 12668) ?_ (fun _ _ => rfl)
  refine go_cl (k := 20) (st' := [.int 0, .int 0]) (cs' := 109) (ss' := 12668) rfl rfl rfl rfl rfl rfl rfl (ro_1813 (sz a0 13 0 a3 a4 a5)) ?_
  refine go_cmp true rfl (br_self _) ?_
  exact law_tail (f := sc a0 13 0 a3 a4 a5) rfl
def wd_1372 (z : pq_C) : pq_W := ((fw z).set 4 (.inl (.boolean, 64, .inl (upd (fun _ => 0) 14 0))))
theorem ro_1817 (z : pq_C) : pq_Ru 2 22 [.ref 1, .int 14, .int 0] (fw z) (some (.int 0), (wd_1372 z)) := by
  refine ru_of (k := 1) (M := pm_22) rfl rfl ?_
  refine go_seg 1 (pc' := 1) (ls' := [(0, .ref 1), (1, .int 14), (2, .int 0)]) (st' := [.int 14]) (w' := (fw z)) (cs' := 0) (ss' := 0) ?_ (fun _ _ => rfl)
  refine go_cl (k := 1) (st' := [.int 1]) (cs' := 0) (ss' := 0) rfl rfl rfl rfl rfl rfl rfl (ro_1305 z) ?_
  refine go_seg 8 (pc' := 24) (ls' := [(3, .int 0), (0, .ref 1), (1, .int 14), (2, .int 0)]) (st' := [.ref 1]) (w' := (fw z)) (cs' := 0) (ss' := 0) ?_ (fun _ _ => rfl)
  refine go_seg 8 (pc' := 38) (ls' := [(3, .int 0), (0, .ref 1), (1, .int 14), (2, .int 0)]) (st' := []) (w' := (wd_1372 z)) (cs' := 0) (ss' := 0) ?_ (fun _ _ => rfl)
  exact go_end 3 (fun _ _ => rfl)
theorem ro_1818 (z : pq_C) : pq_Ru 1 161 [.long 14, .long 0, .long 63] (wd_1372 z) (some (.int 1), (wd_1372 z)) := by
  refine ru_of (k := 0) (M := pm_161) rfl rfl ?_
  refine go_seg 8 (pc' := 13) (ls' := [(0, .long 14), (2, .long 0), (4, .long 63)]) (st' := []) (w' := (wd_1372 z)) (cs' := 0) (ss' := 0) ?_ (fun _ _ => rfl)
  exact go_end 3 (fun _ _ => rfl)
theorem ro_1819 (z : pq_C) : pq_Ru 2 160 [.int 14] (wd_1372 z) (some (.int 1), (wd_1372 z)) := by
  refine ru_of (k := 1) (M := pm_160) rfl rfl ?_
  refine go_seg 4 (pc' := 6) (ls' := [(0, .int 14)]) (st' := [.long 63, .long 0, .long 14]) (w' := (wd_1372 z)) (cs' := 0) (ss' := 0) ?_ (fun _ _ => rfl)
  refine go_cl (k := 1) (st' := [.int 1]) (cs' := 0) (ss' := 0) rfl rfl rfl rfl rfl rfl rfl (ro_1818 z) ?_
  exact go_end 1 (fun _ _ => rfl)
def wd_1373 (z : pq_C) : pq_W := ((wd_1372 z).set 91 (.inl (.int, 2858, .inl (upd (upd (upd (upd (upd (upd (upd (upd (upd (upd (upd (upd (upd (upd (upd (upd (upd (upd (upd (upd (upd (upd (upd (upd (upd (upd (upd (upd (upd (upd (upd (upd (upd (upd (upd (upd (upd (upd (upd (upd (upd (upd (upd (upd (upd (upd (upd (upd (upd (upd (upd (upd (upd (upd (upd (upd (upd (upd (upd (upd (upd (upd (upd (upd (upd (upd (upd (upd (upd (upd (upd (upd (upd (upd (upd (upd (upd (upd (upd (upd (upd (upd (fun _ => 0) 1 10) 10 (-1)) 11 (-1)) 12 (-1)) 13 (-1)) 14 (-1)) 15 (-1)) 16 (-1)) 17 (-1)) 18 (-1)) 19 (-1)) 20 (-1)) 21 (-1)) 22 (-1)) 23 (-1)) 24 (-1)) 25 (-1)) 26 (-1)) 27 (-1)) 28 (-1)) 29 (-1)) 30 (-1)) 31 (-1)) 32 (-1)) 33 (-1)) 34 (-1)) 35 (-1)) 36 (-1)) 37 (-1)) 38 (-1)) 39 (-1)) 40 (-1)) 41 (-1)) 42 (-1)) 43 (-1)) 44 (-1)) 45 (-1)) 46 (-1)) 47 (-1)) 48 (-1)) 49 (-1)) 50 (-1)) 51 (-1)) 52 (-1)) 53 (-1)) 54 (-1)) 55 (-1)) 56 (-1)) 57 (-1)) 58 (-1)) 59 (-1)) 60 (-1)) 61 (-1)) 62 (-1)) 63 (-1)) 64 (-1)) 65 (-1)) 66 (-1)) 67 (-1)) 68 (-1)) 69 (-1)) 70 (-1)) 71 (-1)) 72 (-1)) 73 (-1)) 139 1000) 140 100) 145 1000) 146 100) 151 1000) 152 100) 157 1000) 158 100) 163 1000) 164 100) 169 1000) 170 100) 175 1000) 176 100) 181 1000) 182 100) 88 0))))
theorem ro_1820 (z : pq_C) : pq_Ru 3 165 [.ref 90, .int 14, .int 0] (wd_1372 z) (some (.int 0), (wd_1373 z)) := by
  refine ru_of (k := 2) (M := pm_165) rfl rfl ?_
  refine go_seg 1 (pc' := 1) (ls' := [(0, .ref 90), (1, .int 14), (2, .int 0)]) (st' := [.int 14]) (w' := (wd_1372 z)) (cs' := 0) (ss' := 0) ?_ (fun _ _ => rfl)
  refine go_cl (k := 2) (st' := [.int 1]) (cs' := 0) (ss' := 0) rfl rfl rfl rfl rfl rfl rfl (ro_1819 z) ?_
  refine go_seg 8 (pc' := 24) (ls' := [(0, .ref 90), (1, .int 14), (2, .int 0)]) (st' := [.int 0, .int 0]) (w' := (wd_1372 z)) (cs' := 0) (ss' := 0) ?_ (fun _ _ => rfl)
  refine go_seg 8 (pc' := 47) (ls' := [(3, .int 0), (0, .ref 90), (1, .int 14), (2, .int 0)]) (st' := [.int 74, .ref 91]) (w' := (wd_1372 z)) (cs' := 0) (ss' := 0) ?_ (fun _ _ => rfl)
  exact go_end 8 (fun _ _ => rfl)
theorem lf_2_1822 (a0 : Int32) (a3 : Int32) (a4 : Int32) (a5 : Int32) : ∃ w', pq_Go 20 pm_law 278 [(3, .int 0), (2, .ref 90), (1, .ref 1), (0, .ref 0)] [] (fw (sz a0 14 0 a3 a4 a5)) 109 12668 (some (.int 1), w') := by
  refine ⟨(wd_1373 (sz a0 14 0 a3 a4 a5)), ?_⟩
  refine go_seg 8 (pc' := 286) (ls' := [(3, .int 0), (2, .ref 90), (1, .ref 1), (0, .ref 0)]) (st' := [.int 0, .ref 0, .int 14, .ref 1]) (w' := (fw (sz a0 14 0 a3 a4 a5))) (cs' := 109) (ss' := 12668) ?_ (fun _ _ => rfl)
  refine go_seg 5 (pc' := 297) (ls' := [(3, .int 0), (2, .ref 90), (1, .ref 1), (0, .ref 0)]) (st' := [.int 0, .int 14, .ref 1]) (w' := (fw (sz a0 14 0 a3 a4 a5))) (cs' := 109) (ss' := 12668) ?_ (fun _ _ => rfl)
  refine go_cl (k := 20) (st' := [.int 0]) (cs' := 109) (ss' := 12668) rfl rfl rfl rfl rfl rfl rfl (ro_1817 (sz a0 14 0 a3 a4 a5)) ?_
  refine go_seg 8 (pc' := 308) (ls' := [(3, .int 0), (2, .ref 90), (1, .ref 1), (0, .ref 0)]) (st' := [.int 0, .ref 0, .int 14, .ref 90, .int 0]) (w' := (wd_1372 (sz a0 14 0 a3 a4 a5))) (cs' := 109) (ss' := 12668) ?_ (fun _ _ => rfl)
  refine go_seg 5 (pc' := 319) (ls' := [(3, .int 0), (2, .ref 90), (1, .ref 1), (0, .ref 0)]) (st' := [.int 0, .int 14, .ref 90, .int 0]) (w' := (wd_1372 (sz a0 14 0 a3 a4 a5))) (cs' := 109) (ss' := 12668) ?_ (fun _ _ => rfl)
  refine go_cl (k := 20) (st' := [.int 0, .int 0]) (cs' := 109) (ss' := 12668) rfl rfl rfl rfl rfl rfl rfl (ro_1820 (sz a0 14 0 a3 a4 a5)) ?_
  refine go_cmp true rfl (br_self _) ?_
  exact law_tail (f := sc a0 14 0 a3 a4 a5) rfl
def wd_1374 (z : pq_C) : pq_W := ((fw z).set 4 (.inl (.boolean, 64, .inl (upd (fun _ => 0) 15 0))))
theorem ro_1824 (z : pq_C) : pq_Ru 2 22 [.ref 1, .int 15, .int 0] (fw z) (some (.int 0), (wd_1374 z)) := by
  refine ru_of (k := 1) (M := pm_22) rfl rfl ?_
  refine go_seg 1 (pc' := 1) (ls' := [(0, .ref 1), (1, .int 15), (2, .int 0)]) (st' := [.int 15]) (w' := (fw z)) (cs' := 0) (ss' := 0) ?_ (fun _ _ => rfl)
  refine go_cl (k := 1) (st' := [.int 1]) (cs' := 0) (ss' := 0) rfl rfl rfl rfl rfl rfl rfl (ro_1313 z) ?_
  refine go_seg 8 (pc' := 24) (ls' := [(3, .int 0), (0, .ref 1), (1, .int 15), (2, .int 0)]) (st' := [.ref 1]) (w' := (fw z)) (cs' := 0) (ss' := 0) ?_ (fun _ _ => rfl)
  refine go_seg 8 (pc' := 38) (ls' := [(3, .int 0), (0, .ref 1), (1, .int 15), (2, .int 0)]) (st' := []) (w' := (wd_1374 z)) (cs' := 0) (ss' := 0) ?_ (fun _ _ => rfl)
  exact go_end 3 (fun _ _ => rfl)
theorem ro_1825 (z : pq_C) : pq_Ru 1 161 [.long 15, .long 0, .long 63] (wd_1374 z) (some (.int 1), (wd_1374 z)) := by
  refine ru_of (k := 0) (M := pm_161) rfl rfl ?_
  refine go_seg 8 (pc' := 13) (ls' := [(0, .long 15), (2, .long 0), (4, .long 63)]) (st' := []) (w' := (wd_1374 z)) (cs' := 0) (ss' := 0) ?_ (fun _ _ => rfl)
  exact go_end 3 (fun _ _ => rfl)
theorem ro_1826 (z : pq_C) : pq_Ru 2 160 [.int 15] (wd_1374 z) (some (.int 1), (wd_1374 z)) := by
  refine ru_of (k := 1) (M := pm_160) rfl rfl ?_
  refine go_seg 4 (pc' := 6) (ls' := [(0, .int 15)]) (st' := [.long 63, .long 0, .long 15]) (w' := (wd_1374 z)) (cs' := 0) (ss' := 0) ?_ (fun _ _ => rfl)
  refine go_cl (k := 1) (st' := [.int 1]) (cs' := 0) (ss' := 0) rfl rfl rfl rfl rfl rfl rfl (ro_1825 z) ?_
  exact go_end 1 (fun _ _ => rfl)
def wd_1375 (z : pq_C) : pq_W := ((wd_1374 z).set 91 (.inl (.int, 2858, .inl (upd (upd (upd (upd (upd (upd (upd (upd (upd (upd (upd (upd (upd (upd (upd (upd (upd (upd (upd (upd (upd (upd (upd (upd (upd (upd (upd (upd (upd (upd (upd (upd (upd (upd (upd (upd (upd (upd (upd (upd (upd (upd (upd (upd (upd (upd (upd (upd (upd (upd (upd (upd (upd (upd (upd (upd (upd (upd (upd (upd (upd (upd (upd (upd (upd (upd (upd (upd (upd (upd (upd (upd (upd (upd (upd (upd (upd (upd (upd (upd (upd (upd (fun _ => 0) 1 10) 10 (-1)) 11 (-1)) 12 (-1)) 13 (-1)) 14 (-1)) 15 (-1)) 16 (-1)) 17 (-1)) 18 (-1)) 19 (-1)) 20 (-1)) 21 (-1)) 22 (-1)) 23 (-1)) 24 (-1)) 25 (-1)) 26 (-1)) 27 (-1)) 28 (-1)) 29 (-1)) 30 (-1)) 31 (-1)) 32 (-1)) 33 (-1)) 34 (-1)) 35 (-1)) 36 (-1)) 37 (-1)) 38 (-1)) 39 (-1)) 40 (-1)) 41 (-1)) 42 (-1)) 43 (-1)) 44 (-1)) 45 (-1)) 46 (-1)) 47 (-1)) 48 (-1)) 49 (-1)) 50 (-1)) 51 (-1)) 52 (-1)) 53 (-1)) 54 (-1)) 55 (-1)) 56 (-1)) 57 (-1)) 58 (-1)) 59 (-1)) 60 (-1)) 61 (-1)) 62 (-1)) 63 (-1)) 64 (-1)) 65 (-1)) 66 (-1)) 67 (-1)) 68 (-1)) 69 (-1)) 70 (-1)) 71 (-1)) 72 (-1)) 73 (-1)) 139 1000) 140 100) 145 1000) 146 100) 151 1000) 152 100) 157 1000) 158 100) 163 1000) 164 100) 169 1000) 170 100) 175 1000) 176 100) 181 1000) 182 100) 89 0))))
theorem ro_1827 (z : pq_C) : pq_Ru 3 165 [.ref 90, .int 15, .int 0] (wd_1374 z) (some (.int 0), (wd_1375 z)) := by
  refine ru_of (k := 2) (M := pm_165) rfl rfl ?_
  refine go_seg 1 (pc' := 1) (ls' := [(0, .ref 90), (1, .int 15), (2, .int 0)]) (st' := [.int 15]) (w' := (wd_1374 z)) (cs' := 0) (ss' := 0) ?_ (fun _ _ => rfl)
  refine go_cl (k := 2) (st' := [.int 1]) (cs' := 0) (ss' := 0) rfl rfl rfl rfl rfl rfl rfl (ro_1826 z) ?_
  refine go_seg 8 (pc' := 24) (ls' := [(0, .ref 90), (1, .int 15), (2, .int 0)]) (st' := [.int 0, .int 0]) (w' := (wd_1374 z)) (cs' := 0) (ss' := 0) ?_ (fun _ _ => rfl)
  refine go_seg 8 (pc' := 47) (ls' := [(3, .int 0), (0, .ref 90), (1, .int 15), (2, .int 0)]) (st' := [.int 74, .ref 91]) (w' := (wd_1374 z)) (cs' := 0) (ss' := 0) ?_ (fun _ _ => rfl)
  exact go_end 8 (fun _ _ => rfl)
theorem lf_2_1829 (a0 : Int32) (a3 : Int32) (a4 : Int32) (a5 : Int32) : ∃ w', pq_Go 20 pm_law 278 [(3, .int 0), (2, .ref 90), (1, .ref 1), (0, .ref 0)] [] (fw (sz a0 15 0 a3 a4 a5)) 109 12668 (some (.int 1), w') := by
  refine ⟨(wd_1375 (sz a0 15 0 a3 a4 a5)), ?_⟩
  refine go_seg 8 (pc' := 286) (ls' := [(3, .int 0), (2, .ref 90), (1, .ref 1), (0, .ref 0)]) (st' := [.int 0, .ref 0, .int 15, .ref 1]) (w' := (fw (sz a0 15 0 a3 a4 a5))) (cs' := 109) (ss' := 12668) ?_ (fun _ _ => rfl)
  refine go_seg 5 (pc' := 297) (ls' := [(3, .int 0), (2, .ref 90), (1, .ref 1), (0, .ref 0)]) (st' := [.int 0, .int 15, .ref 1]) (w' := (fw (sz a0 15 0 a3 a4 a5))) (cs' := 109) (ss' := 12668) ?_ (fun _ _ => rfl)
  refine go_cl (k := 20) (st' := [.int 0]) (cs' := 109) (ss' := 12668) rfl rfl rfl rfl rfl rfl rfl (ro_1824 (sz a0 15 0 a3 a4 a5)) ?_
  refine go_seg 8 (pc' := 308) (ls' := [(3, .int 0), (2, .ref 90), (1, .ref 1), (0, .ref 0)]) (st' := [.int 0, .ref 0, .int 15, .ref 90, .int 0]) (w' := (wd_1374 (sz a0 15 0 a3 a4 a5))) (cs' := 109) (ss' := 12668) ?_ (fun _ _ => rfl)
  refine go_seg 5 (pc' := 319) (ls' := [(3, .int 0), (2, .ref 90), (1, .ref 1), (0, .ref 0)]) (st' := [.int 0, .int 15, .ref 90, .int 0]) (w' := (wd_1374 (sz a0 15 0 a3 a4 a5))) (cs' := 109) (ss' := 12668) ?_ (fun _ _ => rfl)
  refine go_cl (k := 20) (st' := [.int 0, .int 0]) (cs' := 109) (ss' := 12668) rfl rfl rfl rfl rfl rfl rfl (ro_1827 (sz a0 15 0 a3 a4 a5)) ?_
  refine go_cmp true rfl (br_self _) ?_
  exact law_tail (f := sc a0 15 0 a3 a4 a5) rfl
def wd_1376 (z : pq_C) : pq_W := ((fw z).set 4 (.inl (.boolean, 64, .inl (upd (fun _ => 0) 16 0))))
theorem ro_1831 (z : pq_C) : pq_Ru 2 22 [.ref 1, .int 16, .int 0] (fw z) (some (.int 0), (wd_1376 z)) := by
  refine ru_of (k := 1) (M := pm_22) rfl rfl ?_
  refine go_seg 1 (pc' := 1) (ls' := [(0, .ref 1), (1, .int 16), (2, .int 0)]) (st' := [.int 16]) (w' := (fw z)) (cs' := 0) (ss' := 0) ?_ (fun _ _ => rfl)
  refine go_cl (k := 1) (st' := [.int 1]) (cs' := 0) (ss' := 0) rfl rfl rfl rfl rfl rfl rfl (ro_1321 z) ?_
  refine go_seg 8 (pc' := 24) (ls' := [(3, .int 0), (0, .ref 1), (1, .int 16), (2, .int 0)]) (st' := [.ref 1]) (w' := (fw z)) (cs' := 0) (ss' := 0) ?_ (fun _ _ => rfl)
  refine go_seg 8 (pc' := 38) (ls' := [(3, .int 0), (0, .ref 1), (1, .int 16), (2, .int 0)]) (st' := []) (w' := (wd_1376 z)) (cs' := 0) (ss' := 0) ?_ (fun _ _ => rfl)
  exact go_end 3 (fun _ _ => rfl)
theorem ro_1832 (z : pq_C) : pq_Ru 1 161 [.long 16, .long 0, .long 63] (wd_1376 z) (some (.int 1), (wd_1376 z)) := by
  refine ru_of (k := 0) (M := pm_161) rfl rfl ?_
  refine go_seg 8 (pc' := 13) (ls' := [(0, .long 16), (2, .long 0), (4, .long 63)]) (st' := []) (w' := (wd_1376 z)) (cs' := 0) (ss' := 0) ?_ (fun _ _ => rfl)
  exact go_end 3 (fun _ _ => rfl)
theorem ro_1833 (z : pq_C) : pq_Ru 2 160 [.int 16] (wd_1376 z) (some (.int 1), (wd_1376 z)) := by
  refine ru_of (k := 1) (M := pm_160) rfl rfl ?_
  refine go_seg 4 (pc' := 6) (ls' := [(0, .int 16)]) (st' := [.long 63, .long 0, .long 16]) (w' := (wd_1376 z)) (cs' := 0) (ss' := 0) ?_ (fun _ _ => rfl)
  refine go_cl (k := 1) (st' := [.int 1]) (cs' := 0) (ss' := 0) rfl rfl rfl rfl rfl rfl rfl (ro_1832 z) ?_
  exact go_end 1 (fun _ _ => rfl)
def wd_1377 (z : pq_C) : pq_W := ((wd_1376 z).set 91 (.inl (.int, 2858, .inl (upd (upd (upd (upd (upd (upd (upd (upd (upd (upd (upd (upd (upd (upd (upd (upd (upd (upd (upd (upd (upd (upd (upd (upd (upd (upd (upd (upd (upd (upd (upd (upd (upd (upd (upd (upd (upd (upd (upd (upd (upd (upd (upd (upd (upd (upd (upd (upd (upd (upd (upd (upd (upd (upd (upd (upd (upd (upd (upd (upd (upd (upd (upd (upd (upd (upd (upd (upd (upd (upd (upd (upd (upd (upd (upd (upd (upd (upd (upd (upd (upd (upd (fun _ => 0) 1 10) 10 (-1)) 11 (-1)) 12 (-1)) 13 (-1)) 14 (-1)) 15 (-1)) 16 (-1)) 17 (-1)) 18 (-1)) 19 (-1)) 20 (-1)) 21 (-1)) 22 (-1)) 23 (-1)) 24 (-1)) 25 (-1)) 26 (-1)) 27 (-1)) 28 (-1)) 29 (-1)) 30 (-1)) 31 (-1)) 32 (-1)) 33 (-1)) 34 (-1)) 35 (-1)) 36 (-1)) 37 (-1)) 38 (-1)) 39 (-1)) 40 (-1)) 41 (-1)) 42 (-1)) 43 (-1)) 44 (-1)) 45 (-1)) 46 (-1)) 47 (-1)) 48 (-1)) 49 (-1)) 50 (-1)) 51 (-1)) 52 (-1)) 53 (-1)) 54 (-1)) 55 (-1)) 56 (-1)) 57 (-1)) 58 (-1)) 59 (-1)) 60 (-1)) 61 (-1)) 62 (-1)) 63 (-1)) 64 (-1)) 65 (-1)) 66 (-1)) 67 (-1)) 68 (-1)) 69 (-1)) 70 (-1)) 71 (-1)) 72 (-1)) 73 (-1)) 139 1000) 140 100) 145 1000) 146 100) 151 1000) 152 100) 157 1000) 158 100) 163 1000) 164 100) 169 1000) 170 100) 175 1000) 176 100) 181 1000) 182 100) 90 0))))
theorem ro_1834 (z : pq_C) : pq_Ru 3 165 [.ref 90, .int 16, .int 0] (wd_1376 z) (some (.int 0), (wd_1377 z)) := by
  refine ru_of (k := 2) (M := pm_165) rfl rfl ?_
  refine go_seg 1 (pc' := 1) (ls' := [(0, .ref 90), (1, .int 16), (2, .int 0)]) (st' := [.int 16]) (w' := (wd_1376 z)) (cs' := 0) (ss' := 0) ?_ (fun _ _ => rfl)
  refine go_cl (k := 2) (st' := [.int 1]) (cs' := 0) (ss' := 0) rfl rfl rfl rfl rfl rfl rfl (ro_1833 z) ?_
  refine go_seg 8 (pc' := 24) (ls' := [(0, .ref 90), (1, .int 16), (2, .int 0)]) (st' := [.int 0, .int 0]) (w' := (wd_1376 z)) (cs' := 0) (ss' := 0) ?_ (fun _ _ => rfl)
  refine go_seg 8 (pc' := 47) (ls' := [(3, .int 0), (0, .ref 90), (1, .int 16), (2, .int 0)]) (st' := [.int 74, .ref 91]) (w' := (wd_1376 z)) (cs' := 0) (ss' := 0) ?_ (fun _ _ => rfl)
  exact go_end 8 (fun _ _ => rfl)
theorem lf_2_1836 (a0 : Int32) (a3 : Int32) (a4 : Int32) (a5 : Int32) : ∃ w', pq_Go 20 pm_law 278 [(3, .int 0), (2, .ref 90), (1, .ref 1), (0, .ref 0)] [] (fw (sz a0 16 0 a3 a4 a5)) 109 12668 (some (.int 1), w') := by
  refine ⟨(wd_1377 (sz a0 16 0 a3 a4 a5)), ?_⟩
  refine go_seg 8 (pc' := 286) (ls' := [(3, .int 0), (2, .ref 90), (1, .ref 1), (0, .ref 0)]) (st' := [.int 0, .ref 0, .int 16, .ref 1]) (w' := (fw (sz a0 16 0 a3 a4 a5))) (cs' := 109) (ss' := 12668) ?_ (fun _ _ => rfl)
  refine go_seg 5 (pc' := 297) (ls' := [(3, .int 0), (2, .ref 90), (1, .ref 1), (0, .ref 0)]) (st' := [.int 0, .int 16, .ref 1]) (w' := (fw (sz a0 16 0 a3 a4 a5))) (cs' := 109) (ss' := 12668) ?_ (fun _ _ => rfl)
  refine go_cl (k := 20) (st' := [.int 0]) (cs' := 109) (ss' := 12668) rfl rfl rfl rfl rfl rfl rfl (ro_1831 (sz a0 16 0 a3 a4 a5)) ?_
  refine go_seg 8 (pc' := 308) (ls' := [(3, .int 0), (2, .ref 90), (1, .ref 1), (0, .ref 0)]) (st' := [.int 0, .ref 0, .int 16, .ref 90, .int 0]) (w' := (wd_1376 (sz a0 16 0 a3 a4 a5))) (cs' := 109) (ss' := 12668) ?_ (fun _ _ => rfl)
  refine go_seg 5 (pc' := 319) (ls' := [(3, .int 0), (2, .ref 90), (1, .ref 1), (0, .ref 0)]) (st' := [.int 0, .int 16, .ref 90, .int 0]) (w' := (wd_1376 (sz a0 16 0 a3 a4 a5))) (cs' := 109) (ss' := 12668) ?_ (fun _ _ => rfl)
  refine go_cl (k := 20) (st' := [.int 0, .int 0]) (cs' := 109) (ss' := 12668) rfl rfl rfl rfl rfl rfl rfl (ro_1834 (sz a0 16 0 a3 a4 a5)) ?_
  refine go_cmp true rfl (br_self _) ?_
  exact law_tail (f := sc a0 16 0 a3 a4 a5) rfl
def wd_1378 (z : pq_C) : pq_W := ((fw z).set 4 (.inl (.boolean, 64, .inl (upd (fun _ => 0) 17 0))))
theorem ro_1838 (z : pq_C) : pq_Ru 2 22 [.ref 1, .int 17, .int 0] (fw z) (some (.int 0), (wd_1378 z)) := by
  refine ru_of (k := 1) (M := pm_22) rfl rfl ?_
  refine go_seg 1 (pc' := 1) (ls' := [(0, .ref 1), (1, .int 17), (2, .int 0)]) (st' := [.int 17]) (w' := (fw z)) (cs' := 0) (ss' := 0) ?_ (fun _ _ => rfl)
  refine go_cl (k := 1) (st' := [.int 1]) (cs' := 0) (ss' := 0) rfl rfl rfl rfl rfl rfl rfl (ro_1329 z) ?_
  refine go_seg 8 (pc' := 24) (ls' := [(3, .int 0), (0, .ref 1), (1, .int 17), (2, .int 0)]) (st' := [.ref 1]) (w' := (fw z)) (cs' := 0) (ss' := 0) ?_ (fun _ _ => rfl)
  refine go_seg 8 (pc' := 38) (ls' := [(3, .int 0), (0, .ref 1), (1, .int 17), (2, .int 0)]) (st' := []) (w' := (wd_1378 z)) (cs' := 0) (ss' := 0) ?_ (fun _ _ => rfl)
  exact go_end 3 (fun _ _ => rfl)
theorem ro_1839 (z : pq_C) : pq_Ru 1 161 [.long 17, .long 0, .long 63] (wd_1378 z) (some (.int 1), (wd_1378 z)) := by
  refine ru_of (k := 0) (M := pm_161) rfl rfl ?_
  refine go_seg 8 (pc' := 13) (ls' := [(0, .long 17), (2, .long 0), (4, .long 63)]) (st' := []) (w' := (wd_1378 z)) (cs' := 0) (ss' := 0) ?_ (fun _ _ => rfl)
  exact go_end 3 (fun _ _ => rfl)
theorem ro_1840 (z : pq_C) : pq_Ru 2 160 [.int 17] (wd_1378 z) (some (.int 1), (wd_1378 z)) := by
  refine ru_of (k := 1) (M := pm_160) rfl rfl ?_
  refine go_seg 4 (pc' := 6) (ls' := [(0, .int 17)]) (st' := [.long 63, .long 0, .long 17]) (w' := (wd_1378 z)) (cs' := 0) (ss' := 0) ?_ (fun _ _ => rfl)
  refine go_cl (k := 1) (st' := [.int 1]) (cs' := 0) (ss' := 0) rfl rfl rfl rfl rfl rfl rfl (ro_1839 z) ?_
  exact go_end 1 (fun _ _ => rfl)
def wd_1379 (z : pq_C) : pq_W := ((wd_1378 z).set 91 (.inl (.int, 2858, .inl (upd (upd (upd (upd (upd (upd (upd (upd (upd (upd (upd (upd (upd (upd (upd (upd (upd (upd (upd (upd (upd (upd (upd (upd (upd (upd (upd (upd (upd (upd (upd (upd (upd (upd (upd (upd (upd (upd (upd (upd (upd (upd (upd (upd (upd (upd (upd (upd (upd (upd (upd (upd (upd (upd (upd (upd (upd (upd (upd (upd (upd (upd (upd (upd (upd (upd (upd (upd (upd (upd (upd (upd (upd (upd (upd (upd (upd (upd (upd (upd (upd (upd (fun _ => 0) 1 10) 10 (-1)) 11 (-1)) 12 (-1)) 13 (-1)) 14 (-1)) 15 (-1)) 16 (-1)) 17 (-1)) 18 (-1)) 19 (-1)) 20 (-1)) 21 (-1)) 22 (-1)) 23 (-1)) 24 (-1)) 25 (-1)) 26 (-1)) 27 (-1)) 28 (-1)) 29 (-1)) 30 (-1)) 31 (-1)) 32 (-1)) 33 (-1)) 34 (-1)) 35 (-1)) 36 (-1)) 37 (-1)) 38 (-1)) 39 (-1)) 40 (-1)) 41 (-1)) 42 (-1)) 43 (-1)) 44 (-1)) 45 (-1)) 46 (-1)) 47 (-1)) 48 (-1)) 49 (-1)) 50 (-1)) 51 (-1)) 52 (-1)) 53 (-1)) 54 (-1)) 55 (-1)) 56 (-1)) 57 (-1)) 58 (-1)) 59 (-1)) 60 (-1)) 61 (-1)) 62 (-1)) 63 (-1)) 64 (-1)) 65 (-1)) 66 (-1)) 67 (-1)) 68 (-1)) 69 (-1)) 70 (-1)) 71 (-1)) 72 (-1)) 73 (-1)) 139 1000) 140 100) 145 1000) 146 100) 151 1000) 152 100) 157 1000) 158 100) 163 1000) 164 100) 169 1000) 170 100) 175 1000) 176 100) 181 1000) 182 100) 91 0))))
theorem ro_1841 (z : pq_C) : pq_Ru 3 165 [.ref 90, .int 17, .int 0] (wd_1378 z) (some (.int 0), (wd_1379 z)) := by
  refine ru_of (k := 2) (M := pm_165) rfl rfl ?_
  refine go_seg 1 (pc' := 1) (ls' := [(0, .ref 90), (1, .int 17), (2, .int 0)]) (st' := [.int 17]) (w' := (wd_1378 z)) (cs' := 0) (ss' := 0) ?_ (fun _ _ => rfl)
  refine go_cl (k := 2) (st' := [.int 1]) (cs' := 0) (ss' := 0) rfl rfl rfl rfl rfl rfl rfl (ro_1840 z) ?_
  refine go_seg 8 (pc' := 24) (ls' := [(0, .ref 90), (1, .int 17), (2, .int 0)]) (st' := [.int 0, .int 0]) (w' := (wd_1378 z)) (cs' := 0) (ss' := 0) ?_ (fun _ _ => rfl)
  refine go_seg 8 (pc' := 47) (ls' := [(3, .int 0), (0, .ref 90), (1, .int 17), (2, .int 0)]) (st' := [.int 74, .ref 91]) (w' := (wd_1378 z)) (cs' := 0) (ss' := 0) ?_ (fun _ _ => rfl)
  exact go_end 8 (fun _ _ => rfl)
theorem lf_2_1843 (a0 : Int32) (a3 : Int32) (a4 : Int32) (a5 : Int32) : ∃ w', pq_Go 20 pm_law 278 [(3, .int 0), (2, .ref 90), (1, .ref 1), (0, .ref 0)] [] (fw (sz a0 17 0 a3 a4 a5)) 109 12668 (some (.int 1), w') := by
  refine ⟨(wd_1379 (sz a0 17 0 a3 a4 a5)), ?_⟩
  refine go_seg 8 (pc' := 286) (ls' := [(3, .int 0), (2, .ref 90), (1, .ref 1), (0, .ref 0)]) (st' := [.int 0, .ref 0, .int 17, .ref 1]) (w' := (fw (sz a0 17 0 a3 a4 a5))) (cs' := 109) (ss' := 12668) ?_ (fun _ _ => rfl)
  refine go_seg 5 (pc' := 297) (ls' := [(3, .int 0), (2, .ref 90), (1, .ref 1), (0, .ref 0)]) (st' := [.int 0, .int 17, .ref 1]) (w' := (fw (sz a0 17 0 a3 a4 a5))) (cs' := 109) (ss' := 12668) ?_ (fun _ _ => rfl)
  refine go_cl (k := 20) (st' := [.int 0]) (cs' := 109) (ss' := 12668) rfl rfl rfl rfl rfl rfl rfl (ro_1838 (sz a0 17 0 a3 a4 a5)) ?_
  refine go_seg 8 (pc' := 308) (ls' := [(3, .int 0), (2, .ref 90), (1, .ref 1), (0, .ref 0)]) (st' := [.int 0, .ref 0, .int 17, .ref 90, .int 0]) (w' := (wd_1378 (sz a0 17 0 a3 a4 a5))) (cs' := 109) (ss' := 12668) ?_ (fun _ _ => rfl)
  refine go_seg 5 (pc' := 319) (ls' := [(3, .int 0), (2, .ref 90), (1, .ref 1), (0, .ref 0)]) (st' := [.int 0, .int 17, .ref 90, .int 0]) (w' := (wd_1378 (sz a0 17 0 a3 a4 a5))) (cs' := 109) (ss' := 12668) ?_ (fun _ _ => rfl)
  refine go_cl (k := 20) (st' := [.int 0, .int 0]) (cs' := 109) (ss' := 12668) rfl rfl rfl rfl rfl rfl rfl (ro_1841 (sz a0 17 0 a3 a4 a5)) ?_
  refine go_cmp true rfl (br_self _) ?_
  exact law_tail (f := sc a0 17 0 a3 a4 a5) rfl
def wd_1380 (z : pq_C) : pq_W := ((fw z).set 4 (.inl (.boolean, 64, .inl (upd (fun _ => 0) 18 0))))
theorem ro_1845 (z : pq_C) : pq_Ru 2 22 [.ref 1, .int 18, .int 0] (fw z) (some (.int 0), (wd_1380 z)) := by
  refine ru_of (k := 1) (M := pm_22) rfl rfl ?_
  refine go_seg 1 (pc' := 1) (ls' := [(0, .ref 1), (1, .int 18), (2, .int 0)]) (st' := [.int 18]) (w' := (fw z)) (cs' := 0) (ss' := 0) ?_ (fun _ _ => rfl)
  refine go_cl (k := 1) (st' := [.int 1]) (cs' := 0) (ss' := 0) rfl rfl rfl rfl rfl rfl rfl (ro_1337 z) ?_
  refine go_seg 8 (pc' := 24) (ls' := [(3, .int 0), (0, .ref 1), (1, .int 18), (2, .int 0)]) (st' := [.ref 1]) (w' := (fw z)) (cs' := 0) (ss' := 0) ?_ (fun _ _ => rfl)
  refine go_seg 8 (pc' := 38) (ls' := [(3, .int 0), (0, .ref 1), (1, .int 18), (2, .int 0)]) (st' := []) (w' := (wd_1380 z)) (cs' := 0) (ss' := 0) ?_ (fun _ _ => rfl)
  exact go_end 3 (fun _ _ => rfl)
theorem ro_1846 (z : pq_C) : pq_Ru 1 161 [.long 18, .long 0, .long 63] (wd_1380 z) (some (.int 1), (wd_1380 z)) := by
  refine ru_of (k := 0) (M := pm_161) rfl rfl ?_
  refine go_seg 8 (pc' := 13) (ls' := [(0, .long 18), (2, .long 0), (4, .long 63)]) (st' := []) (w' := (wd_1380 z)) (cs' := 0) (ss' := 0) ?_ (fun _ _ => rfl)
  exact go_end 3 (fun _ _ => rfl)
theorem ro_1847 (z : pq_C) : pq_Ru 2 160 [.int 18] (wd_1380 z) (some (.int 1), (wd_1380 z)) := by
  refine ru_of (k := 1) (M := pm_160) rfl rfl ?_
  refine go_seg 4 (pc' := 6) (ls' := [(0, .int 18)]) (st' := [.long 63, .long 0, .long 18]) (w' := (wd_1380 z)) (cs' := 0) (ss' := 0) ?_ (fun _ _ => rfl)
  refine go_cl (k := 1) (st' := [.int 1]) (cs' := 0) (ss' := 0) rfl rfl rfl rfl rfl rfl rfl (ro_1846 z) ?_
  exact go_end 1 (fun _ _ => rfl)
def wd_1381 (z : pq_C) : pq_W := ((wd_1380 z).set 91 (.inl (.int, 2858, .inl (upd (upd (upd (upd (upd (upd (upd (upd (upd (upd (upd (upd (upd (upd (upd (upd (upd (upd (upd (upd (upd (upd (upd (upd (upd (upd (upd (upd (upd (upd (upd (upd (upd (upd (upd (upd (upd (upd (upd (upd (upd (upd (upd (upd (upd (upd (upd (upd (upd (upd (upd (upd (upd (upd (upd (upd (upd (upd (upd (upd (upd (upd (upd (upd (upd (upd (upd (upd (upd (upd (upd (upd (upd (upd (upd (upd (upd (upd (upd (upd (upd (upd (fun _ => 0) 1 10) 10 (-1)) 11 (-1)) 12 (-1)) 13 (-1)) 14 (-1)) 15 (-1)) 16 (-1)) 17 (-1)) 18 (-1)) 19 (-1)) 20 (-1)) 21 (-1)) 22 (-1)) 23 (-1)) 24 (-1)) 25 (-1)) 26 (-1)) 27 (-1)) 28 (-1)) 29 (-1)) 30 (-1)) 31 (-1)) 32 (-1)) 33 (-1)) 34 (-1)) 35 (-1)) 36 (-1)) 37 (-1)) 38 (-1)) 39 (-1)) 40 (-1)) 41 (-1)) 42 (-1)) 43 (-1)) 44 (-1)) 45 (-1)) 46 (-1)) 47 (-1)) 48 (-1)) 49 (-1)) 50 (-1)) 51 (-1)) 52 (-1)) 53 (-1)) 54 (-1)) 55 (-1)) 56 (-1)) 57 (-1)) 58 (-1)) 59 (-1)) 60 (-1)) 61 (-1)) 62 (-1)) 63 (-1)) 64 (-1)) 65 (-1)) 66 (-1)) 67 (-1)) 68 (-1)) 69 (-1)) 70 (-1)) 71 (-1)) 72 (-1)) 73 (-1)) 139 1000) 140 100) 145 1000) 146 100) 151 1000) 152 100) 157 1000) 158 100) 163 1000) 164 100) 169 1000) 170 100) 175 1000) 176 100) 181 1000) 182 100) 92 0))))
theorem ro_1848 (z : pq_C) : pq_Ru 3 165 [.ref 90, .int 18, .int 0] (wd_1380 z) (some (.int 0), (wd_1381 z)) := by
  refine ru_of (k := 2) (M := pm_165) rfl rfl ?_
  refine go_seg 1 (pc' := 1) (ls' := [(0, .ref 90), (1, .int 18), (2, .int 0)]) (st' := [.int 18]) (w' := (wd_1380 z)) (cs' := 0) (ss' := 0) ?_ (fun _ _ => rfl)
  refine go_cl (k := 2) (st' := [.int 1]) (cs' := 0) (ss' := 0) rfl rfl rfl rfl rfl rfl rfl (ro_1847 z) ?_
  refine go_seg 8 (pc' := 24) (ls' := [(0, .ref 90), (1, .int 18), (2, .int 0)]) (st' := [.int 0, .int 0]) (w' := (wd_1380 z)) (cs' := 0) (ss' := 0) ?_ (fun _ _ => rfl)
  refine go_seg 8 (pc' := 47) (ls' := [(3, .int 0), (0, .ref 90), (1, .int 18), (2, .int 0)]) (st' := [.int 74, .ref 91]) (w' := (wd_1380 z)) (cs' := 0) (ss' := 0) ?_ (fun _ _ => rfl)
  exact go_end 8 (fun _ _ => rfl)
theorem lf_2_1850 (a0 : Int32) (a3 : Int32) (a4 : Int32) (a5 : Int32) : ∃ w', pq_Go 20 pm_law 278 [(3, .int 0), (2, .ref 90), (1, .ref 1), (0, .ref 0)] [] (fw (sz a0 18 0 a3 a4 a5)) 109 12668 (some (.int 1), w') := by
  refine ⟨(wd_1381 (sz a0 18 0 a3 a4 a5)), ?_⟩
  refine go_seg 8 (pc' := 286) (ls' := [(3, .int 0), (2, .ref 90), (1, .ref 1), (0, .ref 0)]) (st' := [.int 0, .ref 0, .int 18, .ref 1]) (w' := (fw (sz a0 18 0 a3 a4 a5))) (cs' := 109) (ss' := 12668) ?_ (fun _ _ => rfl)
  refine go_seg 5 (pc' := 297) (ls' := [(3, .int 0), (2, .ref 90), (1, .ref 1), (0, .ref 0)]) (st' := [.int 0, .int 18, .ref 1]) (w' := (fw (sz a0 18 0 a3 a4 a5))) (cs' := 109) (ss' := 12668) ?_ (fun _ _ => rfl)
  refine go_cl (k := 20) (st' := [.int 0]) (cs' := 109) (ss' := 12668) rfl rfl rfl rfl rfl rfl rfl (ro_1845 (sz a0 18 0 a3 a4 a5)) ?_
  refine go_seg 8 (pc' := 308) (ls' := [(3, .int 0), (2, .ref 90), (1, .ref 1), (0, .ref 0)]) (st' := [.int 0, .ref 0, .int 18, .ref 90, .int 0]) (w' := (wd_1380 (sz a0 18 0 a3 a4 a5))) (cs' := 109) (ss' := 12668) ?_ (fun _ _ => rfl)
  refine go_seg 5 (pc' := 319) (ls' := [(3, .int 0), (2, .ref 90), (1, .ref 1), (0, .ref 0)]) (st' := [.int 0, .int 18, .ref 90, .int 0]) (w' := (wd_1380 (sz a0 18 0 a3 a4 a5))) (cs' := 109) (ss' := 12668) ?_ (fun _ _ => rfl)
  refine go_cl (k := 20) (st' := [.int 0, .int 0]) (cs' := 109) (ss' := 12668) rfl rfl rfl rfl rfl rfl rfl (ro_1848 (sz a0 18 0 a3 a4 a5)) ?_
  refine go_cmp true rfl (br_self _) ?_
  exact law_tail (f := sc a0 18 0 a3 a4 a5) rfl
def wd_1382 (z : pq_C) : pq_W := ((fw z).set 4 (.inl (.boolean, 64, .inl (upd (fun _ => 0) 19 0))))
theorem ro_1852 (z : pq_C) : pq_Ru 2 22 [.ref 1, .int 19, .int 0] (fw z) (some (.int 0), (wd_1382 z)) := by
  refine ru_of (k := 1) (M := pm_22) rfl rfl ?_
  refine go_seg 1 (pc' := 1) (ls' := [(0, .ref 1), (1, .int 19), (2, .int 0)]) (st' := [.int 19]) (w' := (fw z)) (cs' := 0) (ss' := 0) ?_ (fun _ _ => rfl)
  refine go_cl (k := 1) (st' := [.int 1]) (cs' := 0) (ss' := 0) rfl rfl rfl rfl rfl rfl rfl (ro_1345 z) ?_
  refine go_seg 8 (pc' := 24) (ls' := [(3, .int 0), (0, .ref 1), (1, .int 19), (2, .int 0)]) (st' := [.ref 1]) (w' := (fw z)) (cs' := 0) (ss' := 0) ?_ (fun _ _ => rfl)
  refine go_seg 8 (pc' := 38) (ls' := [(3, .int 0), (0, .ref 1), (1, .int 19), (2, .int 0)]) (st' := []) (w' := (wd_1382 z)) (cs' := 0) (ss' := 0) ?_ (fun _ _ => rfl)
  exact go_end 3 (fun _ _ => rfl)
theorem ro_1853 (z : pq_C) : pq_Ru 1 161 [.long 19, .long 0, .long 63] (wd_1382 z) (some (.int 1), (wd_1382 z)) := by
  refine ru_of (k := 0) (M := pm_161) rfl rfl ?_
  refine go_seg 8 (pc' := 13) (ls' := [(0, .long 19), (2, .long 0), (4, .long 63)]) (st' := []) (w' := (wd_1382 z)) (cs' := 0) (ss' := 0) ?_ (fun _ _ => rfl)
  exact go_end 3 (fun _ _ => rfl)
theorem ro_1854 (z : pq_C) : pq_Ru 2 160 [.int 19] (wd_1382 z) (some (.int 1), (wd_1382 z)) := by
  refine ru_of (k := 1) (M := pm_160) rfl rfl ?_
  refine go_seg 4 (pc' := 6) (ls' := [(0, .int 19)]) (st' := [.long 63, .long 0, .long 19]) (w' := (wd_1382 z)) (cs' := 0) (ss' := 0) ?_ (fun _ _ => rfl)
  refine go_cl (k := 1) (st' := [.int 1]) (cs' := 0) (ss' := 0) rfl rfl rfl rfl rfl rfl rfl (ro_1853 z) ?_
  exact go_end 1 (fun _ _ => rfl)
def wd_1383 (z : pq_C) : pq_W := ((wd_1382 z).set 91 (.inl (.int, 2858, .inl (upd (upd (upd (upd (upd (upd (upd (upd (upd (upd (upd (upd (upd (upd (upd (upd (upd (upd (upd (upd (upd (upd (upd (upd (upd (upd (upd (upd (upd (upd (upd (upd (upd (upd (upd (upd (upd (upd (upd (upd (upd (upd (upd (upd (upd (upd (upd (upd (upd (upd (upd (upd (upd (upd (upd (upd (upd (upd (upd (upd (upd (upd (upd (upd (upd (upd (upd (upd (upd (upd (upd (upd (upd (upd (upd (upd (upd (upd (upd (upd (upd (upd (fun _ => 0) 1 10) 10 (-1)) 11 (-1)) 12 (-1)) 13 (-1)) 14 (-1)) 15 (-1)) 16 (-1)) 17 (-1)) 18 (-1)) 19 (-1)) 20 (-1)) 21 (-1)) 22 (-1)) 23 (-1)) 24 (-1)) 25 (-1)) 26 (-1)) 27 (-1)) 28 (-1)) 29 (-1)) 30 (-1)) 31 (-1)) 32 (-1)) 33 (-1)) 34 (-1)) 35 (-1)) 36 (-1)) 37 (-1)) 38 (-1)) 39 (-1)) 40 (-1)) 41 (-1)) 42 (-1)) 43 (-1)) 44 (-1)) 45 (-1)) 46 (-1)) 47 (-1)) 48 (-1)) 49 (-1)) 50 (-1)) 51 (-1)) 52 (-1)) 53 (-1)) 54 (-1)) 55 (-1)) 56 (-1)) 57 (-1)) 58 (-1)) 59 (-1)) 60 (-1)) 61 (-1)) 62 (-1)) 63 (-1)) 64 (-1)) 65 (-1)) 66 (-1)) 67 (-1)) 68 (-1)) 69 (-1)) 70 (-1)) 71 (-1)) 72 (-1)) 73 (-1)) 139 1000) 140 100) 145 1000) 146 100) 151 1000) 152 100) 157 1000) 158 100) 163 1000) 164 100) 169 1000) 170 100) 175 1000) 176 100) 181 1000) 182 100) 93 0))))
theorem ro_1855 (z : pq_C) : pq_Ru 3 165 [.ref 90, .int 19, .int 0] (wd_1382 z) (some (.int 0), (wd_1383 z)) := by
  refine ru_of (k := 2) (M := pm_165) rfl rfl ?_
  refine go_seg 1 (pc' := 1) (ls' := [(0, .ref 90), (1, .int 19), (2, .int 0)]) (st' := [.int 19]) (w' := (wd_1382 z)) (cs' := 0) (ss' := 0) ?_ (fun _ _ => rfl)
  refine go_cl (k := 2) (st' := [.int 1]) (cs' := 0) (ss' := 0) rfl rfl rfl rfl rfl rfl rfl (ro_1854 z) ?_
  refine go_seg 8 (pc' := 24) (ls' := [(0, .ref 90), (1, .int 19), (2, .int 0)]) (st' := [.int 0, .int 0]) (w' := (wd_1382 z)) (cs' := 0) (ss' := 0) ?_ (fun _ _ => rfl)
  refine go_seg 8 (pc' := 47) (ls' := [(3, .int 0), (0, .ref 90), (1, .int 19), (2, .int 0)]) (st' := [.int 74, .ref 91]) (w' := (wd_1382 z)) (cs' := 0) (ss' := 0) ?_ (fun _ _ => rfl)
  exact go_end 8 (fun _ _ => rfl)
theorem lf_2_1857 (a0 : Int32) (a3 : Int32) (a4 : Int32) (a5 : Int32) : ∃ w', pq_Go 20 pm_law 278 [(3, .int 0), (2, .ref 90), (1, .ref 1), (0, .ref 0)] [] (fw (sz a0 19 0 a3 a4 a5)) 109 12668 (some (.int 1), w') := by
  refine ⟨(wd_1383 (sz a0 19 0 a3 a4 a5)), ?_⟩
  refine go_seg 8 (pc' := 286) (ls' := [(3, .int 0), (2, .ref 90), (1, .ref 1), (0, .ref 0)]) (st' := [.int 0, .ref 0, .int 19, .ref 1]) (w' := (fw (sz a0 19 0 a3 a4 a5))) (cs' := 109) (ss' := 12668) ?_ (fun _ _ => rfl)
  refine go_seg 5 (pc' := 297) (ls' := [(3, .int 0), (2, .ref 90), (1, .ref 1), (0, .ref 0)]) (st' := [.int 0, .int 19, .ref 1]) (w' := (fw (sz a0 19 0 a3 a4 a5))) (cs' := 109) (ss' := 12668) ?_ (fun _ _ => rfl)
  refine go_cl (k := 20) (st' := [.int 0]) (cs' := 109) (ss' := 12668) rfl rfl rfl rfl rfl rfl rfl (ro_1852 (sz a0 19 0 a3 a4 a5)) ?_
  refine go_seg 8 (pc' := 308) (ls' := [(3, .int 0), (2, .ref 90), (1, .ref 1), (0, .ref 0)]) (st' := [.int 0, .ref 0, .int 19, .ref 90, .int 0]) (w' := (wd_1382 (sz a0 19 0 a3 a4 a5))) (cs' := 109) (ss' := 12668) ?_ (fun _ _ => rfl)
  refine go_seg 5 (pc' := 319) (ls' := [(3, .int 0), (2, .ref 90), (1, .ref 1), (0, .ref 0)]) (st' := [.int 0, .int 19, .ref 90, .int 0]) (w' := (wd_1382 (sz a0 19 0 a3 a4 a5))) (cs' := 109) (ss' := 12668) ?_ (fun _ _ => rfl)
  refine go_cl (k := 20) (st' := [.int 0, .int 0]) (cs' := 109) (ss' := 12668) rfl rfl rfl rfl rfl rfl rfl (ro_1855 (sz a0 19 0 a3 a4 a5)) ?_
  refine go_cmp true rfl (br_self _) ?_
  exact law_tail (f := sc a0 19 0 a3 a4 a5) rfl
def wd_1384 (z : pq_C) : pq_W := ((fw z).set 4 (.inl (.boolean, 64, .inl (upd (fun _ => 0) 20 0))))
theorem ro_1859 (z : pq_C) : pq_Ru 2 22 [.ref 1, .int 20, .int 0] (fw z) (some (.int 0), (wd_1384 z)) := by
  refine ru_of (k := 1) (M := pm_22) rfl rfl ?_
  refine go_seg 1 (pc' := 1) (ls' := [(0, .ref 1), (1, .int 20), (2, .int 0)]) (st' := [.int 20]) (w' := (fw z)) (cs' := 0) (ss' := 0) ?_ (fun _ _ => rfl)
  refine go_cl (k := 1) (st' := [.int 1]) (cs' := 0) (ss' := 0) rfl rfl rfl rfl rfl rfl rfl (ro_1353 z) ?_
  refine go_seg 8 (pc' := 24) (ls' := [(3, .int 0), (0, .ref 1), (1, .int 20), (2, .int 0)]) (st' := [.ref 1]) (w' := (fw z)) (cs' := 0) (ss' := 0) ?_ (fun _ _ => rfl)
  refine go_seg 8 (pc' := 38) (ls' := [(3, .int 0), (0, .ref 1), (1, .int 20), (2, .int 0)]) (st' := []) (w' := (wd_1384 z)) (cs' := 0) (ss' := 0) ?_ (fun _ _ => rfl)
  exact go_end 3 (fun _ _ => rfl)
theorem ro_1860 (z : pq_C) : pq_Ru 1 161 [.long 20, .long 0, .long 63] (wd_1384 z) (some (.int 1), (wd_1384 z)) := by
  refine ru_of (k := 0) (M := pm_161) rfl rfl ?_
  refine go_seg 8 (pc' := 13) (ls' := [(0, .long 20), (2, .long 0), (4, .long 63)]) (st' := []) (w' := (wd_1384 z)) (cs' := 0) (ss' := 0) ?_ (fun _ _ => rfl)
  exact go_end 3 (fun _ _ => rfl)
theorem ro_1861 (z : pq_C) : pq_Ru 2 160 [.int 20] (wd_1384 z) (some (.int 1), (wd_1384 z)) := by
  refine ru_of (k := 1) (M := pm_160) rfl rfl ?_
  refine go_seg 4 (pc' := 6) (ls' := [(0, .int 20)]) (st' := [.long 63, .long 0, .long 20]) (w' := (wd_1384 z)) (cs' := 0) (ss' := 0) ?_ (fun _ _ => rfl)
  refine go_cl (k := 1) (st' := [.int 1]) (cs' := 0) (ss' := 0) rfl rfl rfl rfl rfl rfl rfl (ro_1860 z) ?_
  exact go_end 1 (fun _ _ => rfl)
def wd_1385 (z : pq_C) : pq_W := ((wd_1384 z).set 91 (.inl (.int, 2858, .inl (upd (upd (upd (upd (upd (upd (upd (upd (upd (upd (upd (upd (upd (upd (upd (upd (upd (upd (upd (upd (upd (upd (upd (upd (upd (upd (upd (upd (upd (upd (upd (upd (upd (upd (upd (upd (upd (upd (upd (upd (upd (upd (upd (upd (upd (upd (upd (upd (upd (upd (upd (upd (upd (upd (upd (upd (upd (upd (upd (upd (upd (upd (upd (upd (upd (upd (upd (upd (upd (upd (upd (upd (upd (upd (upd (upd (upd (upd (upd (upd (upd (upd (fun _ => 0) 1 10) 10 (-1)) 11 (-1)) 12 (-1)) 13 (-1)) 14 (-1)) 15 (-1)) 16 (-1)) 17 (-1)) 18 (-1)) 19 (-1)) 20 (-1)) 21 (-1)) 22 (-1)) 23 (-1)) 24 (-1)) 25 (-1)) 26 (-1)) 27 (-1)) 28 (-1)) 29 (-1)) 30 (-1)) 31 (-1)) 32 (-1)) 33 (-1)) 34 (-1)) 35 (-1)) 36 (-1)) 37 (-1)) 38 (-1)) 39 (-1)) 40 (-1)) 41 (-1)) 42 (-1)) 43 (-1)) 44 (-1)) 45 (-1)) 46 (-1)) 47 (-1)) 48 (-1)) 49 (-1)) 50 (-1)) 51 (-1)) 52 (-1)) 53 (-1)) 54 (-1)) 55 (-1)) 56 (-1)) 57 (-1)) 58 (-1)) 59 (-1)) 60 (-1)) 61 (-1)) 62 (-1)) 63 (-1)) 64 (-1)) 65 (-1)) 66 (-1)) 67 (-1)) 68 (-1)) 69 (-1)) 70 (-1)) 71 (-1)) 72 (-1)) 73 (-1)) 139 1000) 140 100) 145 1000) 146 100) 151 1000) 152 100) 157 1000) 158 100) 163 1000) 164 100) 169 1000) 170 100) 175 1000) 176 100) 181 1000) 182 100) 94 0))))
theorem ro_1862 (z : pq_C) : pq_Ru 3 165 [.ref 90, .int 20, .int 0] (wd_1384 z) (some (.int 0), (wd_1385 z)) := by
  refine ru_of (k := 2) (M := pm_165) rfl rfl ?_
  refine go_seg 1 (pc' := 1) (ls' := [(0, .ref 90), (1, .int 20), (2, .int 0)]) (st' := [.int 20]) (w' := (wd_1384 z)) (cs' := 0) (ss' := 0) ?_ (fun _ _ => rfl)
  refine go_cl (k := 2) (st' := [.int 1]) (cs' := 0) (ss' := 0) rfl rfl rfl rfl rfl rfl rfl (ro_1861 z) ?_
  refine go_seg 8 (pc' := 24) (ls' := [(0, .ref 90), (1, .int 20), (2, .int 0)]) (st' := [.int 0, .int 0]) (w' := (wd_1384 z)) (cs' := 0) (ss' := 0) ?_ (fun _ _ => rfl)
  refine go_seg 8 (pc' := 47) (ls' := [(3, .int 0), (0, .ref 90), (1, .int 20), (2, .int 0)]) (st' := [.int 74, .ref 91]) (w' := (wd_1384 z)) (cs' := 0) (ss' := 0) ?_ (fun _ _ => rfl)
  exact go_end 8 (fun _ _ => rfl)
theorem lf_2_1864 (a0 : Int32) (a3 : Int32) (a4 : Int32) (a5 : Int32) : ∃ w', pq_Go 20 pm_law 278 [(3, .int 0), (2, .ref 90), (1, .ref 1), (0, .ref 0)] [] (fw (sz a0 20 0 a3 a4 a5)) 109 12668 (some (.int 1), w') := by
  refine ⟨(wd_1385 (sz a0 20 0 a3 a4 a5)), ?_⟩
  refine go_seg 8 (pc' := 286) (ls' := [(3, .int 0), (2, .ref 90), (1, .ref 1), (0, .ref 0)]) (st' := [.int 0, .ref 0, .int 20, .ref 1]) (w' := (fw (sz a0 20 0 a3 a4 a5))) (cs' := 109) (ss' := 12668) ?_ (fun _ _ => rfl)
  refine go_seg 5 (pc' := 297) (ls' := [(3, .int 0), (2, .ref 90), (1, .ref 1), (0, .ref 0)]) (st' := [.int 0, .int 20, .ref 1]) (w' := (fw (sz a0 20 0 a3 a4 a5))) (cs' := 109) (ss' := 12668) ?_ (fun _ _ => rfl)
  refine go_cl (k := 20) (st' := [.int 0]) (cs' := 109) (ss' := 12668) rfl rfl rfl rfl rfl rfl rfl (ro_1859 (sz a0 20 0 a3 a4 a5)) ?_
  refine go_seg 8 (pc' := 308) (ls' := [(3, .int 0), (2, .ref 90), (1, .ref 1), (0, .ref 0)]) (st' := [.int 0, .ref 0, .int 20, .ref 90, .int 0]) (w' := (wd_1384 (sz a0 20 0 a3 a4 a5))) (cs' := 109) (ss' := 12668) ?_ (fun _ _ => rfl)
  refine go_seg 5 (pc' := 319) (ls' := [(3, .int 0), (2, .ref 90), (1, .ref 1), (0, .ref 0)]) (st' := [.int 0, .int 20, .ref 90, .int 0]) (w' := (wd_1384 (sz a0 20 0 a3 a4 a5))) (cs' := 109) (ss' := 12668) ?_ (fun _ _ => rfl)
  refine go_cl (k := 20) (st' := [.int 0, .int 0]) (cs' := 109) (ss' := 12668) rfl rfl rfl rfl rfl rfl rfl (ro_1862 (sz a0 20 0 a3 a4 a5)) ?_
  refine go_cmp true rfl (br_self _) ?_
  exact law_tail (f := sc a0 20 0 a3 a4 a5) rfl
def wd_1386 (z : pq_C) : pq_W := ((fw z).set 4 (.inl (.boolean, 64, .inl (upd (fun _ => 0) 21 0))))
theorem ro_1866 (z : pq_C) : pq_Ru 2 22 [.ref 1, .int 21, .int 0] (fw z) (some (.int 0), (wd_1386 z)) := by
  refine ru_of (k := 1) (M := pm_22) rfl rfl ?_
  refine go_seg 1 (pc' := 1) (ls' := [(0, .ref 1), (1, .int 21), (2, .int 0)]) (st' := [.int 21]) (w' := (fw z)) (cs' := 0) (ss' := 0) ?_ (fun _ _ => rfl)
  refine go_cl (k := 1) (st' := [.int 1]) (cs' := 0) (ss' := 0) rfl rfl rfl rfl rfl rfl rfl (ro_1361 z) ?_
  refine go_seg 8 (pc' := 24) (ls' := [(3, .int 0), (0, .ref 1), (1, .int 21), (2, .int 0)]) (st' := [.ref 1]) (w' := (fw z)) (cs' := 0) (ss' := 0) ?_ (fun _ _ => rfl)
  refine go_seg 8 (pc' := 38) (ls' := [(3, .int 0), (0, .ref 1), (1, .int 21), (2, .int 0)]) (st' := []) (w' := (wd_1386 z)) (cs' := 0) (ss' := 0) ?_ (fun _ _ => rfl)
  exact go_end 3 (fun _ _ => rfl)
theorem ro_1867 (z : pq_C) : pq_Ru 1 161 [.long 21, .long 0, .long 63] (wd_1386 z) (some (.int 1), (wd_1386 z)) := by
  refine ru_of (k := 0) (M := pm_161) rfl rfl ?_
  refine go_seg 8 (pc' := 13) (ls' := [(0, .long 21), (2, .long 0), (4, .long 63)]) (st' := []) (w' := (wd_1386 z)) (cs' := 0) (ss' := 0) ?_ (fun _ _ => rfl)
  exact go_end 3 (fun _ _ => rfl)
theorem ro_1868 (z : pq_C) : pq_Ru 2 160 [.int 21] (wd_1386 z) (some (.int 1), (wd_1386 z)) := by
  refine ru_of (k := 1) (M := pm_160) rfl rfl ?_
  refine go_seg 4 (pc' := 6) (ls' := [(0, .int 21)]) (st' := [.long 63, .long 0, .long 21]) (w' := (wd_1386 z)) (cs' := 0) (ss' := 0) ?_ (fun _ _ => rfl)
  refine go_cl (k := 1) (st' := [.int 1]) (cs' := 0) (ss' := 0) rfl rfl rfl rfl rfl rfl rfl (ro_1867 z) ?_
  exact go_end 1 (fun _ _ => rfl)
def wd_1387 (z : pq_C) : pq_W := ((wd_1386 z).set 91 (.inl (.int, 2858, .inl (upd (upd (upd (upd (upd (upd (upd (upd (upd (upd (upd (upd (upd (upd (upd (upd (upd (upd (upd (upd (upd (upd (upd (upd (upd (upd (upd (upd (upd (upd (upd (upd (upd (upd (upd (upd (upd (upd (upd (upd (upd (upd (upd (upd (upd (upd (upd (upd (upd (upd (upd (upd (upd (upd (upd (upd (upd (upd (upd (upd (upd (upd (upd (upd (upd (upd (upd (upd (upd (upd (upd (upd (upd (upd (upd (upd (upd (upd (upd (upd (upd (upd (fun _ => 0) 1 10) 10 (-1)) 11 (-1)) 12 (-1)) 13 (-1)) 14 (-1)) 15 (-1)) 16 (-1)) 17 (-1)) 18 (-1)) 19 (-1)) 20 (-1)) 21 (-1)) 22 (-1)) 23 (-1)) 24 (-1)) 25 (-1)) 26 (-1)) 27 (-1)) 28 (-1)) 29 (-1)) 30 (-1)) 31 (-1)) 32 (-1)) 33 (-1)) 34 (-1)) 35 (-1)) 36 (-1)) 37 (-1)) 38 (-1)) 39 (-1)) 40 (-1)) 41 (-1)) 42 (-1)) 43 (-1)) 44 (-1)) 45 (-1)) 46 (-1)) 47 (-1)) 48 (-1)) 49 (-1)) 50 (-1)) 51 (-1)) 52 (-1)) 53 (-1)) 54 (-1)) 55 (-1)) 56 (-1)) 57 (-1)) 58 (-1)) 59 (-1)) 60 (-1)) 61 (-1)) 62 (-1)) 63 (-1)) 64 (-1)) 65 (-1)) 66 (-1)) 67 (-1)) 68 (-1)) 69 (-1)) 70 (-1)) 71 (-1)) 72 (-1)) 73 (-1)) 139 1000) 140 100) 145 1000) 146 100) 151 1000) 152 100) 157 1000) 158 100) 163 1000) 164 100) 169 1000) 170 100) 175 1000) 176 100) 181 1000) 182 100) 95 0))))
theorem ro_1869 (z : pq_C) : pq_Ru 3 165 [.ref 90, .int 21, .int 0] (wd_1386 z) (some (.int 0), (wd_1387 z)) := by
  refine ru_of (k := 2) (M := pm_165) rfl rfl ?_
  refine go_seg 1 (pc' := 1) (ls' := [(0, .ref 90), (1, .int 21), (2, .int 0)]) (st' := [.int 21]) (w' := (wd_1386 z)) (cs' := 0) (ss' := 0) ?_ (fun _ _ => rfl)
  refine go_cl (k := 2) (st' := [.int 1]) (cs' := 0) (ss' := 0) rfl rfl rfl rfl rfl rfl rfl (ro_1868 z) ?_
  refine go_seg 8 (pc' := 24) (ls' := [(0, .ref 90), (1, .int 21), (2, .int 0)]) (st' := [.int 0, .int 0]) (w' := (wd_1386 z)) (cs' := 0) (ss' := 0) ?_ (fun _ _ => rfl)
  refine go_seg 8 (pc' := 47) (ls' := [(3, .int 0), (0, .ref 90), (1, .int 21), (2, .int 0)]) (st' := [.int 74, .ref 91]) (w' := (wd_1386 z)) (cs' := 0) (ss' := 0) ?_ (fun _ _ => rfl)
  exact go_end 8 (fun _ _ => rfl)
theorem lf_2_1871 (a0 : Int32) (a3 : Int32) (a4 : Int32) (a5 : Int32) : ∃ w', pq_Go 20 pm_law 278 [(3, .int 0), (2, .ref 90), (1, .ref 1), (0, .ref 0)] [] (fw (sz a0 21 0 a3 a4 a5)) 109 12668 (some (.int 1), w') := by
  refine ⟨(wd_1387 (sz a0 21 0 a3 a4 a5)), ?_⟩
  refine go_seg 8 (pc' := 286) (ls' := [(3, .int 0), (2, .ref 90), (1, .ref 1), (0, .ref 0)]) (st' := [.int 0, .ref 0, .int 21, .ref 1]) (w' := (fw (sz a0 21 0 a3 a4 a5))) (cs' := 109) (ss' := 12668) ?_ (fun _ _ => rfl)
  refine go_seg 5 (pc' := 297) (ls' := [(3, .int 0), (2, .ref 90), (1, .ref 1), (0, .ref 0)]) (st' := [.int 0, .int 21, .ref 1]) (w' := (fw (sz a0 21 0 a3 a4 a5))) (cs' := 109) (ss' := 12668) ?_ (fun _ _ => rfl)
  refine go_cl (k := 20) (st' := [.int 0]) (cs' := 109) (ss' := 12668) rfl rfl rfl rfl rfl rfl rfl (ro_1866 (sz a0 21 0 a3 a4 a5)) ?_
  refine go_seg 8 (pc' := 308) (ls' := [(3, .int 0), (2, .ref 90), (1, .ref 1), (0, .ref 0)]) (st' := [.int 0, .ref 0, .int 21, .ref 90, .int 0]) (w' := (wd_1386 (sz a0 21 0 a3 a4 a5))) (cs' := 109) (ss' := 12668) ?_ (fun _ _ => rfl)
  refine go_seg 5 (pc' := 319) (ls' := [(3, .int 0), (2, .ref 90), (1, .ref 1), (0, .ref 0)]) (st' := [.int 0, .int 21, .ref 90, .int 0]) (w' := (wd_1386 (sz a0 21 0 a3 a4 a5))) (cs' := 109) (ss' := 12668) ?_ (fun _ _ => rfl)
  refine go_cl (k := 20) (st' := [.int 0, .int 0]) (cs' := 109) (ss' := 12668) rfl rfl rfl rfl rfl rfl rfl (ro_1869 (sz a0 21 0 a3 a4 a5)) ?_
  refine go_cmp true rfl (br_self _) ?_
  exact law_tail (f := sc a0 21 0 a3 a4 a5) rfl
def wd_1388 (z : pq_C) : pq_W := ((fw z).set 4 (.inl (.boolean, 64, .inl (upd (fun _ => 0) 22 0))))
theorem ro_1873 (z : pq_C) : pq_Ru 2 22 [.ref 1, .int 22, .int 0] (fw z) (some (.int 0), (wd_1388 z)) := by
  refine ru_of (k := 1) (M := pm_22) rfl rfl ?_
  refine go_seg 1 (pc' := 1) (ls' := [(0, .ref 1), (1, .int 22), (2, .int 0)]) (st' := [.int 22]) (w' := (fw z)) (cs' := 0) (ss' := 0) ?_ (fun _ _ => rfl)
  refine go_cl (k := 1) (st' := [.int 1]) (cs' := 0) (ss' := 0) rfl rfl rfl rfl rfl rfl rfl (ro_1369 z) ?_
  refine go_seg 8 (pc' := 24) (ls' := [(3, .int 0), (0, .ref 1), (1, .int 22), (2, .int 0)]) (st' := [.ref 1]) (w' := (fw z)) (cs' := 0) (ss' := 0) ?_ (fun _ _ => rfl)
  refine go_seg 8 (pc' := 38) (ls' := [(3, .int 0), (0, .ref 1), (1, .int 22), (2, .int 0)]) (st' := []) (w' := (wd_1388 z)) (cs' := 0) (ss' := 0) ?_ (fun _ _ => rfl)
  exact go_end 3 (fun _ _ => rfl)
theorem ro_1874 (z : pq_C) : pq_Ru 1 161 [.long 22, .long 0, .long 63] (wd_1388 z) (some (.int 1), (wd_1388 z)) := by
  refine ru_of (k := 0) (M := pm_161) rfl rfl ?_
  refine go_seg 8 (pc' := 13) (ls' := [(0, .long 22), (2, .long 0), (4, .long 63)]) (st' := []) (w' := (wd_1388 z)) (cs' := 0) (ss' := 0) ?_ (fun _ _ => rfl)
  exact go_end 3 (fun _ _ => rfl)
theorem ro_1875 (z : pq_C) : pq_Ru 2 160 [.int 22] (wd_1388 z) (some (.int 1), (wd_1388 z)) := by
  refine ru_of (k := 1) (M := pm_160) rfl rfl ?_
  refine go_seg 4 (pc' := 6) (ls' := [(0, .int 22)]) (st' := [.long 63, .long 0, .long 22]) (w' := (wd_1388 z)) (cs' := 0) (ss' := 0) ?_ (fun _ _ => rfl)
  refine go_cl (k := 1) (st' := [.int 1]) (cs' := 0) (ss' := 0) rfl rfl rfl rfl rfl rfl rfl (ro_1874 z) ?_
  exact go_end 1 (fun _ _ => rfl)
def wd_1389 (z : pq_C) : pq_W := ((wd_1388 z).set 91 (.inl (.int, 2858, .inl (upd (upd (upd (upd (upd (upd (upd (upd (upd (upd (upd (upd (upd (upd (upd (upd (upd (upd (upd (upd (upd (upd (upd (upd (upd (upd (upd (upd (upd (upd (upd (upd (upd (upd (upd (upd (upd (upd (upd (upd (upd (upd (upd (upd (upd (upd (upd (upd (upd (upd (upd (upd (upd (upd (upd (upd (upd (upd (upd (upd (upd (upd (upd (upd (upd (upd (upd (upd (upd (upd (upd (upd (upd (upd (upd (upd (upd (upd (upd (upd (upd (upd (fun _ => 0) 1 10) 10 (-1)) 11 (-1)) 12 (-1)) 13 (-1)) 14 (-1)) 15 (-1)) 16 (-1)) 17 (-1)) 18 (-1)) 19 (-1)) 20 (-1)) 21 (-1)) 22 (-1)) 23 (-1)) 24 (-1)) 25 (-1)) 26 (-1)) 27 (-1)) 28 (-1)) 29 (-1)) 30 (-1)) 31 (-1)) 32 (-1)) 33 (-1)) 34 (-1)) 35 (-1)) 36 (-1)) 37 (-1)) 38 (-1)) 39 (-1)) 40 (-1)) 41 (-1)) 42 (-1)) 43 (-1)) 44 (-1)) 45 (-1)) 46 (-1)) 47 (-1)) 48 (-1)) 49 (-1)) 50 (-1)) 51 (-1)) 52 (-1)) 53 (-1)) 54 (-1)) 55 (-1)) 56 (-1)) 57 (-1)) 58 (-1)) 59 (-1)) 60 (-1)) 61 (-1)) 62 (-1)) 63 (-1)) 64 (-1)) 65 (-1)) 66 (-1)) 67 (-1)) 68 (-1)) 69 (-1)) 70 (-1)) 71 (-1)) 72 (-1)) 73 (-1)) 139 1000) 140 100) 145 1000) 146 100) 151 1000) 152 100) 157 1000) 158 100) 163 1000) 164 100) 169 1000) 170 100) 175 1000) 176 100) 181 1000) 182 100) 96 0))))
theorem ro_1876 (z : pq_C) : pq_Ru 3 165 [.ref 90, .int 22, .int 0] (wd_1388 z) (some (.int 0), (wd_1389 z)) := by
  refine ru_of (k := 2) (M := pm_165) rfl rfl ?_
  refine go_seg 1 (pc' := 1) (ls' := [(0, .ref 90), (1, .int 22), (2, .int 0)]) (st' := [.int 22]) (w' := (wd_1388 z)) (cs' := 0) (ss' := 0) ?_ (fun _ _ => rfl)
  refine go_cl (k := 2) (st' := [.int 1]) (cs' := 0) (ss' := 0) rfl rfl rfl rfl rfl rfl rfl (ro_1875 z) ?_
  refine go_seg 8 (pc' := 24) (ls' := [(0, .ref 90), (1, .int 22), (2, .int 0)]) (st' := [.int 0, .int 0]) (w' := (wd_1388 z)) (cs' := 0) (ss' := 0) ?_ (fun _ _ => rfl)
  refine go_seg 8 (pc' := 47) (ls' := [(3, .int 0), (0, .ref 90), (1, .int 22), (2, .int 0)]) (st' := [.int 74, .ref 91]) (w' := (wd_1388 z)) (cs' := 0) (ss' := 0) ?_ (fun _ _ => rfl)
  exact go_end 8 (fun _ _ => rfl)
theorem lf_2_1878 (a0 : Int32) (a3 : Int32) (a4 : Int32) (a5 : Int32) : ∃ w', pq_Go 20 pm_law 278 [(3, .int 0), (2, .ref 90), (1, .ref 1), (0, .ref 0)] [] (fw (sz a0 22 0 a3 a4 a5)) 109 12668 (some (.int 1), w') := by
  refine ⟨(wd_1389 (sz a0 22 0 a3 a4 a5)), ?_⟩
  refine go_seg 8 (pc' := 286) (ls' := [(3, .int 0), (2, .ref 90), (1, .ref 1), (0, .ref 0)]) (st' := [.int 0, .ref 0, .int 22, .ref 1]) (w' := (fw (sz a0 22 0 a3 a4 a5))) (cs' := 109) (ss' := 12668) ?_ (fun _ _ => rfl)
  refine go_seg 5 (pc' := 297) (ls' := [(3, .int 0), (2, .ref 90), (1, .ref 1), (0, .ref 0)]) (st' := [.int 0, .int 22, .ref 1]) (w' := (fw (sz a0 22 0 a3 a4 a5))) (cs' := 109) (ss' := 12668) ?_ (fun _ _ => rfl)
  refine go_cl (k := 20) (st' := [.int 0]) (cs' := 109) (ss' := 12668) rfl rfl rfl rfl rfl rfl rfl (ro_1873 (sz a0 22 0 a3 a4 a5)) ?_
  refine go_seg 8 (pc' := 308) (ls' := [(3, .int 0), (2, .ref 90), (1, .ref 1), (0, .ref 0)]) (st' := [.int 0, .ref 0, .int 22, .ref 90, .int 0]) (w' := (wd_1388 (sz a0 22 0 a3 a4 a5))) (cs' := 109) (ss' := 12668) ?_ (fun _ _ => rfl)
  refine go_seg 5 (pc' := 319) (ls' := [(3, .int 0), (2, .ref 90), (1, .ref 1), (0, .ref 0)]) (st' := [.int 0, .int 22, .ref 90, .int 0]) (w' := (wd_1388 (sz a0 22 0 a3 a4 a5))) (cs' := 109) (ss' := 12668) ?_ (fun _ _ => rfl)
  refine go_cl (k := 20) (st' := [.int 0, .int 0]) (cs' := 109) (ss' := 12668) rfl rfl rfl rfl rfl rfl rfl (ro_1876 (sz a0 22 0 a3 a4 a5)) ?_
  refine go_cmp true rfl (br_self _) ?_
  exact law_tail (f := sc a0 22 0 a3 a4 a5) rfl
def wd_1390 (z : pq_C) : pq_W := ((fw z).set 4 (.inl (.boolean, 64, .inl (upd (fun _ => 0) 23 0))))
theorem ro_1880 (z : pq_C) : pq_Ru 2 22 [.ref 1, .int 23, .int 0] (fw z) (some (.int 0), (wd_1390 z)) := by
  refine ru_of (k := 1) (M := pm_22) rfl rfl ?_
  refine go_seg 1 (pc' := 1) (ls' := [(0, .ref 1), (1, .int 23), (2, .int 0)]) (st' := [.int 23]) (w' := (fw z)) (cs' := 0) (ss' := 0) ?_ (fun _ _ => rfl)
  refine go_cl (k := 1) (st' := [.int 1]) (cs' := 0) (ss' := 0) rfl rfl rfl rfl rfl rfl rfl (ro_1377 z) ?_
  refine go_seg 8 (pc' := 24) (ls' := [(3, .int 0), (0, .ref 1), (1, .int 23), (2, .int 0)]) (st' := [.ref 1]) (w' := (fw z)) (cs' := 0) (ss' := 0) ?_ (fun _ _ => rfl)
  refine go_seg 8 (pc' := 38) (ls' := [(3, .int 0), (0, .ref 1), (1, .int 23), (2, .int 0)]) (st' := []) (w' := (wd_1390 z)) (cs' := 0) (ss' := 0) ?_ (fun _ _ => rfl)
  exact go_end 3 (fun _ _ => rfl)
theorem ro_1881 (z : pq_C) : pq_Ru 1 161 [.long 23, .long 0, .long 63] (wd_1390 z) (some (.int 1), (wd_1390 z)) := by
  refine ru_of (k := 0) (M := pm_161) rfl rfl ?_
  refine go_seg 8 (pc' := 13) (ls' := [(0, .long 23), (2, .long 0), (4, .long 63)]) (st' := []) (w' := (wd_1390 z)) (cs' := 0) (ss' := 0) ?_ (fun _ _ => rfl)
  exact go_end 3 (fun _ _ => rfl)
theorem ro_1882 (z : pq_C) : pq_Ru 2 160 [.int 23] (wd_1390 z) (some (.int 1), (wd_1390 z)) := by
  refine ru_of (k := 1) (M := pm_160) rfl rfl ?_
  refine go_seg 4 (pc' := 6) (ls' := [(0, .int 23)]) (st' := [.long 63, .long 0, .long 23]) (w' := (wd_1390 z)) (cs' := 0) (ss' := 0) ?_ (fun _ _ => rfl)
  refine go_cl (k := 1) (st' := [.int 1]) (cs' := 0) (ss' := 0) rfl rfl rfl rfl rfl rfl rfl (ro_1881 z) ?_
  exact go_end 1 (fun _ _ => rfl)
def wd_1391 (z : pq_C) : pq_W := ((wd_1390 z).set 91 (.inl (.int, 2858, .inl (upd (upd (upd (upd (upd (upd (upd (upd (upd (upd (upd (upd (upd (upd (upd (upd (upd (upd (upd (upd (upd (upd (upd (upd (upd (upd (upd (upd (upd (upd (upd (upd (upd (upd (upd (upd (upd (upd (upd (upd (upd (upd (upd (upd (upd (upd (upd (upd (upd (upd (upd (upd (upd (upd (upd (upd (upd (upd (upd (upd (upd (upd (upd (upd (upd (upd (upd (upd (upd (upd (upd (upd (upd (upd (upd (upd (upd (upd (upd (upd (upd (upd (fun _ => 0) 1 10) 10 (-1)) 11 (-1)) 12 (-1)) 13 (-1)) 14 (-1)) 15 (-1)) 16 (-1)) 17 (-1)) 18 (-1)) 19 (-1)) 20 (-1)) 21 (-1)) 22 (-1)) 23 (-1)) 24 (-1)) 25 (-1)) 26 (-1)) 27 (-1)) 28 (-1)) 29 (-1)) 30 (-1)) 31 (-1)) 32 (-1)) 33 (-1)) 34 (-1)) 35 (-1)) 36 (-1)) 37 (-1)) 38 (-1)) 39 (-1)) 40 (-1)) 41 (-1)) 42 (-1)) 43 (-1)) 44 (-1)) 45 (-1)) 46 (-1)) 47 (-1)) 48 (-1)) 49 (-1)) 50 (-1)) 51 (-1)) 52 (-1)) 53 (-1)) 54 (-1)) 55 (-1)) 56 (-1)) 57 (-1)) 58 (-1)) 59 (-1)) 60 (-1)) 61 (-1)) 62 (-1)) 63 (-1)) 64 (-1)) 65 (-1)) 66 (-1)) 67 (-1)) 68 (-1)) 69 (-1)) 70 (-1)) 71 (-1)) 72 (-1)) 73 (-1)) 139 1000) 140 100) 145 1000) 146 100) 151 1000) 152 100) 157 1000) 158 100) 163 1000) 164 100) 169 1000) 170 100) 175 1000) 176 100) 181 1000) 182 100) 97 0))))
theorem ro_1883 (z : pq_C) : pq_Ru 3 165 [.ref 90, .int 23, .int 0] (wd_1390 z) (some (.int 0), (wd_1391 z)) := by
  refine ru_of (k := 2) (M := pm_165) rfl rfl ?_
  refine go_seg 1 (pc' := 1) (ls' := [(0, .ref 90), (1, .int 23), (2, .int 0)]) (st' := [.int 23]) (w' := (wd_1390 z)) (cs' := 0) (ss' := 0) ?_ (fun _ _ => rfl)
  refine go_cl (k := 2) (st' := [.int 1]) (cs' := 0) (ss' := 0) rfl rfl rfl rfl rfl rfl rfl (ro_1882 z) ?_
  refine go_seg 8 (pc' := 24) (ls' := [(0, .ref 90), (1, .int 23), (2, .int 0)]) (st' := [.int 0, .int 0]) (w' := (wd_1390 z)) (cs' := 0) (ss' := 0) ?_ (fun _ _ => rfl)
  refine go_seg 8 (pc' := 47) (ls' := [(3, .int 0), (0, .ref 90), (1, .int 23), (2, .int 0)]) (st' := [.int 74, .ref 91]) (w' := (wd_1390 z)) (cs' := 0) (ss' := 0) ?_ (fun _ _ => rfl)
  exact go_end 8 (fun _ _ => rfl)
theorem lf_2_1885 (a0 : Int32) (a3 : Int32) (a4 : Int32) (a5 : Int32) : ∃ w', pq_Go 20 pm_law 278 [(3, .int 0), (2, .ref 90), (1, .ref 1), (0, .ref 0)] [] (fw (sz a0 23 0 a3 a4 a5)) 109 12668 (some (.int 1), w') := by
  refine ⟨(wd_1391 (sz a0 23 0 a3 a4 a5)), ?_⟩
  refine go_seg 8 (pc' := 286) (ls' := [(3, .int 0), (2, .ref 90), (1, .ref 1), (0, .ref 0)]) (st' := [.int 0, .ref 0, .int 23, .ref 1]) (w' := (fw (sz a0 23 0 a3 a4 a5))) (cs' := 109) (ss' := 12668) ?_ (fun _ _ => rfl)
  refine go_seg 5 (pc' := 297) (ls' := [(3, .int 0), (2, .ref 90), (1, .ref 1), (0, .ref 0)]) (st' := [.int 0, .int 23, .ref 1]) (w' := (fw (sz a0 23 0 a3 a4 a5))) (cs' := 109) (ss' := 12668) ?_ (fun _ _ => rfl)
  refine go_cl (k := 20) (st' := [.int 0]) (cs' := 109) (ss' := 12668) rfl rfl rfl rfl rfl rfl rfl (ro_1880 (sz a0 23 0 a3 a4 a5)) ?_
  refine go_seg 8 (pc' := 308) (ls' := [(3, .int 0), (2, .ref 90), (1, .ref 1), (0, .ref 0)]) (st' := [.int 0, .ref 0, .int 23, .ref 90, .int 0]) (w' := (wd_1390 (sz a0 23 0 a3 a4 a5))) (cs' := 109) (ss' := 12668) ?_ (fun _ _ => rfl)
  refine go_seg 5 (pc' := 319) (ls' := [(3, .int 0), (2, .ref 90), (1, .ref 1), (0, .ref 0)]) (st' := [.int 0, .int 23, .ref 90, .int 0]) (w' := (wd_1390 (sz a0 23 0 a3 a4 a5))) (cs' := 109) (ss' := 12668) ?_ (fun _ _ => rfl)
  refine go_cl (k := 20) (st' := [.int 0, .int 0]) (cs' := 109) (ss' := 12668) rfl rfl rfl rfl rfl rfl rfl (ro_1883 (sz a0 23 0 a3 a4 a5)) ?_
  refine go_cmp true rfl (br_self _) ?_
  exact law_tail (f := sc a0 23 0 a3 a4 a5) rfl
def wd_1392 (z : pq_C) : pq_W := ((fw z).set 4 (.inl (.boolean, 64, .inl (upd (fun _ => 0) 24 0))))
theorem ro_1887 (z : pq_C) : pq_Ru 2 22 [.ref 1, .int 24, .int 0] (fw z) (some (.int 0), (wd_1392 z)) := by
  refine ru_of (k := 1) (M := pm_22) rfl rfl ?_
  refine go_seg 1 (pc' := 1) (ls' := [(0, .ref 1), (1, .int 24), (2, .int 0)]) (st' := [.int 24]) (w' := (fw z)) (cs' := 0) (ss' := 0) ?_ (fun _ _ => rfl)
  refine go_cl (k := 1) (st' := [.int 1]) (cs' := 0) (ss' := 0) rfl rfl rfl rfl rfl rfl rfl (ro_1385 z) ?_
  refine go_seg 8 (pc' := 24) (ls' := [(3, .int 0), (0, .ref 1), (1, .int 24), (2, .int 0)]) (st' := [.ref 1]) (w' := (fw z)) (cs' := 0) (ss' := 0) ?_ (fun _ _ => rfl)
  refine go_seg 8 (pc' := 38) (ls' := [(3, .int 0), (0, .ref 1), (1, .int 24), (2, .int 0)]) (st' := []) (w' := (wd_1392 z)) (cs' := 0) (ss' := 0) ?_ (fun _ _ => rfl)
  exact go_end 3 (fun _ _ => rfl)
theorem ro_1888 (z : pq_C) : pq_Ru 1 161 [.long 24, .long 0, .long 63] (wd_1392 z) (some (.int 1), (wd_1392 z)) := by
  refine ru_of (k := 0) (M := pm_161) rfl rfl ?_
  refine go_seg 8 (pc' := 13) (ls' := [(0, .long 24), (2, .long 0), (4, .long 63)]) (st' := []) (w' := (wd_1392 z)) (cs' := 0) (ss' := 0) ?_ (fun _ _ => rfl)
  exact go_end 3 (fun _ _ => rfl)
theorem ro_1889 (z : pq_C) : pq_Ru 2 160 [.int 24] (wd_1392 z) (some (.int 1), (wd_1392 z)) := by
  refine ru_of (k := 1) (M := pm_160) rfl rfl ?_
  refine go_seg 4 (pc' := 6) (ls' := [(0, .int 24)]) (st' := [.long 63, .long 0, .long 24]) (w' := (wd_1392 z)) (cs' := 0) (ss' := 0) ?_ (fun _ _ => rfl)
  refine go_cl (k := 1) (st' := [.int 1]) (cs' := 0) (ss' := 0) rfl rfl rfl rfl rfl rfl rfl (ro_1888 z) ?_
  exact go_end 1 (fun _ _ => rfl)
def wd_1393 (z : pq_C) : pq_W := ((wd_1392 z).set 91 (.inl (.int, 2858, .inl (upd (upd (upd (upd (upd (upd (upd (upd (upd (upd (upd (upd (upd (upd (upd (upd (upd (upd (upd (upd (upd (upd (upd (upd (upd (upd (upd (upd (upd (upd (upd (upd (upd (upd (upd (upd (upd (upd (upd (upd (upd (upd (upd (upd (upd (upd (upd (upd (upd (upd (upd (upd (upd (upd (upd (upd (upd (upd (upd (upd (upd (upd (upd (upd (upd (upd (upd (upd (upd (upd (upd (upd (upd (upd (upd (upd (upd (upd (upd (upd (upd (upd (fun _ => 0) 1 10) 10 (-1)) 11 (-1)) 12 (-1)) 13 (-1)) 14 (-1)) 15 (-1)) 16 (-1)) 17 (-1)) 18 (-1)) 19 (-1)) 20 (-1)) 21 (-1)) 22 (-1)) 23 (-1)) 24 (-1)) 25 (-1)) 26 (-1)) 27 (-1)) 28 (-1)) 29 (-1)) 30 (-1)) 31 (-1)) 32 (-1)) 33 (-1)) 34 (-1)) 35 (-1)) 36 (-1)) 37 (-1)) 38 (-1)) 39 (-1)) 40 (-1)) 41 (-1)) 42 (-1)) 43 (-1)) 44 (-1)) 45 (-1)) 46 (-1)) 47 (-1)) 48 (-1)) 49 (-1)) 50 (-1)) 51 (-1)) 52 (-1)) 53 (-1)) 54 (-1)) 55 (-1)) 56 (-1)) 57 (-1)) 58 (-1)) 59 (-1)) 60 (-1)) 61 (-1)) 62 (-1)) 63 (-1)) 64 (-1)) 65 (-1)) 66 (-1)) 67 (-1)) 68 (-1)) 69 (-1)) 70 (-1)) 71 (-1)) 72 (-1)) 73 (-1)) 139 1000) 140 100) 145 1000) 146 100) 151 1000) 152 100) 157 1000) 158 100) 163 1000) 164 100) 169 1000) 170 100) 175 1000) 176 100) 181 1000) 182 100) 98 0))))
theorem ro_1890 (z : pq_C) : pq_Ru 3 165 [.ref 90, .int 24, .int 0] (wd_1392 z) (some (.int 0), (wd_1393 z)) := by
  refine ru_of (k := 2) (M := pm_165) rfl rfl ?_
  refine go_seg 1 (pc' := 1) (ls' := [(0, .ref 90), (1, .int 24), (2, .int 0)]) (st' := [.int 24]) (w' := (wd_1392 z)) (cs' := 0) (ss' := 0) ?_ (fun _ _ => rfl)
  refine go_cl (k := 2) (st' := [.int 1]) (cs' := 0) (ss' := 0) rfl rfl rfl rfl rfl rfl rfl (ro_1889 z) ?_
  refine go_seg 8 (pc' := 24) (ls' := [(0, .ref 90), (1, .int 24), (2, .int 0)]) (st' := [.int 0, .int 0]) (w' := (wd_1392 z)) (cs' := 0) (ss' := 0) ?_ (fun _ _ => rfl)
  refine go_seg 8 (pc' := 47) (ls' := [(3, .int 0), (0, .ref 90), (1, .int 24), (2, .int 0)]) (st' := [.int 74, .ref 91]) (w' := (wd_1392 z)) (cs' := 0) (ss' := 0) ?_ (fun _ _ => rfl)
  exact go_end 8 (fun _ _ => rfl)
theorem lf_2_1892 (a0 : Int32) (a3 : Int32) (a4 : Int32) (a5 : Int32) : ∃ w', pq_Go 20 pm_law 278 [(3, .int 0), (2, .ref 90), (1, .ref 1), (0, .ref 0)] [] (fw (sz a0 24 0 a3 a4 a5)) 109 12668 (some (.int 1), w') := by
  refine ⟨(wd_1393 (sz a0 24 0 a3 a4 a5)), ?_⟩
  refine go_seg 8 (pc' := 286) (ls' := [(3, .int 0), (2, .ref 90), (1, .ref 1), (0, .ref 0)]) (st' := [.int 0, .ref 0, .int 24, .ref 1]) (w' := (fw (sz a0 24 0 a3 a4 a5))) (cs' := 109) (ss' := 12668) ?_ (fun _ _ => rfl)
  refine go_seg 5 (pc' := 297) (ls' := [(3, .int 0), (2, .ref 90), (1, .ref 1), (0, .ref 0)]) (st' := [.int 0, .int 24, .ref 1]) (w' := (fw (sz a0 24 0 a3 a4 a5))) (cs' := 109) (ss' := 12668) ?_ (fun _ _ => rfl)
  refine go_cl (k := 20) (st' := [.int 0]) (cs' := 109) (ss' := 12668) rfl rfl rfl rfl rfl rfl rfl (ro_1887 (sz a0 24 0 a3 a4 a5)) ?_
  refine go_seg 8 (pc' := 308) (ls' := [(3, .int 0), (2, .ref 90), (1, .ref 1), (0, .ref 0)]) (st' := [.int 0, .ref 0, .int 24, .ref 90, .int 0]) (w' := (wd_1392 (sz a0 24 0 a3 a4 a5))) (cs' := 109) (ss' := 12668) ?_ (fun _ _ => rfl)
  refine go_seg 5 (pc' := 319) (ls' := [(3, .int 0), (2, .ref 90), (1, .ref 1), (0, .ref 0)]) (st' := [.int 0, .int 24, .ref 90, .int 0]) (w' := (wd_1392 (sz a0 24 0 a3 a4 a5))) (cs' := 109) (ss' := 12668) ?_ (fun _ _ => rfl)
  refine go_cl (k := 20) (st' := [.int 0, .int 0]) (cs' := 109) (ss' := 12668) rfl rfl rfl rfl rfl rfl rfl (ro_1890 (sz a0 24 0 a3 a4 a5)) ?_
  refine go_cmp true rfl (br_self _) ?_
  exact law_tail (f := sc a0 24 0 a3 a4 a5) rfl
def wd_1394 (z : pq_C) : pq_W := ((fw z).set 4 (.inl (.boolean, 64, .inl (upd (fun _ => 0) 25 0))))
theorem ro_1894 (z : pq_C) : pq_Ru 2 22 [.ref 1, .int 25, .int 0] (fw z) (some (.int 0), (wd_1394 z)) := by
  refine ru_of (k := 1) (M := pm_22) rfl rfl ?_
  refine go_seg 1 (pc' := 1) (ls' := [(0, .ref 1), (1, .int 25), (2, .int 0)]) (st' := [.int 25]) (w' := (fw z)) (cs' := 0) (ss' := 0) ?_ (fun _ _ => rfl)
  refine go_cl (k := 1) (st' := [.int 1]) (cs' := 0) (ss' := 0) rfl rfl rfl rfl rfl rfl rfl (ro_1393 z) ?_
  refine go_seg 8 (pc' := 24) (ls' := [(3, .int 0), (0, .ref 1), (1, .int 25), (2, .int 0)]) (st' := [.ref 1]) (w' := (fw z)) (cs' := 0) (ss' := 0) ?_ (fun _ _ => rfl)
  refine go_seg 8 (pc' := 38) (ls' := [(3, .int 0), (0, .ref 1), (1, .int 25), (2, .int 0)]) (st' := []) (w' := (wd_1394 z)) (cs' := 0) (ss' := 0) ?_ (fun _ _ => rfl)
  exact go_end 3 (fun _ _ => rfl)
theorem ro_1895 (z : pq_C) : pq_Ru 1 161 [.long 25, .long 0, .long 63] (wd_1394 z) (some (.int 1), (wd_1394 z)) := by
  refine ru_of (k := 0) (M := pm_161) rfl rfl ?_
  refine go_seg 8 (pc' := 13) (ls' := [(0, .long 25), (2, .long 0), (4, .long 63)]) (st' := []) (w' := (wd_1394 z)) (cs' := 0) (ss' := 0) ?_ (fun _ _ => rfl)
  exact go_end 3 (fun _ _ => rfl)
theorem ro_1896 (z : pq_C) : pq_Ru 2 160 [.int 25] (wd_1394 z) (some (.int 1), (wd_1394 z)) := by
  refine ru_of (k := 1) (M := pm_160) rfl rfl ?_
  refine go_seg 4 (pc' := 6) (ls' := [(0, .int 25)]) (st' := [.long 63, .long 0, .long 25]) (w' := (wd_1394 z)) (cs' := 0) (ss' := 0) ?_ (fun _ _ => rfl)
  refine go_cl (k := 1) (st' := [.int 1]) (cs' := 0) (ss' := 0) rfl rfl rfl rfl rfl rfl rfl (ro_1895 z) ?_
  exact go_end 1 (fun _ _ => rfl)
def wd_1395 (z : pq_C) : pq_W := ((wd_1394 z).set 91 (.inl (.int, 2858, .inl (upd (upd (upd (upd (upd (upd (upd (upd (upd (upd (upd (upd (upd (upd (upd (upd (upd (upd (upd (upd (upd (upd (upd (upd (upd (upd (upd (upd (upd (upd (upd (upd (upd (upd (upd (upd (upd (upd (upd (upd (upd (upd (upd (upd (upd (upd (upd (upd (upd (upd (upd (upd (upd (upd (upd (upd (upd (upd (upd (upd (upd (upd (upd (upd (upd (upd (upd (upd (upd (upd (upd (upd (upd (upd (upd (upd (upd (upd (upd (upd (upd (upd (fun _ => 0) 1 10) 10 (-1)) 11 (-1)) 12 (-1)) 13 (-1)) 14 (-1)) 15 (-1)) 16 (-1)) 17 (-1)) 18 (-1)) 19 (-1)) 20 (-1)) 21 (-1)) 22 (-1)) 23 (-1)) 24 (-1)) 25 (-1)) 26 (-1)) 27 (-1)) 28 (-1)) 29 (-1)) 30 (-1)) 31 (-1)) 32 (-1)) 33 (-1)) 34 (-1)) 35 (-1)) 36 (-1)) 37 (-1)) 38 (-1)) 39 (-1)) 40 (-1)) 41 (-1)) 42 (-1)) 43 (-1)) 44 (-1)) 45 (-1)) 46 (-1)) 47 (-1)) 48 (-1)) 49 (-1)) 50 (-1)) 51 (-1)) 52 (-1)) 53 (-1)) 54 (-1)) 55 (-1)) 56 (-1)) 57 (-1)) 58 (-1)) 59 (-1)) 60 (-1)) 61 (-1)) 62 (-1)) 63 (-1)) 64 (-1)) 65 (-1)) 66 (-1)) 67 (-1)) 68 (-1)) 69 (-1)) 70 (-1)) 71 (-1)) 72 (-1)) 73 (-1)) 139 1000) 140 100) 145 1000) 146 100) 151 1000) 152 100) 157 1000) 158 100) 163 1000) 164 100) 169 1000) 170 100) 175 1000) 176 100) 181 1000) 182 100) 99 0))))
theorem ro_1897 (z : pq_C) : pq_Ru 3 165 [.ref 90, .int 25, .int 0] (wd_1394 z) (some (.int 0), (wd_1395 z)) := by
  refine ru_of (k := 2) (M := pm_165) rfl rfl ?_
  refine go_seg 1 (pc' := 1) (ls' := [(0, .ref 90), (1, .int 25), (2, .int 0)]) (st' := [.int 25]) (w' := (wd_1394 z)) (cs' := 0) (ss' := 0) ?_ (fun _ _ => rfl)
  refine go_cl (k := 2) (st' := [.int 1]) (cs' := 0) (ss' := 0) rfl rfl rfl rfl rfl rfl rfl (ro_1896 z) ?_
  refine go_seg 8 (pc' := 24) (ls' := [(0, .ref 90), (1, .int 25), (2, .int 0)]) (st' := [.int 0, .int 0]) (w' := (wd_1394 z)) (cs' := 0) (ss' := 0) ?_ (fun _ _ => rfl)
  refine go_seg 8 (pc' := 47) (ls' := [(3, .int 0), (0, .ref 90), (1, .int 25), (2, .int 0)]) (st' := [.int 74, .ref 91]) (w' := (wd_1394 z)) (cs' := 0) (ss' := 0) ?_ (fun _ _ => rfl)
  exact go_end 8 (fun _ _ => rfl)
theorem lf_2_1899 (a0 : Int32) (a3 : Int32) (a4 : Int32) (a5 : Int32) : ∃ w', pq_Go 20 pm_law 278 [(3, .int 0), (2, .ref 90), (1, .ref 1), (0, .ref 0)] [] (fw (sz a0 25 0 a3 a4 a5)) 109 12668 (some (.int 1), w') := by
  refine ⟨(wd_1395 (sz a0 25 0 a3 a4 a5)), ?_⟩
  refine go_seg 8 (pc' := 286) (ls' := [(3, .int 0), (2, .ref 90), (1, .ref 1), (0, .ref 0)]) (st' := [.int 0, .ref 0, .int 25, .ref 1]) (w' := (fw (sz a0 25 0 a3 a4 a5))) (cs' := 109) (ss' := 12668) ?_ (fun _ _ => rfl)
  refine go_seg 5 (pc' := 297) (ls' := [(3, .int 0), (2, .ref 90), (1, .ref 1), (0, .ref 0)]) (st' := [.int 0, .int 25, .ref 1]) (w' := (fw (sz a0 25 0 a3 a4 a5))) (cs' := 109) (ss' := 12668) ?_ (fun _ _ => rfl)
  refine go_cl (k := 20) (st' := [.int 0]) (cs' := 109) (ss' := 12668) rfl rfl rfl rfl rfl rfl rfl (ro_1894 (sz a0 25 0 a3 a4 a5)) ?_
  refine go_seg 8 (pc' := 308) (ls' := [(3, .int 0), (2, .ref 90), (1, .ref 1), (0, .ref 0)]) (st' := [.int 0, .ref 0, .int 25, .ref 90, .int 0]) (w' := (wd_1394 (sz a0 25 0 a3 a4 a5))) (cs' := 109) (ss' := 12668) ?_ (fun _ _ => rfl)
  refine go_seg 5 (pc' := 319) (ls' := [(3, .int 0), (2, .ref 90), (1, .ref 1), (0, .ref 0)]) (st' := [.int 0, .int 25, .ref 90, .int 0]) (w' := (wd_1394 (sz a0 25 0 a3 a4 a5))) (cs' := 109) (ss' := 12668) ?_ (fun _ _ => rfl)
  refine go_cl (k := 20) (st' := [.int 0, .int 0]) (cs' := 109) (ss' := 12668) rfl rfl rfl rfl rfl rfl rfl (ro_1897 (sz a0 25 0 a3 a4 a5)) ?_
  refine go_cmp true rfl (br_self _) ?_
  exact law_tail (f := sc a0 25 0 a3 a4 a5) rfl
def wd_1396 (z : pq_C) : pq_W := ((fw z).set 4 (.inl (.boolean, 64, .inl (upd (fun _ => 0) 26 0))))
theorem ro_1901 (z : pq_C) : pq_Ru 2 22 [.ref 1, .int 26, .int 0] (fw z) (some (.int 0), (wd_1396 z)) := by
  refine ru_of (k := 1) (M := pm_22) rfl rfl ?_
  refine go_seg 1 (pc' := 1) (ls' := [(0, .ref 1), (1, .int 26), (2, .int 0)]) (st' := [.int 26]) (w' := (fw z)) (cs' := 0) (ss' := 0) ?_ (fun _ _ => rfl)
  refine go_cl (k := 1) (st' := [.int 1]) (cs' := 0) (ss' := 0) rfl rfl rfl rfl rfl rfl rfl (ro_1401 z) ?_
  refine go_seg 8 (pc' := 24) (ls' := [(3, .int 0), (0, .ref 1), (1, .int 26), (2, .int 0)]) (st' := [.ref 1]) (w' := (fw z)) (cs' := 0) (ss' := 0) ?_ (fun _ _ => rfl)
  refine go_seg 8 (pc' := 38) (ls' := [(3, .int 0), (0, .ref 1), (1, .int 26), (2, .int 0)]) (st' := []) (w' := (wd_1396 z)) (cs' := 0) (ss' := 0) ?_ (fun _ _ => rfl)
  exact go_end 3 (fun _ _ => rfl)
theorem ro_1902 (z : pq_C) : pq_Ru 1 161 [.long 26, .long 0, .long 63] (wd_1396 z) (some (.int 1), (wd_1396 z)) := by
  refine ru_of (k := 0) (M := pm_161) rfl rfl ?_
  refine go_seg 8 (pc' := 13) (ls' := [(0, .long 26), (2, .long 0), (4, .long 63)]) (st' := []) (w' := (wd_1396 z)) (cs' := 0) (ss' := 0) ?_ (fun _ _ => rfl)
  exact go_end 3 (fun _ _ => rfl)
theorem ro_1903 (z : pq_C) : pq_Ru 2 160 [.int 26] (wd_1396 z) (some (.int 1), (wd_1396 z)) := by
  refine ru_of (k := 1) (M := pm_160) rfl rfl ?_
  refine go_seg 4 (pc' := 6) (ls' := [(0, .int 26)]) (st' := [.long 63, .long 0, .long 26]) (w' := (wd_1396 z)) (cs' := 0) (ss' := 0) ?_ (fun _ _ => rfl)
  refine go_cl (k := 1) (st' := [.int 1]) (cs' := 0) (ss' := 0) rfl rfl rfl rfl rfl rfl rfl (ro_1902 z) ?_
  exact go_end 1 (fun _ _ => rfl)
def wd_1397 (z : pq_C) : pq_W := ((wd_1396 z).set 91 (.inl (.int, 2858, .inl (upd (upd (upd (upd (upd (upd (upd (upd (upd (upd (upd (upd (upd (upd (upd (upd (upd (upd (upd (upd (upd (upd (upd (upd (upd (upd (upd (upd (upd (upd (upd (upd (upd (upd (upd (upd (upd (upd (upd (upd (upd (upd (upd (upd (upd (upd (upd (upd (upd (upd (upd (upd (upd (upd (upd (upd (upd (upd (upd (upd (upd (upd (upd (upd (upd (upd (upd (upd (upd (upd (upd (upd (upd (upd (upd (upd (upd (upd (upd (upd (upd (upd (fun _ => 0) 1 10) 10 (-1)) 11 (-1)) 12 (-1)) 13 (-1)) 14 (-1)) 15 (-1)) 16 (-1)) 17 (-1)) 18 (-1)) 19 (-1)) 20 (-1)) 21 (-1)) 22 (-1)) 23 (-1)) 24 (-1)) 25 (-1)) 26 (-1)) 27 (-1)) 28 (-1)) 29 (-1)) 30 (-1)) 31 (-1)) 32 (-1)) 33 (-1)) 34 (-1)) 35 (-1)) 36 (-1)) 37 (-1)) 38 (-1)) 39 (-1)) 40 (-1)) 41 (-1)) 42 (-1)) 43 (-1)) 44 (-1)) 45 (-1)) 46 (-1)) 47 (-1)) 48 (-1)) 49 (-1)) 50 (-1)) 51 (-1)) 52 (-1)) 53 (-1)) 54 (-1)) 55 (-1)) 56 (-1)) 57 (-1)) 58 (-1)) 59 (-1)) 60 (-1)) 61 (-1)) 62 (-1)) 63 (-1)) 64 (-1)) 65 (-1)) 66 (-1)) 67 (-1)) 68 (-1)) 69 (-1)) 70 (-1)) 71 (-1)) 72 (-1)) 73 (-1)) 139 1000) 140 100) 145 1000) 146 100) 151 1000) 152 100) 157 1000) 158 100) 163 1000) 164 100) 169 1000) 170 100) 175 1000) 176 100) 181 1000) 182 100) 100 0))))
theorem ro_1904 (z : pq_C) : pq_Ru 3 165 [.ref 90, .int 26, .int 0] (wd_1396 z) (some (.int 0), (wd_1397 z)) := by
  refine ru_of (k := 2) (M := pm_165) rfl rfl ?_
  refine go_seg 1 (pc' := 1) (ls' := [(0, .ref 90), (1, .int 26), (2, .int 0)]) (st' := [.int 26]) (w' := (wd_1396 z)) (cs' := 0) (ss' := 0) ?_ (fun _ _ => rfl)
  refine go_cl (k := 2) (st' := [.int 1]) (cs' := 0) (ss' := 0) rfl rfl rfl rfl rfl rfl rfl (ro_1903 z) ?_
  refine go_seg 8 (pc' := 24) (ls' := [(0, .ref 90), (1, .int 26), (2, .int 0)]) (st' := [.int 0, .int 0]) (w' := (wd_1396 z)) (cs' := 0) (ss' := 0) ?_ (fun _ _ => rfl)
  refine go_seg 8 (pc' := 47) (ls' := [(3, .int 0), (0, .ref 90), (1, .int 26), (2, .int 0)]) (st' := [.int 74, .ref 91]) (w' := (wd_1396 z)) (cs' := 0) (ss' := 0) ?_ (fun _ _ => rfl)
  exact go_end 8 (fun _ _ => rfl)
theorem lf_2_1906 (a0 : Int32) (a3 : Int32) (a4 : Int32) (a5 : Int32) : ∃ w', pq_Go 20 pm_law 278 [(3, .int 0), (2, .ref 90), (1, .ref 1), (0, .ref 0)] [] (fw (sz a0 26 0 a3 a4 a5)) 109 12668 (some (.int 1), w') := by
  refine ⟨(wd_1397 (sz a0 26 0 a3 a4 a5)), ?_⟩
  refine go_seg 8 (pc' := 286) (ls' := [(3, .int 0), (2, .ref 90), (1, .ref 1), (0, .ref 0)]) (st' := [.int 0, .ref 0, .int 26, .ref 1]) (w' := (fw (sz a0 26 0 a3 a4 a5))) (cs' := 109) (ss' := 12668) ?_ (fun _ _ => rfl)
  refine go_seg 5 (pc' := 297) (ls' := [(3, .int 0), (2, .ref 90), (1, .ref 1), (0, .ref 0)]) (st' := [.int 0, .int 26, .ref 1]) (w' := (fw (sz a0 26 0 a3 a4 a5))) (cs' := 109) (ss' := 12668) ?_ (fun _ _ => rfl)
  refine go_cl (k := 20) (st' := [.int 0]) (cs' := 109) (ss' := 12668) rfl rfl rfl rfl rfl rfl rfl (ro_1901 (sz a0 26 0 a3 a4 a5)) ?_
  refine go_seg 8 (pc' := 308) (ls' := [(3, .int 0), (2, .ref 90), (1, .ref 1), (0, .ref 0)]) (st' := [.int 0, .ref 0, .int 26, .ref 90, .int 0]) (w' := (wd_1396 (sz a0 26 0 a3 a4 a5))) (cs' := 109) (ss' := 12668) ?_ (fun _ _ => rfl)
  refine go_seg 5 (pc' := 319) (ls' := [(3, .int 0), (2, .ref 90), (1, .ref 1), (0, .ref 0)]) (st' := [.int 0, .int 26, .ref 90, .int 0]) (w' := (wd_1396 (sz a0 26 0 a3 a4 a5))) (cs' := 109) (ss' := 12668) ?_ (fun _ _ => rfl)
  refine go_cl (k := 20) (st' := [.int 0, .int 0]) (cs' := 109) (ss' := 12668) rfl rfl rfl rfl rfl rfl rfl (ro_1904 (sz a0 26 0 a3 a4 a5)) ?_
  refine go_cmp true rfl (br_self _) ?_
  exact law_tail (f := sc a0 26 0 a3 a4 a5) rfl
def wd_1398 (z : pq_C) : pq_W := ((fw z).set 4 (.inl (.boolean, 64, .inl (upd (fun _ => 0) 27 0))))
theorem ro_1908 (z : pq_C) : pq_Ru 2 22 [.ref 1, .int 27, .int 0] (fw z) (some (.int 0), (wd_1398 z)) := by
  refine ru_of (k := 1) (M := pm_22) rfl rfl ?_
  refine go_seg 1 (pc' := 1) (ls' := [(0, .ref 1), (1, .int 27), (2, .int 0)]) (st' := [.int 27]) (w' := (fw z)) (cs' := 0) (ss' := 0) ?_ (fun _ _ => rfl)
  refine go_cl (k := 1) (st' := [.int 1]) (cs' := 0) (ss' := 0) rfl rfl rfl rfl rfl rfl rfl (ro_1409 z) ?_
  refine go_seg 8 (pc' := 24) (ls' := [(3, .int 0), (0, .ref 1), (1, .int 27), (2, .int 0)]) (st' := [.ref 1]) (w' := (fw z)) (cs' := 0) (ss' := 0) ?_ (fun _ _ => rfl)
  refine go_seg 8 (pc' := 38) (ls' := [(3, .int 0), (0, .ref 1), (1, .int 27), (2, .int 0)]) (st' := []) (w' := (wd_1398 z)) (cs' := 0) (ss' := 0) ?_ (fun _ _ => rfl)
  exact go_end 3 (fun _ _ => rfl)
theorem ro_1909 (z : pq_C) : pq_Ru 1 161 [.long 27, .long 0, .long 63] (wd_1398 z) (some (.int 1), (wd_1398 z)) := by
  refine ru_of (k := 0) (M := pm_161) rfl rfl ?_
  refine go_seg 8 (pc' := 13) (ls' := [(0, .long 27), (2, .long 0), (4, .long 63)]) (st' := []) (w' := (wd_1398 z)) (cs' := 0) (ss' := 0) ?_ (fun _ _ => rfl)
  exact go_end 3 (fun _ _ => rfl)
theorem ro_1910 (z : pq_C) : pq_Ru 2 160 [.int 27] (wd_1398 z) (some (.int 1), (wd_1398 z)) := by
  refine ru_of (k := 1) (M := pm_160) rfl rfl ?_
  refine go_seg 4 (pc' := 6) (ls' := [(0, .int 27)]) (st' := [.long 63, .long 0, .long 27]) (w' := (wd_1398 z)) (cs' := 0) (ss' := 0) ?_ (fun _ _ => rfl)
  refine go_cl (k := 1) (st' := [.int 1]) (cs' := 0) (ss' := 0) rfl rfl rfl rfl rfl rfl rfl (ro_1909 z) ?_
  exact go_end 1 (fun _ _ => rfl)
def wd_1399 (z : pq_C) : pq_W := ((wd_1398 z).set 91 (.inl (.int, 2858, .inl (upd (upd (upd (upd (upd (upd (upd (upd (upd (upd (upd (upd (upd (upd (upd (upd (upd (upd (upd (upd (upd (upd (upd (upd (upd (upd (upd (upd (upd (upd (upd (upd (upd (upd (upd (upd (upd (upd (upd (upd (upd (upd (upd (upd (upd (upd (upd (upd (upd (upd (upd (upd (upd (upd (upd (upd (upd (upd (upd (upd (upd (upd (upd (upd (upd (upd (upd (upd (upd (upd (upd (upd (upd (upd (upd (upd (upd (upd (upd (upd (upd (upd (fun _ => 0) 1 10) 10 (-1)) 11 (-1)) 12 (-1)) 13 (-1)) 14 (-1)) 15 (-1)) 16 (-1)) 17 (-1)) 18 (-1)) 19 (-1)) 20 (-1)) 21 (-1)) 22 (-1)) 23 (-1)) 24 (-1)) 25 (-1)) 26 (-1)) 27 (-1)) 28 (-1)) 29 (-1)) 30 (-1)) 31 (-1)) 32 (-1)) 33 (-1)) 34 (-1)) 35 (-1)) 36 (-1)) 37 (-1)) 38 (-1)) 39 (-1)) 40 (-1)) 41 (-1)) 42 (-1)) 43 (-1)) 44 (-1)) 45 (-1)) 46 (-1)) 47 (-1)) 48 (-1)) 49 (-1)) 50 (-1)) 51 (-1)) 52 (-1)) 53 (-1)) 54 (-1)) 55 (-1)) 56 (-1)) 57 (-1)) 58 (-1)) 59 (-1)) 60 (-1)) 61 (-1)) 62 (-1)) 63 (-1)) 64 (-1)) 65 (-1)) 66 (-1)) 67 (-1)) 68 (-1)) 69 (-1)) 70 (-1)) 71 (-1)) 72 (-1)) 73 (-1)) 139 1000) 140 100) 145 1000) 146 100) 151 1000) 152 100) 157 1000) 158 100) 163 1000) 164 100) 169 1000) 170 100) 175 1000) 176 100) 181 1000) 182 100) 101 0))))
theorem ro_1911 (z : pq_C) : pq_Ru 3 165 [.ref 90, .int 27, .int 0] (wd_1398 z) (some (.int 0), (wd_1399 z)) := by
  refine ru_of (k := 2) (M := pm_165) rfl rfl ?_
  refine go_seg 1 (pc' := 1) (ls' := [(0, .ref 90), (1, .int 27), (2, .int 0)]) (st' := [.int 27]) (w' := (wd_1398 z)) (cs' := 0) (ss' := 0) ?_ (fun _ _ => rfl)
  refine go_cl (k := 2) (st' := [.int 1]) (cs' := 0) (ss' := 0) rfl rfl rfl rfl rfl rfl rfl (ro_1910 z) ?_
  refine go_seg 8 (pc' := 24) (ls' := [(0, .ref 90), (1, .int 27), (2, .int 0)]) (st' := [.int 0, .int 0]) (w' := (wd_1398 z)) (cs' := 0) (ss' := 0) ?_ (fun _ _ => rfl)
  refine go_seg 8 (pc' := 47) (ls' := [(3, .int 0), (0, .ref 90), (1, .int 27), (2, .int 0)]) (st' := [.int 74, .ref 91]) (w' := (wd_1398 z)) (cs' := 0) (ss' := 0) ?_ (fun _ _ => rfl)
  exact go_end 8 (fun _ _ => rfl)
theorem lf_2_1913 (a0 : Int32) (a3 : Int32) (a4 : Int32) (a5 : Int32) : ∃ w', pq_Go 20 pm_law 278 [(3, .int 0), (2, .ref 90), (1, .ref 1), (0, .ref 0)] [] (fw (sz a0 27 0 a3 a4 a5)) 109 12668 (some (.int 1), w') := by
  refine ⟨(wd_1399 (sz a0 27 0 a3 a4 a5)), ?_⟩
  refine go_seg 8 (pc' := 286) (ls' := [(3, .int 0), (2, .ref 90), (1, .ref 1), (0, .ref 0)]) (st' := [.int 0, .ref 0, .int 27, .ref 1]) (w' := (fw (sz a0 27 0 a3 a4 a5))) (cs' := 109) (ss' := 12668) ?_ (fun _ _ => rfl)
  refine go_seg 5 (pc' := 297) (ls' := [(3, .int 0), (2, .ref 90), (1, .ref 1), (0, .ref 0)]) (st' := [.int 0, .int 27, .ref 1]) (w' := (fw (sz a0 27 0 a3 a4 a5))) (cs' := 109) (ss' := 12668) ?_ (fun _ _ => rfl)
  refine go_cl (k := 20) (st' := [.int 0]) (cs' := 109) (ss' := 12668) rfl rfl rfl rfl rfl rfl rfl (ro_1908 (sz a0 27 0 a3 a4 a5)) ?_
  refine go_seg 8 (pc' := 308) (ls' := [(3, .int 0), (2, .ref 90), (1, .ref 1), (0, .ref 0)]) (st' := [.int 0, .ref 0, .int 27, .ref 90, .int 0]) (w' := (wd_1398 (sz a0 27 0 a3 a4 a5))) (cs' := 109) (ss' := 12668) ?_ (fun _ _ => rfl)
  refine go_seg 5 (pc' := 319) (ls' := [(3, .int 0), (2, .ref 90), (1, .ref 1), (0, .ref 0)]) (st' := [.int 0, .int 27, .ref 90, .int 0]) (w' := (wd_1398 (sz a0 27 0 a3 a4 a5))) (cs' := 109) (ss' := 12668) ?_ (fun _ _ => rfl)
  refine go_cl (k := 20) (st' := [.int 0, .int 0]) (cs' := 109) (ss' := 12668) rfl rfl rfl rfl rfl rfl rfl (ro_1911 (sz a0 27 0 a3 a4 a5)) ?_
  refine go_cmp true rfl (br_self _) ?_
  exact law_tail (f := sc a0 27 0 a3 a4 a5) rfl
def wd_1400 (z : pq_C) : pq_W := ((fw z).set 4 (.inl (.boolean, 64, .inl (upd (fun _ => 0) 28 0))))
theorem ro_1915 (z : pq_C) : pq_Ru 2 22 [.ref 1, .int 28, .int 0] (fw z) (some (.int 0), (wd_1400 z)) := by
  refine ru_of (k := 1) (M := pm_22) rfl rfl ?_
  refine go_seg 1 (pc' := 1) (ls' := [(0, .ref 1), (1, .int 28), (2, .int 0)]) (st' := [.int 28]) (w' := (fw z)) (cs' := 0) (ss' := 0) ?_ (fun _ _ => rfl)
  refine go_cl (k := 1) (st' := [.int 1]) (cs' := 0) (ss' := 0) rfl rfl rfl rfl rfl rfl rfl (ro_1417 z) ?_
  refine go_seg 8 (pc' := 24) (ls' := [(3, .int 0), (0, .ref 1), (1, .int 28), (2, .int 0)]) (st' := [.ref 1]) (w' := (fw z)) (cs' := 0) (ss' := 0) ?_ (fun _ _ => rfl)
  refine go_seg 8 (pc' := 38) (ls' := [(3, .int 0), (0, .ref 1), (1, .int 28), (2, .int 0)]) (st' := []) (w' := (wd_1400 z)) (cs' := 0) (ss' := 0) ?_ (fun _ _ => rfl)
  exact go_end 3 (fun _ _ => rfl)
theorem ro_1916 (z : pq_C) : pq_Ru 1 161 [.long 28, .long 0, .long 63] (wd_1400 z) (some (.int 1), (wd_1400 z)) := by
  refine ru_of (k := 0) (M := pm_161) rfl rfl ?_
  refine go_seg 8 (pc' := 13) (ls' := [(0, .long 28), (2, .long 0), (4, .long 63)]) (st' := []) (w' := (wd_1400 z)) (cs' := 0) (ss' := 0) ?_ (fun _ _ => rfl)
  exact go_end 3 (fun _ _ => rfl)
theorem ro_1917 (z : pq_C) : pq_Ru 2 160 [.int 28] (wd_1400 z) (some (.int 1), (wd_1400 z)) := by
  refine ru_of (k := 1) (M := pm_160) rfl rfl ?_
  refine go_seg 4 (pc' := 6) (ls' := [(0, .int 28)]) (st' := [.long 63, .long 0, .long 28]) (w' := (wd_1400 z)) (cs' := 0) (ss' := 0) ?_ (fun _ _ => rfl)
  refine go_cl (k := 1) (st' := [.int 1]) (cs' := 0) (ss' := 0) rfl rfl rfl rfl rfl rfl rfl (ro_1916 z) ?_
  exact go_end 1 (fun _ _ => rfl)
def wd_1401 (z : pq_C) : pq_W := ((wd_1400 z).set 91 (.inl (.int, 2858, .inl (upd (upd (upd (upd (upd (upd (upd (upd (upd (upd (upd (upd (upd (upd (upd (upd (upd (upd (upd (upd (upd (upd (upd (upd (upd (upd (upd (upd (upd (upd (upd (upd (upd (upd (upd (upd (upd (upd (upd (upd (upd (upd (upd (upd (upd (upd (upd (upd (upd (upd (upd (upd (upd (upd (upd (upd (upd (upd (upd (upd (upd (upd (upd (upd (upd (upd (upd (upd (upd (upd (upd (upd (upd (upd (upd (upd (upd (upd (upd (upd (upd (upd (fun _ => 0) 1 10) 10 (-1)) 11 (-1)) 12 (-1)) 13 (-1)) 14 (-1)) 15 (-1)) 16 (-1)) 17 (-1)) 18 (-1)) 19 (-1)) 20 (-1)) 21 (-1)) 22 (-1)) 23 (-1)) 24 (-1)) 25 (-1)) 26 (-1)) 27 (-1)) 28 (-1)) 29 (-1)) 30 (-1)) 31 (-1)) 32 (-1)) 33 (-1)) 34 (-1)) 35 (-1)) 36 (-1)) 37 (-1)) 38 (-1)) 39 (-1)) 40 (-1)) 41 (-1)) 42 (-1)) 43 (-1)) 44 (-1)) 45 (-1)) 46 (-1)) 47 (-1)) 48 (-1)) 49 (-1)) 50 (-1)) 51 (-1)) 52 (-1)) 53 (-1)) 54 (-1)) 55 (-1)) 56 (-1)) 57 (-1)) 58 (-1)) 59 (-1)) 60 (-1)) 61 (-1)) 62 (-1)) 63 (-1)) 64 (-1)) 65 (-1)) 66 (-1)) 67 (-1)) 68 (-1)) 69 (-1)) 70 (-1)) 71 (-1)) 72 (-1)) 73 (-1)) 139 1000) 140 100) 145 1000) 146 100) 151 1000) 152 100) 157 1000) 158 100) 163 1000) 164 100) 169 1000) 170 100) 175 1000) 176 100) 181 1000) 182 100) 102 0))))
theorem ro_1918 (z : pq_C) : pq_Ru 3 165 [.ref 90, .int 28, .int 0] (wd_1400 z) (some (.int 0), (wd_1401 z)) := by
  refine ru_of (k := 2) (M := pm_165) rfl rfl ?_
  refine go_seg 1 (pc' := 1) (ls' := [(0, .ref 90), (1, .int 28), (2, .int 0)]) (st' := [.int 28]) (w' := (wd_1400 z)) (cs' := 0) (ss' := 0) ?_ (fun _ _ => rfl)
  refine go_cl (k := 2) (st' := [.int 1]) (cs' := 0) (ss' := 0) rfl rfl rfl rfl rfl rfl rfl (ro_1917 z) ?_
  refine go_seg 8 (pc' := 24) (ls' := [(0, .ref 90), (1, .int 28), (2, .int 0)]) (st' := [.int 0, .int 0]) (w' := (wd_1400 z)) (cs' := 0) (ss' := 0) ?_ (fun _ _ => rfl)
  refine go_seg 8 (pc' := 47) (ls' := [(3, .int 0), (0, .ref 90), (1, .int 28), (2, .int 0)]) (st' := [.int 74, .ref 91]) (w' := (wd_1400 z)) (cs' := 0) (ss' := 0) ?_ (fun _ _ => rfl)
  exact go_end 8 (fun _ _ => rfl)
theorem lf_2_1920 (a0 : Int32) (a3 : Int32) (a4 : Int32) (a5 : Int32) : ∃ w', pq_Go 20 pm_law 278 [(3, .int 0), (2, .ref 90), (1, .ref 1), (0, .ref 0)] [] (fw (sz a0 28 0 a3 a4 a5)) 109 12668 (some (.int 1), w') := by
  refine ⟨(wd_1401 (sz a0 28 0 a3 a4 a5)), ?_⟩
  refine go_seg 8 (pc' := 286) (ls' := [(3, .int 0), (2, .ref 90), (1, .ref 1), (0, .ref 0)]) (st' := [.int 0, .ref 0, .int 28, .ref 1]) (w' := (fw (sz a0 28 0 a3 a4 a5))) (cs' := 109) (ss' := 12668) ?_ (fun _ _ => rfl)
  refine go_seg 5 (pc' := 297) (ls' := [(3, .int 0), (2, .ref 90), (1, .ref 1), (0, .ref 0)]) (st' := [.int 0, .int 28, .ref 1]) (w' := (fw (sz a0 28 0 a3 a4 a5))) (cs' := 109) (ss' := 12668) ?_ (fun _ _ => rfl)
  refine go_cl (k := 20) (st' := [.int 0]) (cs' := 109) (ss' := 12668) rfl rfl rfl rfl rfl rfl rfl (ro_1915 (sz a0 28 0 a3 a4 a5)) ?_
  refine go_seg 8 (pc' := 308) (ls' := [(3, .int 0), (2, .ref 90), (1, .ref 1), (0, .ref 0)]) (st' := [.int 0, .ref 0, .int 28, .ref 90, .int 0]) (w' := (wd_1400 (sz a0 28 0 a3 a4 a5))) (cs' := 109) (ss' := 12668) ?_ (fun _ _ => rfl)
  refine go_seg 5 (pc' := 319) (ls' := [(3, .int 0), (2, .ref 90), (1, .ref 1), (0, .ref 0)]) (st' := [.int 0, .int 28, .ref 90, .int 0]) (w' := (wd_1400 (sz a0 28 0 a3 a4 a5))) (cs' := 109) (ss' := 12668) ?_ (fun _ _ => rfl)
  refine go_cl (k := 20) (st' := [.int 0, .int 0]) (cs' := 109) (ss' := 12668) rfl rfl rfl rfl rfl rfl rfl (ro_1918 (sz a0 28 0 a3 a4 a5)) ?_
  refine go_cmp true rfl (br_self _) ?_
  exact law_tail (f := sc a0 28 0 a3 a4 a5) rfl
def wd_1402 (z : pq_C) : pq_W := ((fw z).set 4 (.inl (.boolean, 64, .inl (upd (fun _ => 0) 29 0))))
theorem ro_1922 (z : pq_C) : pq_Ru 2 22 [.ref 1, .int 29, .int 0] (fw z) (some (.int 0), (wd_1402 z)) := by
  refine ru_of (k := 1) (M := pm_22) rfl rfl ?_
  refine go_seg 1 (pc' := 1) (ls' := [(0, .ref 1), (1, .int 29), (2, .int 0)]) (st' := [.int 29]) (w' := (fw z)) (cs' := 0) (ss' := 0) ?_ (fun _ _ => rfl)
  refine go_cl (k := 1) (st' := [.int 1]) (cs' := 0) (ss' := 0) rfl rfl rfl rfl rfl rfl rfl (ro_1425 z) ?_
  refine go_seg 8 (pc' := 24) (ls' := [(3, .int 0), (0, .ref 1), (1, .int 29), (2, .int 0)]) (st' := [.ref 1]) (w' := (fw z)) (cs' := 0) (ss' := 0) ?_ (fun _ _ => rfl)
  refine go_seg 8 (pc' := 38) (ls' := [(3, .int 0), (0, .ref 1), (1, .int 29), (2, .int 0)]) (st' := []) (w' := (wd_1402 z)) (cs' := 0) (ss' := 0) ?_ (fun _ _ => rfl)
  exact go_end 3 (fun _ _ => rfl)
theorem ro_1923 (z : pq_C) : pq_Ru 1 161 [.long 29, .long 0, .long 63] (wd_1402 z) (some (.int 1), (wd_1402 z)) := by
  refine ru_of (k := 0) (M := pm_161) rfl rfl ?_
  refine go_seg 8 (pc' := 13) (ls' := [(0, .long 29), (2, .long 0), (4, .long 63)]) (st' := []) (w' := (wd_1402 z)) (cs' := 0) (ss' := 0) ?_ (fun _ _ => rfl)
  exact go_end 3 (fun _ _ => rfl)
theorem ro_1924 (z : pq_C) : pq_Ru 2 160 [.int 29] (wd_1402 z) (some (.int 1), (wd_1402 z)) := by
  refine ru_of (k := 1) (M := pm_160) rfl rfl ?_
  refine go_seg 4 (pc' := 6) (ls' := [(0, .int 29)]) (st' := [.long 63, .long 0, .long 29]) (w' := (wd_1402 z)) (cs' := 0) (ss' := 0) ?_ (fun _ _ => rfl)
  refine go_cl (k := 1) (st' := [.int 1]) (cs' := 0) (ss' := 0) rfl rfl rfl rfl rfl rfl rfl (ro_1923 z) ?_
  exact go_end 1 (fun _ _ => rfl)
def wd_1403 (z : pq_C) : pq_W := ((wd_1402 z).set 91 (.inl (.int, 2858, .inl (upd (upd (upd (upd (upd (upd (upd (upd (upd (upd (upd (upd (upd (upd (upd (upd (upd (upd (upd (upd (upd (upd (upd (upd (upd (upd (upd (upd (upd (upd (upd (upd (upd (upd (upd (upd (upd (upd (upd (upd (upd (upd (upd (upd (upd (upd (upd (upd (upd (upd (upd (upd (upd (upd (upd (upd (upd (upd (upd (upd (upd (upd (upd (upd (upd (upd (upd (upd (upd (upd (upd (upd (upd (upd (upd (upd (upd (upd (upd (upd (upd (upd (fun _ => 0) 1 10) 10 (-1)) 11 (-1)) 12 (-1)) 13 (-1)) 14 (-1)) 15 (-1)) 16 (-1)) 17 (-1)) 18 (-1)) 19 (-1)) 20 (-1)) 21 (-1)) 22 (-1)) 23 (-1)) 24 (-1)) 25 (-1)) 26 (-1)) 27 (-1)) 28 (-1)) 29 (-1)) 30 (-1)) 31 (-1)) 32 (-1)) 33 (-1)) 34 (-1)) 35 (-1)) 36 (-1)) 37 (-1)) 38 (-1)) 39 (-1)) 40 (-1)) 41 (-1)) 42 (-1)) 43 (-1)) 44 (-1)) 45 (-1)) 46 (-1)) 47 (-1)) 48 (-1)) 49 (-1)) 50 (-1)) 51 (-1)) 52 (-1)) 53 (-1)) 54 (-1)) 55 (-1)) 56 (-1)) 57 (-1)) 58 (-1)) 59 (-1)) 60 (-1)) 61 (-1)) 62 (-1)) 63 (-1)) 64 (-1)) 65 (-1)) 66 (-1)) 67 (-1)) 68 (-1)) 69 (-1)) 70 (-1)) 71 (-1)) 72 (-1)) 73 (-1)) 139 1000) 140 100) 145 1000) 146 100) 151 1000) 152 100) 157 1000) 158 100) 163 1000) 164 100) 169 1000) 170 100) 175 1000) 176 100) 181 1000) 182 100) 103 0))))
theorem ro_1925 (z : pq_C) : pq_Ru 3 165 [.ref 90, .int 29, .int 0] (wd_1402 z) (some (.int 0), (wd_1403 z)) := by
  refine ru_of (k := 2) (M := pm_165) rfl rfl ?_
  refine go_seg 1 (pc' := 1) (ls' := [(0, .ref 90), (1, .int 29), (2, .int 0)]) (st' := [.int 29]) (w' := (wd_1402 z)) (cs' := 0) (ss' := 0) ?_ (fun _ _ => rfl)
  refine go_cl (k := 2) (st' := [.int 1]) (cs' := 0) (ss' := 0) rfl rfl rfl rfl rfl rfl rfl (ro_1924 z) ?_
  refine go_seg 8 (pc' := 24) (ls' := [(0, .ref 90), (1, .int 29), (2, .int 0)]) (st' := [.int 0, .int 0]) (w' := (wd_1402 z)) (cs' := 0) (ss' := 0) ?_ (fun _ _ => rfl)
  refine go_seg 8 (pc' := 47) (ls' := [(3, .int 0), (0, .ref 90), (1, .int 29), (2, .int 0)]) (st' := [.int 74, .ref 91]) (w' := (wd_1402 z)) (cs' := 0) (ss' := 0) ?_ (fun _ _ => rfl)
  exact go_end 8 (fun _ _ => rfl)
theorem lf_2_1927 (a0 : Int32) (a3 : Int32) (a4 : Int32) (a5 : Int32) : ∃ w', pq_Go 20 pm_law 278 [(3, .int 0), (2, .ref 90), (1, .ref 1), (0, .ref 0)] [] (fw (sz a0 29 0 a3 a4 a5)) 109 12668 (some (.int 1), w') := by
  refine ⟨(wd_1403 (sz a0 29 0 a3 a4 a5)), ?_⟩
  refine go_seg 8 (pc' := 286) (ls' := [(3, .int 0), (2, .ref 90), (1, .ref 1), (0, .ref 0)]) (st' := [.int 0, .ref 0, .int 29, .ref 1]) (w' := (fw (sz a0 29 0 a3 a4 a5))) (cs' := 109) (ss' := 12668) ?_ (fun _ _ => rfl)
  refine go_seg 5 (pc' := 297) (ls' := [(3, .int 0), (2, .ref 90), (1, .ref 1), (0, .ref 0)]) (st' := [.int 0, .int 29, .ref 1]) (w' := (fw (sz a0 29 0 a3 a4 a5))) (cs' := 109) (ss' := 12668) ?_ (fun _ _ => rfl)
  refine go_cl (k := 20) (st' := [.int 0]) (cs' := 109) (ss' := 12668) rfl rfl rfl rfl rfl rfl rfl (ro_1922 (sz a0 29 0 a3 a4 a5)) ?_
  refine go_seg 8 (pc' := 308) (ls' := [(3, .int 0), (2, .ref 90), (1, .ref 1), (0, .ref 0)]) (st' := [.int 0, .ref 0, .int 29, .ref 90, .int 0]) (w' := (wd_1402 (sz a0 29 0 a3 a4 a5))) (cs' := 109) (ss' := 12668) ?_ (fun _ _ => rfl)
  refine go_seg 5 (pc' := 319) (ls' := [(3, .int 0), (2, .ref 90), (1, .ref 1), (0, .ref 0)]) (st' := [.int 0, .int 29, .ref 90, .int 0]) (w' := (wd_1402 (sz a0 29 0 a3 a4 a5))) (cs' := 109) (ss' := 12668) ?_ (fun _ _ => rfl)
  refine go_cl (k := 20) (st' := [.int 0, .int 0]) (cs' := 109) (ss' := 12668) rfl rfl rfl rfl rfl rfl rfl (ro_1925 (sz a0 29 0 a3 a4 a5)) ?_
  refine go_cmp true rfl (br_self _) ?_
  exact law_tail (f := sc a0 29 0 a3 a4 a5) rfl
def wd_1404 (z : pq_C) : pq_W := ((fw z).set 4 (.inl (.boolean, 64, .inl (upd (fun _ => 0) 30 0))))
theorem ro_1929 (z : pq_C) : pq_Ru 2 22 [.ref 1, .int 30, .int 0] (fw z) (some (.int 0), (wd_1404 z)) := by
  refine ru_of (k := 1) (M := pm_22) rfl rfl ?_
  refine go_seg 1 (pc' := 1) (ls' := [(0, .ref 1), (1, .int 30), (2, .int 0)]) (st' := [.int 30]) (w' := (fw z)) (cs' := 0) (ss' := 0) ?_ (fun _ _ => rfl)
  refine go_cl (k := 1) (st' := [.int 1]) (cs' := 0) (ss' := 0) rfl rfl rfl rfl rfl rfl rfl (ro_1433 z) ?_
  refine go_seg 8 (pc' := 24) (ls' := [(3, .int 0), (0, .ref 1), (1, .int 30), (2, .int 0)]) (st' := [.ref 1]) (w' := (fw z)) (cs' := 0) (ss' := 0) ?_ (fun _ _ => rfl)
  refine go_seg 8 (pc' := 38) (ls' := [(3, .int 0), (0, .ref 1), (1, .int 30), (2, .int 0)]) (st' := []) (w' := (wd_1404 z)) (cs' := 0) (ss' := 0) ?_ (fun _ _ => rfl)
  exact go_end 3 (fun _ _ => rfl)
theorem ro_1930 (z : pq_C) : pq_Ru 1 161 [.long 30, .long 0, .long 63] (wd_1404 z) (some (.int 1), (wd_1404 z)) := by
  refine ru_of (k := 0) (M := pm_161) rfl rfl ?_
  refine go_seg 8 (pc' := 13) (ls' := [(0, .long 30), (2, .long 0), (4, .long 63)]) (st' := []) (w' := (wd_1404 z)) (cs' := 0) (ss' := 0) ?_ (fun _ _ => rfl)
  exact go_end 3 (fun _ _ => rfl)
theorem ro_1931 (z : pq_C) : pq_Ru 2 160 [.int 30] (wd_1404 z) (some (.int 1), (wd_1404 z)) := by
  refine ru_of (k := 1) (M := pm_160) rfl rfl ?_
  refine go_seg 4 (pc' := 6) (ls' := [(0, .int 30)]) (st' := [.long 63, .long 0, .long 30]) (w' := (wd_1404 z)) (cs' := 0) (ss' := 0) ?_ (fun _ _ => rfl)
  refine go_cl (k := 1) (st' := [.int 1]) (cs' := 0) (ss' := 0) rfl rfl rfl rfl rfl rfl rfl (ro_1930 z) ?_
  exact go_end 1 (fun _ _ => rfl)
def wd_1405 (z : pq_C) : pq_W := ((wd_1404 z).set 91 (.inl (.int, 2858, .inl (upd (upd (upd (upd (upd (upd (upd (upd (upd (upd (upd (upd (upd (upd (upd (upd (upd (upd (upd (upd (upd (upd (upd (upd (upd (upd (upd (upd (upd (upd (upd (upd (upd (upd (upd (upd (upd (upd (upd (upd (upd (upd (upd (upd (upd (upd (upd (upd (upd (upd (upd (upd (upd (upd (upd (upd (upd (upd (upd (upd (upd (upd (upd (upd (upd (upd (upd (upd (upd (upd (upd (upd (upd (upd (upd (upd (upd (upd (upd (upd (upd (upd (fun _ => 0) 1 10) 10 (-1)) 11 (-1)) 12 (-1)) 13 (-1)) 14 (-1)) 15 (-1)) 16 (-1)) 17 (-1)) 18 (-1)) 19 (-1)) 20 (-1)) 21 (-1)) 22 (-1)) 23 (-1)) 24 (-1)) 25 (-1)) 26 (-1)) 27 (-1)) 28 (-1)) 29 (-1)) 30 (-1)) 31 (-1)) 32 (-1)) 33 (-1)) 34 (-1)) 35 (-1)) 36 (-1)) 37 (-1)) 38 (-1)) 39 (-1)) 40 (-1)) 41 (-1)) 42 (-1)) 43 (-1)) 44 (-1)) 45 (-1)) 46 (-1)) 47 (-1)) 48 (-1)) 49 (-1)) 50 (-1)) 51 (-1)) 52 (-1)) 53 (-1)) 54 (-1)) 55 (-1)) 56 (-1)) 57 (-1)) 58 (-1)) 59 (-1)) 60 (-1)) 61 (-1)) 62 (-1)) 63 (-1)) 64 (-1)) 65 (-1)) 66 (-1)) 67 (-1)) 68 (-1)) 69 (-1)) 70 (-1)) 71 (-1)) 72 (-1)) 73 (-1)) 139 1000) 140 100) 145 1000) 146 100) 151 1000) 152 100) 157 1000) 158 100) 163 1000) 164 100) 169 1000) 170 100) 175 1000) 176 100) 181 1000) 182 100) 104 0))))
theorem ro_1932 (z : pq_C) : pq_Ru 3 165 [.ref 90, .int 30, .int 0] (wd_1404 z) (some (.int 0), (wd_1405 z)) := by
  refine ru_of (k := 2) (M := pm_165) rfl rfl ?_
  refine go_seg 1 (pc' := 1) (ls' := [(0, .ref 90), (1, .int 30), (2, .int 0)]) (st' := [.int 30]) (w' := (wd_1404 z)) (cs' := 0) (ss' := 0) ?_ (fun _ _ => rfl)
  refine go_cl (k := 2) (st' := [.int 1]) (cs' := 0) (ss' := 0) rfl rfl rfl rfl rfl rfl rfl (ro_1931 z) ?_
  refine go_seg 8 (pc' := 24) (ls' := [(0, .ref 90), (1, .int 30), (2, .int 0)]) (st' := [.int 0, .int 0]) (w' := (wd_1404 z)) (cs' := 0) (ss' := 0) ?_ (fun _ _ => rfl)
  refine go_seg 8 (pc' := 47) (ls' := [(3, .int 0), (0, .ref 90), (1, .int 30), (2, .int 0)]) (st' := [.int 74, .ref 91]) (w' := (wd_1404 z)) (cs' := 0) (ss' := 0) ?_ (fun _ _ => rfl)
  exact go_end 8 (fun _ _ => rfl)
theorem lf_2_1934 (a0 : Int32) (a3 : Int32) (a4 : Int32) (a5 : Int32) : ∃ w', pq_Go 20 pm_law 278 [(3, .int 0), (2, .ref 90), (1, .ref 1), (0, .ref 0)] [] (fw (sz a0 30 0 a3 a4 a5)) 109 12668 (some (.int 1), w') := by
  refine ⟨(wd_1405 (sz a0 30 0 a3 a4 a5)), ?_⟩
  refine go_seg 8 (pc' := 286) (ls' := [(3, .int 0), (2, .ref 90), (1, .ref 1), (0, .ref 0)]) (st' := [.int 0, .ref 0, .int 30, .ref 1]) (w' := (fw (sz a0 30 0 a3 a4 a5))) (cs' := 109) (ss' := 12668) ?_ (fun _ _ => rfl)
  refine go_seg 5 (pc' := 297) (ls' := [(3, .int 0), (2, .ref 90), (1, .ref 1), (0, .ref 0)]) (st' := [.int 0, .int 30, .ref 1]) (w' := (fw (sz a0 30 0 a3 a4 a5))) (cs' := 109) (ss' := 12668) ?_ (fun _ _ => rfl)
  refine go_cl (k := 20) (st' := [.int 0]) (cs' := 109) (ss' := 12668) rfl rfl rfl rfl rfl rfl rfl (ro_1929 (sz a0 30 0 a3 a4 a5)) ?_
  refine go_seg 8 (pc' := 308) (ls' := [(3, .int 0), (2, .ref 90), (1, .ref 1), (0, .ref 0)]) (st' := [.int 0, .ref 0, .int 30, .ref 90, .int 0]) (w' := (wd_1404 (sz a0 30 0 a3 a4 a5))) (cs' := 109) (ss' := 12668) ?_ (fun _ _ => rfl)
  refine go_seg 5 (pc' := 319) (ls' := [(3, .int 0), (2, .ref 90), (1, .ref 1), (0, .ref 0)]) (st' := [.int 0, .int 30, .ref 90, .int 0]) (w' := (wd_1404 (sz a0 30 0 a3 a4 a5))) (cs' := 109) (ss' := 12668) ?_ (fun _ _ => rfl)
  refine go_cl (k := 20) (st' := [.int 0, .int 0]) (cs' := 109) (ss' := 12668) rfl rfl rfl rfl rfl rfl rfl (ro_1932 (sz a0 30 0 a3 a4 a5)) ?_
  refine go_cmp true rfl (br_self _) ?_
  exact law_tail (f := sc a0 30 0 a3 a4 a5) rfl
def wd_1406 (z : pq_C) : pq_W := ((fw z).set 4 (.inl (.boolean, 64, .inl (upd (fun _ => 0) 31 0))))
theorem ro_1936 (z : pq_C) : pq_Ru 2 22 [.ref 1, .int 31, .int 0] (fw z) (some (.int 0), (wd_1406 z)) := by
  refine ru_of (k := 1) (M := pm_22) rfl rfl ?_
  refine go_seg 1 (pc' := 1) (ls' := [(0, .ref 1), (1, .int 31), (2, .int 0)]) (st' := [.int 31]) (w' := (fw z)) (cs' := 0) (ss' := 0) ?_ (fun _ _ => rfl)
  refine go_cl (k := 1) (st' := [.int 1]) (cs' := 0) (ss' := 0) rfl rfl rfl rfl rfl rfl rfl (ro_1441 z) ?_
  refine go_seg 8 (pc' := 24) (ls' := [(3, .int 0), (0, .ref 1), (1, .int 31), (2, .int 0)]) (st' := [.ref 1]) (w' := (fw z)) (cs' := 0) (ss' := 0) ?_ (fun _ _ => rfl)
  refine go_seg 8 (pc' := 38) (ls' := [(3, .int 0), (0, .ref 1), (1, .int 31), (2, .int 0)]) (st' := []) (w' := (wd_1406 z)) (cs' := 0) (ss' := 0) ?_ (fun _ _ => rfl)
  exact go_end 3 (fun _ _ => rfl)
theorem ro_1937 (z : pq_C) : pq_Ru 1 161 [.long 31, .long 0, .long 63] (wd_1406 z) (some (.int 1), (wd_1406 z)) := by
  refine ru_of (k := 0) (M := pm_161) rfl rfl ?_
  refine go_seg 8 (pc' := 13) (ls' := [(0, .long 31), (2, .long 0), (4, .long 63)]) (st' := []) (w' := (wd_1406 z)) (cs' := 0) (ss' := 0) ?_ (fun _ _ => rfl)
  exact go_end 3 (fun _ _ => rfl)
theorem ro_1938 (z : pq_C) : pq_Ru 2 160 [.int 31] (wd_1406 z) (some (.int 1), (wd_1406 z)) := by
  refine ru_of (k := 1) (M := pm_160) rfl rfl ?_
  refine go_seg 4 (pc' := 6) (ls' := [(0, .int 31)]) (st' := [.long 63, .long 0, .long 31]) (w' := (wd_1406 z)) (cs' := 0) (ss' := 0) ?_ (fun _ _ => rfl)
  refine go_cl (k := 1) (st' := [.int 1]) (cs' := 0) (ss' := 0) rfl rfl rfl rfl rfl rfl rfl (ro_1937 z) ?_
  exact go_end 1 (fun _ _ => rfl)
def wd_1407 (z : pq_C) : pq_W := ((wd_1406 z).set 91 (.inl (.int, 2858, .inl (upd (upd (upd (upd (upd (upd (upd (upd (upd (upd (upd (upd (upd (upd (upd (upd (upd (upd (upd (upd (upd (upd (upd (upd (upd (upd (upd (upd (upd (upd (upd (upd (upd (upd (upd (upd (upd (upd (upd (upd (upd (upd (upd (upd (upd (upd (upd (upd (upd (upd (upd (upd (upd (upd (upd (upd (upd (upd (upd (upd (upd (upd (upd (upd (upd (upd (upd (upd (upd (upd (upd (upd (upd (upd (upd (upd (upd (upd (upd (upd (upd (upd (fun _ => 0) 1 10) 10 (-1)) 11 (-1)) 12 (-1)) 13 (-1)) 14 (-1)) 15 (-1)) 16 (-1)) 17 (-1)) 18 (-1)) 19 (-1)) 20 (-1)) 21 (-1)) 22 (-1)) 23 (-1)) 24 (-1)) 25 (-1)) 26 (-1)) 27 (-1)) 28 (-1)) 29 (-1)) 30 (-1)) 31 (-1)) 32 (-1)) 33 (-1)) 34 (-1)) 35 (-1)) 36 (-1)) 37 (-1)) 38 (-1)) 39 (-1)) 40 (-1)) 41 (-1)) 42 (-1)) 43 (-1)) 44 (-1)) 45 (-1)) 46 (-1)) 47 (-1)) 48 (-1)) 49 (-1)) 50 (-1)) 51 (-1)) 52 (-1)) 53 (-1)) 54 (-1)) 55 (-1)) 56 (-1)) 57 (-1)) 58 (-1)) 59 (-1)) 60 (-1)) 61 (-1)) 62 (-1)) 63 (-1)) 64 (-1)) 65 (-1)) 66 (-1)) 67 (-1)) 68 (-1)) 69 (-1)) 70 (-1)) 71 (-1)) 72 (-1)) 73 (-1)) 139 1000) 140 100) 145 1000) 146 100) 151 1000) 152 100) 157 1000) 158 100) 163 1000) 164 100) 169 1000) 170 100) 175 1000) 176 100) 181 1000) 182 100) 105 0))))
theorem ro_1939 (z : pq_C) : pq_Ru 3 165 [.ref 90, .int 31, .int 0] (wd_1406 z) (some (.int 0), (wd_1407 z)) := by
  refine ru_of (k := 2) (M := pm_165) rfl rfl ?_
  refine go_seg 1 (pc' := 1) (ls' := [(0, .ref 90), (1, .int 31), (2, .int 0)]) (st' := [.int 31]) (w' := (wd_1406 z)) (cs' := 0) (ss' := 0) ?_ (fun _ _ => rfl)
  refine go_cl (k := 2) (st' := [.int 1]) (cs' := 0) (ss' := 0) rfl rfl rfl rfl rfl rfl rfl (ro_1938 z) ?_
  refine go_seg 8 (pc' := 24) (ls' := [(0, .ref 90), (1, .int 31), (2, .int 0)]) (st' := [.int 0, .int 0]) (w' := (wd_1406 z)) (cs' := 0) (ss' := 0) ?_ (fun _ _ => rfl)
  refine go_seg 8 (pc' := 47) (ls' := [(3, .int 0), (0, .ref 90), (1, .int 31), (2, .int 0)]) (st' := [.int 74, .ref 91]) (w' := (wd_1406 z)) (cs' := 0) (ss' := 0) ?_ (fun _ _ => rfl)
  exact go_end 8 (fun _ _ => rfl)
theorem lf_2_1941 (a0 : Int32) (a3 : Int32) (a4 : Int32) (a5 : Int32) : ∃ w', pq_Go 20 pm_law 278 [(3, .int 0), (2, .ref 90), (1, .ref 1), (0, .ref 0)] [] (fw (sz a0 31 0 a3 a4 a5)) 109 12668 (some (.int 1), w') := by
  refine ⟨(wd_1407 (sz a0 31 0 a3 a4 a5)), ?_⟩
  refine go_seg 8 (pc' := 286) (ls' := [(3, .int 0), (2, .ref 90), (1, .ref 1), (0, .ref 0)]) (st' := [.int 0, .ref 0, .int 31, .ref 1]) (w' := (fw (sz a0 31 0 a3 a4 a5))) (cs' := 109) (ss' := 12668) ?_ (fun _ _ => rfl)
  refine go_seg 5 (pc' := 297) (ls' := [(3, .int 0), (2, .ref 90), (1, .ref 1), (0, .ref 0)]) (st' := [.int 0, .int 31, .ref 1]) (w' := (fw (sz a0 31 0 a3 a4 a5))) (cs' := 109) (ss' := 12668) ?_ (fun _ _ => rfl)
  refine go_cl (k := 20) (st' := [.int 0]) (cs' := 109) (ss' := 12668) rfl rfl rfl rfl rfl rfl rfl (ro_1936 (sz a0 31 0 a3 a4 a5)) ?_
  refine go_seg 8 (pc' := 308) (ls' := [(3, .int 0), (2, .ref 90), (1, .ref 1), (0, .ref 0)]) (st' := [.int 0, .ref 0, .int 31, .ref 90, .int 0]) (w' := (wd_1406 (sz a0 31 0 a3 a4 a5))) (cs' := 109) (ss' := 12668) ?_ (fun _ _ => rfl)
  refine go_seg 5 (pc' := 319) (ls' := [(3, .int 0), (2, .ref 90), (1, .ref 1), (0, .ref 0)]) (st' := [.int 0, .int 31, .ref 90, .int 0]) (w' := (wd_1406 (sz a0 31 0 a3 a4 a5))) (cs' := 109) (ss' := 12668) ?_ (fun _ _ => rfl)
  refine go_cl (k := 20) (st' := [.int 0, .int 0]) (cs' := 109) (ss' := 12668) rfl rfl rfl rfl rfl rfl rfl (ro_1939 (sz a0 31 0 a3 a4 a5)) ?_
  refine go_cmp true rfl (br_self _) ?_
  exact law_tail (f := sc a0 31 0 a3 a4 a5) rfl
def wd_1408 (z : pq_C) : pq_W := ((fw z).set 4 (.inl (.boolean, 64, .inl (upd (fun _ => 0) 32 0))))
theorem ro_1943 (z : pq_C) : pq_Ru 2 22 [.ref 1, .int 32, .int 0] (fw z) (some (.int 0), (wd_1408 z)) := by
  refine ru_of (k := 1) (M := pm_22) rfl rfl ?_
  refine go_seg 1 (pc' := 1) (ls' := [(0, .ref 1), (1, .int 32), (2, .int 0)]) (st' := [.int 32]) (w' := (fw z)) (cs' := 0) (ss' := 0) ?_ (fun _ _ => rfl)
  refine go_cl (k := 1) (st' := [.int 1]) (cs' := 0) (ss' := 0) rfl rfl rfl rfl rfl rfl rfl (ro_1449 z) ?_
  refine go_seg 8 (pc' := 24) (ls' := [(3, .int 0), (0, .ref 1), (1, .int 32), (2, .int 0)]) (st' := [.ref 1]) (w' := (fw z)) (cs' := 0) (ss' := 0) ?_ (fun _ _ => rfl)
  refine go_seg 8 (pc' := 38) (ls' := [(3, .int 0), (0, .ref 1), (1, .int 32), (2, .int 0)]) (st' := []) (w' := (wd_1408 z)) (cs' := 0) (ss' := 0) ?_ (fun _ _ => rfl)
  exact go_end 3 (fun _ _ => rfl)
theorem ro_1944 (z : pq_C) : pq_Ru 1 161 [.long 32, .long 0, .long 63] (wd_1408 z) (some (.int 1), (wd_1408 z)) := by
  refine ru_of (k := 0) (M := pm_161) rfl rfl ?_
  refine go_seg 8 (pc' := 13) (ls' := [(0, .long 32), (2, .long 0), (4, .long 63)]) (st' := []) (w' := (wd_1408 z)) (cs' := 0) (ss' := 0) ?_ (fun _ _ => rfl)
  exact go_end 3 (fun _ _ => rfl)
theorem ro_1945 (z : pq_C) : pq_Ru 2 160 [.int 32] (wd_1408 z) (some (.int 1), (wd_1408 z)) := by
  refine ru_of (k := 1) (M := pm_160) rfl rfl ?_
  refine go_seg 4 (pc' := 6) (ls' := [(0, .int 32)]) (st' := [.long 63, .long 0, .long 32]) (w' := (wd_1408 z)) (cs' := 0) (ss' := 0) ?_ (fun _ _ => rfl)
  refine go_cl (k := 1) (st' := [.int 1]) (cs' := 0) (ss' := 0) rfl rfl rfl rfl rfl rfl rfl (ro_1944 z) ?_
  exact go_end 1 (fun _ _ => rfl)
def wd_1409 (z : pq_C) : pq_W := ((wd_1408 z).set 91 (.inl (.int, 2858, .inl (upd (upd (upd (upd (upd (upd (upd (upd (upd (upd (upd (upd (upd (upd (upd (upd (upd (upd (upd (upd (upd (upd (upd (upd (upd (upd (upd (upd (upd (upd (upd (upd (upd (upd (upd (upd (upd (upd (upd (upd (upd (upd (upd (upd (upd (upd (upd (upd (upd (upd (upd (upd (upd (upd (upd (upd (upd (upd (upd (upd (upd (upd (upd (upd (upd (upd (upd (upd (upd (upd (upd (upd (upd (upd (upd (upd (upd (upd (upd (upd (upd (upd (fun _ => 0) 1 10) 10 (-1)) 11 (-1)) 12 (-1)) 13 (-1)) 14 (-1)) 15 (-1)) 16 (-1)) 17 (-1)) 18 (-1)) 19 (-1)) 20 (-1)) 21 (-1)) 22 (-1)) 23 (-1)) 24 (-1)) 25 (-1)) 26 (-1)) 27 (-1)) 28 (-1)) 29 (-1)) 30 (-1)) 31 (-1)) 32 (-1)) 33 (-1)) 34 (-1)) 35 (-1)) 36 (-1)) 37 (-1)) 38 (-1)) 39 (-1)) 40 (-1)) 41 (-1)) 42 (-1)) 43 (-1)) 44 (-1)) 45 (-1)) 46 (-1)) 47 (-1)) 48 (-1)) 49 (-1)) 50 (-1)) 51 (-1)) 52 (-1)) 53 (-1)) 54 (-1)) 55 (-1)) 56 (-1)) 57 (-1)) 58 (-1)) 59 (-1)) 60 (-1)) 61 (-1)) 62 (-1)) 63 (-1)) 64 (-1)) 65 (-1)) 66 (-1)) 67 (-1)) 68 (-1)) 69 (-1)) 70 (-1)) 71 (-1)) 72 (-1)) 73 (-1)) 139 1000) 140 100) 145 1000) 146 100) 151 1000) 152 100) 157 1000) 158 100) 163 1000) 164 100) 169 1000) 170 100) 175 1000) 176 100) 181 1000) 182 100) 106 0))))
theorem ro_1946 (z : pq_C) : pq_Ru 3 165 [.ref 90, .int 32, .int 0] (wd_1408 z) (some (.int 0), (wd_1409 z)) := by
  refine ru_of (k := 2) (M := pm_165) rfl rfl ?_
  refine go_seg 1 (pc' := 1) (ls' := [(0, .ref 90), (1, .int 32), (2, .int 0)]) (st' := [.int 32]) (w' := (wd_1408 z)) (cs' := 0) (ss' := 0) ?_ (fun _ _ => rfl)
  refine go_cl (k := 2) (st' := [.int 1]) (cs' := 0) (ss' := 0) rfl rfl rfl rfl rfl rfl rfl (ro_1945 z) ?_
  refine go_seg 8 (pc' := 24) (ls' := [(0, .ref 90), (1, .int 32), (2, .int 0)]) (st' := [.int 0, .int 0]) (w' := (wd_1408 z)) (cs' := 0) (ss' := 0) ?_ (fun _ _ => rfl)
  refine go_seg 8 (pc' := 47) (ls' := [(3, .int 0), (0, .ref 90), (1, .int 32), (2, .int 0)]) (st' := [.int 74, .ref 91]) (w' := (wd_1408 z)) (cs' := 0) (ss' := 0) ?_ (fun _ _ => rfl)
  exact go_end 8 (fun _ _ => rfl)
theorem lf_2_1948 (a0 : Int32) (a3 : Int32) (a4 : Int32) (a5 : Int32) : ∃ w', pq_Go 20 pm_law 278 [(3, .int 0), (2, .ref 90), (1, .ref 1), (0, .ref 0)] [] (fw (sz a0 32 0 a3 a4 a5)) 109 12668 (some (.int 1), w') := by
  refine ⟨(wd_1409 (sz a0 32 0 a3 a4 a5)), ?_⟩
  refine go_seg 8 (pc' := 286) (ls' := [(3, .int 0), (2, .ref 90), (1, .ref 1), (0, .ref 0)]) (st' := [.int 0, .ref 0, .int 32, .ref 1]) (w' := (fw (sz a0 32 0 a3 a4 a5))) (cs' := 109) (ss' := 12668) ?_ (fun _ _ => rfl)
  refine go_seg 5 (pc' := 297) (ls' := [(3, .int 0), (2, .ref 90), (1, .ref 1), (0, .ref 0)]) (st' := [.int 0, .int 32, .ref 1]) (w' := (fw (sz a0 32 0 a3 a4 a5))) (cs' := 109) (ss' := 12668) ?_ (fun _ _ => rfl)
  refine go_cl (k := 20) (st' := [.int 0]) (cs' := 109) (ss' := 12668) rfl rfl rfl rfl rfl rfl rfl (ro_1943 (sz a0 32 0 a3 a4 a5)) ?_
  refine go_seg 8 (pc' := 308) (ls' := [(3, .int 0), (2, .ref 90), (1, .ref 1), (0, .ref 0)]) (st' := [.int 0, .ref 0, .int 32, .ref 90, .int 0]) (w' := (wd_1408 (sz a0 32 0 a3 a4 a5))) (cs' := 109) (ss' := 12668) ?_ (fun _ _ => rfl)
  refine go_seg 5 (pc' := 319) (ls' := [(3, .int 0), (2, .ref 90), (1, .ref 1), (0, .ref 0)]) (st' := [.int 0, .int 32, .ref 90, .int 0]) (w' := (wd_1408 (sz a0 32 0 a3 a4 a5))) (cs' := 109) (ss' := 12668) ?_ (fun _ _ => rfl)
  refine go_cl (k := 20) (st' := [.int 0, .int 0]) (cs' := 109) (ss' := 12668) rfl rfl rfl rfl rfl rfl rfl (ro_1946 (sz a0 32 0 a3 a4 a5)) ?_
  refine go_cmp true rfl (br_self _) ?_
  exact law_tail (f := sc a0 32 0 a3 a4 a5) rfl
def wd_1410 (z : pq_C) : pq_W := ((fw z).set 4 (.inl (.boolean, 64, .inl (upd (fun _ => 0) 33 0))))
theorem ro_1950 (z : pq_C) : pq_Ru 2 22 [.ref 1, .int 33, .int 0] (fw z) (some (.int 0), (wd_1410 z)) := by
  refine ru_of (k := 1) (M := pm_22) rfl rfl ?_
  refine go_seg 1 (pc' := 1) (ls' := [(0, .ref 1), (1, .int 33), (2, .int 0)]) (st' := [.int 33]) (w' := (fw z)) (cs' := 0) (ss' := 0) ?_ (fun _ _ => rfl)
  refine go_cl (k := 1) (st' := [.int 1]) (cs' := 0) (ss' := 0) rfl rfl rfl rfl rfl rfl rfl (ro_1457 z) ?_
  refine go_seg 8 (pc' := 24) (ls' := [(3, .int 0), (0, .ref 1), (1, .int 33), (2, .int 0)]) (st' := [.ref 1]) (w' := (fw z)) (cs' := 0) (ss' := 0) ?_ (fun _ _ => rfl)
  refine go_seg 8 (pc' := 38) (ls' := [(3, .int 0), (0, .ref 1), (1, .int 33), (2, .int 0)]) (st' := []) (w' := (wd_1410 z)) (cs' := 0) (ss' := 0) ?_ (fun _ _ => rfl)
  exact go_end 3 (fun _ _ => rfl)
theorem ro_1951 (z : pq_C) : pq_Ru 1 161 [.long 33, .long 0, .long 63] (wd_1410 z) (some (.int 1), (wd_1410 z)) := by
  refine ru_of (k := 0) (M := pm_161) rfl rfl ?_
  refine go_seg 8 (pc' := 13) (ls' := [(0, .long 33), (2, .long 0), (4, .long 63)]) (st' := []) (w' := (wd_1410 z)) (cs' := 0) (ss' := 0) ?_ (fun _ _ => rfl)
  exact go_end 3 (fun _ _ => rfl)
theorem ro_1952 (z : pq_C) : pq_Ru 2 160 [.int 33] (wd_1410 z) (some (.int 1), (wd_1410 z)) := by
  refine ru_of (k := 1) (M := pm_160) rfl rfl ?_
  refine go_seg 4 (pc' := 6) (ls' := [(0, .int 33)]) (st' := [.long 63, .long 0, .long 33]) (w' := (wd_1410 z)) (cs' := 0) (ss' := 0) ?_ (fun _ _ => rfl)
  refine go_cl (k := 1) (st' := [.int 1]) (cs' := 0) (ss' := 0) rfl rfl rfl rfl rfl rfl rfl (ro_1951 z) ?_
  exact go_end 1 (fun _ _ => rfl)
def wd_1411 (z : pq_C) : pq_W := ((wd_1410 z).set 91 (.inl (.int, 2858, .inl (upd (upd (upd (upd (upd (upd (upd (upd (upd (upd (upd (upd (upd (upd (upd (upd (upd (upd (upd (upd (upd (upd (upd (upd (upd (upd (upd (upd (upd (upd (upd (upd (upd (upd (upd (upd (upd (upd (upd (upd (upd (upd (upd (upd (upd (upd (upd (upd (upd (upd (upd (upd (upd (upd (upd (upd (upd (upd (upd (upd (upd (upd (upd (upd (upd (upd (upd (upd (upd (upd (upd (upd (upd (upd (upd (upd (upd (upd (upd (upd (upd (upd (fun _ => 0) 1 10) 10 (-1)) 11 (-1)) 12 (-1)) 13 (-1)) 14 (-1)) 15 (-1)) 16 (-1)) 17 (-1)) 18 (-1)) 19 (-1)) 20 (-1)) 21 (-1)) 22 (-1)) 23 (-1)) 24 (-1)) 25 (-1)) 26 (-1)) 27 (-1)) 28 (-1)) 29 (-1)) 30 (-1)) 31 (-1)) 32 (-1)) 33 (-1)) 34 (-1)) 35 (-1)) 36 (-1)) 37 (-1)) 38 (-1)) 39 (-1)) 40 (-1)) 41 (-1)) 42 (-1)) 43 (-1)) 44 (-1)) 45 (-1)) 46 (-1)) 47 (-1)) 48 (-1)) 49 (-1)) 50 (-1)) 51 (-1)) 52 (-1)) 53 (-1)) 54 (-1)) 55 (-1)) 56 (-1)) 57 (-1)) 58 (-1)) 59 (-1)) 60 (-1)) 61 (-1)) 62 (-1)) 63 (-1)) 64 (-1)) 65 (-1)) 66 (-1)) 67 (-1)) 68 (-1)) 69 (-1)) 70 (-1)) 71 (-1)) 72 (-1)) 73 (-1)) 139 1000) 140 100) 145 1000) 146 100) 151 1000) 152 100) 157 1000) 158 100) 163 1000) 164 100) 169 1000) 170 100) 175 1000) 176 100) 181 1000) 182 100) 107 0))))
theorem ro_1953 (z : pq_C) : pq_Ru 3 165 [.ref 90, .int 33, .int 0] (wd_1410 z) (some (.int 0), (wd_1411 z)) := by
  refine ru_of (k := 2) (M := pm_165) rfl rfl ?_
  refine go_seg 1 (pc' := 1) (ls' := [(0, .ref 90), (1, .int 33), (2, .int 0)]) (st' := [.int 33]) (w' := (wd_1410 z)) (cs' := 0) (ss' := 0) ?_ (fun _ _ => rfl)
  refine go_cl (k := 2) (st' := [.int 1]) (cs' := 0) (ss' := 0) rfl rfl rfl rfl rfl rfl rfl (ro_1952 z) ?_
  refine go_seg 8 (pc' := 24) (ls' := [(0, .ref 90), (1, .int 33), (2, .int 0)]) (st' := [.int 0, .int 0]) (w' := (wd_1410 z)) (cs' := 0) (ss' := 0) ?_ (fun _ _ => rfl)
  refine go_seg 8 (pc' := 47) (ls' := [(3, .int 0), (0, .ref 90), (1, .int 33), (2, .int 0)]) (st' := [.int 74, .ref 91]) (w' := (wd_1410 z)) (cs' := 0) (ss' := 0) ?_ (fun _ _ => rfl)
  exact go_end 8 (fun _ _ => rfl)
theorem lf_2_1955 (a0 : Int32) (a3 : Int32) (a4 : Int32) (a5 : Int32) : ∃ w', pq_Go 20 pm_law 278 [(3, .int 0), (2, .ref 90), (1, .ref 1), (0, .ref 0)] [] (fw (sz a0 33 0 a3 a4 a5)) 109 12668 (some (.int 1), w') := by
  refine ⟨(wd_1411 (sz a0 33 0 a3 a4 a5)), ?_⟩
  refine go_seg 8 (pc' := 286) (ls' := [(3, .int 0), (2, .ref 90), (1, .ref 1), (0, .ref 0)]) (st' := [.int 0, .ref 0, .int 33, .ref 1]) (w' := (fw (sz a0 33 0 a3 a4 a5))) (cs' := 109) (ss' := 12668) ?_ (fun _ _ => rfl)
  refine go_seg 5 (pc' := 297) (ls' := [(3, .int 0), (2, .ref 90), (1, .ref 1), (0, .ref 0)]) (st' := [.int 0, .int 33, .ref 1]) (w' := (fw (sz a0 33 0 a3 a4 a5))) (cs' := 109) (ss' := 12668) ?_ (fun _ _ => rfl)
  refine go_cl (k := 20) (st' := [.int 0]) (cs' := 109) (ss' := 12668) rfl rfl rfl rfl rfl rfl rfl (ro_1950 (sz a0 33 0 a3 a4 a5)) ?_
  refine go_seg 8 (pc' := 308) (ls' := [(3, .int 0), (2, .ref 90), (1, .ref 1), (0, .ref 0)]) (st' := [.int 0, .ref 0, .int 33, .ref 90, .int 0]) (w' := (wd_1410 (sz a0 33 0 a3 a4 a5))) (cs' := 109) (ss' := 12668) ?_ (fun _ _ => rfl)
  refine go_seg 5 (pc' := 319) (ls' := [(3, .int 0), (2, .ref 90), (1, .ref 1), (0, .ref 0)]) (st' := [.int 0, .int 33, .ref 90, .int 0]) (w' := (wd_1410 (sz a0 33 0 a3 a4 a5))) (cs' := 109) (ss' := 12668) ?_ (fun _ _ => rfl)
  refine go_cl (k := 20) (st' := [.int 0, .int 0]) (cs' := 109) (ss' := 12668) rfl rfl rfl rfl rfl rfl rfl (ro_1953 (sz a0 33 0 a3 a4 a5)) ?_
  refine go_cmp true rfl (br_self _) ?_
  exact law_tail (f := sc a0 33 0 a3 a4 a5) rfl
def wd_1412 (z : pq_C) : pq_W := ((fw z).set 4 (.inl (.boolean, 64, .inl (upd (fun _ => 0) 34 0))))
theorem ro_1957 (z : pq_C) : pq_Ru 2 22 [.ref 1, .int 34, .int 0] (fw z) (some (.int 0), (wd_1412 z)) := by
  refine ru_of (k := 1) (M := pm_22) rfl rfl ?_
  refine go_seg 1 (pc' := 1) (ls' := [(0, .ref 1), (1, .int 34), (2, .int 0)]) (st' := [.int 34]) (w' := (fw z)) (cs' := 0) (ss' := 0) ?_ (fun _ _ => rfl)
  refine go_cl (k := 1) (st' := [.int 1]) (cs' := 0) (ss' := 0) rfl rfl rfl rfl rfl rfl rfl (ro_1465 z) ?_
  refine go_seg 8 (pc' := 24) (ls' := [(3, .int 0), (0, .ref 1), (1, .int 34), (2, .int 0)]) (st' := [.ref 1]) (w' := (fw z)) (cs' := 0) (ss' := 0) ?_ (fun _ _ => rfl)
  refine go_seg 8 (pc' := 38) (ls' := [(3, .int 0), (0, .ref 1), (1, .int 34), (2, .int 0)]) (st' := []) (w' := (wd_1412 z)) (cs' := 0) (ss' := 0) ?_ (fun _ _ => rfl)
  exact go_end 3 (fun _ _ => rfl)
theorem ro_1958 (z : pq_C) : pq_Ru 1 161 [.long 34, .long 0, .long 63] (wd_1412 z) (some (.int 1), (wd_1412 z)) := by
  refine ru_of (k := 0) (M := pm_161) rfl rfl ?_
  refine go_seg 8 (pc' := 13) (ls' := [(0, .long 34), (2, .long 0), (4, .long 63)]) (st' := []) (w' := (wd_1412 z)) (cs' := 0) (ss' := 0) ?_ (fun _ _ => rfl)
  exact go_end 3 (fun _ _ => rfl)
theorem ro_1959 (z : pq_C) : pq_Ru 2 160 [.int 34] (wd_1412 z) (some (.int 1), (wd_1412 z)) := by
  refine ru_of (k := 1) (M := pm_160) rfl rfl ?_
  refine go_seg 4 (pc' := 6) (ls' := [(0, .int 34)]) (st' := [.long 63, .long 0, .long 34]) (w' := (wd_1412 z)) (cs' := 0) (ss' := 0) ?_ (fun _ _ => rfl)
  refine go_cl (k := 1) (st' := [.int 1]) (cs' := 0) (ss' := 0) rfl rfl rfl rfl rfl rfl rfl (ro_1958 z) ?_
  exact go_end 1 (fun _ _ => rfl)
def wd_1413 (z : pq_C) : pq_W := ((wd_1412 z).set 91 (.inl (.int, 2858, .inl (upd (upd (upd (upd (upd (upd (upd (upd (upd (upd (upd (upd (upd (upd (upd (upd (upd (upd (upd (upd (upd (upd (upd (upd (upd (upd (upd (upd (upd (upd (upd (upd (upd (upd (upd (upd (upd (upd (upd (upd (upd (upd (upd (upd (upd (upd (upd (upd (upd (upd (upd (upd (upd (upd (upd (upd (upd (upd (upd (upd (upd (upd (upd (upd (upd (upd (upd (upd (upd (upd (upd (upd (upd (upd (upd (upd (upd (upd (upd (upd (upd (upd (fun _ => 0) 1 10) 10 (-1)) 11 (-1)) 12 (-1)) 13 (-1)) 14 (-1)) 15 (-1)) 16 (-1)) 17 (-1)) 18 (-1)) 19 (-1)) 20 (-1)) 21 (-1)) 22 (-1)) 23 (-1)) 24 (-1)) 25 (-1)) 26 (-1)) 27 (-1)) 28 (-1)) 29 (-1)) 30 (-1)) 31 (-1)) 32 (-1)) 33 (-1)) 34 (-1)) 35 (-1)) 36 (-1)) 37 (-1)) 38 (-1)) 39 (-1)) 40 (-1)) 41 (-1)) 42 (-1)) 43 (-1)) 44 (-1)) 45 (-1)) 46 (-1)) 47 (-1)) 48 (-1)) 49 (-1)) 50 (-1)) 51 (-1)) 52 (-1)) 53 (-1)) 54 (-1)) 55 (-1)) 56 (-1)) 57 (-1)) 58 (-1)) 59 (-1)) 60 (-1)) 61 (-1)) 62 (-1)) 63 (-1)) 64 (-1)) 65 (-1)) 66 (-1)) 67 (-1)) 68 (-1)) 69 (-1)) 70 (-1)) 71 (-1)) 72 (-1)) 73 (-1)) 139 1000) 140 100) 145 1000) 146 100) 151 1000) 152 100) 157 1000) 158 100) 163 1000) 164 100) 169 1000) 170 100) 175 1000) 176 100) 181 1000) 182 100) 108 0))))
theorem ro_1960 (z : pq_C) : pq_Ru 3 165 [.ref 90, .int 34, .int 0] (wd_1412 z) (some (.int 0), (wd_1413 z)) := by
  refine ru_of (k := 2) (M := pm_165) rfl rfl ?_
  refine go_seg 1 (pc' := 1) (ls' := [(0, .ref 90), (1, .int 34), (2, .int 0)]) (st' := [.int 34]) (w' := (wd_1412 z)) (cs' := 0) (ss' := 0) ?_ (fun _ _ => rfl)
  refine go_cl (k := 2) (st' := [.int 1]) (cs' := 0) (ss' := 0) rfl rfl rfl rfl rfl rfl rfl (ro_1959 z) ?_
  refine go_seg 8 (pc' := 24) (ls' := [(0, .ref 90), (1, .int 34), (2, .int 0)]) (st' := [.int 0, .int 0]) (w' := (wd_1412 z)) (cs' := 0) (ss' := 0) ?_ (fun _ _ => rfl)
  refine go_seg 8 (pc' := 47) (ls' := [(3, .int 0), (0, .ref 90), (1, .int 34), (2, .int 0)]) (st' := [.int 74, .ref 91]) (w' := (wd_1412 z)) (cs' := 0) (ss' := 0) ?_ (fun _ _ => rfl)
  exact go_end 8 (fun _ _ => rfl)
theorem lf_2_1962 (a0 : Int32) (a3 : Int32) (a4 : Int32) (a5 : Int32) : ∃ w', pq_Go 20 pm_law 278 [(3, .int 0), (2, .ref 90), (1, .ref 1), (0, .ref 0)] [] (fw (sz a0 34 0 a3 a4 a5)) 109 12668 (some (.int 1), w') := by
  refine ⟨(wd_1413 (sz a0 34 0 a3 a4 a5)), ?_⟩
  refine go_seg 8 (pc' := 286) (ls' := [(3, .int 0), (2, .ref 90), (1, .ref 1), (0, .ref 0)]) (st' := [.int 0, .ref 0, .int 34, .ref 1]) (w' := (fw (sz a0 34 0 a3 a4 a5))) (cs' := 109) (ss' := 12668) ?_ (fun _ _ => rfl)
  refine go_seg 5 (pc' := 297) (ls' := [(3, .int 0), (2, .ref 90), (1, .ref 1), (0, .ref 0)]) (st' := [.int 0, .int 34, .ref 1]) (w' := (fw (sz a0 34 0 a3 a4 a5))) (cs' := 109) (ss' := 12668) ?_ (fun _ _ => rfl)
  refine go_cl (k := 20) (st' := [.int 0]) (cs' := 109) (ss' := 12668) rfl rfl rfl rfl rfl rfl rfl (ro_1957 (sz a0 34 0 a3 a4 a5)) ?_
  refine go_seg 8 (pc' := 308) (ls' := [(3, .int 0), (2, .ref 90), (1, .ref 1), (0, .ref 0)]) (st' := [.int 0, .ref 0, .int 34, .ref 90, .int 0]) (w' := (wd_1412 (sz a0 34 0 a3 a4 a5))) (cs' := 109) (ss' := 12668) ?_ (fun _ _ => rfl)
  refine go_seg 5 (pc' := 319) (ls' := [(3, .int 0), (2, .ref 90), (1, .ref 1), (0, .ref 0)]) (st' := [.int 0, .int 34, .ref 90, .int 0]) (w' := (wd_1412 (sz a0 34 0 a3 a4 a5))) (cs' := 109) (ss' := 12668) ?_ (fun _ _ => rfl)
  refine go_cl (k := 20) (st' := [.int 0, .int 0]) (cs' := 109) (ss' := 12668) rfl rfl rfl rfl rfl rfl rfl (ro_1960 (sz a0 34 0 a3 a4 a5)) ?_
  refine go_cmp true rfl (br_self _) ?_
  exact law_tail (f := sc a0 34 0 a3 a4 a5) rfl
def wd_1414 (z : pq_C) : pq_W := ((fw z).set 4 (.inl (.boolean, 64, .inl (upd (fun _ => 0) 35 0))))
theorem ro_1964 (z : pq_C) : pq_Ru 2 22 [.ref 1, .int 35, .int 0] (fw z) (some (.int 0), (wd_1414 z)) := by
  refine ru_of (k := 1) (M := pm_22) rfl rfl ?_
  refine go_seg 1 (pc' := 1) (ls' := [(0, .ref 1), (1, .int 35), (2, .int 0)]) (st' := [.int 35]) (w' := (fw z)) (cs' := 0) (ss' := 0) ?_ (fun _ _ => rfl)
  refine go_cl (k := 1) (st' := [.int 1]) (cs' := 0) (ss' := 0) rfl rfl rfl rfl rfl rfl rfl (ro_1473 z) ?_
  refine go_seg 8 (pc' := 24) (ls' := [(3, .int 0), (0, .ref 1), (1, .int 35), (2, .int 0)]) (st' := [.ref 1]) (w' := (fw z)) (cs' := 0) (ss' := 0) ?_ (fun _ _ => rfl)
  refine go_seg 8 (pc' := 38) (ls' := [(3, .int 0), (0, .ref 1), (1, .int 35), (2, .int 0)]) (st' := []) (w' := (wd_1414 z)) (cs' := 0) (ss' := 0) ?_ (fun _ _ => rfl)
  exact go_end 3 (fun _ _ => rfl)
theorem ro_1965 (z : pq_C) : pq_Ru 1 161 [.long 35, .long 0, .long 63] (wd_1414 z) (some (.int 1), (wd_1414 z)) := by
  refine ru_of (k := 0) (M := pm_161) rfl rfl ?_
  refine go_seg 8 (pc' := 13) (ls' := [(0, .long 35), (2, .long 0), (4, .long 63)]) (st' := []) (w' := (wd_1414 z)) (cs' := 0) (ss' := 0) ?_ (fun _ _ => rfl)
  exact go_end 3 (fun _ _ => rfl)
theorem ro_1966 (z : pq_C) : pq_Ru 2 160 [.int 35] (wd_1414 z) (some (.int 1), (wd_1414 z)) := by
  refine ru_of (k := 1) (M := pm_160) rfl rfl ?_
  refine go_seg 4 (pc' := 6) (ls' := [(0, .int 35)]) (st' := [.long 63, .long 0, .long 35]) (w' := (wd_1414 z)) (cs' := 0) (ss' := 0) ?_ (fun _ _ => rfl)
  refine go_cl (k := 1) (st' := [.int 1]) (cs' := 0) (ss' := 0) rfl rfl rfl rfl rfl rfl rfl (ro_1965 z) ?_
  exact go_end 1 (fun _ _ => rfl)
def wd_1415 (z : pq_C) : pq_W := ((wd_1414 z).set 91 (.inl (.int, 2858, .inl (upd (upd (upd (upd (upd (upd (upd (upd (upd (upd (upd (upd (upd (upd (upd (upd (upd (upd (upd (upd (upd (upd (upd (upd (upd (upd (upd (upd (upd (upd (upd (upd (upd (upd (upd (upd (upd (upd (upd (upd (upd (upd (upd (upd (upd (upd (upd (upd (upd (upd (upd (upd (upd (upd (upd (upd (upd (upd (upd (upd (upd (upd (upd (upd (upd (upd (upd (upd (upd (upd (upd (upd (upd (upd (upd (upd (upd (upd (upd (upd (upd (upd (fun _ => 0) 1 10) 10 (-1)) 11 (-1)) 12 (-1)) 13 (-1)) 14 (-1)) 15 (-1)) 16 (-1)) 17 (-1)) 18 (-1)) 19 (-1)) 20 (-1)) 21 (-1)) 22 (-1)) 23 (-1)) 24 (-1)) 25 (-1)) 26 (-1)) 27 (-1)) 28 (-1)) 29 (-1)) 30 (-1)) 31 (-1)) 32 (-1)) 33 (-1)) 34 (-1)) 35 (-1)) 36 (-1)) 37 (-1)) 38 (-1)) 39 (-1)) 40 (-1)) 41 (-1)) 42 (-1)) 43 (-1)) 44 (-1)) 45 (-1)) 46 (-1)) 47 (-1)) 48 (-1)) 49 (-1)) 50 (-1)) 51 (-1)) 52 (-1)) 53 (-1)) 54 (-1)) 55 (-1)) 56 (-1)) 57 (-1)) 58 (-1)) 59 (-1)) 60 (-1)) 61 (-1)) 62 (-1)) 63 (-1)) 64 (-1)) 65 (-1)) 66 (-1)) 67 (-1)) 68 (-1)) 69 (-1)) 70 (-1)) 71 (-1)) 72 (-1)) 73 (-1)) 139 1000) 140 100) 145 1000) 146 100) 151 1000) 152 100) 157 1000) 158 100) 163 1000) 164 100) 169 1000) 170 100) 175 1000) 176 100) 181 1000) 182 100) 109 0))))
theorem ro_1967 (z : pq_C) : pq_Ru 3 165 [.ref 90, .int 35, .int 0] (wd_1414 z) (some (.int 0), (wd_1415 z)) := by
  refine ru_of (k := 2) (M := pm_165) rfl rfl ?_
  refine go_seg 1 (pc' := 1) (ls' := [(0, .ref 90), (1, .int 35), (2, .int 0)]) (st' := [.int 35]) (w' := (wd_1414 z)) (cs' := 0) (ss' := 0) ?_ (fun _ _ => rfl)
  refine go_cl (k := 2) (st' := [.int 1]) (cs' := 0) (ss' := 0) rfl rfl rfl rfl rfl rfl rfl (ro_1966 z) ?_
  refine go_seg 8 (pc' := 24) (ls' := [(0, .ref 90), (1, .int 35), (2, .int 0)]) (st' := [.int 0, .int 0]) (w' := (wd_1414 z)) (cs' := 0) (ss' := 0) ?_ (fun _ _ => rfl)
  refine go_seg 8 (pc' := 47) (ls' := [(3, .int 0), (0, .ref 90), (1, .int 35), (2, .int 0)]) (st' := [.int 74, .ref 91]) (w' := (wd_1414 z)) (cs' := 0) (ss' := 0) ?_ (fun _ _ => rfl)
  exact go_end 8 (fun _ _ => rfl)
theorem lf_2_1969 (a0 : Int32) (a3 : Int32) (a4 : Int32) (a5 : Int32) : ∃ w', pq_Go 20 pm_law 278 [(3, .int 0), (2, .ref 90), (1, .ref 1), (0, .ref 0)] [] (fw (sz a0 35 0 a3 a4 a5)) 109 12668 (some (.int 1), w') := by
  refine ⟨(wd_1415 (sz a0 35 0 a3 a4 a5)), ?_⟩
  refine go_seg 8 (pc' := 286) (ls' := [(3, .int 0), (2, .ref 90), (1, .ref 1), (0, .ref 0)]) (st' := [.int 0, .ref 0, .int 35, .ref 1]) (w' := (fw (sz a0 35 0 a3 a4 a5))) (cs' := 109) (ss' := 12668) ?_ (fun _ _ => rfl)
  refine go_seg 5 (pc' := 297) (ls' := [(3, .int 0), (2, .ref 90), (1, .ref 1), (0, .ref 0)]) (st' := [.int 0, .int 35, .ref 1]) (w' := (fw (sz a0 35 0 a3 a4 a5))) (cs' := 109) (ss' := 12668) ?_ (fun _ _ => rfl)
  refine go_cl (k := 20) (st' := [.int 0]) (cs' := 109) (ss' := 12668) rfl rfl rfl rfl rfl rfl rfl (ro_1964 (sz a0 35 0 a3 a4 a5)) ?_
  refine go_seg 8 (pc' := 308) (ls' := [(3, .int 0), (2, .ref 90), (1, .ref 1), (0, .ref 0)]) (st' := [.int 0, .ref 0, .int 35, .ref 90, .int 0]) (w' := (wd_1414 (sz a0 35 0 a3 a4 a5))) (cs' := 109) (ss' := 12668) ?_ (fun _ _ => rfl)
  refine go_seg 5 (pc' := 319) (ls' := [(3, .int 0), (2, .ref 90), (1, .ref 1), (0, .ref 0)]) (st' := [.int 0, .int 35, .ref 90, .int 0]) (w' := (wd_1414 (sz a0 35 0 a3 a4 a5))) (cs' := 109) (ss' := 12668) ?_ (fun _ _ => rfl)
  refine go_cl (k := 20) (st' := [.int 0, .int 0]) (cs' := 109) (ss' := 12668) rfl rfl rfl rfl rfl rfl rfl (ro_1967 (sz a0 35 0 a3 a4 a5)) ?_
  refine go_cmp true rfl (br_self _) ?_
  exact law_tail (f := sc a0 35 0 a3 a4 a5) rfl
def wd_1416 (z : pq_C) : pq_W := ((fw z).set 4 (.inl (.boolean, 64, .inl (upd (fun _ => 0) 36 0))))
theorem ro_1971 (z : pq_C) : pq_Ru 2 22 [.ref 1, .int 36, .int 0] (fw z) (some (.int 0), (wd_1416 z)) := by
  refine ru_of (k := 1) (M := pm_22) rfl rfl ?_
  refine go_seg 1 (pc' := 1) (ls' := [(0, .ref 1), (1, .int 36), (2, .int 0)]) (st' := [.int 36]) (w' := (fw z)) (cs' := 0) (ss' := 0) ?_ (fun _ _ => rfl)
  refine go_cl (k := 1) (st' := [.int 1]) (cs' := 0) (ss' := 0) rfl rfl rfl rfl rfl rfl rfl (ro_1481 z) ?_
  refine go_seg 8 (pc' := 24) (ls' := [(3, .int 0), (0, .ref 1), (1, .int 36), (2, .int 0)]) (st' := [.ref 1]) (w' := (fw z)) (cs' := 0) (ss' := 0) ?_ (fun _ _ => rfl)
  refine go_seg 8 (pc' := 38) (ls' := [(3, .int 0), (0, .ref 1), (1, .int 36), (2, .int 0)]) (st' := []) (w' := (wd_1416 z)) (cs' := 0) (ss' := 0) ?_ (fun _ _ => rfl)
  exact go_end 3 (fun _ _ => rfl)
theorem ro_1972 (z : pq_C) : pq_Ru 1 161 [.long 36, .long 0, .long 63] (wd_1416 z) (some (.int 1), (wd_1416 z)) := by
  refine ru_of (k := 0) (M := pm_161) rfl rfl ?_
  refine go_seg 8 (pc' := 13) (ls' := [(0, .long 36), (2, .long 0), (4, .long 63)]) (st' := []) (w' := (wd_1416 z)) (cs' := 0) (ss' := 0) ?_ (fun _ _ => rfl)
  exact go_end 3 (fun _ _ => rfl)
theorem ro_1973 (z : pq_C) : pq_Ru 2 160 [.int 36] (wd_1416 z) (some (.int 1), (wd_1416 z)) := by
  refine ru_of (k := 1) (M := pm_160) rfl rfl ?_
  refine go_seg 4 (pc' := 6) (ls' := [(0, .int 36)]) (st' := [.long 63, .long 0, .long 36]) (w' := (wd_1416 z)) (cs' := 0) (ss' := 0) ?_ (fun _ _ => rfl)
  refine go_cl (k := 1) (st' := [.int 1]) (cs' := 0) (ss' := 0) rfl rfl rfl rfl rfl rfl rfl (ro_1972 z) ?_
  exact go_end 1 (fun _ _ => rfl)
def wd_1417 (z : pq_C) : pq_W := ((wd_1416 z).set 91 (.inl (.int, 2858, .inl (upd (upd (upd (upd (upd (upd (upd (upd (upd (upd (upd (upd (upd (upd (upd (upd (upd (upd (upd (upd (upd (upd (upd (upd (upd (upd (upd (upd (upd (upd (upd (upd (upd (upd (upd (upd (upd (upd (upd (upd (upd (upd (upd (upd (upd (upd (upd (upd (upd (upd (upd (upd (upd (upd (upd (upd (upd (upd (upd (upd (upd (upd (upd (upd (upd (upd (upd (upd (upd (upd (upd (upd (upd (upd (upd (upd (upd (upd (upd (upd (upd (upd (fun _ => 0) 1 10) 10 (-1)) 11 (-1)) 12 (-1)) 13 (-1)) 14 (-1)) 15 (-1)) 16 (-1)) 17 (-1)) 18 (-1)) 19 (-1)) 20 (-1)) 21 (-1)) 22 (-1)) 23 (-1)) 24 (-1)) 25 (-1)) 26 (-1)) 27 (-1)) 28 (-1)) 29 (-1)) 30 (-1)) 31 (-1)) 32 (-1)) 33 (-1)) 34 (-1)) 35 (-1)) 36 (-1)) 37 (-1)) 38 (-1)) 39 (-1)) 40 (-1)) 41 (-1)) 42 (-1)) 43 (-1)) 44 (-1)) 45 (-1)) 46 (-1)) 47 (-1)) 48 (-1)) 49 (-1)) 50 (-1)) 51 (-1)) 52 (-1)) 53 (-1)) 54 (-1)) 55 (-1)) 56 (-1)) 57 (-1)) 58 (-1)) 59 (-1)) 60 (-1)) 61 (-1)) 62 (-1)) 63 (-1)) 64 (-1)) 65 (-1)) 66 (-1)) 67 (-1)) 68 (-1)) 69 (-1)) 70 (-1)) 71 (-1)) 72 (-1)) 73 (-1)) 139 1000) 140 100) 145 1000) 146 100) 151 1000) 152 100) 157 1000) 158 100) 163 1000) 164 100) 169 1000) 170 100) 175 1000) 176 100) 181 1000) 182 100) 110 0))))
theorem ro_1974 (z : pq_C) : pq_Ru 3 165 [.ref 90, .int 36, .int 0] (wd_1416 z) (some (.int 0), (wd_1417 z)) := by
  refine ru_of (k := 2) (M := pm_165) rfl rfl ?_
  refine go_seg 1 (pc' := 1) (ls' := [(0, .ref 90), (1, .int 36), (2, .int 0)]) (st' := [.int 36]) (w' := (wd_1416 z)) (cs' := 0) (ss' := 0) ?_ (fun _ _ => rfl)
  refine go_cl (k := 2) (st' := [.int 1]) (cs' := 0) (ss' := 0) rfl rfl rfl rfl rfl rfl rfl (ro_1973 z) ?_
  refine go_seg 8 (pc' := 24) (ls' := [(0, .ref 90), (1, .int 36), (2, .int 0)]) (st' := [.int 0, .int 0]) (w' := (wd_1416 z)) (cs' := 0) (ss' := 0) ?_ (fun _ _ => rfl)
  refine go_seg 8 (pc' := 47) (ls' := [(3, .int 0), (0, .ref 90), (1, .int 36), (2, .int 0)]) (st' := [.int 74, .ref 91]) (w' := (wd_1416 z)) (cs' := 0) (ss' := 0) ?_ (fun _ _ => rfl)
  exact go_end 8 (fun _ _ => rfl)
theorem lf_2_1976 (a0 : Int32) (a3 : Int32) (a4 : Int32) (a5 : Int32) : ∃ w', pq_Go 20 pm_law 278 [(3, .int 0), (2, .ref 90), (1, .ref 1), (0, .ref 0)] [] (fw (sz a0 36 0 a3 a4 a5)) 109 12668 (some (.int 1), w') := by
  refine ⟨(wd_1417 (sz a0 36 0 a3 a4 a5)), ?_⟩
  refine go_seg 8 (pc' := 286) (ls' := [(3, .int 0), (2, .ref 90), (1, .ref 1), (0, .ref 0)]) (st' := [.int 0, .ref 0, .int 36, .ref 1]) (w' := (fw (sz a0 36 0 a3 a4 a5))) (cs' := 109) (ss' := 12668) ?_ (fun _ _ => rfl)
  refine go_seg 5 (pc' := 297) (ls' := [(3, .int 0), (2, .ref 90), (1, .ref 1), (0, .ref 0)]) (st' := [.int 0, .int 36, .ref 1]) (w' := (fw (sz a0 36 0 a3 a4 a5))) (cs' := 109) (ss' := 12668) ?_ (fun _ _ => rfl)
  refine go_cl (k := 20) (st' := [.int 0]) (cs' := 109) (ss' := 12668) rfl rfl rfl rfl rfl rfl rfl (ro_1971 (sz a0 36 0 a3 a4 a5)) ?_
  refine go_seg 8 (pc' := 308) (ls' := [(3, .int 0), (2, .ref 90), (1, .ref 1), (0, .ref 0)]) (st' := [.int 0, .ref 0, .int 36, .ref 90, .int 0]) (w' := (wd_1416 (sz a0 36 0 a3 a4 a5))) (cs' := 109) (ss' := 12668) ?_ (fun _ _ => rfl)
  refine go_seg 5 (pc' := 319) (ls' := [(3, .int 0), (2, .ref 90), (1, .ref 1), (0, .ref 0)]) (st' := [.int 0, .int 36, .ref 90, .int 0]) (w' := (wd_1416 (sz a0 36 0 a3 a4 a5))) (cs' := 109) (ss' := 12668) ?_ (fun _ _ => rfl)
  refine go_cl (k := 20) (st' := [.int 0, .int 0]) (cs' := 109) (ss' := 12668) rfl rfl rfl rfl rfl rfl rfl (ro_1974 (sz a0 36 0 a3 a4 a5)) ?_
  refine go_cmp true rfl (br_self _) ?_
  exact law_tail (f := sc a0 36 0 a3 a4 a5) rfl
def wd_1418 (z : pq_C) : pq_W := ((fw z).set 4 (.inl (.boolean, 64, .inl (upd (fun _ => 0) 37 0))))
theorem ro_1978 (z : pq_C) : pq_Ru 2 22 [.ref 1, .int 37, .int 0] (fw z) (some (.int 0), (wd_1418 z)) := by
  refine ru_of (k := 1) (M := pm_22) rfl rfl ?_
  refine go_seg 1 (pc' := 1) (ls' := [(0, .ref 1), (1, .int 37), (2, .int 0)]) (st' := [.int 37]) (w' := (fw z)) (cs' := 0) (ss' := 0) ?_ (fun _ _ => rfl)
  refine go_cl (k := 1) (st' := [.int 1]) (cs' := 0) (ss' := 0) rfl rfl rfl rfl rfl rfl rfl (ro_1489 z) ?_
  refine go_seg 8 (pc' := 24) (ls' := [(3, .int 0), (0, .ref 1), (1, .int 37), (2, .int 0)]) (st' := [.ref 1]) (w' := (fw z)) (cs' := 0) (ss' := 0) ?_ (fun _ _ => rfl)
  refine go_seg 8 (pc' := 38) (ls' := [(3, .int 0), (0, .ref 1), (1, .int 37), (2, .int 0)]) (st' := []) (w' := (wd_1418 z)) (cs' := 0) (ss' := 0) ?_ (fun _ _ => rfl)
  exact go_end 3 (fun _ _ => rfl)
theorem ro_1979 (z : pq_C) : pq_Ru 1 161 [.long 37, .long 0, .long 63] (wd_1418 z) (some (.int 1), (wd_1418 z)) := by
  refine ru_of (k := 0) (M := pm_161) rfl rfl ?_
  refine go_seg 8 (pc' := 13) (ls' := [(0, .long 37), (2, .long 0), (4, .long 63)]) (st' := []) (w' := (wd_1418 z)) (cs' := 0) (ss' := 0) ?_ (fun _ _ => rfl)
  exact go_end 3 (fun _ _ => rfl)
theorem ro_1980 (z : pq_C) : pq_Ru 2 160 [.int 37] (wd_1418 z) (some (.int 1), (wd_1418 z)) := by
  refine ru_of (k := 1) (M := pm_160) rfl rfl ?_
  refine go_seg 4 (pc' := 6) (ls' := [(0, .int 37)]) (st' := [.long 63, .long 0, .long 37]) (w' := (wd_1418 z)) (cs' := 0) (ss' := 0) ?_ (fun _ _ => rfl)
  refine go_cl (k := 1) (st' := [.int 1]) (cs' := 0) (ss' := 0) rfl rfl rfl rfl rfl rfl rfl (ro_1979 z) ?_
  exact go_end 1 (fun _ _ => rfl)
def wd_1419 (z : pq_C) : pq_W := ((wd_1418 z).set 91 (.inl (.int, 2858, .inl (upd (upd (upd (upd (upd (upd (upd (upd (upd (upd (upd (upd (upd (upd (upd (upd (upd (upd (upd (upd (upd (upd (upd (upd (upd (upd (upd (upd (upd (upd (upd (upd (upd (upd (upd (upd (upd (upd (upd (upd (upd (upd (upd (upd (upd (upd (upd (upd (upd (upd (upd (upd (upd (upd (upd (upd (upd (upd (upd (upd (upd (upd (upd (upd (upd (upd (upd (upd (upd (upd (upd (upd (upd (upd (upd (upd (upd (upd (upd (upd (upd (upd (fun _ => 0) 1 10) 10 (-1)) 11 (-1)) 12 (-1)) 13 (-1)) 14 (-1)) 15 (-1)) 16 (-1)) 17 (-1)) 18 (-1)) 19 (-1)) 20 (-1)) 21 (-1)) 22 (-1)) 23 (-1)) 24 (-1)) 25 (-1)) 26 (-1)) 27 (-1)) 28 (-1)) 29 (-1)) 30 (-1)) 31 (-1)) 32 (-1)) 33 (-1)) 34 (-1)) 35 (-1)) 36 (-1)) 37 (-1)) 38 (-1)) 39 (-1)) 40 (-1)) 41 (-1)) 42 (-1)) 43 (-1)) 44 (-1)) 45 (-1)) 46 (-1)) 47 (-1)) 48 (-1)) 49 (-1)) 50 (-1)) 51 (-1)) 52 (-1)) 53 (-1)) 54 (-1)) 55 (-1)) 56 (-1)) 57 (-1)) 58 (-1)) 59 (-1)) 60 (-1)) 61 (-1)) 62 (-1)) 63 (-1)) 64 (-1)) 65 (-1)) 66 (-1)) 67 (-1)) 68 (-1)) 69 (-1)) 70 (-1)) 71 (-1)) 72 (-1)) 73 (-1)) 139 1000) 140 100) 145 1000) 146 100) 151 1000) 152 100) 157 1000) 158 100) 163 1000) 164 100) 169 1000) 170 100) 175 1000) 176 100) 181 1000) 182 100) 111 0))))
theorem ro_1981 (z : pq_C) : pq_Ru 3 165 [.ref 90, .int 37, .int 0] (wd_1418 z) (some (.int 0), (wd_1419 z)) := by
  refine ru_of (k := 2) (M := pm_165) rfl rfl ?_
  refine go_seg 1 (pc' := 1) (ls' := [(0, .ref 90), (1, .int 37), (2, .int 0)]) (st' := [.int 37]) (w' := (wd_1418 z)) (cs' := 0) (ss' := 0) ?_ (fun _ _ => rfl)
  refine go_cl (k := 2) (st' := [.int 1]) (cs' := 0) (ss' := 0) rfl rfl rfl rfl rfl rfl rfl (ro_1980 z) ?_
  refine go_seg 8 (pc' := 24) (ls' := [(0, .ref 90), (1, .int 37), (2, .int 0)]) (st' := [.int 0, .int 0]) (w' := (wd_1418 z)) (cs' := 0) (ss' := 0) ?_ (fun _ _ => rfl)
  refine go_seg 8 (pc' := 47) (ls' := [(3, .int 0), (0, .ref 90), (1, .int 37), (2, .int 0)]) (st' := [.int 74, .ref 91]) (w' := (wd_1418 z)) (cs' := 0) (ss' := 0) ?_ (fun _ _ => rfl)
  exact go_end 8 (fun _ _ => rfl)
theorem lf_2_1983 (a0 : Int32) (a3 : Int32) (a4 : Int32) (a5 : Int32) : ∃ w', pq_Go 20 pm_law 278 [(3, .int 0), (2, .ref 90), (1, .ref 1), (0, .ref 0)] [] (fw (sz a0 37 0 a3 a4 a5)) 109 12668 (some (.int 1), w') := by
  refine ⟨(wd_1419 (sz a0 37 0 a3 a4 a5)), ?_⟩
  refine go_seg 8 (pc' := 286) (ls' := [(3, .int 0), (2, .ref 90), (1, .ref 1), (0, .ref 0)]) (st' := [.int 0, .ref 0, .int 37, .ref 1]) (w' := (fw (sz a0 37 0 a3 a4 a5))) (cs' := 109) (ss' := 12668) ?_ (fun _ _ => rfl)
  refine go_seg 5 (pc' := 297) (ls' := [(3, .int 0), (2, .ref 90), (1, .ref 1), (0, .ref 0)]) (st' := [.int 0, .int 37, .ref 1]) (w' := (fw (sz a0 37 0 a3 a4 a5))) (cs' := 109) (ss' := 12668) ?_ (fun _ _ => rfl)
  refine go_cl (k := 20) (st' := [.int 0]) (cs' := 109) (ss' := 12668) rfl rfl rfl rfl rfl rfl rfl (ro_1978 (sz a0 37 0 a3 a4 a5)) ?_
  refine go_seg 8 (pc' := 308) (ls' := [(3, .int 0), (2, .ref 90), (1, .ref 1), (0, .ref 0)]) (st' := [.int 0, .ref 0, .int 37, .ref 90, .int 0]) (w' := (wd_1418 (sz a0 37 0 a3 a4 a5))) (cs' := 109) (ss' := 12668) ?_ (fun _ _ => rfl)
  refine go_seg 5 (pc' := 319) (ls' := [(3, .int 0), (2, .ref 90), (1, .ref 1), (0, .ref 0)]) (st' := [.int 0, .int 37, .ref 90, .int 0]) (w' := (wd_1418 (sz a0 37 0 a3 a4 a5))) (cs' := 109) (ss' := 12668) ?_ (fun _ _ => rfl)
  refine go_cl (k := 20) (st' := [.int 0, .int 0]) (cs' := 109) (ss' := 12668) rfl rfl rfl rfl rfl rfl rfl (ro_1981 (sz a0 37 0 a3 a4 a5)) ?_
  refine go_cmp true rfl (br_self _) ?_
  exact law_tail (f := sc a0 37 0 a3 a4 a5) rfl
def wd_1420 (z : pq_C) : pq_W := ((fw z).set 4 (.inl (.boolean, 64, .inl (upd (fun _ => 0) 38 0))))
theorem ro_1985 (z : pq_C) : pq_Ru 2 22 [.ref 1, .int 38, .int 0] (fw z) (some (.int 0), (wd_1420 z)) := by
  refine ru_of (k := 1) (M := pm_22) rfl rfl ?_
  refine go_seg 1 (pc' := 1) (ls' := [(0, .ref 1), (1, .int 38), (2, .int 0)]) (st' := [.int 38]) (w' := (fw z)) (cs' := 0) (ss' := 0) ?_ (fun _ _ => rfl)
  refine go_cl (k := 1) (st' := [.int 1]) (cs' := 0) (ss' := 0) rfl rfl rfl rfl rfl rfl rfl (ro_1497 z) ?_
  refine go_seg 8 (pc' := 24) (ls' := [(3, .int 0), (0, .ref 1), (1, .int 38), (2, .int 0)]) (st' := [.ref 1]) (w' := (fw z)) (cs' := 0) (ss' := 0) ?_ (fun _ _ => rfl)
  refine go_seg 8 (pc' := 38) (ls' := [(3, .int 0), (0, .ref 1), (1, .int 38), (2, .int 0)]) (st' := []) (w' := (wd_1420 z)) (cs' := 0) (ss' := 0) ?_ (fun _ _ => rfl)
  exact go_end 3 (fun _ _ => rfl)
theorem ro_1986 (z : pq_C) : pq_Ru 1 161 [.long 38, .long 0, .long 63] (wd_1420 z) (some (.int 1), (wd_1420 z)) := by
  refine ru_of (k := 0) (M := pm_161) rfl rfl ?_
  refine go_seg 8 (pc' := 13) (ls' := [(0, .long 38), (2, .long 0), (4, .long 63)]) (st' := []) (w' := (wd_1420 z)) (cs' := 0) (ss' := 0) ?_ (fun _ _ => rfl)
  exact go_end 3 (fun _ _ => rfl)
theorem ro_1987 (z : pq_C) : pq_Ru 2 160 [.int 38] (wd_1420 z) (some (.int 1), (wd_1420 z)) := by
  refine ru_of (k := 1) (M := pm_160) rfl rfl ?_
  refine go_seg 4 (pc' := 6) (ls' := [(0, .int 38)]) (st' := [.long 63, .long 0, .long 38]) (w' := (wd_1420 z)) (cs' := 0) (ss' := 0) ?_ (fun _ _ => rfl)
  refine go_cl (k := 1) (st' := [.int 1]) (cs' := 0) (ss' := 0) rfl rfl rfl rfl rfl rfl rfl (ro_1986 z) ?_
  exact go_end 1 (fun _ _ => rfl)
def wd_1421 (z : pq_C) : pq_W := ((wd_1420 z).set 91 (.inl (.int, 2858, .inl (upd (upd (upd (upd (upd (upd (upd (upd (upd (upd (upd (upd (upd (upd (upd (upd (upd (upd (upd (upd (upd (upd (upd (upd (upd (upd (upd (upd (upd (upd (upd (upd (upd (upd (upd (upd (upd (upd (upd (upd (upd (upd (upd (upd (upd (upd (upd (upd (upd (upd (upd (upd (upd (upd (upd (upd (upd (upd (upd (upd (upd (upd (upd (upd (upd (upd (upd (upd (upd (upd (upd (upd (upd (upd (upd (upd (upd (upd (upd (upd (upd (upd (fun _ => 0) 1 10) 10 (-1)) 11 (-1)) 12 (-1)) 13 (-1)) 14 (-1)) 15 (-1)) 16 (-1)) 17 (-1)) 18 (-1)) 19 (-1)) 20 (-1)) 21 (-1)) 22 (-1)) 23 (-1)) 24 (-1)) 25 (-1)) 26 (-1)) 27 (-1)) 28 (-1)) 29 (-1)) 30 (-1)) 31 (-1)) 32 (-1)) 33 (-1)) 34 (-1)) 35 (-1)) 36 (-1)) 37 (-1)) 38 (-1)) 39 (-1)) 40 (-1)) 41 (-1)) 42 (-1)) 43 (-1)) 44 (-1)) 45 (-1)) 46 (-1)) 47 (-1)) 48 (-1)) 49 (-1)) 50 (-1)) 51 (-1)) 52 (-1)) 53 (-1)) 54 (-1)) 55 (-1)) 56 (-1)) 57 (-1)) 58 (-1)) 59 (-1)) 60 (-1)) 61 (-1)) 62 (-1)) 63 (-1)) 64 (-1)) 65 (-1)) 66 (-1)) 67 (-1)) 68 (-1)) 69 (-1)) 70 (-1)) 71 (-1)) 72 (-1)) 73 (-1)) 139 1000) 140 100) 145 1000) 146 100) 151 1000) 152 100) 157 1000) 158 100) 163 1000) 164 100) 169 1000) 170 100) 175 1000) 176 100) 181 1000) 182 100) 112 0))))
theorem ro_1988 (z : pq_C) : pq_Ru 3 165 [.ref 90, .int 38, .int 0] (wd_1420 z) (some (.int 0), (wd_1421 z)) := by
  refine ru_of (k := 2) (M := pm_165) rfl rfl ?_
  refine go_seg 1 (pc' := 1) (ls' := [(0, .ref 90), (1, .int 38), (2, .int 0)]) (st' := [.int 38]) (w' := (wd_1420 z)) (cs' := 0) (ss' := 0) ?_ (fun _ _ => rfl)
  refine go_cl (k := 2) (st' := [.int 1]) (cs' := 0) (ss' := 0) rfl rfl rfl rfl rfl rfl rfl (ro_1987 z) ?_
  refine go_seg 8 (pc' := 24) (ls' := [(0, .ref 90), (1, .int 38), (2, .int 0)]) (st' := [.int 0, .int 0]) (w' := (wd_1420 z)) (cs' := 0) (ss' := 0) ?_ (fun _ _ => rfl)
  refine go_seg 8 (pc' := 47) (ls' := [(3, .int 0), (0, .ref 90), (1, .int 38), (2, .int 0)]) (st' := [.int 74, .ref 91]) (w' := (wd_1420 z)) (cs' := 0) (ss' := 0) ?_ (fun _ _ => rfl)
  exact go_end 8 (fun _ _ => rfl)
theorem lf_2_1990 (a0 : Int32) (a3 : Int32) (a4 : Int32) (a5 : Int32) : ∃ w', pq_Go 20 pm_law 278 [(3, .int 0), (2, .ref 90), (1, .ref 1), (0, .ref 0)] [] (fw (sz a0 38 0 a3 a4 a5)) 109 12668 (some (.int 1), w') := by
  refine ⟨(wd_1421 (sz a0 38 0 a3 a4 a5)), ?_⟩
  refine go_seg 8 (pc' := 286) (ls' := [(3, .int 0), (2, .ref 90), (1, .ref 1), (0, .ref 0)]) (st' := [.int 0, .ref 0, .int 38, .ref 1]) (w' := (fw (sz a0 38 0 a3 a4 a5))) (cs' := 109) (ss' := 12668) ?_ (fun _ _ => rfl)
  refine go_seg 5 (pc' := 297) (ls' := [(3, .int 0), (2, .ref 90), (1, .ref 1), (0, .ref 0)]) (st' := [.int 0, .int 38, .ref 1]) (w' := (fw (sz a0 38 0 a3 a4 a5))) (cs' := 109) (ss' := 12668) ?_ (fun _ _ => rfl)
  refine go_cl (k := 20) (st' := [.int 0]) (cs' := 109) (ss' := 12668) rfl rfl rfl rfl rfl rfl rfl (ro_1985 (sz a0 38 0 a3 a4 a5)) ?_
  refine go_seg 8 (pc' := 308) (ls' := [(3, .int 0), (2, .ref 90), (1, .ref 1), (0, .ref 0)]) (st' := [.int 0, .ref 0, .int 38, .ref 90, .int 0]) (w' := (wd_1420 (sz a0 38 0 a3 a4 a5))) (cs' := 109) (ss' := 12668) ?_ (fun _ _ => rfl)
  refine go_seg 5 (pc' := 319) (ls' := [(3, .int 0), (2, .ref 90), (1, .ref 1), (0, .ref 0)]) (st' := [.int 0, .int 38, .ref 90, .int 0]) (w' := (wd_1420 (sz a0 38 0 a3 a4 a5))) (cs' := 109) (ss' := 12668) ?_ (fun _ _ => rfl)
  refine go_cl (k := 20) (st' := [.int 0, .int 0]) (cs' := 109) (ss' := 12668) rfl rfl rfl rfl rfl rfl rfl (ro_1988 (sz a0 38 0 a3 a4 a5)) ?_
  refine go_cmp true rfl (br_self _) ?_
  exact law_tail (f := sc a0 38 0 a3 a4 a5) rfl
def wd_1422 (z : pq_C) : pq_W := ((fw z).set 4 (.inl (.boolean, 64, .inl (upd (fun _ => 0) 39 0))))
theorem ro_1992 (z : pq_C) : pq_Ru 2 22 [.ref 1, .int 39, .int 0] (fw z) (some (.int 0), (wd_1422 z)) := by
  refine ru_of (k := 1) (M := pm_22) rfl rfl ?_
  refine go_seg 1 (pc' := 1) (ls' := [(0, .ref 1), (1, .int 39), (2, .int 0)]) (st' := [.int 39]) (w' := (fw z)) (cs' := 0) (ss' := 0) ?_ (fun _ _ => rfl)
  refine go_cl (k := 1) (st' := [.int 1]) (cs' := 0) (ss' := 0) rfl rfl rfl rfl rfl rfl rfl (ro_1505 z) ?_
  refine go_seg 8 (pc' := 24) (ls' := [(3, .int 0), (0, .ref 1), (1, .int 39), (2, .int 0)]) (st' := [.ref 1]) (w' := (fw z)) (cs' := 0) (ss' := 0) ?_ (fun _ _ => rfl)
  refine go_seg 8 (pc' := 38) (ls' := [(3, .int 0), (0, .ref 1), (1, .int 39), (2, .int 0)]) (st' := []) (w' := (wd_1422 z)) (cs' := 0) (ss' := 0) ?_ (fun _ _ => rfl)
  exact go_end 3 (fun _ _ => rfl)
theorem ro_1993 (z : pq_C) : pq_Ru 1 161 [.long 39, .long 0, .long 63] (wd_1422 z) (some (.int 1), (wd_1422 z)) := by
  refine ru_of (k := 0) (M := pm_161) rfl rfl ?_
  refine go_seg 8 (pc' := 13) (ls' := [(0, .long 39), (2, .long 0), (4, .long 63)]) (st' := []) (w' := (wd_1422 z)) (cs' := 0) (ss' := 0) ?_ (fun _ _ => rfl)
  exact go_end 3 (fun _ _ => rfl)
theorem ro_1994 (z : pq_C) : pq_Ru 2 160 [.int 39] (wd_1422 z) (some (.int 1), (wd_1422 z)) := by
  refine ru_of (k := 1) (M := pm_160) rfl rfl ?_
  refine go_seg 4 (pc' := 6) (ls' := [(0, .int 39)]) (st' := [.long 63, .long 0, .long 39]) (w' := (wd_1422 z)) (cs' := 0) (ss' := 0) ?_ (fun _ _ => rfl)
  refine go_cl (k := 1) (st' := [.int 1]) (cs' := 0) (ss' := 0) rfl rfl rfl rfl rfl rfl rfl (ro_1993 z) ?_
  exact go_end 1 (fun _ _ => rfl)
def wd_1423 (z : pq_C) : pq_W := ((wd_1422 z).set 91 (.inl (.int, 2858, .inl (upd (upd (upd (upd (upd (upd (upd (upd (upd (upd (upd (upd (upd (upd (upd (upd (upd (upd (upd (upd (upd (upd (upd (upd (upd (upd (upd (upd (upd (upd (upd (upd (upd (upd (upd (upd (upd (upd (upd (upd (upd (upd (upd (upd (upd (upd (upd (upd (upd (upd (upd (upd (upd (upd (upd (upd (upd (upd (upd (upd (upd (upd (upd (upd (upd (upd (upd (upd (upd (upd (upd (upd (upd (upd (upd (upd (upd (upd (upd (upd (upd (upd (fun _ => 0) 1 10) 10 (-1)) 11 (-1)) 12 (-1)) 13 (-1)) 14 (-1)) 15 (-1)) 16 (-1)) 17 (-1)) 18 (-1)) 19 (-1)) 20 (-1)) 21 (-1)) 22 (-1)) 23 (-1)) 24 (-1)) 25 (-1)) 26 (-1)) 27 (-1)) 28 (-1)) 29 (-1)) 30 (-1)) 31 (-1)) 32 (-1)) 33 (-1)) 34 (-1)) 35 (-1)) 36 (-1)) 37 (-1)) 38 (-1)) 39 (-1)) 40 (-1)) 41 (-1)) 42 (-1)) 43 (-1)) 44 (-1)) 45 (-1)) 46 (-1)) 47 (-1)) 48 (-1)) 49 (-1)) 50 (-1)) 51 (-1)) 52 (-1)) 53 (-1)) 54 (-1)) 55 (-1)) 56 (-1)) 57 (-1)) 58 (-1)) 59 (-1)) 60 (-1)) 61 (-1)) 62 (-1)) 63 (-1)) 64 (-1)) 65 (-1)) 66 (-1)) 67 (-1)) 68 (-1)) 69 (-1)) 70 (-1)) 71 (-1)) 72 (-1)) 73 (-1)) 139 1000) 140 100) 145 1000) 146 100) 151 1000) 152 100) 157 1000) 158 100) 163 1000) 164 100) 169 1000) 170 100) 175 1000) 176 100) 181 1000) 182 100) 113 0))))
theorem ro_1995 (z : pq_C) : pq_Ru 3 165 [.ref 90, .int 39, .int 0] (wd_1422 z) (some (.int 0), (wd_1423 z)) := by
  refine ru_of (k := 2) (M := pm_165) rfl rfl ?_
  refine go_seg 1 (pc' := 1) (ls' := [(0, .ref 90), (1, .int 39), (2, .int 0)]) (st' := [.int 39]) (w' := (wd_1422 z)) (cs' := 0) (ss' := 0) ?_ (fun _ _ => rfl)
  refine go_cl (k := 2) (st' := [.int 1]) (cs' := 0) (ss' := 0) rfl rfl rfl rfl rfl rfl rfl (ro_1994 z) ?_
  refine go_seg 8 (pc' := 24) (ls' := [(0, .ref 90), (1, .int 39), (2, .int 0)]) (st' := [.int 0, .int 0]) (w' := (wd_1422 z)) (cs' := 0) (ss' := 0) ?_ (fun _ _ => rfl)
  refine go_seg 8 (pc' := 47) (ls' := [(3, .int 0), (0, .ref 90), (1, .int 39), (2, .int 0)]) (st' := [.int 74, .ref 91]) (w' := (wd_1422 z)) (cs' := 0) (ss' := 0) ?_ (fun _ _ => rfl)
  exact go_end 8 (fun _ _ => rfl)
theorem lf_2_1997 (a0 : Int32) (a3 : Int32) (a4 : Int32) (a5 : Int32) : ∃ w', pq_Go 20 pm_law 278 [(3, .int 0), (2, .ref 90), (1, .ref 1), (0, .ref 0)] [] (fw (sz a0 39 0 a3 a4 a5)) 109 12668 (some (.int 1), w') := by
  refine ⟨(wd_1423 (sz a0 39 0 a3 a4 a5)), ?_⟩
  refine go_seg 8 (pc' := 286) (ls' := [(3, .int 0), (2, .ref 90), (1, .ref 1), (0, .ref 0)]) (st' := [.int 0, .ref 0, .int 39, .ref 1]) (w' := (fw (sz a0 39 0 a3 a4 a5))) (cs' := 109) (ss' := 12668) ?_ (fun _ _ => rfl)
  refine go_seg 5 (pc' := 297) (ls' := [(3, .int 0), (2, .ref 90), (1, .ref 1), (0, .ref 0)]) (st' := [.int 0, .int 39, .ref 1]) (w' := (fw (sz a0 39 0 a3 a4 a5))) (cs' := 109) (ss' := 12668) ?_ (fun _ _ => rfl)
  refine go_cl (k := 20) (st' := [.int 0]) (cs' := 109) (ss' := 12668) rfl rfl rfl rfl rfl rfl rfl (ro_1992 (sz a0 39 0 a3 a4 a5)) ?_
  refine go_seg 8 (pc' := 308) (ls' := [(3, .int 0), (2, .ref 90), (1, .ref 1), (0, .ref 0)]) (st' := [.int 0, .ref 0, .int 39, .ref 90, .int 0]) (w' := (wd_1422 (sz a0 39 0 a3 a4 a5))) (cs' := 109) (ss' := 12668) ?_ (fun _ _ => rfl)
  refine go_seg 5 (pc' := 319) (ls' := [(3, .int 0), (2, .ref 90), (1, .ref 1), (0, .ref 0)]) (st' := [.int 0, .int 39, .ref 90, .int 0]) (w' := (wd_1422 (sz a0 39 0 a3 a4 a5))) (cs' := 109) (ss' := 12668) ?_ (fun _ _ => rfl)
  refine go_cl (k := 20) (st' := [.int 0, .int 0]) (cs' := 109) (ss' := 12668) rfl rfl rfl rfl rfl rfl rfl (ro_1995 (sz a0 39 0 a3 a4 a5)) ?_
  refine go_cmp true rfl (br_self _) ?_
  exact law_tail (f := sc a0 39 0 a3 a4 a5) rfl
def wd_1424 (z : pq_C) : pq_W := ((fw z).set 4 (.inl (.boolean, 64, .inl (upd (fun _ => 0) 40 0))))
theorem ro_1999 (z : pq_C) : pq_Ru 2 22 [.ref 1, .int 40, .int 0] (fw z) (some (.int 0), (wd_1424 z)) := by
  refine ru_of (k := 1) (M := pm_22) rfl rfl ?_
  refine go_seg 1 (pc' := 1) (ls' := [(0, .ref 1), (1, .int 40), (2, .int 0)]) (st' := [.int 40]) (w' := (fw z)) (cs' := 0) (ss' := 0) ?_ (fun _ _ => rfl)
  refine go_cl (k := 1) (st' := [.int 1]) (cs' := 0) (ss' := 0) rfl rfl rfl rfl rfl rfl rfl (ro_1513 z) ?_
  refine go_seg 8 (pc' := 24) (ls' := [(3, .int 0), (0, .ref 1), (1, .int 40), (2, .int 0)]) (st' := [.ref 1]) (w' := (fw z)) (cs' := 0) (ss' := 0) ?_ (fun _ _ => rfl)
  refine go_seg 8 (pc' := 38) (ls' := [(3, .int 0), (0, .ref 1), (1, .int 40), (2, .int 0)]) (st' := []) (w' := (wd_1424 z)) (cs' := 0) (ss' := 0) ?_ (fun _ _ => rfl)
  exact go_end 3 (fun _ _ => rfl)
theorem ro_2000 (z : pq_C) : pq_Ru 1 161 [.long 40, .long 0, .long 63] (wd_1424 z) (some (.int 1), (wd_1424 z)) := by
  refine ru_of (k := 0) (M := pm_161) rfl rfl ?_
  refine go_seg 8 (pc' := 13) (ls' := [(0, .long 40), (2, .long 0), (4, .long 63)]) (st' := []) (w' := (wd_1424 z)) (cs' := 0) (ss' := 0) ?_ (fun _ _ => rfl)
  exact go_end 3 (fun _ _ => rfl)
theorem ro_2001 (z : pq_C) : pq_Ru 2 160 [.int 40] (wd_1424 z) (some (.int 1), (wd_1424 z)) := by
  refine ru_of (k := 1) (M := pm_160) rfl rfl ?_
  refine go_seg 4 (pc' := 6) (ls' := [(0, .int 40)]) (st' := [.long 63, .long 0, .long 40]) (w' := (wd_1424 z)) (cs' := 0) (ss' := 0) ?_ (fun _ _ => rfl)
  refine go_cl (k := 1) (st' := [.int 1]) (cs' := 0) (ss' := 0) rfl rfl rfl rfl rfl rfl rfl (ro_2000 z) ?_
  exact go_end 1 (fun _ _ => rfl)
def wd_1425 (z : pq_C) : pq_W := ((wd_1424 z).set 91 (.inl (.int, 2858, .inl (upd (upd (upd (upd (upd (upd (upd (upd (upd (upd (upd (upd (upd (upd (upd (upd (upd (upd (upd (upd (upd (upd (upd (upd (upd (upd (upd (upd (upd (upd (upd (upd (upd (upd (upd (upd (upd (upd (upd (upd (upd (upd (upd (upd (upd (upd (upd (upd (upd (upd (upd (upd (upd (upd (upd (upd (upd (upd (upd (upd (upd (upd (upd (upd (upd (upd (upd (upd (upd (upd (upd (upd (upd (upd (upd (upd (upd (upd (upd (upd (upd (upd (fun _ => 0) 1 10) 10 (-1)) 11 (-1)) 12 (-1)) 13 (-1)) 14 (-1)) 15 (-1)) 16 (-1)) 17 (-1)) 18 (-1)) 19 (-1)) 20 (-1)) 21 (-1)) 22 (-1)) 23 (-1)) 24 (-1)) 25 (-1)) 26 (-1)) 27 (-1)) 28 (-1)) 29 (-1)) 30 (-1)) 31 (-1)) 32 (-1)) 33 (-1)) 34 (-1)) 35 (-1)) 36 (-1)) 37 (-1)) 38 (-1)) 39 (-1)) 40 (-1)) 41 (-1)) 42 (-1)) 43 (-1)) 44 (-1)) 45 (-1)) 46 (-1)) 47 (-1)) 48 (-1)) 49 (-1)) 50 (-1)) 51 (-1)) 52 (-1)) 53 (-1)) 54 (-1)) 55 (-1)) 56 (-1)) 57 (-1)) 58 (-1)) 59 (-1)) 60 (-1)) 61 (-1)) 62 (-1)) 63 (-1)) 64 (-1)) 65 (-1)) 66 (-1)) 67 (-1)) 68 (-1)) 69 (-1)) 70 (-1)) 71 (-1)) 72 (-1)) 73 (-1)) 139 1000) 140 100) 145 1000) 146 100) 151 1000) 152 100) 157 1000) 158 100) 163 1000) 164 100) 169 1000) 170 100) 175 1000) 176 100) 181 1000) 182 100) 114 0))))
theorem ro_2002 (z : pq_C) : pq_Ru 3 165 [.ref 90, .int 40, .int 0] (wd_1424 z) (some (.int 0), (wd_1425 z)) := by
  refine ru_of (k := 2) (M := pm_165) rfl rfl ?_
  refine go_seg 1 (pc' := 1) (ls' := [(0, .ref 90), (1, .int 40), (2, .int 0)]) (st' := [.int 40]) (w' := (wd_1424 z)) (cs' := 0) (ss' := 0) ?_ (fun _ _ => rfl)
  refine go_cl (k := 2) (st' := [.int 1]) (cs' := 0) (ss' := 0) rfl rfl rfl rfl rfl rfl rfl (ro_2001 z) ?_
  refine go_seg 8 (pc' := 24) (ls' := [(0, .ref 90), (1, .int 40), (2, .int 0)]) (st' := [.int 0, .int 0]) (w' := (wd_1424 z)) (cs' := 0) (ss' := 0) ?_ (fun _ _ => rfl)
  refine go_seg 8 (pc' := 47) (ls' := [(3, .int 0), (0, .ref 90), (1, .int 40), (2, .int 0)]) (st' := [.int 74, .ref 91]) (w' := (wd_1424 z)) (cs' := 0) (ss' := 0) ?_ (fun _ _ => rfl)
  exact go_end 8 (fun _ _ => rfl)
theorem lf_2_2004 (a0 : Int32) (a3 : Int32) (a4 : Int32) (a5 : Int32) : ∃ w', pq_Go 20 pm_law 278 [(3, .int 0), (2, .ref 90), (1, .ref 1), (0, .ref 0)] [] (fw (sz a0 40 0 a3 a4 a5)) 109 12668 (some (.int 1), w') := by
  refine ⟨(wd_1425 (sz a0 40 0 a3 a4 a5)), ?_⟩
  refine go_seg 8 (pc' := 286) (ls' := [(3, .int 0), (2, .ref 90), (1, .ref 1), (0, .ref 0)]) (st' := [.int 0, .ref 0, .int 40, .ref 1]) (w' := (fw (sz a0 40 0 a3 a4 a5))) (cs' := 109) (ss' := 12668) ?_ (fun _ _ => rfl)
  refine go_seg 5 (pc' := 297) (ls' := [(3, .int 0), (2, .ref 90), (1, .ref 1), (0, .ref 0)]) (st' := [.int 0, .int 40, .ref 1]) (w' := (fw (sz a0 40 0 a3 a4 a5))) (cs' := 109) (ss' := 12668) ?_ (fun _ _ => rfl)
  refine go_cl (k := 20) (st' := [.int 0]) (cs' := 109) (ss' := 12668) rfl rfl rfl rfl rfl rfl rfl (ro_1999 (sz a0 40 0 a3 a4 a5)) ?_
  refine go_seg 8 (pc' := 308) (ls' := [(3, .int 0), (2, .ref 90), (1, .ref 1), (0, .ref 0)]) (st' := [.int 0, .ref 0, .int 40, .ref 90, .int 0]) (w' := (wd_1424 (sz a0 40 0 a3 a4 a5))) (cs' := 109) (ss' := 12668) ?_ (fun _ _ => rfl)
  refine go_seg 5 (pc' := 319) (ls' := [(3, .int 0), (2, .ref 90), (1, .ref 1), (0, .ref 0)]) (st' := [.int 0, .int 40, .ref 90, .int 0]) (w' := (wd_1424 (sz a0 40 0 a3 a4 a5))) (cs' := 109) (ss' := 12668) ?_ (fun _ _ => rfl)
  refine go_cl (k := 20) (st' := [.int 0, .int 0]) (cs' := 109) (ss' := 12668) rfl rfl rfl rfl rfl rfl rfl (ro_2002 (sz a0 40 0 a3 a4 a5)) ?_
  refine go_cmp true rfl (br_self _) ?_
  exact law_tail (f := sc a0 40 0 a3 a4 a5) rfl
def wd_1426 (z : pq_C) : pq_W := ((fw z).set 4 (.inl (.boolean, 64, .inl (upd (fun _ => 0) 41 0))))
theorem ro_2006 (z : pq_C) : pq_Ru 2 22 [.ref 1, .int 41, .int 0] (fw z) (some (.int 0), (wd_1426 z)) := by
  refine ru_of (k := 1) (M := pm_22) rfl rfl ?_
  refine go_seg 1 (pc' := 1) (ls' := [(0, .ref 1), (1, .int 41), (2, .int 0)]) (st' := [.int 41]) (w' := (fw z)) (cs' := 0) (ss' := 0) ?_ (fun _ _ => rfl)
  refine go_cl (k := 1) (st' := [.int 1]) (cs' := 0) (ss' := 0) rfl rfl rfl rfl rfl rfl rfl (ro_1521 z) ?_
  refine go_seg 8 (pc' := 24) (ls' := [(3, .int 0), (0, .ref 1), (1, .int 41), (2, .int 0)]) (st' := [.ref 1]) (w' := (fw z)) (cs' := 0) (ss' := 0) ?_ (fun _ _ => rfl)
  refine go_seg 8 (pc' := 38) (ls' := [(3, .int 0), (0, .ref 1), (1, .int 41), (2, .int 0)]) (st' := []) (w' := (wd_1426 z)) (cs' := 0) (ss' := 0) ?_ (fun _ _ => rfl)
  exact go_end 3 (fun _ _ => rfl)
theorem ro_2007 (z : pq_C) : pq_Ru 1 161 [.long 41, .long 0, .long 63] (wd_1426 z) (some (.int 1), (wd_1426 z)) := by
  refine ru_of (k := 0) (M := pm_161) rfl rfl ?_
  refine go_seg 8 (pc' := 13) (ls' := [(0, .long 41), (2, .long 0), (4, .long 63)]) (st' := []) (w' := (wd_1426 z)) (cs' := 0) (ss' := 0) ?_ (fun _ _ => rfl)
  exact go_end 3 (fun _ _ => rfl)
theorem ro_2008 (z : pq_C) : pq_Ru 2 160 [.int 41] (wd_1426 z) (some (.int 1), (wd_1426 z)) := by
  refine ru_of (k := 1) (M := pm_160) rfl rfl ?_
  refine go_seg 4 (pc' := 6) (ls' := [(0, .int 41)]) (st' := [.long 63, .long 0, .long 41]) (w' := (wd_1426 z)) (cs' := 0) (ss' := 0) ?_ (fun _ _ => rfl)
  refine go_cl (k := 1) (st' := [.int 1]) (cs' := 0) (ss' := 0) rfl rfl rfl rfl rfl rfl rfl (ro_2007 z) ?_
  exact go_end 1 (fun _ _ => rfl)
def wd_1427 (z : pq_C) : pq_W := ((wd_1426 z).set 91 (.inl (.int, 2858, .inl (upd (upd (upd (upd (upd (upd (upd (upd (upd (upd (upd (upd (upd (upd (upd (upd (upd (upd (upd (upd (upd (upd (upd (upd (upd (upd (upd (upd (upd (upd (upd (upd (upd (upd (upd (upd (upd (upd (upd (upd (upd (upd (upd (upd (upd (upd (upd (upd (upd (upd (upd (upd (upd (upd (upd (upd (upd (upd (upd (upd (upd (upd (upd (upd (upd (upd (upd (upd (upd (upd (upd (upd (upd (upd (upd (upd (upd (upd (upd (upd (upd (upd (fun _ => 0) 1 10) 10 (-1)) 11 (-1)) 12 (-1)) 13 (-1)) 14 (-1)) 15 (-1)) 16 (-1)) 17 (-1)) 18 (-1)) 19 (-1)) 20 (-1)) 21 (-1)) 22 (-1)) 23 (-1)) 24 (-1)) 25 (-1)) 26 (-1)) 27 (-1)) 28 (-1)) 29 (-1)) 30 (-1)) 31 (-1)) 32 (-1)) 33 (-1)) 34 (-1)) 35 (-1)) 36 (-1)) 37 (-1)) 38 (-1)) 39 (-1)) 40 (-1)) 41 (-1)) 42 (-1)) 43 (-1)) 44 (-1)) 45 (-1)) 46 (-1)) 47 (-1)) 48 (-1)) 49 (-1)) 50 (-1)) 51 (-1)) 52 (-1)) 53 (-1)) 54 (-1)) 55 (-1)) 56 (-1)) 57 (-1)) 58 (-1)) 59 (-1)) 60 (-1)) 61 (-1)) 62 (-1)) 63 (-1)) 64 (-1)) 65 (-1)) 66 (-1)) 67 (-1)) 68 (-1)) 69 (-1)) 70 (-1)) 71 (-1)) 72 (-1)) 73 (-1)) 139 1000) 140 100) 145 1000) 146 100) 151 1000) 152 100) 157 1000) 158 100) 163 1000) 164 100) 169 1000) 170 100) 175 1000) 176 100) 181 1000) 182 100) 115 0))))
theorem ro_2009 (z : pq_C) : pq_Ru 3 165 [.ref 90, .int 41, .int 0] (wd_1426 z) (some (.int 0), (wd_1427 z)) := by
  refine ru_of (k := 2) (M := pm_165) rfl rfl ?_
  refine go_seg 1 (pc' := 1) (ls' := [(0, .ref 90), (1, .int 41), (2, .int 0)]) (st' := [.int 41]) (w' := (wd_1426 z)) (cs' := 0) (ss' := 0) ?_ (fun _ _ => rfl)
  refine go_cl (k := 2) (st' := [.int 1]) (cs' := 0) (ss' := 0) rfl rfl rfl rfl rfl rfl rfl (ro_2008 z) ?_
  refine go_seg 8 (pc' := 24) (ls' := [(0, .ref 90), (1, .int 41), (2, .int 0)]) (st' := [.int 0, .int 0]) (w' := (wd_1426 z)) (cs' := 0) (ss' := 0) ?_ (fun _ _ => rfl)
  refine go_seg 8 (pc' := 47) (ls' := [(3, .int 0), (0, .ref 90), (1, .int 41), (2, .int 0)]) (st' := [.int 74, .ref 91]) (w' := (wd_1426 z)) (cs' := 0) (ss' := 0) ?_ (fun _ _ => rfl)
  exact go_end 8 (fun _ _ => rfl)
theorem lf_2_2011 (a0 : Int32) (a3 : Int32) (a4 : Int32) (a5 : Int32) : ∃ w', pq_Go 20 pm_law 278 [(3, .int 0), (2, .ref 90), (1, .ref 1), (0, .ref 0)] [] (fw (sz a0 41 0 a3 a4 a5)) 109 12668 (some (.int 1), w') := by
  refine ⟨(wd_1427 (sz a0 41 0 a3 a4 a5)), ?_⟩
  refine go_seg 8 (pc' := 286) (ls' := [(3, .int 0), (2, .ref 90), (1, .ref 1), (0, .ref 0)]) (st' := [.int 0, .ref 0, .int 41, .ref 1]) (w' := (fw (sz a0 41 0 a3 a4 a5))) (cs' := 109) (ss' := 12668) ?_ (fun _ _ => rfl)
  refine go_seg 5 (pc' := 297) (ls' := [(3, .int 0), (2, .ref 90), (1, .ref 1), (0, .ref 0)]) (st' := [.int 0, .int 41, .ref 1]) (w' := (fw (sz a0 41 0 a3 a4 a5))) (cs' := 109) (ss' := 12668) ?_ (fun _ _ => rfl)
  refine go_cl (k := 20) (st' := [.int 0]) (cs' := 109) (ss' := 12668) rfl rfl rfl rfl rfl rfl rfl (ro_2006 (sz a0 41 0 a3 a4 a5)) ?_
  refine go_seg 8 (pc' := 308) (ls' := [(3, .int 0), (2, .ref 90), (1, .ref 1), (0, .ref 0)]) (st' := [.int 0, .ref 0, .int 41, .ref 90, .int 0]) (w' := (wd_1426 (sz a0 41 0 a3 a4 a5))) (cs' := 109) (ss' := 12668) ?_ (fun _ _ => rfl)
  refine go_seg 5 (pc' := 319) (ls' := [(3, .int 0), (2, .ref 90), (1, .ref 1), (0, .ref 0)]) (st' := [.int 0, .int 41, .ref 90, .int 0]) (w' := (wd_1426 (sz a0 41 0 a3 a4 a5))) (cs' := 109) (ss' := 12668) ?_ (fun _ _ => rfl)
  refine go_cl (k := 20) (st' := [.int 0, .int 0]) (cs' := 109) (ss' := 12668) rfl rfl rfl rfl rfl rfl rfl (ro_2009 (sz a0 41 0 a3 a4 a5)) ?_
  refine go_cmp true rfl (br_self _) ?_
  exact law_tail (f := sc a0 41 0 a3 a4 a5) rfl
def wd_1428 (z : pq_C) : pq_W := ((fw z).set 4 (.inl (.boolean, 64, .inl (upd (fun _ => 0) 42 0))))
theorem ro_2013 (z : pq_C) : pq_Ru 2 22 [.ref 1, .int 42, .int 0] (fw z) (some (.int 0), (wd_1428 z)) := by
  refine ru_of (k := 1) (M := pm_22) rfl rfl ?_
  refine go_seg 1 (pc' := 1) (ls' := [(0, .ref 1), (1, .int 42), (2, .int 0)]) (st' := [.int 42]) (w' := (fw z)) (cs' := 0) (ss' := 0) ?_ (fun _ _ => rfl)
  refine go_cl (k := 1) (st' := [.int 1]) (cs' := 0) (ss' := 0) rfl rfl rfl rfl rfl rfl rfl (ro_1529 z) ?_
  refine go_seg 8 (pc' := 24) (ls' := [(3, .int 0), (0, .ref 1), (1, .int 42), (2, .int 0)]) (st' := [.ref 1]) (w' := (fw z)) (cs' := 0) (ss' := 0) ?_ (fun _ _ => rfl)
  refine go_seg 8 (pc' := 38) (ls' := [(3, .int 0), (0, .ref 1), (1, .int 42), (2, .int 0)]) (st' := []) (w' := (wd_1428 z)) (cs' := 0) (ss' := 0) ?_ (fun _ _ => rfl)
  exact go_end 3 (fun _ _ => rfl)
theorem ro_2014 (z : pq_C) : pq_Ru 1 161 [.long 42, .long 0, .long 63] (wd_1428 z) (some (.int 1), (wd_1428 z)) := by
  refine ru_of (k := 0) (M := pm_161) rfl rfl ?_
  refine go_seg 8 (pc' := 13) (ls' := [(0, .long 42), (2, .long 0), (4, .long 63)]) (st' := []) (w' := (wd_1428 z)) (cs' := 0) (ss' := 0) ?_ (fun _ _ => rfl)
  exact go_end 3 (fun _ _ => rfl)
theorem ro_2015 (z : pq_C) : pq_Ru 2 160 [.int 42] (wd_1428 z) (some (.int 1), (wd_1428 z)) := by
  refine ru_of (k := 1) (M := pm_160) rfl rfl ?_
  refine go_seg 4 (pc' := 6) (ls' := [(0, .int 42)]) (st' := [.long 63, .long 0, .long 42]) (w' := (wd_1428 z)) (cs' := 0) (ss' := 0) ?_ (fun _ _ => rfl)
  refine go_cl (k := 1) (st' := [.int 1]) (cs' := 0) (ss' := 0) rfl rfl rfl rfl rfl rfl rfl (ro_2014 z) ?_
  exact go_end 1 (fun _ _ => rfl)
def wd_1429 (z : pq_C) : pq_W := ((wd_1428 z).set 91 (.inl (.int, 2858, .inl (upd (upd (upd (upd (upd (upd (upd (upd (upd (upd (upd (upd (upd (upd (upd (upd (upd (upd (upd (upd (upd (upd (upd (upd (upd (upd (upd (upd (upd (upd (upd (upd (upd (upd (upd (upd (upd (upd (upd (upd (upd (upd (upd (upd (upd (upd (upd (upd (upd (upd (upd (upd (upd (upd (upd (upd (upd (upd (upd (upd (upd (upd (upd (upd (upd (upd (upd (upd (upd (upd (upd (upd (upd (upd (upd (upd (upd (upd (upd (upd (upd (upd (fun _ => 0) 1 10) 10 (-1)) 11 (-1)) 12 (-1)) 13 (-1)) 14 (-1)) 15 (-1)) 16 (-1)) 17 (-1)) 18 (-1)) 19 (-1)) 20 (-1)) 21 (-1)) 22 (-1)) 23 (-1)) 24 (-1)) 25 (-1)) 26 (-1)) 27 (-1)) 28 (-1)) 29 (-1)) 30 (-1)) 31 (-1)) 32 (-1)) 33 (-1)) 34 (-1)) 35 (-1)) 36 (-1)) 37 (-1)) 38 (-1)) 39 (-1)) 40 (-1)) 41 (-1)) 42 (-1)) 43 (-1)) 44 (-1)) 45 (-1)) 46 (-1)) 47 (-1)) 48 (-1)) 49 (-1)) 50 (-1)) 51 (-1)) 52 (-1)) 53 (-1)) 54 (-1)) 55 (-1)) 56 (-1)) 57 (-1)) 58 (-1)) 59 (-1)) 60 (-1)) 61 (-1)) 62 (-1)) 63 (-1)) 64 (-1)) 65 (-1)) 66 (-1)) 67 (-1)) 68 (-1)) 69 (-1)) 70 (-1)) 71 (-1)) 72 (-1)) 73 (-1)) 139 1000) 140 100) 145 1000) 146 100) 151 1000) 152 100) 157 1000) 158 100) 163 1000) 164 100) 169 1000) 170 100) 175 1000) 176 100) 181 1000) 182 100) 116 0))))
theorem ro_2016 (z : pq_C) : pq_Ru 3 165 [.ref 90, .int 42, .int 0] (wd_1428 z) (some (.int 0), (wd_1429 z)) := by
  refine ru_of (k := 2) (M := pm_165) rfl rfl ?_
  refine go_seg 1 (pc' := 1) (ls' := [(0, .ref 90), (1, .int 42), (2, .int 0)]) (st' := [.int 42]) (w' := (wd_1428 z)) (cs' := 0) (ss' := 0) ?_ (fun _ _ => rfl)
  refine go_cl (k := 2) (st' := [.int 1]) (cs' := 0) (ss' := 0) rfl rfl rfl rfl rfl rfl rfl (ro_2015 z) ?_
  refine go_seg 8 (pc' := 24) (ls' := [(0, .ref 90), (1, .int 42), (2, .int 0)]) (st' := [.int 0, .int 0]) (w' := (wd_1428 z)) (cs' := 0) (ss' := 0) ?_ (fun _ _ => rfl)
  refine go_seg 8 (pc' := 47) (ls' := [(3, .int 0), (0, .ref 90), (1, .int 42), (2, .int 0)]) (st' := [.int 74, .ref 91]) (w' := (wd_1428 z)) (cs' := 0) (ss' := 0) ?_ (fun _ _ => rfl)
  exact go_end 8 (fun _ _ => rfl)
theorem lf_2_2018 (a0 : Int32) (a3 : Int32) (a4 : Int32) (a5 : Int32) : ∃ w', pq_Go 20 pm_law 278 [(3, .int 0), (2, .ref 90), (1, .ref 1), (0, .ref 0)] [] (fw (sz a0 42 0 a3 a4 a5)) 109 12668 (some (.int 1), w') := by
  refine ⟨(wd_1429 (sz a0 42 0 a3 a4 a5)), ?_⟩
  refine go_seg 8 (pc' := 286) (ls' := [(3, .int 0), (2, .ref 90), (1, .ref 1), (0, .ref 0)]) (st' := [.int 0, .ref 0, .int 42, .ref 1]) (w' := (fw (sz a0 42 0 a3 a4 a5))) (cs' := 109) (ss' := 12668) ?_ (fun _ _ => rfl)
  refine go_seg 5 (pc' := 297) (ls' := [(3, .int 0), (2, .ref 90), (1, .ref 1), (0, .ref 0)]) (st' := [.int 0, .int 42, .ref 1]) (w' := (fw (sz a0 42 0 a3 a4 a5))) (cs' := 109) (ss' := 12668) ?_ (fun _ _ => rfl)
  refine go_cl (k := 20) (st' := [.int 0]) (cs' := 109) (ss' := 12668) rfl rfl rfl rfl rfl rfl rfl (ro_2013 (sz a0 42 0 a3 a4 a5)) ?_
  refine go_seg 8 (pc' := 308) (ls' := [(3, .int 0), (2, .ref 90), (1, .ref 1), (0, .ref 0)]) (st' := [.int 0, .ref 0, .int 42, .ref 90, .int 0]) (w' := (wd_1428 (sz a0 42 0 a3 a4 a5))) (cs' := 109) (ss' := 12668) ?_ (fun _ _ => rfl)
  refine go_seg 5 (pc' := 319) (ls' := [(3, .int 0), (2, .ref 90), (1, .ref 1), (0, .ref 0)]) (st' := [.int 0, .int 42, .ref 90, .int 0]) (w' := (wd_1428 (sz a0 42 0 a3 a4 a5))) (cs' := 109) (ss' := 12668) ?_ (fun _ _ => rfl)
  refine go_cl (k := 20) (st' := [.int 0, .int 0]) (cs' := 109) (ss' := 12668) rfl rfl rfl rfl rfl rfl rfl (ro_2016 (sz a0 42 0 a3 a4 a5)) ?_
  refine go_cmp true rfl (br_self _) ?_
  exact law_tail (f := sc a0 42 0 a3 a4 a5) rfl
def wd_1430 (z : pq_C) : pq_W := ((fw z).set 4 (.inl (.boolean, 64, .inl (upd (fun _ => 0) 43 0))))
theorem ro_2020 (z : pq_C) : pq_Ru 2 22 [.ref 1, .int 43, .int 0] (fw z) (some (.int 0), (wd_1430 z)) := by
  refine ru_of (k := 1) (M := pm_22) rfl rfl ?_
  refine go_seg 1 (pc' := 1) (ls' := [(0, .ref 1), (1, .int 43), (2, .int 0)]) (st' := [.int 43]) (w' := (fw z)) (cs' := 0) (ss' := 0) ?_ (fun _ _ => rfl)
  refine go_cl (k := 1) (st' := [.int 1]) (cs' := 0) (ss' := 0) rfl rfl rfl rfl rfl rfl rfl (ro_1537 z) ?_
  refine go_seg 8 (pc' := 24) (ls' := [(3, .int 0), (0, .ref 1), (1, .int 43), (2, .int 0)]) (st' := [.ref 1]) (w' := (fw z)) (cs' := 0) (ss' := 0) ?_ (fun _ _ => rfl)
  refine go_seg 8 (pc' := 38) (ls' := [(3, .int 0), (0, .ref 1), (1, .int 43), (2, .int 0)]) (st' := []) (w' := (wd_1430 z)) (cs' := 0) (ss' := 0) ?_ (fun _ _ => rfl)
  exact go_end 3 (fun _ _ => rfl)
theorem ro_2021 (z : pq_C) : pq_Ru 1 161 [.long 43, .long 0, .long 63] (wd_1430 z) (some (.int 1), (wd_1430 z)) := by
  refine ru_of (k := 0) (M := pm_161) rfl rfl ?_
  refine go_seg 8 (pc' := 13) (ls' := [(0, .long 43), (2, .long 0), (4, .long 63)]) (st' := []) (w' := (wd_1430 z)) (cs' := 0) (ss' := 0) ?_ (fun _ _ => rfl)
  exact go_end 3 (fun _ _ => rfl)
theorem ro_2022 (z : pq_C) : pq_Ru 2 160 [.int 43] (wd_1430 z) (some (.int 1), (wd_1430 z)) := by
  refine ru_of (k := 1) (M := pm_160) rfl rfl ?_
  refine go_seg 4 (pc' := 6) (ls' := [(0, .int 43)]) (st' := [.long 63, .long 0, .long 43]) (w' := (wd_1430 z)) (cs' := 0) (ss' := 0) ?_ (fun _ _ => rfl)
  refine go_cl (k := 1) (st' := [.int 1]) (cs' := 0) (ss' := 0) rfl rfl rfl rfl rfl rfl rfl (ro_2021 z) ?_
  exact go_end 1 (fun _ _ => rfl)
def wd_1431 (z : pq_C) : pq_W := ((wd_1430 z).set 91 (.inl (.int, 2858, .inl (upd (upd (upd (upd (upd (upd (upd (upd (upd (upd (upd (upd (upd (upd (upd (upd (upd (upd (upd (upd (upd (upd (upd (upd (upd (upd (upd (upd (upd (upd (upd (upd (upd (upd (upd (upd (upd (upd (upd (upd (upd (upd (upd (upd (upd (upd (upd (upd (upd (upd (upd (upd (upd (upd (upd (upd (upd (upd (upd (upd (upd (upd (upd (upd (upd (upd (upd (upd (upd (upd (upd (upd (upd (upd (upd (upd (upd (upd (upd (upd (upd (upd (fun _ => 0) 1 10) 10 (-1)) 11 (-1)) 12 (-1)) 13 (-1)) 14 (-1)) 15 (-1)) 16 (-1)) 17 (-1)) 18 (-1)) 19 (-1)) 20 (-1)) 21 (-1)) 22 (-1)) 23 (-1)) 24 (-1)) 25 (-1)) 26 (-1)) 27 (-1)) 28 (-1)) 29 (-1)) 30 (-1)) 31 (-1)) 32 (-1)) 33 (-1)) 34 (-1)) 35 (-1)) 36 (-1)) 37 (-1)) 38 (-1)) 39 (-1)) 40 (-1)) 41 (-1)) 42 (-1)) 43 (-1)) 44 (-1)) 45 (-1)) 46 (-1)) 47 (-1)) 48 (-1)) 49 (-1)) 50 (-1)) 51 (-1)) 52 (-1)) 53 (-1)) 54 (-1)) 55 (-1)) 56 (-1)) 57 (-1)) 58 (-1)) 59 (-1)) 60 (-1)) 61 (-1)) 62 (-1)) 63 (-1)) 64 (-1)) 65 (-1)) 66 (-1)) 67 (-1)) 68 (-1)) 69 (-1)) 70 (-1)) 71 (-1)) 72 (-1)) 73 (-1)) 139 1000) 140 100) 145 1000) 146 100) 151 1000) 152 100) 157 1000) 158 100) 163 1000) 164 100) 169 1000) 170 100) 175 1000) 176 100) 181 1000) 182 100) 117 0))))
theorem ro_2023 (z : pq_C) : pq_Ru 3 165 [.ref 90, .int 43, .int 0] (wd_1430 z) (some (.int 0), (wd_1431 z)) := by
  refine ru_of (k := 2) (M := pm_165) rfl rfl ?_
  refine go_seg 1 (pc' := 1) (ls' := [(0, .ref 90), (1, .int 43), (2, .int 0)]) (st' := [.int 43]) (w' := (wd_1430 z)) (cs' := 0) (ss' := 0) ?_ (fun _ _ => rfl)
  refine go_cl (k := 2) (st' := [.int 1]) (cs' := 0) (ss' := 0) rfl rfl rfl rfl rfl rfl rfl (ro_2022 z) ?_
  refine go_seg 8 (pc' := 24) (ls' := [(0, .ref 90), (1, .int 43), (2, .int 0)]) (st' := [.int 0, .int 0]) (w' := (wd_1430 z)) (cs' := 0) (ss' := 0) ?_ (fun _ _ => rfl)
  refine go_seg 8 (pc' := 47) (ls' := [(3, .int 0), (0, .ref 90), (1, .int 43), (2, .int 0)]) (st' := [.int 74, .ref 91]) (w' := (wd_1430 z)) (cs' := 0) (ss' := 0) ?_ (fun _ _ => rfl)
  exact go_end 8 (fun _ _ => rfl)
theorem lf_2_2025 (a0 : Int32) (a3 : Int32) (a4 : Int32) (a5 : Int32) : ∃ w', pq_Go 20 pm_law 278 [(3, .int 0), (2, .ref 90), (1, .ref 1), (0, .ref 0)] [] (fw (sz a0 43 0 a3 a4 a5)) 109 12668 (some (.int 1), w') := by
  refine ⟨(wd_1431 (sz a0 43 0 a3 a4 a5)), ?_⟩
  refine go_seg 8 (pc' := 286) (ls' := [(3, .int 0), (2, .ref 90), (1, .ref 1), (0, .ref 0)]) (st' := [.int 0, .ref 0, .int 43, .ref 1]) (w' := (fw (sz a0 43 0 a3 a4 a5))) (cs' := 109) (ss' := 12668) ?_ (fun _ _ => rfl)
  refine go_seg 5 (pc' := 297) (ls' := [(3, .int 0), (2, .ref 90), (1, .ref 1), (0, .ref 0)]) (st' := [.int 0, .int 43, .ref 1]) (w' := (fw (sz a0 43 0 a3 a4 a5))) (cs' := 109) (ss' := 12668) ?_ (fun _ _ => rfl)
  refine go_cl (k := 20) (st' := [.int 0]) (cs' := 109) (ss' := 12668) rfl rfl rfl rfl rfl rfl rfl (ro_2020 (sz a0 43 0 a3 a4 a5)) ?_
  refine go_seg 8 (pc' := 308) (ls' := [(3, .int 0), (2, .ref 90), (1, .ref 1), (0, .ref 0)]) (st' := [.int 0, .ref 0, .int 43, .ref 90, .int 0]) (w' := (wd_1430 (sz a0 43 0 a3 a4 a5))) (cs' := 109) (ss' := 12668) ?_ (fun _ _ => rfl)
  refine go_seg 5 (pc' := 319) (ls' := [(3, .int 0), (2, .ref 90), (1, .ref 1), (0, .ref 0)]) (st' := [.int 0, .int 43, .ref 90, .int 0]) (w' := (wd_1430 (sz a0 43 0 a3 a4 a5))) (cs' := 109) (ss' := 12668) ?_ (fun _ _ => rfl)
  refine go_cl (k := 20) (st' := [.int 0, .int 0]) (cs' := 109) (ss' := 12668) rfl rfl rfl rfl rfl rfl rfl (ro_2023 (sz a0 43 0 a3 a4 a5)) ?_
  refine go_cmp true rfl (br_self _) ?_
  exact law_tail (f := sc a0 43 0 a3 a4 a5) rfl
def wd_1432 (z : pq_C) : pq_W := ((fw z).set 4 (.inl (.boolean, 64, .inl (upd (fun _ => 0) 44 0))))
theorem ro_2027 (z : pq_C) : pq_Ru 2 22 [.ref 1, .int 44, .int 0] (fw z) (some (.int 0), (wd_1432 z)) := by
  refine ru_of (k := 1) (M := pm_22) rfl rfl ?_
  refine go_seg 1 (pc' := 1) (ls' := [(0, .ref 1), (1, .int 44), (2, .int 0)]) (st' := [.int 44]) (w' := (fw z)) (cs' := 0) (ss' := 0) ?_ (fun _ _ => rfl)
  refine go_cl (k := 1) (st' := [.int 1]) (cs' := 0) (ss' := 0) rfl rfl rfl rfl rfl rfl rfl (ro_1545 z) ?_
  refine go_seg 8 (pc' := 24) (ls' := [(3, .int 0), (0, .ref 1), (1, .int 44), (2, .int 0)]) (st' := [.ref 1]) (w' := (fw z)) (cs' := 0) (ss' := 0) ?_ (fun _ _ => rfl)
  refine go_seg 8 (pc' := 38) (ls' := [(3, .int 0), (0, .ref 1), (1, .int 44), (2, .int 0)]) (st' := []) (w' := (wd_1432 z)) (cs' := 0) (ss' := 0) ?_ (fun _ _ => rfl)
  exact go_end 3 (fun _ _ => rfl)
theorem ro_2028 (z : pq_C) : pq_Ru 1 161 [.long 44, .long 0, .long 63] (wd_1432 z) (some (.int 1), (wd_1432 z)) := by
  refine ru_of (k := 0) (M := pm_161) rfl rfl ?_
  refine go_seg 8 (pc' := 13) (ls' := [(0, .long 44), (2, .long 0), (4, .long 63)]) (st' := []) (w' := (wd_1432 z)) (cs' := 0) (ss' := 0) ?_ (fun _ _ => rfl)
  exact go_end 3 (fun _ _ => rfl)
theorem ro_2029 (z : pq_C) : pq_Ru 2 160 [.int 44] (wd_1432 z) (some (.int 1), (wd_1432 z)) := by
  refine ru_of (k := 1) (M := pm_160) rfl rfl ?_
  refine go_seg 4 (pc' := 6) (ls' := [(0, .int 44)]) (st' := [.long 63, .long 0, .long 44]) (w' := (wd_1432 z)) (cs' := 0) (ss' := 0) ?_ (fun _ _ => rfl)
  refine go_cl (k := 1) (st' := [.int 1]) (cs' := 0) (ss' := 0) rfl rfl rfl rfl rfl rfl rfl (ro_2028 z) ?_
  exact go_end 1 (fun _ _ => rfl)
def wd_1433 (z : pq_C) : pq_W := ((wd_1432 z).set 91 (.inl (.int, 2858, .inl (upd (upd (upd (upd (upd (upd (upd (upd (upd (upd (upd (upd (upd (upd (upd (upd (upd (upd (upd (upd (upd (upd (upd (upd (upd (upd (upd (upd (upd (upd (upd (upd (upd (upd (upd (upd (upd (upd (upd (upd (upd (upd (upd (upd (upd (upd (upd (upd (upd (upd (upd (upd (upd (upd (upd (upd (upd (upd (upd (upd (upd (upd (upd (upd (upd (upd (upd (upd (upd (upd (upd (upd (upd (upd (upd (upd (upd (upd (upd (upd (upd (upd (fun _ => 0) 1 10) 10 (-1)) 11 (-1)) 12 (-1)) 13 (-1)) 14 (-1)) 15 (-1)) 16 (-1)) 17 (-1)) 18 (-1)) 19 (-1)) 20 (-1)) 21 (-1)) 22 (-1)) 23 (-1)) 24 (-1)) 25 (-1)) 26 (-1)) 27 (-1)) 28 (-1)) 29 (-1)) 30 (-1)) 31 (-1)) 32 (-1)) 33 (-1)) 34 (-1)) 35 (-1)) 36 (-1)) 37 (-1)) 38 (-1)) 39 (-1)) 40 (-1)) 41 (-1)) 42 (-1)) 43 (-1)) 44 (-1)) 45 (-1)) 46 (-1)) 47 (-1)) 48 (-1)) 49 (-1)) 50 (-1)) 51 (-1)) 52 (-1)) 53 (-1)) 54 (-1)) 55 (-1)) 56 (-1)) 57 (-1)) 58 (-1)) 59 (-1)) 60 (-1)) 61 (-1)) 62 (-1)) 63 (-1)) 64 (-1)) 65 (-1)) 66 (-1)) 67 (-1)) 68 (-1)) 69 (-1)) 70 (-1)) 71 (-1)) 72 (-1)) 73 (-1)) 139 1000) 140 100) 145 1000) 146 100) 151 1000) 152 100) 157 1000) 158 100) 163 1000) 164 100) 169 1000) 170 100) 175 1000) 176 100) 181 1000) 182 100) 118 0))))
theorem ro_2030 (z : pq_C) : pq_Ru 3 165 [.ref 90, .int 44, .int 0] (wd_1432 z) (some (.int 0), (wd_1433 z)) := by
  refine ru_of (k := 2) (M := pm_165) rfl rfl ?_
  refine go_seg 1 (pc' := 1) (ls' := [(0, .ref 90), (1, .int 44), (2, .int 0)]) (st' := [.int 44]) (w' := (wd_1432 z)) (cs' := 0) (ss' := 0) ?_ (fun _ _ => rfl)
  refine go_cl (k := 2) (st' := [.int 1]) (cs' := 0) (ss' := 0) rfl rfl rfl rfl rfl rfl rfl (ro_2029 z) ?_
  refine go_seg 8 (pc' := 24) (ls' := [(0, .ref 90), (1, .int 44), (2, .int 0)]) (st' := [.int 0, .int 0]) (w' := (wd_1432 z)) (cs' := 0) (ss' := 0) ?_ (fun _ _ => rfl)
  refine go_seg 8 (pc' := 47) (ls' := [(3, .int 0), (0, .ref 90), (1, .int 44), (2, .int 0)]) (st' := [.int 74, .ref 91]) (w' := (wd_1432 z)) (cs' := 0) (ss' := 0) ?_ (fun _ _ => rfl)
  exact go_end 8 (fun _ _ => rfl)
theorem lf_2_2032 (a0 : Int32) (a3 : Int32) (a4 : Int32) (a5 : Int32) : ∃ w', pq_Go 20 pm_law 278 [(3, .int 0), (2, .ref 90), (1, .ref 1), (0, .ref 0)] [] (fw (sz a0 44 0 a3 a4 a5)) 109 12668 (some (.int 1), w') := by
  refine ⟨(wd_1433 (sz a0 44 0 a3 a4 a5)), ?_⟩
  refine go_seg 8 (pc' := 286) (ls' := [(3, .int 0), (2, .ref 90), (1, .ref 1), (0, .ref 0)]) (st' := [.int 0, .ref 0, .int 44, .ref 1]) (w' := (fw (sz a0 44 0 a3 a4 a5))) (cs' := 109) (ss' := 12668) ?_ (fun _ _ => rfl)
  refine go_seg 5 (pc' := 297) (ls' := [(3, .int 0), (2, .ref 90), (1, .ref 1), (0, .ref 0)]) (st' := [.int 0, .int 44, .ref 1]) (w' := (fw (sz a0 44 0 a3 a4 a5))) (cs' := 109) (ss' := 12668) ?_ (fun _ _ => rfl)
  refine go_cl (k := 20) (st' := [.int 0]) (cs' := 109) (ss' := 12668) rfl rfl rfl rfl rfl rfl rfl (ro_2027 (sz a0 44 0 a3 a4 a5)) ?_
  refine go_seg 8 (pc' := 308) (ls' := [(3, .int 0), (2, .ref 90), (1, .ref 1), (0, .ref 0)]) (st' := [.int 0, .ref 0, .int 44, .ref 90, .int 0]) (w' := (wd_1432 (sz a0 44 0 a3 a4 a5))) (cs' := 109) (ss' := 12668) ?_ (fun _ _ => rfl)
  refine go_seg 5 (pc' := 319) (ls' := [(3, .int 0), (2, .ref 90), (1, .ref 1), (0, .ref 0)]) (st' := [.int 0, .int 44, .ref 90, .int 0]) (w' := (wd_1432 (sz a0 44 0 a3 a4 a5))) (cs' := 109) (ss' := 12668) ?_ (fun _ _ => rfl)
  refine go_cl (k := 20) (st' := [.int 0, .int 0]) (cs' := 109) (ss' := 12668) rfl rfl rfl rfl rfl rfl rfl (ro_2030 (sz a0 44 0 a3 a4 a5)) ?_
  refine go_cmp true rfl (br_self _) ?_
  exact law_tail (f := sc a0 44 0 a3 a4 a5) rfl
def wd_1434 (z : pq_C) : pq_W := ((fw z).set 4 (.inl (.boolean, 64, .inl (upd (fun _ => 0) 45 0))))
theorem ro_2034 (z : pq_C) : pq_Ru 2 22 [.ref 1, .int 45, .int 0] (fw z) (some (.int 0), (wd_1434 z)) := by
  refine ru_of (k := 1) (M := pm_22) rfl rfl ?_
  refine go_seg 1 (pc' := 1) (ls' := [(0, .ref 1), (1, .int 45), (2, .int 0)]) (st' := [.int 45]) (w' := (fw z)) (cs' := 0) (ss' := 0) ?_ (fun _ _ => rfl)
  refine go_cl (k := 1) (st' := [.int 1]) (cs' := 0) (ss' := 0) rfl rfl rfl rfl rfl rfl rfl (ro_1553 z) ?_
  refine go_seg 8 (pc' := 24) (ls' := [(3, .int 0), (0, .ref 1), (1, .int 45), (2, .int 0)]) (st' := [.ref 1]) (w' := (fw z)) (cs' := 0) (ss' := 0) ?_ (fun _ _ => rfl)
  refine go_seg 8 (pc' := 38) (ls' := [(3, .int 0), (0, .ref 1), (1, .int 45), (2, .int 0)]) (st' := []) (w' := (wd_1434 z)) (cs' := 0) (ss' := 0) ?_ (fun _ _ => rfl)
  exact go_end 3 (fun _ _ => rfl)
theorem ro_2035 (z : pq_C) : pq_Ru 1 161 [.long 45, .long 0, .long 63] (wd_1434 z) (some (.int 1), (wd_1434 z)) := by
  refine ru_of (k := 0) (M := pm_161) rfl rfl ?_
  refine go_seg 8 (pc' := 13) (ls' := [(0, .long 45), (2, .long 0), (4, .long 63)]) (st' := []) (w' := (wd_1434 z)) (cs' := 0) (ss' := 0) ?_ (fun _ _ => rfl)
  exact go_end 3 (fun _ _ => rfl)
theorem ro_2036 (z : pq_C) : pq_Ru 2 160 [.int 45] (wd_1434 z) (some (.int 1), (wd_1434 z)) := by
  refine ru_of (k := 1) (M := pm_160) rfl rfl ?_
  refine go_seg 4 (pc' := 6) (ls' := [(0, .int 45)]) (st' := [.long 63, .long 0, .long 45]) (w' := (wd_1434 z)) (cs' := 0) (ss' := 0) ?_ (fun _ _ => rfl)
  refine go_cl (k := 1) (st' := [.int 1]) (cs' := 0) (ss' := 0) rfl rfl rfl rfl rfl rfl rfl (ro_2035 z) ?_
  exact go_end 1 (fun _ _ => rfl)
def wd_1435 (z : pq_C) : pq_W := ((wd_1434 z).set 91 (.inl (.int, 2858, .inl (upd (upd (upd (upd (upd (upd (upd (upd (upd (upd (upd (upd (upd (upd (upd (upd (upd (upd (upd (upd (upd (upd (upd (upd (upd (upd (upd (upd (upd (upd (upd (upd (upd (upd (upd (upd (upd (upd (upd (upd (upd (upd (upd (upd (upd (upd (upd (upd (upd (upd (upd (upd (upd (upd (upd (upd (upd (upd (upd (upd (upd (upd (upd (upd (upd (upd (upd (upd (upd (upd (upd (upd (upd (upd (upd (upd (upd (upd (upd (upd (upd (upd (fun _ => 0) 1 10) 10 (-1)) 11 (-1)) 12 (-1)) 13 (-1)) 14 (-1)) 15 (-1)) 16 (-1)) 17 (-1)) 18 (-1)) 19 (-1)) 20 (-1)) 21 (-1)) 22 (-1)) 23 (-1)) 24 (-1)) 25 (-1)) 26 (-1)) 27 (-1)) 28 (-1)) 29 (-1)) 30 (-1)) 31 (-1)) 32 (-1)) 33 (-1)) 34 (-1)) 35 (-1)) 36 (-1)) 37 (-1)) 38 (-1)) 39 (-1)) 40 (-1)) 41 (-1)) 42 (-1)) 43 (-1)) 44 (-1)) 45 (-1)) 46 (-1)) 47 (-1)) 48 (-1)) 49 (-1)) 50 (-1)) 51 (-1)) 52 (-1)) 53 (-1)) 54 (-1)) 55 (-1)) 56 (-1)) 57 (-1)) 58 (-1)) 59 (-1)) 60 (-1)) 61 (-1)) 62 (-1)) 63 (-1)) 64 (-1)) 65 (-1)) 66 (-1)) 67 (-1)) 68 (-1)) 69 (-1)) 70 (-1)) 71 (-1)) 72 (-1)) 73 (-1)) 139 1000) 140 100) 145 1000) 146 100) 151 1000) 152 100) 157 1000) 158 100) 163 1000) 164 100) 169 1000) 170 100) 175 1000) 176 100) 181 1000) 182 100) 119 0))))
theorem ro_2037 (z : pq_C) : pq_Ru 3 165 [.ref 90, .int 45, .int 0] (wd_1434 z) (some (.int 0), (wd_1435 z)) := by
  refine ru_of (k := 2) (M := pm_165) rfl rfl ?_
  refine go_seg 1 (pc' := 1) (ls' := [(0, .ref 90), (1, .int 45), (2, .int 0)]) (st' := [.int 45]) (w' := (wd_1434 z)) (cs' := 0) (ss' := 0) ?_ (fun _ _ => rfl)
  refine go_cl (k := 2) (st' := [.int 1]) (cs' := 0) (ss' := 0) rfl rfl rfl rfl rfl rfl rfl (ro_2036 z) ?_
  refine go_seg 8 (pc' := 24) (ls' := [(0, .ref 90), (1, .int 45), (2, .int 0)]) (st' := [.int 0, .int 0]) (w' := (wd_1434 z)) (cs' := 0) (ss' := 0) ?_ (fun _ _ => rfl)
  refine go_seg 8 (pc' := 47) (ls' := [(3, .int 0), (0, .ref 90), (1, .int 45), (2, .int 0)]) (st' := [.int 74, .ref 91]) (w' := (wd_1434 z)) (cs' := 0) (ss' := 0) ?_ (fun _ _ => rfl)
  exact go_end 8 (fun _ _ => rfl)
theorem lf_2_2039 (a0 : Int32) (a3 : Int32) (a4 : Int32) (a5 : Int32) : ∃ w', pq_Go 20 pm_law 278 [(3, .int 0), (2, .ref 90), (1, .ref 1), (0, .ref 0)] [] (fw (sz a0 45 0 a3 a4 a5)) 109 12668 (some (.int 1), w') := by
  refine ⟨(wd_1435 (sz a0 45 0 a3 a4 a5)), ?_⟩
  refine go_seg 8 (pc' := 286) (ls' := [(3, .int 0), (2, .ref 90), (1, .ref 1), (0, .ref 0)]) (st' := [.int 0, .ref 0, .int 45, .ref 1]) (w' := (fw (sz a0 45 0 a3 a4 a5))) (cs' := 109) (ss' := 12668) ?_ (fun _ _ => rfl)
  refine go_seg 5 (pc' := 297) (ls' := [(3, .int 0), (2, .ref 90), (1, .ref 1), (0, .ref 0)]) (st' := [.int 0, .int 45, .ref 1]) (w' := (fw (sz a0 45 0 a3 a4 a5))) (cs' := 109) (ss' := 12668) ?_ (fun _ _ => rfl)
  refine go_cl (k := 20) (st' := [.int 0]) (cs' := 109) (ss' := 12668) rfl rfl rfl rfl rfl rfl rfl (ro_2034 (sz a0 45 0 a3 a4 a5)) ?_
  refine go_seg 8 (pc' := 308) (ls' := [(3, .int 0), (2, .ref 90), (1, .ref 1), (0, .ref 0)]) (st' := [.int 0, .ref 0, .int 45, .ref 90, .int 0]) (w' := (wd_1434 (sz a0 45 0 a3 a4 a5))) (cs' := 109) (ss' := 12668) ?_ (fun _ _ => rfl)
  refine go_seg 5 (pc' := 319) (ls' := [(3, .int 0), (2, .ref 90), (1, .ref 1), (0, .ref 0)]) (st' := [.int 0, .int 45, .ref 90, .int 0]) (w' := (wd_1434 (sz a0 45 0 a3 a4 a5))) (cs' := 109) (ss' := 12668) ?_ (fun _ _ => rfl)
  refine go_cl (k := 20) (st' := [.int 0, .int 0]) (cs' := 109) (ss' := 12668) rfl rfl rfl rfl rfl rfl rfl (ro_2037 (sz a0 45 0 a3 a4 a5)) ?_
  refine go_cmp true rfl (br_self _) ?_
  exact law_tail (f := sc a0 45 0 a3 a4 a5) rfl
def wd_1436 (z : pq_C) : pq_W := ((fw z).set 4 (.inl (.boolean, 64, .inl (upd (fun _ => 0) 46 0))))
theorem ro_2041 (z : pq_C) : pq_Ru 2 22 [.ref 1, .int 46, .int 0] (fw z) (some (.int 0), (wd_1436 z)) := by
  refine ru_of (k := 1) (M := pm_22) rfl rfl ?_
  refine go_seg 1 (pc' := 1) (ls' := [(0, .ref 1), (1, .int 46), (2, .int 0)]) (st' := [.int 46]) (w' := (fw z)) (cs' := 0) (ss' := 0) ?_ (fun _ _ => rfl)
  refine go_cl (k := 1) (st' := [.int 1]) (cs' := 0) (ss' := 0) rfl rfl rfl rfl rfl rfl rfl (ro_1561 z) ?_
  refine go_seg 8 (pc' := 24) (ls' := [(3, .int 0), (0, .ref 1), (1, .int 46), (2, .int 0)]) (st' := [.ref 1]) (w' := (fw z)) (cs' := 0) (ss' := 0) ?_ (fun _ _ => rfl)
  refine go_seg 8 (pc' := 38) (ls' := [(3, .int 0), (0, .ref 1), (1, .int 46), (2, .int 0)]) (st' := []) (w' := (wd_1436 z)) (cs' := 0) (ss' := 0) ?_ (fun _ _ => rfl)
  exact go_end 3 (fun _ _ => rfl)
theorem ro_2042 (z : pq_C) : pq_Ru 1 161 [.long 46, .long 0, .long 63] (wd_1436 z) (some (.int 1), (wd_1436 z)) := by
  refine ru_of (k := 0) (M := pm_161) rfl rfl ?_
  refine go_seg 8 (pc' := 13) (ls' := [(0, .long 46), (2, .long 0), (4, .long 63)]) (st' := []) (w' := (wd_1436 z)) (cs' := 0) (ss' := 0) ?_ (fun _ _ => rfl)
  exact go_end 3 (fun _ _ => rfl)
theorem ro_2043 (z : pq_C) : pq_Ru 2 160 [.int 46] (wd_1436 z) (some (.int 1), (wd_1436 z)) := by
  refine ru_of (k := 1) (M := pm_160) rfl rfl ?_
  refine go_seg 4 (pc' := 6) (ls' := [(0, .int 46)]) (st' := [.long 63, .long 0, .long 46]) (w' := (wd_1436 z)) (cs' := 0) (ss' := 0) ?_ (fun _ _ => rfl)
  refine go_cl (k := 1) (st' := [.int 1]) (cs' := 0) (ss' := 0) rfl rfl rfl rfl rfl rfl rfl (ro_2042 z) ?_
  exact go_end 1 (fun _ _ => rfl)
def wd_1437 (z : pq_C) : pq_W := ((wd_1436 z).set 91 (.inl (.int, 2858, .inl (upd (upd (upd (upd (upd (upd (upd (upd (upd (upd (upd (upd (upd (upd (upd (upd (upd (upd (upd (upd (upd (upd (upd (upd (upd (upd (upd (upd (upd (upd (upd (upd (upd (upd (upd (upd (upd (upd (upd (upd (upd (upd (upd (upd (upd (upd (upd (upd (upd (upd (upd (upd (upd (upd (upd (upd (upd (upd (upd (upd (upd (upd (upd (upd (upd (upd (upd (upd (upd (upd (upd (upd (upd (upd (upd (upd (upd (upd (upd (upd (upd (upd (fun _ => 0) 1 10) 10 (-1)) 11 (-1)) 12 (-1)) 13 (-1)) 14 (-1)) 15 (-1)) 16 (-1)) 17 (-1)) 18 (-1)) 19 (-1)) 20 (-1)) 21 (-1)) 22 (-1)) 23 (-1)) 24 (-1)) 25 (-1)) 26 (-1)) 27 (-1)) 28 (-1)) 29 (-1)) 30 (-1)) 31 (-1)) 32 (-1)) 33 (-1)) 34 (-1)) 35 (-1)) 36 (-1)) 37 (-1)) 38 (-1)) 39 (-1)) 40 (-1)) 41 (-1)) 42 (-1)) 43 (-1)) 44 (-1)) 45 (-1)) 46 (-1)) 47 (-1)) 48 (-1)) 49 (-1)) 50 (-1)) 51 (-1)) 52 (-1)) 53 (-1)) 54 (-1)) 55 (-1)) 56 (-1)) 57 (-1)) 58 (-1)) 59 (-1)) 60 (-1)) 61 (-1)) 62 (-1)) 63 (-1)) 64 (-1)) 65 (-1)) 66 (-1)) 67 (-1)) 68 (-1)) 69 (-1)) 70 (-1)) 71 (-1)) 72 (-1)) 73 (-1)) 139 1000) 140 100) 145 1000) 146 100) 151 1000) 152 100) 157 1000) 158 100) 163 1000) 164 100) 169 1000) 170 100) 175 1000) 176 100) 181 1000) 182 100) 120 0))))
theorem ro_2044 (z : pq_C) : pq_Ru 3 165 [.ref 90, .int 46, .int 0] (wd_1436 z) (some (.int 0), (wd_1437 z)) := by
  refine ru_of (k := 2) (M := pm_165) rfl rfl ?_
  refine go_seg 1 (pc' := 1) (ls' := [(0, .ref 90), (1, .int 46), (2, .int 0)]) (st' := [.int 46]) (w' := (wd_1436 z)) (cs' := 0) (ss' := 0) ?_ (fun _ _ => rfl)
  refine go_cl (k := 2) (st' := [.int 1]) (cs' := 0) (ss' := 0) rfl rfl rfl rfl rfl rfl rfl (ro_2043 z) ?_
  refine go_seg 8 (pc' := 24) (ls' := [(0, .ref 90), (1, .int 46), (2, .int 0)]) (st' := [.int 0, .int 0]) (w' := (wd_1436 z)) (cs' := 0) (ss' := 0) ?_ (fun _ _ => rfl)
  refine go_seg 8 (pc' := 47) (ls' := [(3, .int 0), (0, .ref 90), (1, .int 46), (2, .int 0)]) (st' := [.int 74, .ref 91]) (w' := (wd_1436 z)) (cs' := 0) (ss' := 0) ?_ (fun _ _ => rfl)
  exact go_end 8 (fun _ _ => rfl)
theorem lf_2_2046 (a0 : Int32) (a3 : Int32) (a4 : Int32) (a5 : Int32) : ∃ w', pq_Go 20 pm_law 278 [(3, .int 0), (2, .ref 90), (1, .ref 1), (0, .ref 0)] [] (fw (sz a0 46 0 a3 a4 a5)) 109 12668 (some (.int 1), w') := by
  refine ⟨(wd_1437 (sz a0 46 0 a3 a4 a5)), ?_⟩
  refine go_seg 8 (pc' := 286) (ls' := [(3, .int 0), (2, .ref 90), (1, .ref 1), (0, .ref 0)]) (st' := [.int 0, .ref 0, .int 46, .ref 1]) (w' := (fw (sz a0 46 0 a3 a4 a5))) (cs' := 109) (ss' := 12668) ?_ (fun _ _ => rfl)
  refine go_seg 5 (pc' := 297) (ls' := [(3, .int 0), (2, .ref 90), (1, .ref 1), (0, .ref 0)]) (st' := [.int 0, .int 46, .ref 1]) (w' := (fw (sz a0 46 0 a3 a4 a5))) (cs' := 109) (ss' := 12668) ?_ (fun _ _ => rfl)
  refine go_cl (k := 20) (st' := [.int 0]) (cs' := 109) (ss' := 12668) rfl rfl rfl rfl rfl rfl rfl (ro_2041 (sz a0 46 0 a3 a4 a5)) ?_
  refine go_seg 8 (pc' := 308) (ls' := [(3, .int 0), (2, .ref 90), (1, .ref 1), (0, .ref 0)]) (st' := [.int 0, .ref 0, .int 46, .ref 90, .int 0]) (w' := (wd_1436 (sz a0 46 0 a3 a4 a5))) (cs' := 109) (ss' := 12668) ?_ (fun _ _ => rfl)
  refine go_seg 5 (pc' := 319) (ls' := [(3, .int 0), (2, .ref 90), (1, .ref 1), (0, .ref 0)]) (st' := [.int 0, .int 46, .ref 90, .int 0]) (w' := (wd_1436 (sz a0 46 0 a3 a4 a5))) (cs' := 109) (ss' := 12668) ?_ (fun _ _ => rfl)
  refine go_cl (k := 20) (st' := [.int 0, .int 0]) (cs' := 109) (ss' := 12668) rfl rfl rfl rfl rfl rfl rfl (ro_2044 (sz a0 46 0 a3 a4 a5)) ?_
  refine go_cmp true rfl (br_self _) ?_
  exact law_tail (f := sc a0 46 0 a3 a4 a5) rfl
def wd_1438 (z : pq_C) : pq_W := ((fw z).set 4 (.inl (.boolean, 64, .inl (upd (fun _ => 0) 47 0))))
theorem ro_2048 (z : pq_C) : pq_Ru 2 22 [.ref 1, .int 47, .int 0] (fw z) (some (.int 0), (wd_1438 z)) := by
  refine ru_of (k := 1) (M := pm_22) rfl rfl ?_
  refine go_seg 1 (pc' := 1) (ls' := [(0, .ref 1), (1, .int 47), (2, .int 0)]) (st' := [.int 47]) (w' := (fw z)) (cs' := 0) (ss' := 0) ?_ (fun _ _ => rfl)
  refine go_cl (k := 1) (st' := [.int 1]) (cs' := 0) (ss' := 0) rfl rfl rfl rfl rfl rfl rfl (ro_1569 z) ?_
  refine go_seg 8 (pc' := 24) (ls' := [(3, .int 0), (0, .ref 1), (1, .int 47), (2, .int 0)]) (st' := [.ref 1]) (w' := (fw z)) (cs' := 0) (ss' := 0) ?_ (fun _ _ => rfl)
  refine go_seg 8 (pc' := 38) (ls' := [(3, .int 0), (0, .ref 1), (1, .int 47), (2, .int 0)]) (st' := []) (w' := (wd_1438 z)) (cs' := 0) (ss' := 0) ?_ (fun _ _ => rfl)
  exact go_end 3 (fun _ _ => rfl)
theorem ro_2049 (z : pq_C) : pq_Ru 1 161 [.long 47, .long 0, .long 63] (wd_1438 z) (some (.int 1), (wd_1438 z)) := by
  refine ru_of (k := 0) (M := pm_161) rfl rfl ?_
  refine go_seg 8 (pc' := 13) (ls' := [(0, .long 47), (2, .long 0), (4, .long 63)]) (st' := []) (w' := (wd_1438 z)) (cs' := 0) (ss' := 0) ?_ (fun _ _ => rfl)
  exact go_end 3 (fun _ _ => rfl)
theorem ro_2050 (z : pq_C) : pq_Ru 2 160 [.int 47] (wd_1438 z) (some (.int 1), (wd_1438 z)) := by
  refine ru_of (k := 1) (M := pm_160) rfl rfl ?_
  refine go_seg 4 (pc' := 6) (ls' := [(0, .int 47)]) (st' := [.long 63, .long 0, .long 47]) (w' := (wd_1438 z)) (cs' := 0) (ss' := 0) ?_ (fun _ _ => rfl)
  refine go_cl (k := 1) (st' := [.int 1]) (cs' := 0) (ss' := 0) rfl rfl rfl rfl rfl rfl rfl (ro_2049 z) ?_
  exact go_end 1 (fun _ _ => rfl)
def wd_1439 (z : pq_C) : pq_W := ((wd_1438 z).set 91 (.inl (.int, 2858, .inl (upd (upd (upd (upd (upd (upd (upd (upd (upd (upd (upd (upd (upd (upd (upd (upd (upd (upd (upd (upd (upd (upd (upd (upd (upd (upd (upd (upd (upd (upd (upd (upd (upd (upd (upd (upd (upd (upd (upd (upd (upd (upd (upd (upd (upd (upd (upd (upd (upd (upd (upd (upd (upd (upd (upd (upd (upd (upd (upd (upd (upd (upd (upd (upd (upd (upd (upd (upd (upd (upd (upd (upd (upd (upd (upd (upd (upd (upd (upd (upd (upd (upd (fun _ => 0) 1 10) 10 (-1)) 11 (-1)) 12 (-1)) 13 (-1)) 14 (-1)) 15 (-1)) 16 (-1)) 17 (-1)) 18 (-1)) 19 (-1)) 20 (-1)) 21 (-1)) 22 (-1)) 23 (-1)) 24 (-1)) 25 (-1)) 26 (-1)) 27 (-1)) 28 (-1)) 29 (-1)) 30 (-1)) 31 (-1)) 32 (-1)) 33 (-1)) 34 (-1)) 35 (-1)) 36 (-1)) 37 (-1)) 38 (-1)) 39 (-1)) 40 (-1)) 41 (-1)) 42 (-1)) 43 (-1)) 44 (-1)) 45 (-1)) 46 (-1)) 47 (-1)) 48 (-1)) 49 (-1)) 50 (-1)) 51 (-1)) 52 (-1)) 53 (-1)) 54 (-1)) 55 (-1)) 56 (-1)) 57 (-1)) 58 (-1)) 59 (-1)) 60 (-1)) 61 (-1)) 62 (-1)) 63 (-1)) 64 (-1)) 65 (-1)) 66 (-1)) 67 (-1)) 68 (-1)) 69 (-1)) 70 (-1)) 71 (-1)) 72 (-1)) 73 (-1)) 139 1000) 140 100) 145 1000) 146 100) 151 1000) 152 100) 157 1000) 158 100) 163 1000) 164 100) 169 1000) 170 100) 175 1000) 176 100) 181 1000) 182 100) 121 0))))
theorem ro_2051 (z : pq_C) : pq_Ru 3 165 [.ref 90, .int 47, .int 0] (wd_1438 z) (some (.int 0), (wd_1439 z)) := by
  refine ru_of (k := 2) (M := pm_165) rfl rfl ?_
  refine go_seg 1 (pc' := 1) (ls' := [(0, .ref 90), (1, .int 47), (2, .int 0)]) (st' := [.int 47]) (w' := (wd_1438 z)) (cs' := 0) (ss' := 0) ?_ (fun _ _ => rfl)
  refine go_cl (k := 2) (st' := [.int 1]) (cs' := 0) (ss' := 0) rfl rfl rfl rfl rfl rfl rfl (ro_2050 z) ?_
  refine go_seg 8 (pc' := 24) (ls' := [(0, .ref 90), (1, .int 47), (2, .int 0)]) (st' := [.int 0, .int 0]) (w' := (wd_1438 z)) (cs' := 0) (ss' := 0) ?_ (fun _ _ => rfl)
  refine go_seg 8 (pc' := 47) (ls' := [(3, .int 0), (0, .ref 90), (1, .int 47), (2, .int 0)]) (st' := [.int 74, .ref 91]) (w' := (wd_1438 z)) (cs' := 0) (ss' := 0) ?_ (fun _ _ => rfl)
  exact go_end 8 (fun _ _ => rfl)
theorem lf_2_2053 (a0 : Int32) (a3 : Int32) (a4 : Int32) (a5 : Int32) : ∃ w', pq_Go 20 pm_law 278 [(3, .int 0), (2, .ref 90), (1, .ref 1), (0, .ref 0)] [] (fw (sz a0 47 0 a3 a4 a5)) 109 12668 (some (.int 1), w') := by
  refine ⟨(wd_1439 (sz a0 47 0 a3 a4 a5)), ?_⟩
  refine go_seg 8 (pc' := 286) (ls' := [(3, .int 0), (2, .ref 90), (1, .ref 1), (0, .ref 0)]) (st' := [.int 0, .ref 0, .int 47, .ref 1]) (w' := (fw (sz a0 47 0 a3 a4 a5))) (cs' := 109) (ss' := 12668) ?_ (fun _ _ => rfl)
  refine go_seg 5 (pc' := 297) (ls' := [(3, .int 0), (2, .ref 90), (1, .ref 1), (0, .ref 0)]) (st' := [.int 0, .int 47, .ref 1]) (w' := (fw (sz a0 47 0 a3 a4 a5))) (cs' := 109) (ss' := 12668) ?_ (fun _ _ => rfl)
  refine go_cl (k := 20) (st' := [.int 0]) (cs' := 109) (ss' := 12668) rfl rfl rfl rfl rfl rfl rfl (ro_2048 (sz a0 47 0 a3 a4 a5)) ?_
  refine go_seg 8 (pc' := 308) (ls' := [(3, .int 0), (2, .ref 90), (1, .ref 1), (0, .ref 0)]) (st' := [.int 0, .ref 0, .int 47, .ref 90, .int 0]) (w' := (wd_1438 (sz a0 47 0 a3 a4 a5))) (cs' := 109) (ss' := 12668) ?_ (fun _ _ => rfl)
  refine go_seg 5 (pc' := 319) (ls' := [(3, .int 0), (2, .ref 90), (1, .ref 1), (0, .ref 0)]) (st' := [.int 0, .int 47, .ref 90, .int 0]) (w' := (wd_1438 (sz a0 47 0 a3 a4 a5))) (cs' := 109) (ss' := 12668) ?_ (fun _ _ => rfl)
  refine go_cl (k := 20) (st' := [.int 0, .int 0]) (cs' := 109) (ss' := 12668) rfl rfl rfl rfl rfl rfl rfl (ro_2051 (sz a0 47 0 a3 a4 a5)) ?_
  refine go_cmp true rfl (br_self _) ?_
  exact law_tail (f := sc a0 47 0 a3 a4 a5) rfl
def wd_1440 (z : pq_C) : pq_W := ((fw z).set 4 (.inl (.boolean, 64, .inl (upd (fun _ => 0) 48 0))))
theorem ro_2055 (z : pq_C) : pq_Ru 2 22 [.ref 1, .int 48, .int 0] (fw z) (some (.int 0), (wd_1440 z)) := by
  refine ru_of (k := 1) (M := pm_22) rfl rfl ?_
  refine go_seg 1 (pc' := 1) (ls' := [(0, .ref 1), (1, .int 48), (2, .int 0)]) (st' := [.int 48]) (w' := (fw z)) (cs' := 0) (ss' := 0) ?_ (fun _ _ => rfl)
  refine go_cl (k := 1) (st' := [.int 1]) (cs' := 0) (ss' := 0) rfl rfl rfl rfl rfl rfl rfl (ro_1577 z) ?_
  refine go_seg 8 (pc' := 24) (ls' := [(3, .int 0), (0, .ref 1), (1, .int 48), (2, .int 0)]) (st' := [.ref 1]) (w' := (fw z)) (cs' := 0) (ss' := 0) ?_ (fun _ _ => rfl)
  refine go_seg 8 (pc' := 38) (ls' := [(3, .int 0), (0, .ref 1), (1, .int 48), (2, .int 0)]) (st' := []) (w' := (wd_1440 z)) (cs' := 0) (ss' := 0) ?_ (fun _ _ => rfl)
  exact go_end 3 (fun _ _ => rfl)
theorem ro_2056 (z : pq_C) : pq_Ru 1 161 [.long 48, .long 0, .long 63] (wd_1440 z) (some (.int 1), (wd_1440 z)) := by
  refine ru_of (k := 0) (M := pm_161) rfl rfl ?_
  refine go_seg 8 (pc' := 13) (ls' := [(0, .long 48), (2, .long 0), (4, .long 63)]) (st' := []) (w' := (wd_1440 z)) (cs' := 0) (ss' := 0) ?_ (fun _ _ => rfl)
  exact go_end 3 (fun _ _ => rfl)
theorem ro_2057 (z : pq_C) : pq_Ru 2 160 [.int 48] (wd_1440 z) (some (.int 1), (wd_1440 z)) := by
  refine ru_of (k := 1) (M := pm_160) rfl rfl ?_
  refine go_seg 4 (pc' := 6) (ls' := [(0, .int 48)]) (st' := [.long 63, .long 0, .long 48]) (w' := (wd_1440 z)) (cs' := 0) (ss' := 0) ?_ (fun _ _ => rfl)
  refine go_cl (k := 1) (st' := [.int 1]) (cs' := 0) (ss' := 0) rfl rfl rfl rfl rfl rfl rfl (ro_2056 z) ?_
  exact go_end 1 (fun _ _ => rfl)
def wd_1441 (z : pq_C) : pq_W := ((wd_1440 z).set 91 (.inl (.int, 2858, .inl (upd (upd (upd (upd (upd (upd (upd (upd (upd (upd (upd (upd (upd (upd (upd (upd (upd (upd (upd (upd (upd (upd (upd (upd (upd (upd (upd (upd (upd (upd (upd (upd (upd (upd (upd (upd (upd (upd (upd (upd (upd (upd (upd (upd (upd (upd (upd (upd (upd (upd (upd (upd (upd (upd (upd (upd (upd (upd (upd (upd (upd (upd (upd (upd (upd (upd (upd (upd (upd (upd (upd (upd (upd (upd (upd (upd (upd (upd (upd (upd (upd (upd (fun _ => 0) 1 10) 10 (-1)) 11 (-1)) 12 (-1)) 13 (-1)) 14 (-1)) 15 (-1)) 16 (-1)) 17 (-1)) 18 (-1)) 19 (-1)) 20 (-1)) 21 (-1)) 22 (-1)) 23 (-1)) 24 (-1)) 25 (-1)) 26 (-1)) 27 (-1)) 28 (-1)) 29 (-1)) 30 (-1)) 31 (-1)) 32 (-1)) 33 (-1)) 34 (-1)) 35 (-1)) 36 (-1)) 37 (-1)) 38 (-1)) 39 (-1)) 40 (-1)) 41 (-1)) 42 (-1)) 43 (-1)) 44 (-1)) 45 (-1)) 46 (-1)) 47 (-1)) 48 (-1)) 49 (-1)) 50 (-1)) 51 (-1)) 52 (-1)) 53 (-1)) 54 (-1)) 55 (-1)) 56 (-1)) 57 (-1)) 58 (-1)) 59 (-1)) 60 (-1)) 61 (-1)) 62 (-1)) 63 (-1)) 64 (-1)) 65 (-1)) 66 (-1)) 67 (-1)) 68 (-1)) 69 (-1)) 70 (-1)) 71 (-1)) 72 (-1)) 73 (-1)) 139 1000) 140 100) 145 1000) 146 100) 151 1000) 152 100) 157 1000) 158 100) 163 1000) 164 100) 169 1000) 170 100) 175 1000) 176 100) 181 1000) 182 100) 122 0))))
theorem ro_2058 (z : pq_C) : pq_Ru 3 165 [.ref 90, .int 48, .int 0] (wd_1440 z) (some (.int 0), (wd_1441 z)) := by
  refine ru_of (k := 2) (M := pm_165) rfl rfl ?_
  refine go_seg 1 (pc' := 1) (ls' := [(0, .ref 90), (1, .int 48), (2, .int 0)]) (st' := [.int 48]) (w' := (wd_1440 z)) (cs' := 0) (ss' := 0) ?_ (fun _ _ => rfl)
  refine go_cl (k := 2) (st' := [.int 1]) (cs' := 0) (ss' := 0) rfl rfl rfl rfl rfl rfl rfl (ro_2057 z) ?_
  refine go_seg 8 (pc' := 24) (ls' := [(0, .ref 90), (1, .int 48), (2, .int 0)]) (st' := [.int 0, .int 0]) (w' := (wd_1440 z)) (cs' := 0) (ss' := 0) ?_ (fun _ _ => rfl)
  refine go_seg 8 (pc' := 47) (ls' := [(3, .int 0), (0, .ref 90), (1, .int 48), (2, .int 0)]) (st' := [.int 74, .ref 91]) (w' := (wd_1440 z)) (cs' := 0) (ss' := 0) ?_ (fun _ _ => rfl)
  exact go_end 8 (fun _ _ => rfl)
theorem lf_2_2060 (a0 : Int32) (a3 : Int32) (a4 : Int32) (a5 : Int32) : ∃ w', pq_Go 20 pm_law 278 [(3, .int 0), (2, .ref 90), (1, .ref 1), (0, .ref 0)] [] (fw (sz a0 48 0 a3 a4 a5)) 109 12668 (some (.int 1), w') := by
  refine ⟨(wd_1441 (sz a0 48 0 a3 a4 a5)), ?_⟩
  refine go_seg 8 (pc' := 286) (ls' := [(3, .int 0), (2, .ref 90), (1, .ref 1), (0, .ref 0)]) (st' := [.int 0, .ref 0, .int 48, .ref 1]) (w' := (fw (sz a0 48 0 a3 a4 a5))) (cs' := 109) (ss' := 12668) ?_ (fun _ _ => rfl)
  refine go_seg 5 (pc' := 297) (ls' := [(3, .int 0), (2, .ref 90), (1, .ref 1), (0, .ref 0)]) (st' := [.int 0, .int 48, .ref 1]) (w' := (fw (sz a0 48 0 a3 a4 a5))) (cs' := 109) (ss' := 12668) ?_ (fun _ _ => rfl)
  refine go_cl (k := 20) (st' := [.int 0]) (cs' := 109) (ss' := 12668) rfl rfl rfl rfl rfl rfl rfl (ro_2055 (sz a0 48 0 a3 a4 a5)) ?_
  refine go_seg 8 (pc' := 308) (ls' := [(3, .int 0), (2, .ref 90), (1, .ref 1), (0, .ref 0)]) (st' := [.int 0, .ref 0, .int 48, .ref 90, .int 0]) (w' := (wd_1440 (sz a0 48 0 a3 a4 a5))) (cs' := 109) (ss' := 12668) ?_ (fun _ _ => rfl)
  refine go_seg 5 (pc' := 319) (ls' := [(3, .int 0), (2, .ref 90), (1, .ref 1), (0, .ref 0)]) (st' := [.int 0, .int 48, .ref 90, .int 0]) (w' := (wd_1440 (sz a0 48 0 a3 a4 a5))) (cs' := 109) (ss' := 12668) ?_ (fun _ _ => rfl)
  refine go_cl (k := 20) (st' := [.int 0, .int 0]) (cs' := 109) (ss' := 12668) rfl rfl rfl rfl rfl rfl rfl (ro_2058 (sz a0 48 0 a3 a4 a5)) ?_
  refine go_cmp true rfl (br_self _) ?_
  exact law_tail (f := sc a0 48 0 a3 a4 a5) rfl
def wd_1442 (z : pq_C) : pq_W := ((fw z).set 4 (.inl (.boolean, 64, .inl (upd (fun _ => 0) 49 0))))
theorem ro_2062 (z : pq_C) : pq_Ru 2 22 [.ref 1, .int 49, .int 0] (fw z) (some (.int 0), (wd_1442 z)) := by
  refine ru_of (k := 1) (M := pm_22) rfl rfl ?_
  refine go_seg 1 (pc' := 1) (ls' := [(0, .ref 1), (1, .int 49), (2, .int 0)]) (st' := [.int 49]) (w' := (fw z)) (cs' := 0) (ss' := 0) ?_ (fun _ _ => rfl)
  refine go_cl (k := 1) (st' := [.int 1]) (cs' := 0) (ss' := 0) rfl rfl rfl rfl rfl rfl rfl (ro_1585 z) ?_
  refine go_seg 8 (pc' := 24) (ls' := [(3, .int 0), (0, .ref 1), (1, .int 49), (2, .int 0)]) (st' := [.ref 1]) (w' := (fw z)) (cs' := 0) (ss' := 0) ?_ (fun _ _ => rfl)
  refine go_seg 8 (pc' := 38) (ls' := [(3, .int 0), (0, .ref 1), (1, .int 49), (2, .int 0)]) (st' := []) (w' := (wd_1442 z)) (cs' := 0) (ss' := 0) ?_ (fun _ _ => rfl)
  exact go_end 3 (fun _ _ => rfl)
theorem ro_2063 (z : pq_C) : pq_Ru 1 161 [.long 49, .long 0, .long 63] (wd_1442 z) (some (.int 1), (wd_1442 z)) := by
  refine ru_of (k := 0) (M := pm_161) rfl rfl ?_
  refine go_seg 8 (pc' := 13) (ls' := [(0, .long 49), (2, .long 0), (4, .long 63)]) (st' := []) (w' := (wd_1442 z)) (cs' := 0) (ss' := 0) ?_ (fun _ _ => rfl)
  exact go_end 3 (fun _ _ => rfl)
theorem ro_2064 (z : pq_C) : pq_Ru 2 160 [.int 49] (wd_1442 z) (some (.int 1), (wd_1442 z)) := by
  refine ru_of (k := 1) (M := pm_160) rfl rfl ?_
  refine go_seg 4 (pc' := 6) (ls' := [(0, .int 49)]) (st' := [.long 63, .long 0, .long 49]) (w' := (wd_1442 z)) (cs' := 0) (ss' := 0) ?_ (fun _ _ => rfl)
  refine go_cl (k := 1) (st' := [.int 1]) (cs' := 0) (ss' := 0) rfl rfl rfl rfl rfl rfl rfl (ro_2063 z) ?_
  exact go_end 1 (fun _ _ => rfl)
def wd_1443 (z : pq_C) : pq_W := ((wd_1442 z).set 91 (.inl (.int, 2858, .inl (upd (upd (upd (upd (upd (upd (upd (upd (upd (upd (upd (upd (upd (upd (upd (upd (upd (upd (upd (upd (upd (upd (upd (upd (upd (upd (upd (upd (upd (upd (upd (upd (upd (upd (upd (upd (upd (upd (upd (upd (upd (upd (upd (upd (upd (upd (upd (upd (upd (upd (upd (upd (upd (upd (upd (upd (upd (upd (upd (upd (upd (upd (upd (upd (upd (upd (upd (upd (upd (upd (upd (upd (upd (upd (upd (upd (upd (upd (upd (upd (upd (upd (fun _ => 0) 1 10) 10 (-1)) 11 (-1)) 12 (-1)) 13 (-1)) 14 (-1)) 15 (-1)) 16 (-1)) 17 (-1)) 18 (-1)) 19 (-1)) 20 (-1)) 21 (-1)) 22 (-1)) 23 (-1)) 24 (-1)) 25 (-1)) 26 (-1)) 27 (-1)) 28 (-1)) 29 (-1)) 30 (-1)) 31 (-1)) 32 (-1)) 33 (-1)) 34 (-1)) 35 (-1)) 36 (-1)) 37 (-1)) 38 (-1)) 39 (-1)) 40 (-1)) 41 (-1)) 42 (-1)) 43 (-1)) 44 (-1)) 45 (-1)) 46 (-1)) 47 (-1)) 48 (-1)) 49 (-1)) 50 (-1)) 51 (-1)) 52 (-1)) 53 (-1)) 54 (-1)) 55 (-1)) 56 (-1)) 57 (-1)) 58 (-1)) 59 (-1)) 60 (-1)) 61 (-1)) 62 (-1)) 63 (-1)) 64 (-1)) 65 (-1)) 66 (-1)) 67 (-1)) 68 (-1)) 69 (-1)) 70 (-1)) 71 (-1)) 72 (-1)) 73 (-1)) 139 1000) 140 100) 145 1000) 146 100) 151 1000) 152 100) 157 1000) 158 100) 163 1000) 164 100) 169 1000) 170 100) 175 1000) 176 100) 181 1000) 182 100) 123 0))))
theorem ro_2065 (z : pq_C) : pq_Ru 3 165 [.ref 90, .int 49, .int 0] (wd_1442 z) (some (.int 0), (wd_1443 z)) := by
  refine ru_of (k := 2) (M := pm_165) rfl rfl ?_
  refine go_seg 1 (pc' := 1) (ls' := [(0, .ref 90), (1, .int 49), (2, .int 0)]) (st' := [.int 49]) (w' := (wd_1442 z)) (cs' := 0) (ss' := 0) ?_ (fun _ _ => rfl)
  refine go_cl (k := 2) (st' := [.int 1]) (cs' := 0) (ss' := 0) rfl rfl rfl rfl rfl rfl rfl (ro_2064 z) ?_
  refine go_seg 8 (pc' := 24) (ls' := [(0, .ref 90), (1, .int 49), (2, .int 0)]) (st' := [.int 0, .int 0]) (w' := (wd_1442 z)) (cs' := 0) (ss' := 0) ?_ (fun _ _ => rfl)
  refine go_seg 8 (pc' := 47) (ls' := [(3, .int 0), (0, .ref 90), (1, .int 49), (2, .int 0)]) (st' := [.int 74, .ref 91]) (w' := (wd_1442 z)) (cs' := 0) (ss' := 0) ?_ (fun _ _ => rfl)
  exact go_end 8 (fun _ _ => rfl)
theorem lf_2_2067 (a0 : Int32) (a3 : Int32) (a4 : Int32) (a5 : Int32) : ∃ w', pq_Go 20 pm_law 278 [(3, .int 0), (2, .ref 90), (1, .ref 1), (0, .ref 0)] [] (fw (sz a0 49 0 a3 a4 a5)) 109 12668 (some (.int 1), w') := by
  refine ⟨(wd_1443 (sz a0 49 0 a3 a4 a5)), ?_⟩
  refine go_seg 8 (pc' := 286) (ls' := [(3, .int 0), (2, .ref 90), (1, .ref 1), (0, .ref 0)]) (st' := [.int 0, .ref 0, .int 49, .ref 1]) (w' := (fw (sz a0 49 0 a3 a4 a5))) (cs' := 109) (ss' := 12668) ?_ (fun _ _ => rfl)
  refine go_seg 5 (pc' := 297) (ls' := [(3, .int 0), (2, .ref 90), (1, .ref 1), (0, .ref 0)]) (st' := [.int 0, .int 49, .ref 1]) (w' := (fw (sz a0 49 0 a3 a4 a5))) (cs' := 109) (ss' := 12668) ?_ (fun _ _ => rfl)
  refine go_cl (k := 20) (st' := [.int 0]) (cs' := 109) (ss' := 12668) rfl rfl rfl rfl rfl rfl rfl (ro_2062 (sz a0 49 0 a3 a4 a5)) ?_
  refine go_seg 8 (pc' := 308) (ls' := [(3, .int 0), (2, .ref 90), (1, .ref 1), (0, .ref 0)]) (st' := [.int 0, .ref 0, .int 49, .ref 90, .int 0]) (w' := (wd_1442 (sz a0 49 0 a3 a4 a5))) (cs' := 109) (ss' := 12668) ?_ (fun _ _ => rfl)
  refine go_seg 5 (pc' := 319) (ls' := [(3, .int 0), (2, .ref 90), (1, .ref 1), (0, .ref 0)]) (st' := [.int 0, .int 49, .ref 90, .int 0]) (w' := (wd_1442 (sz a0 49 0 a3 a4 a5))) (cs' := 109) (ss' := 12668) ?_ (fun _ _ => rfl)
  refine go_cl (k := 20) (st' := [.int 0, .int 0]) (cs' := 109) (ss' := 12668) rfl rfl rfl rfl rfl rfl rfl (ro_2065 (sz a0 49 0 a3 a4 a5)) ?_
  refine go_cmp true rfl (br_self _) ?_
  exact law_tail (f := sc a0 49 0 a3 a4 a5) rfl
def wd_1444 (z : pq_C) : pq_W := ((fw z).set 4 (.inl (.boolean, 64, .inl (upd (fun _ => 0) 50 0))))
theorem ro_2069 (z : pq_C) : pq_Ru 2 22 [.ref 1, .int 50, .int 0] (fw z) (some (.int 0), (wd_1444 z)) := by
  refine ru_of (k := 1) (M := pm_22) rfl rfl ?_
  refine go_seg 1 (pc' := 1) (ls' := [(0, .ref 1), (1, .int 50), (2, .int 0)]) (st' := [.int 50]) (w' := (fw z)) (cs' := 0) (ss' := 0) ?_ (fun _ _ => rfl)
  refine go_cl (k := 1) (st' := [.int 1]) (cs' := 0) (ss' := 0) rfl rfl rfl rfl rfl rfl rfl (ro_1593 z) ?_
  refine go_seg 8 (pc' := 24) (ls' := [(3, .int 0), (0, .ref 1), (1, .int 50), (2, .int 0)]) (st' := [.ref 1]) (w' := (fw z)) (cs' := 0) (ss' := 0) ?_ (fun _ _ => rfl)
  refine go_seg 8 (pc' := 38) (ls' := [(3, .int 0), (0, .ref 1), (1, .int 50), (2, .int 0)]) (st' := []) (w' := (wd_1444 z)) (cs' := 0) (ss' := 0) ?_ (fun _ _ => rfl)
  exact go_end 3 (fun _ _ => rfl)
theorem ro_2070 (z : pq_C) : pq_Ru 1 161 [.long 50, .long 0, .long 63] (wd_1444 z) (some (.int 1), (wd_1444 z)) := by
  refine ru_of (k := 0) (M := pm_161) rfl rfl ?_
  refine go_seg 8 (pc' := 13) (ls' := [(0, .long 50), (2, .long 0), (4, .long 63)]) (st' := []) (w' := (wd_1444 z)) (cs' := 0) (ss' := 0) ?_ (fun _ _ => rfl)
  exact go_end 3 (fun _ _ => rfl)
theorem ro_2071 (z : pq_C) : pq_Ru 2 160 [.int 50] (wd_1444 z) (some (.int 1), (wd_1444 z)) := by
  refine ru_of (k := 1) (M := pm_160) rfl rfl ?_
  refine go_seg 4 (pc' := 6) (ls' := [(0, .int 50)]) (st' := [.long 63, .long 0, .long 50]) (w' := (wd_1444 z)) (cs' := 0) (ss' := 0) ?_ (fun _ _ => rfl)
  refine go_cl (k := 1) (st' := [.int 1]) (cs' := 0) (ss' := 0) rfl rfl rfl rfl rfl rfl rfl (ro_2070 z) ?_
  exact go_end 1 (fun _ _ => rfl)
def wd_1445 (z : pq_C) : pq_W := ((wd_1444 z).set 91 (.inl (.int, 2858, .inl (upd (upd (upd (upd (upd (upd (upd (upd (upd (upd (upd (upd (upd (upd (upd (upd (upd (upd (upd (upd (upd (upd (upd (upd (upd (upd (upd (upd (upd (upd (upd (upd (upd (upd (upd (upd (upd (upd (upd (upd (upd (upd (upd (upd (upd (upd (upd (upd (upd (upd (upd (upd (upd (upd (upd (upd (upd (upd (upd (upd (upd (upd (upd (upd (upd (upd (upd (upd (upd (upd (upd (upd (upd (upd (upd (upd (upd (upd (upd (upd (upd (upd (fun _ => 0) 1 10) 10 (-1)) 11 (-1)) 12 (-1)) 13 (-1)) 14 (-1)) 15 (-1)) 16 (-1)) 17 (-1)) 18 (-1)) 19 (-1)) 20 (-1)) 21 (-1)) 22 (-1)) 23 (-1)) 24 (-1)) 25 (-1)) 26 (-1)) 27 (-1)) 28 (-1)) 29 (-1)) 30 (-1)) 31 (-1)) 32 (-1)) 33 (-1)) 34 (-1)) 35 (-1)) 36 (-1)) 37 (-1)) 38 (-1)) 39 (-1)) 40 (-1)) 41 (-1)) 42 (-1)) 43 (-1)) 44 (-1)) 45 (-1)) 46 (-1)) 47 (-1)) 48 (-1)) 49 (-1)) 50 (-1)) 51 (-1)) 52 (-1)) 53 (-1)) 54 (-1)) 55 (-1)) 56 (-1)) 57 (-1)) 58 (-1)) 59 (-1)) 60 (-1)) 61 (-1)) 62 (-1)) 63 (-1)) 64 (-1)) 65 (-1)) 66 (-1)) 67 (-1)) 68 (-1)) 69 (-1)) 70 (-1)) 71 (-1)) 72 (-1)) 73 (-1)) 139 1000) 140 100) 145 1000) 146 100) 151 1000) 152 100) 157 1000) 158 100) 163 1000) 164 100) 169 1000) 170 100) 175 1000) 176 100) 181 1000) 182 100) 124 0))))
theorem ro_2072 (z : pq_C) : pq_Ru 3 165 [.ref 90, .int 50, .int 0] (wd_1444 z) (some (.int 0), (wd_1445 z)) := by
  refine ru_of (k := 2) (M := pm_165) rfl rfl ?_
  refine go_seg 1 (pc' := 1) (ls' := [(0, .ref 90), (1, .int 50), (2, .int 0)]) (st' := [.int 50]) (w' := (wd_1444 z)) (cs' := 0) (ss' := 0) ?_ (fun _ _ => rfl)
  refine go_cl (k := 2) (st' := [.int 1]) (cs' := 0) (ss' := 0) rfl rfl rfl rfl rfl rfl rfl (ro_2071 z) ?_
  refine go_seg 8 (pc' := 24) (ls' := [(0, .ref 90), (1, .int 50), (2, .int 0)]) (st' := [.int 0, .int 0]) (w' := (wd_1444 z)) (cs' := 0) (ss' := 0) ?_ (fun _ _ => rfl)
  refine go_seg 8 (pc' := 47) (ls' := [(3, .int 0), (0, .ref 90), (1, .int 50), (2, .int 0)]) (st' := [.int 74, .ref 91]) (w' := (wd_1444 z)) (cs' := 0) (ss' := 0) ?_ (fun _ _ => rfl)
  exact go_end 8 (fun _ _ => rfl)
theorem lf_2_2074 (a0 : Int32) (a3 : Int32) (a4 : Int32) (a5 : Int32) : ∃ w', pq_Go 20 pm_law 278 [(3, .int 0), (2, .ref 90), (1, .ref 1), (0, .ref 0)] [] (fw (sz a0 50 0 a3 a4 a5)) 109 12668 (some (.int 1), w') := by
  refine ⟨(wd_1445 (sz a0 50 0 a3 a4 a5)), ?_⟩
  refine go_seg 8 (pc' := 286) (ls' := [(3, .int 0), (2, .ref 90), (1, .ref 1), (0, .ref 0)]) (st' := [.int 0, .ref 0, .int 50, .ref 1]) (w' := (fw (sz a0 50 0 a3 a4 a5))) (cs' := 109) (ss' := 12668) ?_ (fun _ _ => rfl)
  refine go_seg 5 (pc' := 297) (ls' := [(3, .int 0), (2, .ref 90), (1, .ref 1), (0, .ref 0)]) (st' := [.int 0, .int 50, .ref 1]) (w' := (fw (sz a0 50 0 a3 a4 a5))) (cs' := 109) (ss' := 12668) ?_ (fun _ _ => rfl)
  refine go_cl (k := 20) (st' := [.int 0]) (cs' := 109) (ss' := 12668) rfl rfl rfl rfl rfl rfl rfl (ro_2069 (sz a0 50 0 a3 a4 a5)) ?_
  refine go_seg 8 (pc' := 308) (ls' := [(3, .int 0), (2, .ref 90), (1, .ref 1), (0, .ref 0)]) (st' := [.int 0, .ref 0, .int 50, .ref 90, .int 0]) (w' := (wd_1444 (sz a0 50 0 a3 a4 a5))) (cs' := 109) (ss' := 12668) ?_ (fun _ _ => rfl)
  refine go_seg 5 (pc' := 319) (ls' := [(3, .int 0), (2, .ref 90), (1, .ref 1), (0, .ref 0)]) (st' := [.int 0, .int 50, .ref 90, .int 0]) (w' := (wd_1444 (sz a0 50 0 a3 a4 a5))) (cs' := 109) (ss' := 12668) ?_ (fun _ _ => rfl)
  refine go_cl (k := 20) (st' := [.int 0, .int 0]) (cs' := 109) (ss' := 12668) rfl rfl rfl rfl rfl rfl rfl (ro_2072 (sz a0 50 0 a3 a4 a5)) ?_
  refine go_cmp true rfl (br_self _) ?_
  exact law_tail (f := sc a0 50 0 a3 a4 a5) rfl
def wd_1446 (z : pq_C) : pq_W := ((fw z).set 4 (.inl (.boolean, 64, .inl (upd (fun _ => 0) 51 0))))
theorem ro_2076 (z : pq_C) : pq_Ru 2 22 [.ref 1, .int 51, .int 0] (fw z) (some (.int 0), (wd_1446 z)) := by
  refine ru_of (k := 1) (M := pm_22) rfl rfl ?_
  refine go_seg 1 (pc' := 1) (ls' := [(0, .ref 1), (1, .int 51), (2, .int 0)]) (st' := [.int 51]) (w' := (fw z)) (cs' := 0) (ss' := 0) ?_ (fun _ _ => rfl)
  refine go_cl (k := 1) (st' := [.int 1]) (cs' := 0) (ss' := 0) rfl rfl rfl rfl rfl rfl rfl (ro_1601 z) ?_
  refine go_seg 8 (pc' := 24) (ls' := [(3, .int 0), (0, .ref 1), (1, .int 51), (2, .int 0)]) (st' := [.ref 1]) (w' := (fw z)) (cs' := 0) (ss' := 0) ?_ (fun _ _ => rfl)
  refine go_seg 8 (pc' := 38) (ls' := [(3, .int 0), (0, .ref 1), (1, .int 51), (2, .int 0)]) (st' := []) (w' := (wd_1446 z)) (cs' := 0) (ss' := 0) ?_ (fun _ _ => rfl)
  exact go_end 3 (fun _ _ => rfl)
theorem ro_2077 (z : pq_C) : pq_Ru 1 161 [.long 51, .long 0, .long 63] (wd_1446 z) (some (.int 1), (wd_1446 z)) := by
  refine ru_of (k := 0) (M := pm_161) rfl rfl ?_
  refine go_seg 8 (pc' := 13) (ls' := [(0, .long 51), (2, .long 0), (4, .long 63)]) (st' := []) (w' := (wd_1446 z)) (cs' := 0) (ss' := 0) ?_ (fun _ _ => rfl)
  exact go_end 3 (fun _ _ => rfl)
theorem ro_2078 (z : pq_C) : pq_Ru 2 160 [.int 51] (wd_1446 z) (some (.int 1), (wd_1446 z)) := by
  refine ru_of (k := 1) (M := pm_160) rfl rfl ?_
  refine go_seg 4 (pc' := 6) (ls' := [(0, .int 51)]) (st' := [.long 63, .long 0, .long 51]) (w' := (wd_1446 z)) (cs' := 0) (ss' := 0) ?_ (fun _ _ => rfl)
  refine go_cl (k := 1) (st' := [.int 1]) (cs' := 0) (ss' := 0) rfl rfl rfl rfl rfl rfl rfl (ro_2077 z) ?_
  exact go_end 1 (fun _ _ => rfl)
def wd_1447 (z : pq_C) : pq_W := ((wd_1446 z).set 91 (.inl (.int, 2858, .inl (upd (upd (upd (upd (upd (upd (upd (upd (upd (upd (upd (upd (upd (upd (upd (upd (upd (upd (upd (upd (upd (upd (upd (upd (upd (upd (upd (upd (upd (upd (upd (upd (upd (upd (upd (upd (upd (upd (upd (upd (upd (upd (upd (upd (upd (upd (upd (upd (upd (upd (upd (upd (upd (upd (upd (upd (upd (upd (upd (upd (upd (upd (upd (upd (upd (upd (upd (upd (upd (upd (upd (upd (upd (upd (upd (upd (upd (upd (upd (upd (upd (upd (fun _ => 0) 1 10) 10 (-1)) 11 (-1)) 12 (-1)) 13 (-1)) 14 (-1)) 15 (-1)) 16 (-1)) 17 (-1)) 18 (-1)) 19 (-1)) 20 (-1)) 21 (-1)) 22 (-1)) 23 (-1)) 24 (-1)) 25 (-1)) 26 (-1)) 27 (-1)) 28 (-1)) 29 (-1)) 30 (-1)) 31 (-1)) 32 (-1)) 33 (-1)) 34 (-1)) 35 (-1)) 36 (-1)) 37 (-1)) 38 (-1)) 39 (-1)) 40 (-1)) 41 (-1)) 42 (-1)) 43 (-1)) 44 (-1)) 45 (-1)) 46 (-1)) 47 (-1)) 48 (-1)) 49 (-1)) 50 (-1)) 51 (-1)) 52 (-1)) 53 (-1)) 54 (-1)) 55 (-1)) 56 (-1)) 57 (-1)) 58 (-1)) 59 (-1)) 60 (-1)) 61 (-1)) 62 (-1)) 63 (-1)) 64 (-1)) 65 (-1)) 66 (-1)) 67 (-1)) 68 (-1)) 69 (-1)) 70 (-1)) 71 (-1)) 72 (-1)) 73 (-1)) 139 1000) 140 100) 145 1000) 146 100) 151 1000) 152 100) 157 1000) 158 100) 163 1000) 164 100) 169 1000) 170 100) 175 1000) 176 100) 181 1000) 182 100) 125 0))))
theorem ro_2079 (z : pq_C) : pq_Ru 3 165 [.ref 90, .int 51, .int 0] (wd_1446 z) (some (.int 0), (wd_1447 z)) := by
  refine ru_of (k := 2) (M := pm_165) rfl rfl ?_
  refine go_seg 1 (pc' := 1) (ls' := [(0, .ref 90), (1, .int 51), (2, .int 0)]) (st' := [.int 51]) (w' := (wd_1446 z)) (cs' := 0) (ss' := 0) ?_ (fun _ _ => rfl)
  refine go_cl (k := 2) (st' := [.int 1]) (cs' := 0) (ss' := 0) rfl rfl rfl rfl rfl rfl rfl (ro_2078 z) ?_
  refine go_seg 8 (pc' := 24) (ls' := [(0, .ref 90), (1, .int 51), (2, .int 0)]) (st' := [.int 0, .int 0]) (w' := (wd_1446 z)) (cs' := 0) (ss' := 0) ?_ (fun _ _ => rfl)
  refine go_seg 8 (pc' := 47) (ls' := [(3, .int 0), (0, .ref 90), (1, .int 51), (2, .int 0)]) (st' := [.int 74, .ref 91]) (w' := (wd_1446 z)) (cs' := 0) (ss' := 0) ?_ (fun _ _ => rfl)
  exact go_end 8 (fun _ _ => rfl)
theorem lf_2_2081 (a0 : Int32) (a3 : Int32) (a4 : Int32) (a5 : Int32) : ∃ w', pq_Go 20 pm_law 278 [(3, .int 0), (2, .ref 90), (1, .ref 1), (0, .ref 0)] [] (fw (sz a0 51 0 a3 a4 a5)) 109 12668 (some (.int 1), w') := by
  refine ⟨(wd_1447 (sz a0 51 0 a3 a4 a5)), ?_⟩
  refine go_seg 8 (pc' := 286) (ls' := [(3, .int 0), (2, .ref 90), (1, .ref 1), (0, .ref 0)]) (st' := [.int 0, .ref 0, .int 51, .ref 1]) (w' := (fw (sz a0 51 0 a3 a4 a5))) (cs' := 109) (ss' := 12668) ?_ (fun _ _ => rfl)
  refine go_seg 5 (pc' := 297) (ls' := [(3, .int 0), (2, .ref 90), (1, .ref 1), (0, .ref 0)]) (st' := [.int 0, .int 51, .ref 1]) (w' := (fw (sz a0 51 0 a3 a4 a5))) (cs' := 109) (ss' := 12668) ?_ (fun _ _ => rfl)
  refine go_cl (k := 20) (st' := [.int 0]) (cs' := 109) (ss' := 12668) rfl rfl rfl rfl rfl rfl rfl (ro_2076 (sz a0 51 0 a3 a4 a5)) ?_
  refine go_seg 8 (pc' := 308) (ls' := [(3, .int 0), (2, .ref 90), (1, .ref 1), (0, .ref 0)]) (st' := [.int 0, .ref 0, .int 51, .ref 90, .int 0]) (w' := (wd_1446 (sz a0 51 0 a3 a4 a5))) (cs' := 109) (ss' := 12668) ?_ (fun _ _ => rfl)
  refine go_seg 5 (pc' := 319) (ls' := [(3, .int 0), (2, .ref 90), (1, .ref 1), (0, .ref 0)]) (st' := [.int 0, .int 51, .ref 90, .int 0]) (w' := (wd_1446 (sz a0 51 0 a3 a4 a5))) (cs' := 109) (ss' := 12668) ?_ (fun _ _ => rfl)
  refine go_cl (k := 20) (st' := [.int 0, .int 0]) (cs' := 109) (ss' := 12668) rfl rfl rfl rfl rfl rfl rfl (ro_2079 (sz a0 51 0 a3 a4 a5)) ?_
  refine go_cmp true rfl (br_self _) ?_
  exact law_tail (f := sc a0 51 0 a3 a4 a5) rfl
def wd_1448 (z : pq_C) : pq_W := ((fw z).set 4 (.inl (.boolean, 64, .inl (upd (fun _ => 0) 52 0))))
theorem ro_2083 (z : pq_C) : pq_Ru 2 22 [.ref 1, .int 52, .int 0] (fw z) (some (.int 0), (wd_1448 z)) := by
  refine ru_of (k := 1) (M := pm_22) rfl rfl ?_
  refine go_seg 1 (pc' := 1) (ls' := [(0, .ref 1), (1, .int 52), (2, .int 0)]) (st' := [.int 52]) (w' := (fw z)) (cs' := 0) (ss' := 0) ?_ (fun _ _ => rfl)
  refine go_cl (k := 1) (st' := [.int 1]) (cs' := 0) (ss' := 0) rfl rfl rfl rfl rfl rfl rfl (ro_1609 z) ?_
  refine go_seg 8 (pc' := 24) (ls' := [(3, .int 0), (0, .ref 1), (1, .int 52), (2, .int 0)]) (st' := [.ref 1]) (w' := (fw z)) (cs' := 0) (ss' := 0) ?_ (fun _ _ => rfl)
  refine go_seg 8 (pc' := 38) (ls' := [(3, .int 0), (0, .ref 1), (1, .int 52), (2, .int 0)]) (st' := []) (w' := (wd_1448 z)) (cs' := 0) (ss' := 0) ?_ (fun _ _ => rfl)
  exact go_end 3 (fun _ _ => rfl)
theorem ro_2084 (z : pq_C) : pq_Ru 1 161 [.long 52, .long 0, .long 63] (wd_1448 z) (some (.int 1), (wd_1448 z)) := by
  refine ru_of (k := 0) (M := pm_161) rfl rfl ?_
  refine go_seg 8 (pc' := 13) (ls' := [(0, .long 52), (2, .long 0), (4, .long 63)]) (st' := []) (w' := (wd_1448 z)) (cs' := 0) (ss' := 0) ?_ (fun _ _ => rfl)
  exact go_end 3 (fun _ _ => rfl)
theorem ro_2085 (z : pq_C) : pq_Ru 2 160 [.int 52] (wd_1448 z) (some (.int 1), (wd_1448 z)) := by
  refine ru_of (k := 1) (M := pm_160) rfl rfl ?_
  refine go_seg 4 (pc' := 6) (ls' := [(0, .int 52)]) (st' := [.long 63, .long 0, .long 52]) (w' := (wd_1448 z)) (cs' := 0) (ss' := 0) ?_ (fun _ _ => rfl)
  refine go_cl (k := 1) (st' := [.int 1]) (cs' := 0) (ss' := 0) rfl rfl rfl rfl rfl rfl rfl (ro_2084 z) ?_
  exact go_end 1 (fun _ _ => rfl)
def wd_1449 (z : pq_C) : pq_W := ((wd_1448 z).set 91 (.inl (.int, 2858, .inl (upd (upd (upd (upd (upd (upd (upd (upd (upd (upd (upd (upd (upd (upd (upd (upd (upd (upd (upd (upd (upd (upd (upd (upd (upd (upd (upd (upd (upd (upd (upd (upd (upd (upd (upd (upd (upd (upd (upd (upd (upd (upd (upd (upd (upd (upd (upd (upd (upd (upd (upd (upd (upd (upd (upd (upd (upd (upd (upd (upd (upd (upd (upd (upd (upd (upd (upd (upd (upd (upd (upd (upd (upd (upd (upd (upd (upd (upd (upd (upd (upd (upd (fun _ => 0) 1 10) 10 (-1)) 11 (-1)) 12 (-1)) 13 (-1)) 14 (-1)) 15 (-1)) 16 (-1)) 17 (-1)) 18 (-1)) 19 (-1)) 20 (-1)) 21 (-1)) 22 (-1)) 23 (-1)) 24 (-1)) 25 (-1)) 26 (-1)) 27 (-1)) 28 (-1)) 29 (-1)) 30 (-1)) 31 (-1)) 32 (-1)) 33 (-1)) 34 (-1)) 35 (-1)) 36 (-1)) 37 (-1)) 38 (-1)) 39 (-1)) 40 (-1)) 41 (-1)) 42 (-1)) 43 (-1)) 44 (-1)) 45 (-1)) 46 (-1)) 47 (-1)) 48 (-1)) 49 (-1)) 50 (-1)) 51 (-1)) 52 (-1)) 53 (-1)) 54 (-1)) 55 (-1)) 56 (-1)) 57 (-1)) 58 (-1)) 59 (-1)) 60 (-1)) 61 (-1)) 62 (-1)) 63 (-1)) 64 (-1)) 65 (-1)) 66 (-1)) 67 (-1)) 68 (-1)) 69 (-1)) 70 (-1)) 71 (-1)) 72 (-1)) 73 (-1)) 139 1000) 140 100) 145 1000) 146 100) 151 1000) 152 100) 157 1000) 158 100) 163 1000) 164 100) 169 1000) 170 100) 175 1000) 176 100) 181 1000) 182 100) 126 0))))
theorem ro_2086 (z : pq_C) : pq_Ru 3 165 [.ref 90, .int 52, .int 0] (wd_1448 z) (some (.int 0), (wd_1449 z)) := by
  refine ru_of (k := 2) (M := pm_165) rfl rfl ?_
  refine go_seg 1 (pc' := 1) (ls' := [(0, .ref 90), (1, .int 52), (2, .int 0)]) (st' := [.int 52]) (w' := (wd_1448 z)) (cs' := 0) (ss' := 0) ?_ (fun _ _ => rfl)
  refine go_cl (k := 2) (st' := [.int 1]) (cs' := 0) (ss' := 0) rfl rfl rfl rfl rfl rfl rfl (ro_2085 z) ?_
  refine go_seg 8 (pc' := 24) (ls' := [(0, .ref 90), (1, .int 52), (2, .int 0)]) (st' := [.int 0, .int 0]) (w' := (wd_1448 z)) (cs' := 0) (ss' := 0) ?_ (fun _ _ => rfl)
  refine go_seg 8 (pc' := 47) (ls' := [(3, .int 0), (0, .ref 90), (1, .int 52), (2, .int 0)]) (st' := [.int 74, .ref 91]) (w' := (wd_1448 z)) (cs' := 0) (ss' := 0) ?_ (fun _ _ => rfl)
  exact go_end 8 (fun _ _ => rfl)
theorem lf_2_2088 (a0 : Int32) (a3 : Int32) (a4 : Int32) (a5 : Int32) : ∃ w', pq_Go 20 pm_law 278 [(3, .int 0), (2, .ref 90), (1, .ref 1), (0, .ref 0)] [] (fw (sz a0 52 0 a3 a4 a5)) 109 12668 (some (.int 1), w') := by
  refine ⟨(wd_1449 (sz a0 52 0 a3 a4 a5)), ?_⟩
  refine go_seg 8 (pc' := 286) (ls' := [(3, .int 0), (2, .ref 90), (1, .ref 1), (0, .ref 0)]) (st' := [.int 0, .ref 0, .int 52, .ref 1]) (w' := (fw (sz a0 52 0 a3 a4 a5))) (cs' := 109) (ss' := 12668) ?_ (fun _ _ => rfl)
  refine go_seg 5 (pc' := 297) (ls' := [(3, .int 0), (2, .ref 90), (1, .ref 1), (0, .ref 0)]) (st' := [.int 0, .int 52, .ref 1]) (w' := (fw (sz a0 52 0 a3 a4 a5))) (cs' := 109) (ss' := 12668) ?_ (fun _ _ => rfl)
  refine go_cl (k := 20) (st' := [.int 0]) (cs' := 109) (ss' := 12668) rfl rfl rfl rfl rfl rfl rfl (ro_2083 (sz a0 52 0 a3 a4 a5)) ?_
  refine go_seg 8 (pc' := 308) (ls' := [(3, .int 0), (2, .ref 90), (1, .ref 1), (0, .ref 0)]) (st' := [.int 0, .ref 0, .int 52, .ref 90, .int 0]) (w' := (wd_1448 (sz a0 52 0 a3 a4 a5))) (cs' := 109) (ss' := 12668) ?_ (fun _ _ => rfl)
  refine go_seg 5 (pc' := 319) (ls' := [(3, .int 0), (2, .ref 90), (1, .ref 1), (0, .ref 0)]) (st' := [.int 0, .int 52, .ref 90, .int 0]) (w' := (wd_1448 (sz a0 52 0 a3 a4 a5))) (cs' := 109) (ss' := 12668) ?_ (fun _ _ => rfl)
  refine go_cl (k := 20) (st' := [.int 0, .int 0]) (cs' := 109) (ss' := 12668) rfl rfl rfl rfl rfl rfl rfl (ro_2086 (sz a0 52 0 a3 a4 a5)) ?_
  refine go_cmp true rfl (br_self _) ?_
  exact law_tail (f := sc a0 52 0 a3 a4 a5) rfl
def wd_1450 (z : pq_C) : pq_W := ((fw z).set 4 (.inl (.boolean, 64, .inl (upd (fun _ => 0) 53 0))))
theorem ro_2090 (z : pq_C) : pq_Ru 2 22 [.ref 1, .int 53, .int 0] (fw z) (some (.int 0), (wd_1450 z)) := by
  refine ru_of (k := 1) (M := pm_22) rfl rfl ?_
  refine go_seg 1 (pc' := 1) (ls' := [(0, .ref 1), (1, .int 53), (2, .int 0)]) (st' := [.int 53]) (w' := (fw z)) (cs' := 0) (ss' := 0) ?_ (fun _ _ => rfl)
  refine go_cl (k := 1) (st' := [.int 1]) (cs' := 0) (ss' := 0) rfl rfl rfl rfl rfl rfl rfl (ro_1617 z) ?_
  refine go_seg 8 (pc' := 24) (ls' := [(3, .int 0), (0, .ref 1), (1, .int 53), (2, .int 0)]) (st' := [.ref 1]) (w' := (fw z)) (cs' := 0) (ss' := 0) ?_ (fun _ _ => rfl)
  refine go_seg 8 (pc' := 38) (ls' := [(3, .int 0), (0, .ref 1), (1, .int 53), (2, .int 0)]) (st' := []) (w' := (wd_1450 z)) (cs' := 0) (ss' := 0) ?_ (fun _ _ => rfl)
  exact go_end 3 (fun _ _ => rfl)
theorem ro_2091 (z : pq_C) : pq_Ru 1 161 [.long 53, .long 0, .long 63] (wd_1450 z) (some (.int 1), (wd_1450 z)) := by
  refine ru_of (k := 0) (M := pm_161) rfl rfl ?_
  refine go_seg 8 (pc' := 13) (ls' := [(0, .long 53), (2, .long 0), (4, .long 63)]) (st' := []) (w' := (wd_1450 z)) (cs' := 0) (ss' := 0) ?_ (fun _ _ => rfl)
  exact go_end 3 (fun _ _ => rfl)
theorem ro_2092 (z : pq_C) : pq_Ru 2 160 [.int 53] (wd_1450 z) (some (.int 1), (wd_1450 z)) := by
  refine ru_of (k := 1) (M := pm_160) rfl rfl ?_
  refine go_seg 4 (pc' := 6) (ls' := [(0, .int 53)]) (st' := [.long 63, .long 0, .long 53]) (w' := (wd_1450 z)) (cs' := 0) (ss' := 0) ?_ (fun _ _ => rfl)
  refine go_cl (k := 1) (st' := [.int 1]) (cs' := 0) (ss' := 0) rfl rfl rfl rfl rfl rfl rfl (ro_2091 z) ?_
  exact go_end 1 (fun _ _ => rfl)
def wd_1451 (z : pq_C) : pq_W := ((wd_1450 z).set 91 (.inl (.int, 2858, .inl (upd (upd (upd (upd (upd (upd (upd (upd (upd (upd (upd (upd (upd (upd (upd (upd (upd (upd (upd (upd (upd (upd (upd (upd (upd (upd (upd (upd (upd (upd (upd (upd (upd (upd (upd (upd (upd (upd (upd (upd (upd (upd (upd (upd (upd (upd (upd (upd (upd (upd (upd (upd (upd (upd (upd (upd (upd (upd (upd (upd (upd (upd (upd (upd (upd (upd (upd (upd (upd (upd (upd (upd (upd (upd (upd (upd (upd (upd (upd (upd (upd (upd (fun _ => 0) 1 10) 10 (-1)) 11 (-1)) 12 (-1)) 13 (-1)) 14 (-1)) 15 (-1)) 16 (-1)) 17 (-1)) 18 (-1)) 19 (-1)) 20 (-1)) 21 (-1)) 22 (-1)) 23 (-1)) 24 (-1)) 25 (-1)) 26 (-1)) 27 (-1)) 28 (-1)) 29 (-1)) 30 (-1)) 31 (-1)) 32 (-1)) 33 (-1)) 34 (-1)) 35 (-1)) 36 (-1)) 37 (-1)) 38 (-1)) 39 (-1)) 40 (-1)) 41 (-1)) 42 (-1)) 43 (-1)) 44 (-1)) 45 (-1)) 46 (-1)) 47 (-1)) 48 (-1)) 49 (-1)) 50 (-1)) 51 (-1)) 52 (-1)) 53 (-1)) 54 (-1)) 55 (-1)) 56 (-1)) 57 (-1)) 58 (-1)) 59 (-1)) 60 (-1)) 61 (-1)) 62 (-1)) 63 (-1)) 64 (-1)) 65 (-1)) 66 (-1)) 67 (-1)) 68 (-1)) 69 (-1)) 70 (-1)) 71 (-1)) 72 (-1)) 73 (-1)) 139 1000) 140 100) 145 1000) 146 100) 151 1000) 152 100) 157 1000) 158 100) 163 1000) 164 100) 169 1000) 170 100) 175 1000) 176 100) 181 1000) 182 100) 127 0))))
theorem ro_2093 (z : pq_C) : pq_Ru 3 165 [.ref 90, .int 53, .int 0] (wd_1450 z) (some (.int 0), (wd_1451 z)) := by
  refine ru_of (k := 2) (M := pm_165) rfl rfl ?_
  refine go_seg 1 (pc' := 1) (ls' := [(0, .ref 90), (1, .int 53), (2, .int 0)]) (st' := [.int 53]) (w' := (wd_1450 z)) (cs' := 0) (ss' := 0) ?_ (fun _ _ => rfl)
  refine go_cl (k := 2) (st' := [.int 1]) (cs' := 0) (ss' := 0) rfl rfl rfl rfl rfl rfl rfl (ro_2092 z) ?_
  refine go_seg 8 (pc' := 24) (ls' := [(0, .ref 90), (1, .int 53), (2, .int 0)]) (st' := [.int 0, .int 0]) (w' := (wd_1450 z)) (cs' := 0) (ss' := 0) ?_ (fun _ _ => rfl)
  refine go_seg 8 (pc' := 47) (ls' := [(3, .int 0), (0, .ref 90), (1, .int 53), (2, .int 0)]) (st' := [.int 74, .ref 91]) (w' := (wd_1450 z)) (cs' := 0) (ss' := 0) ?_ (fun _ _ => rfl)
  exact go_end 8 (fun _ _ => rfl)
theorem lf_2_2095 (a0 : Int32) (a3 : Int32) (a4 : Int32) (a5 : Int32) : ∃ w', pq_Go 20 pm_law 278 [(3, .int 0), (2, .ref 90), (1, .ref 1), (0, .ref 0)] [] (fw (sz a0 53 0 a3 a4 a5)) 109 12668 (some (.int 1), w') := by
  refine ⟨(wd_1451 (sz a0 53 0 a3 a4 a5)), ?_⟩
  refine go_seg 8 (pc' := 286) (ls' := [(3, .int 0), (2, .ref 90), (1, .ref 1), (0, .ref 0)]) (st' := [.int 0, .ref 0, .int 53, .ref 1]) (w' := (fw (sz a0 53 0 a3 a4 a5))) (cs' := 109) (ss' := 12668) ?_ (fun _ _ => rfl)
  refine go_seg 5 (pc' := 297) (ls' := [(3, .int 0), (2, .ref 90), (1, .ref 1), (0, .ref 0)]) (st' := [.int 0, .int 53, .ref 1]) (w' := (fw (sz a0 53 0 a3 a4 a5))) (cs' := 109) (ss' := 12668) ?_ (fun _ _ => rfl)
  refine go_cl (k := 20) (st' := [.int 0]) (cs' := 109) (ss' := 12668) rfl rfl rfl rfl rfl rfl rfl (ro_2090 (sz a0 53 0 a3 a4 a5)) ?_
  refine go_seg 8 (pc' := 308) (ls' := [(3, .int 0), (2, .ref 90), (1, .ref 1), (0, .ref 0)]) (st' := [.int 0, .ref 0, .int 53, .ref 90, .int 0]) (w' := (wd_1450 (sz a0 53 0 a3 a4 a5))) (cs' := 109) (ss' := 12668) ?_ (fun _ _ => rfl)
  refine go_seg 5 (pc' := 319) (ls' := [(3, .int 0), (2, .ref 90), (1, .ref 1), (0, .ref 0)]) (st' := [.int 0, .int 53, .ref 90, .int 0]) (w' := (wd_1450 (sz a0 53 0 a3 a4 a5))) (cs' := 109) (ss' := 12668) ?_ (fun _ _ => rfl)
  refine go_cl (k := 20) (st' := [.int 0, .int 0]) (cs' := 109) (ss' := 12668) rfl rfl rfl rfl rfl rfl rfl (ro_2093 (sz a0 53 0 a3 a4 a5)) ?_
  refine go_cmp true rfl (br_self _) ?_
  exact law_tail (f := sc a0 53 0 a3 a4 a5) rfl
def wd_1452 (z : pq_C) : pq_W := ((fw z).set 4 (.inl (.boolean, 64, .inl (upd (fun _ => 0) 54 0))))
theorem ro_2097 (z : pq_C) : pq_Ru 2 22 [.ref 1, .int 54, .int 0] (fw z) (some (.int 0), (wd_1452 z)) := by
  refine ru_of (k := 1) (M := pm_22) rfl rfl ?_
  refine go_seg 1 (pc' := 1) (ls' := [(0, .ref 1), (1, .int 54), (2, .int 0)]) (st' := [.int 54]) (w' := (fw z)) (cs' := 0) (ss' := 0) ?_ (fun _ _ => rfl)
  refine go_cl (k := 1) (st' := [.int 1]) (cs' := 0) (ss' := 0) rfl rfl rfl rfl rfl rfl rfl (ro_1625 z) ?_
  refine go_seg 8 (pc' := 24) (ls' := [(3, .int 0), (0, .ref 1), (1, .int 54), (2, .int 0)]) (st' := [.ref 1]) (w' := (fw z)) (cs' := 0) (ss' := 0) ?_ (fun _ _ => rfl)
  refine go_seg 8 (pc' := 38) (ls' := [(3, .int 0), (0, .ref 1), (1, .int 54), (2, .int 0)]) (st' := []) (w' := (wd_1452 z)) (cs' := 0) (ss' := 0) ?_ (fun _ _ => rfl)
  exact go_end 3 (fun _ _ => rfl)
theorem ro_2098 (z : pq_C) : pq_Ru 1 161 [.long 54, .long 0, .long 63] (wd_1452 z) (some (.int 1), (wd_1452 z)) := by
  refine ru_of (k := 0) (M := pm_161) rfl rfl ?_
  refine go_seg 8 (pc' := 13) (ls' := [(0, .long 54), (2, .long 0), (4, .long 63)]) (st' := []) (w' := (wd_1452 z)) (cs' := 0) (ss' := 0) ?_ (fun _ _ => rfl)
  exact go_end 3 (fun _ _ => rfl)
theorem ro_2099 (z : pq_C) : pq_Ru 2 160 [.int 54] (wd_1452 z) (some (.int 1), (wd_1452 z)) := by
  refine ru_of (k := 1) (M := pm_160) rfl rfl ?_
  refine go_seg 4 (pc' := 6) (ls' := [(0, .int 54)]) (st' := [.long 63, .long 0, .long 54]) (w' := (wd_1452 z)) (cs' := 0) (ss' := 0) ?_ (fun _ _ => rfl)
  refine go_cl (k := 1) (st' := [.int 1]) (cs' := 0) (ss' := 0) rfl rfl rfl rfl rfl rfl rfl (ro_2098 z) ?_
  exact go_end 1 (fun _ _ => rfl)
def wd_1453 (z : pq_C) : pq_W := ((wd_1452 z).set 91 (.inl (.int, 2858, .inl (upd (upd (upd (upd (upd (upd (upd (upd (upd (upd (upd (upd (upd (upd (upd (upd (upd (upd (upd (upd (upd (upd (upd (upd (upd (upd (upd (upd (upd (upd (upd (upd (upd (upd (upd (upd (upd (upd (upd (upd (upd (upd (upd (upd (upd (upd (upd (upd (upd (upd (upd (upd (upd (upd (upd (upd (upd (upd (upd (upd (upd (upd (upd (upd (upd (upd (upd (upd (upd (upd (upd (upd (upd (upd (upd (upd (upd (upd (upd (upd (upd (upd (fun _ => 0) 1 10) 10 (-1)) 11 (-1)) 12 (-1)) 13 (-1)) 14 (-1)) 15 (-1)) 16 (-1)) 17 (-1)) 18 (-1)) 19 (-1)) 20 (-1)) 21 (-1)) 22 (-1)) 23 (-1)) 24 (-1)) 25 (-1)) 26 (-1)) 27 (-1)) 28 (-1)) 29 (-1)) 30 (-1)) 31 (-1)) 32 (-1)) 33 (-1)) 34 (-1)) 35 (-1)) 36 (-1)) 37 (-1)) 38 (-1)) 39 (-1)) 40 (-1)) 41 (-1)) 42 (-1)) 43 (-1)) 44 (-1)) 45 (-1)) 46 (-1)) 47 (-1)) 48 (-1)) 49 (-1)) 50 (-1)) 51 (-1)) 52 (-1)) 53 (-1)) 54 (-1)) 55 (-1)) 56 (-1)) 57 (-1)) 58 (-1)) 59 (-1)) 60 (-1)) 61 (-1)) 62 (-1)) 63 (-1)) 64 (-1)) 65 (-1)) 66 (-1)) 67 (-1)) 68 (-1)) 69 (-1)) 70 (-1)) 71 (-1)) 72 (-1)) 73 (-1)) 139 1000) 140 100) 145 1000) 146 100) 151 1000) 152 100) 157 1000) 158 100) 163 1000) 164 100) 169 1000) 170 100) 175 1000) 176 100) 181 1000) 182 100) 128 0))))
theorem ro_2100 (z : pq_C) : pq_Ru 3 165 [.ref 90, .int 54, .int 0] (wd_1452 z) (some (.int 0), (wd_1453 z)) := by
  refine ru_of (k := 2) (M := pm_165) rfl rfl ?_
  refine go_seg 1 (pc' := 1) (ls' := [(0, .ref 90), (1, .int 54), (2, .int 0)]) (st' := [.int 54]) (w' := (wd_1452 z)) (cs' := 0) (ss' := 0) ?_ (fun _ _ => rfl)
  refine go_cl (k := 2) (st' := [.int 1]) (cs' := 0) (ss' := 0) rfl rfl rfl rfl rfl rfl rfl (ro_2099 z) ?_
  refine go_seg 8 (pc' := 24) (ls' := [(0, .ref 90), (1, .int 54), (2, .int 0)]) (st' := [.int 0, .int 0]) (w' := (wd_1452 z)) (cs' := 0) (ss' := 0) ?_ (fun _ _ => rfl)
  refine go_seg 8 (pc' := 47) (ls' := [(3, .int 0), (0, .ref 90), (1, .int 54), (2, .int 0)]) (st' := [.int 74, .ref 91]) (w' := (wd_1452 z)) (cs' := 0) (ss' := 0) ?_ (fun _ _ => rfl)
  exact go_end 8 (fun _ _ => rfl)
theorem lf_2_2102 (a0 : Int32) (a3 : Int32) (a4 : Int32) (a5 : Int32) : ∃ w', pq_Go 20 pm_law 278 [(3, .int 0), (2, .ref 90), (1, .ref 1), (0, .ref 0)] [] (fw (sz a0 54 0 a3 a4 a5)) 109 12668 (some (.int 1), w') := by
  refine ⟨(wd_1453 (sz a0 54 0 a3 a4 a5)), ?_⟩
  refine go_seg 8 (pc' := 286) (ls' := [(3, .int 0), (2, .ref 90), (1, .ref 1), (0, .ref 0)]) (st' := [.int 0, .ref 0, .int 54, .ref 1]) (w' := (fw (sz a0 54 0 a3 a4 a5))) (cs' := 109) (ss' := 12668) ?_ (fun _ _ => rfl)
  refine go_seg 5 (pc' := 297) (ls' := [(3, .int 0), (2, .ref 90), (1, .ref 1), (0, .ref 0)]) (st' := [.int 0, .int 54, .ref 1]) (w' := (fw (sz a0 54 0 a3 a4 a5))) (cs' := 109) (ss' := 12668) ?_ (fun _ _ => rfl)
  refine go_cl (k := 20) (st' := [.int 0]) (cs' := 109) (ss' := 12668) rfl rfl rfl rfl rfl rfl rfl (ro_2097 (sz a0 54 0 a3 a4 a5)) ?_
  refine go_seg 8 (pc' := 308) (ls' := [(3, .int 0), (2, .ref 90), (1, .ref 1), (0, .ref 0)]) (st' := [.int 0, .ref 0, .int 54, .ref 90, .int 0]) (w' := (wd_1452 (sz a0 54 0 a3 a4 a5))) (cs' := 109) (ss' := 12668) ?_ (fun _ _ => rfl)
  refine go_seg 5 (pc' := 319) (ls' := [(3, .int 0), (2, .ref 90), (1, .ref 1), (0, .ref 0)]) (st' := [.int 0, .int 54, .ref 90, .int 0]) (w' := (wd_1452 (sz a0 54 0 a3 a4 a5))) (cs' := 109) (ss' := 12668) ?_ (fun _ _ => rfl)
  refine go_cl (k := 20) (st' := [.int 0, .int 0]) (cs' := 109) (ss' := 12668) rfl rfl rfl rfl rfl rfl rfl (ro_2100 (sz a0 54 0 a3 a4 a5)) ?_
  refine go_cmp true rfl (br_self _) ?_
  exact law_tail (f := sc a0 54 0 a3 a4 a5) rfl
def wd_1454 (z : pq_C) : pq_W := ((fw z).set 4 (.inl (.boolean, 64, .inl (upd (fun _ => 0) 55 0))))
theorem ro_2104 (z : pq_C) : pq_Ru 2 22 [.ref 1, .int 55, .int 0] (fw z) (some (.int 0), (wd_1454 z)) := by
  refine ru_of (k := 1) (M := pm_22) rfl rfl ?_
  refine go_seg 1 (pc' := 1) (ls' := [(0, .ref 1), (1, .int 55), (2, .int 0)]) (st' := [.int 55]) (w' := (fw z)) (cs' := 0) (ss' := 0) ?_ (fun _ _ => rfl)
  refine go_cl (k := 1) (st' := [.int 1]) (cs' := 0) (ss' := 0) rfl rfl rfl rfl rfl rfl rfl (ro_1633 z) ?_
  refine go_seg 8 (pc' := 24) (ls' := [(3, .int 0), (0, .ref 1), (1, .int 55), (2, .int 0)]) (st' := [.ref 1]) (w' := (fw z)) (cs' := 0) (ss' := 0) ?_ (fun _ _ => rfl)
  refine go_seg 8 (pc' := 38) (ls' := [(3, .int 0), (0, .ref 1), (1, .int 55), (2, .int 0)]) (st' := []) (w' := (wd_1454 z)) (cs' := 0) (ss' := 0) ?_ (fun _ _ => rfl)
  exact go_end 3 (fun _ _ => rfl)
theorem ro_2105 (z : pq_C) : pq_Ru 1 161 [.long 55, .long 0, .long 63] (wd_1454 z) (some (.int 1), (wd_1454 z)) := by
  refine ru_of (k := 0) (M := pm_161) rfl rfl ?_
  refine go_seg 8 (pc' := 13) (ls' := [(0, .long 55), (2, .long 0), (4, .long 63)]) (st' := []) (w' := (wd_1454 z)) (cs' := 0) (ss' := 0) ?_ (fun _ _ => rfl)
  exact go_end 3 (fun _ _ => rfl)
theorem ro_2106 (z : pq_C) : pq_Ru 2 160 [.int 55] (wd_1454 z) (some (.int 1), (wd_1454 z)) := by
  refine ru_of (k := 1) (M := pm_160) rfl rfl ?_
  refine go_seg 4 (pc' := 6) (ls' := [(0, .int 55)]) (st' := [.long 63, .long 0, .long 55]) (w' := (wd_1454 z)) (cs' := 0) (ss' := 0) ?_ (fun _ _ => rfl)
  refine go_cl (k := 1) (st' := [.int 1]) (cs' := 0) (ss' := 0) rfl rfl rfl rfl rfl rfl rfl (ro_2105 z) ?_
  exact go_end 1 (fun _ _ => rfl)
def wd_1455 (z : pq_C) : pq_W := ((wd_1454 z).set 91 (.inl (.int, 2858, .inl (upd (upd (upd (upd (upd (upd (upd (upd (upd (upd (upd (upd (upd (upd (upd (upd (upd (upd (upd (upd (upd (upd (upd (upd (upd (upd (upd (upd (upd (upd (upd (upd (upd (upd (upd (upd (upd (upd (upd (upd (upd (upd (upd (upd (upd (upd (upd (upd (upd (upd (upd (upd (upd (upd (upd (upd (upd (upd (upd (upd (upd (upd (upd (upd (upd (upd (upd (upd (upd (upd (upd (upd (upd (upd (upd (upd (upd (upd (upd (upd (upd (upd (fun _ => 0) 1 10) 10 (-1)) 11 (-1)) 12 (-1)) 13 (-1)) 14 (-1)) 15 (-1)) 16 (-1)) 17 (-1)) 18 (-1)) 19 (-1)) 20 (-1)) 21 (-1)) 22 (-1)) 23 (-1)) 24 (-1)) 25 (-1)) 26 (-1)) 27 (-1)) 28 (-1)) 29 (-1)) 30 (-1)) 31 (-1)) 32 (-1)) 33 (-1)) 34 (-1)) 35 (-1)) 36 (-1)) 37 (-1)) 38 (-1)) 39 (-1)) 40 (-1)) 41 (-1)) 42 (-1)) 43 (-1)) 44 (-1)) 45 (-1)) 46 (-1)) 47 (-1)) 48 (-1)) 49 (-1)) 50 (-1)) 51 (-1)) 52 (-1)) 53 (-1)) 54 (-1)) 55 (-1)) 56 (-1)) 57 (-1)) 58 (-1)) 59 (-1)) 60 (-1)) 61 (-1)) 62 (-1)) 63 (-1)) 64 (-1)) 65 (-1)) 66 (-1)) 67 (-1)) 68 (-1)) 69 (-1)) 70 (-1)) 71 (-1)) 72 (-1)) 73 (-1)) 139 1000) 140 100) 145 1000) 146 100) 151 1000) 152 100) 157 1000) 158 100) 163 1000) 164 100) 169 1000) 170 100) 175 1000) 176 100) 181 1000) 182 100) 129 0))))
theorem ro_2107 (z : pq_C) : pq_Ru 3 165 [.ref 90, .int 55, .int 0] (wd_1454 z) (some (.int 0), (wd_1455 z)) := by
  refine ru_of (k := 2) (M := pm_165) rfl rfl ?_
  refine go_seg 1 (pc' := 1) (ls' := [(0, .ref 90), (1, .int 55), (2, .int 0)]) (st' := [.int 55]) (w' := (wd_1454 z)) (cs' := 0) (ss' := 0) ?_ (fun _ _ => rfl)
  refine go_cl (k := 2) (st' := [.int 1]) (cs' := 0) (ss' := 0) rfl rfl rfl rfl rfl rfl rfl (ro_2106 z) ?_
  refine go_seg 8 (pc' := 24) (ls' := [(0, .ref 90), (1, .int 55), (2, .int 0)]) (st' := [.int 0, .int 0]) (w' := (wd_1454 z)) (cs' := 0) (ss' := 0) ?_ (fun _ _ => rfl)
  refine go_seg 8 (pc' := 47) (ls' := [(3, .int 0), (0, .ref 90), (1, .int 55), (2, .int 0)]) (st' := [.int 74, .ref 91]) (w' := (wd_1454 z)) (cs' := 0) (ss' := 0) ?_ (fun _ _ => rfl)
  exact go_end 8 (fun _ _ => rfl)
theorem lf_2_2109 (a0 : Int32) (a3 : Int32) (a4 : Int32) (a5 : Int32) : ∃ w', pq_Go 20 pm_law 278 [(3, .int 0), (2, .ref 90), (1, .ref 1), (0, .ref 0)] [] (fw (sz a0 55 0 a3 a4 a5)) 109 12668 (some (.int 1), w') := by
  refine ⟨(wd_1455 (sz a0 55 0 a3 a4 a5)), ?_⟩
  refine go_seg 8 (pc' := 286) (ls' := [(3, .int 0), (2, .ref 90), (1, .ref 1), (0, .ref 0)]) (st' := [.int 0, .ref 0, .int 55, .ref 1]) (w' := (fw (sz a0 55 0 a3 a4 a5))) (cs' := 109) (ss' := 12668) ?_ (fun _ _ => rfl)
  refine go_seg 5 (pc' := 297) (ls' := [(3, .int 0), (2, .ref 90), (1, .ref 1), (0, .ref 0)]) (st' := [.int 0, .int 55, .ref 1]) (w' := (fw (sz a0 55 0 a3 a4 a5))) (cs' := 109) (ss' := 12668) ?_ (fun _ _ => rfl)
  refine go_cl (k := 20) (st' := [.int 0]) (cs' := 109) (ss' := 12668) rfl rfl rfl rfl rfl rfl rfl (ro_2104 (sz a0 55 0 a3 a4 a5)) ?_
  refine go_seg 8 (pc' := 308) (ls' := [(3, .int 0), (2, .ref 90), (1, .ref 1), (0, .ref 0)]) (st' := [.int 0, .ref 0, .int 55, .ref 90, .int 0]) (w' := (wd_1454 (sz a0 55 0 a3 a4 a5))) (cs' := 109) (ss' := 12668) ?_ (fun _ _ => rfl)
  refine go_seg 5 (pc' := 319) (ls' := [(3, .int 0), (2, .ref 90), (1, .ref 1), (0, .ref 0)]) (st' := [.int 0, .int 55, .ref 90, .int 0]) (w' := (wd_1454 (sz a0 55 0 a3 a4 a5))) (cs' := 109) (ss' := 12668) ?_ (fun _ _ => rfl)
  refine go_cl (k := 20) (st' := [.int 0, .int 0]) (cs' := 109) (ss' := 12668) rfl rfl rfl rfl rfl rfl rfl (ro_2107 (sz a0 55 0 a3 a4 a5)) ?_
  refine go_cmp true rfl (br_self _) ?_
  exact law_tail (f := sc a0 55 0 a3 a4 a5) rfl
def wd_1456 (z : pq_C) : pq_W := ((fw z).set 4 (.inl (.boolean, 64, .inl (upd (fun _ => 0) 56 0))))
theorem ro_2111 (z : pq_C) : pq_Ru 2 22 [.ref 1, .int 56, .int 0] (fw z) (some (.int 0), (wd_1456 z)) := by
  refine ru_of (k := 1) (M := pm_22) rfl rfl ?_
  refine go_seg 1 (pc' := 1) (ls' := [(0, .ref 1), (1, .int 56), (2, .int 0)]) (st' := [.int 56]) (w' := (fw z)) (cs' := 0) (ss' := 0) ?_ (fun _ _ => rfl)
  refine go_cl (k := 1) (st' := [.int 1]) (cs' := 0) (ss' := 0) rfl rfl rfl rfl rfl rfl rfl (ro_1641 z) ?_
  refine go_seg 8 (pc' := 24) (ls' := [(3, .int 0), (0, .ref 1), (1, .int 56), (2, .int 0)]) (st' := [.ref 1]) (w' := (fw z)) (cs' := 0) (ss' := 0) ?_ (fun _ _ => rfl)
  refine go_seg 8 (pc' := 38) (ls' := [(3, .int 0), (0, .ref 1), (1, .int 56), (2, .int 0)]) (st' := []) (w' := (wd_1456 z)) (cs' := 0) (ss' := 0) ?_ (fun _ _ => rfl)
  exact go_end 3 (fun _ _ => rfl)
theorem ro_2112 (z : pq_C) : pq_Ru 1 161 [.long 56, .long 0, .long 63] (wd_1456 z) (some (.int 1), (wd_1456 z)) := by
  refine ru_of (k := 0) (M := pm_161) rfl rfl ?_
  refine go_seg 8 (pc' := 13) (ls' := [(0, .long 56), (2, .long 0), (4, .long 63)]) (st' := []) (w' := (wd_1456 z)) (cs' := 0) (ss' := 0) ?_ (fun _ _ => rfl)
  exact go_end 3 (fun _ _ => rfl)
theorem ro_2113 (z : pq_C) : pq_Ru 2 160 [.int 56] (wd_1456 z) (some (.int 1), (wd_1456 z)) := by
  refine ru_of (k := 1) (M := pm_160) rfl rfl ?_
  refine go_seg 4 (pc' := 6) (ls' := [(0, .int 56)]) (st' := [.long 63, .long 0, .long 56]) (w' := (wd_1456 z)) (cs' := 0) (ss' := 0) ?_ (fun _ _ => rfl)
  refine go_cl (k := 1) (st' := [.int 1]) (cs' := 0) (ss' := 0) rfl rfl rfl rfl rfl rfl rfl (ro_2112 z) ?_
  exact go_end 1 (fun _ _ => rfl)
def wd_1457 (z : pq_C) : pq_W := ((wd_1456 z).set 91 (.inl (.int, 2858, .inl (upd (upd (upd (upd (upd (upd (upd (upd (upd (upd (upd (upd (upd (upd (upd (upd (upd (upd (upd (upd (upd (upd (upd (upd (upd (upd (upd (upd (upd (upd (upd (upd (upd (upd (upd (upd (upd (upd (upd (upd (upd (upd (upd (upd (upd (upd (upd (upd (upd (upd (upd (upd (upd (upd (upd (upd (upd (upd (upd (upd (upd (upd (upd (upd (upd (upd (upd (upd (upd (upd (upd (upd (upd (upd (upd (upd (upd (upd (upd (upd (upd (upd (fun _ => 0) 1 10) 10 (-1)) 11 (-1)) 12 (-1)) 13 (-1)) 14 (-1)) 15 (-1)) 16 (-1)) 17 (-1)) 18 (-1)) 19 (-1)) 20 (-1)) 21 (-1)) 22 (-1)) 23 (-1)) 24 (-1)) 25 (-1)) 26 (-1)) 27 (-1)) 28 (-1)) 29 (-1)) 30 (-1)) 31 (-1)) 32 (-1)) 33 (-1)) 34 (-1)) 35 (-1)) 36 (-1)) 37 (-1)) 38 (-1)) 39 (-1)) 40 (-1)) 41 (-1)) 42 (-1)) 43 (-1)) 44 (-1)) 45 (-1)) 46 (-1)) 47 (-1)) 48 (-1)) 49 (-1)) 50 (-1)) 51 (-1)) 52 (-1)) 53 (-1)) 54 (-1)) 55 (-1)) 56 (-1)) 57 (-1)) 58 (-1)) 59 (-1)) 60 (-1)) 61 (-1)) 62 (-1)) 63 (-1)) 64 (-1)) 65 (-1)) 66 (-1)) 67 (-1)) 68 (-1)) 69 (-1)) 70 (-1)) 71 (-1)) 72 (-1)) 73 (-1)) 139 1000) 140 100) 145 1000) 146 100) 151 1000) 152 100) 157 1000) 158 100) 163 1000) 164 100) 169 1000) 170 100) 175 1000) 176 100) 181 1000) 182 100) 130 0))))
theorem ro_2114 (z : pq_C) : pq_Ru 3 165 [.ref 90, .int 56, .int 0] (wd_1456 z) (some (.int 0), (wd_1457 z)) := by
  refine ru_of (k := 2) (M := pm_165) rfl rfl ?_
  refine go_seg 1 (pc' := 1) (ls' := [(0, .ref 90), (1, .int 56), (2, .int 0)]) (st' := [.int 56]) (w' := (wd_1456 z)) (cs' := 0) (ss' := 0) ?_ (fun _ _ => rfl)
  refine go_cl (k := 2) (st' := [.int 1]) (cs' := 0) (ss' := 0) rfl rfl rfl rfl rfl rfl rfl (ro_2113 z) ?_
  refine go_seg 8 (pc' := 24) (ls' := [(0, .ref 90), (1, .int 56), (2, .int 0)]) (st' := [.int 0, .int 0]) (w' := (wd_1456 z)) (cs' := 0) (ss' := 0) ?_ (fun _ _ => rfl)
  refine go_seg 8 (pc' := 47) (ls' := [(3, .int 0), (0, .ref 90), (1, .int 56), (2, .int 0)]) (st' := [.int 74, .ref 91]) (w' := (wd_1456 z)) (cs' := 0) (ss' := 0) ?_ (fun _ _ => rfl)
  exact go_end 8 (fun _ _ => rfl)
theorem lf_2_2116 (a0 : Int32) (a3 : Int32) (a4 : Int32) (a5 : Int32) : ∃ w', pq_Go 20 pm_law 278 [(3, .int 0), (2, .ref 90), (1, .ref 1), (0, .ref 0)] [] (fw (sz a0 56 0 a3 a4 a5)) 109 12668 (some (.int 1), w') := by
  refine ⟨(wd_1457 (sz a0 56 0 a3 a4 a5)), ?_⟩
  refine go_seg 8 (pc' := 286) (ls' := [(3, .int 0), (2, .ref 90), (1, .ref 1), (0, .ref 0)]) (st' := [.int 0, .ref 0, .int 56, .ref 1]) (w' := (fw (sz a0 56 0 a3 a4 a5))) (cs' := 109) (ss' := 12668) ?_ (fun _ _ => rfl)
  refine go_seg 5 (pc' := 297) (ls' := [(3, .int 0), (2, .ref 90), (1, .ref 1), (0, .ref 0)]) (st' := [.int 0, .int 56, .ref 1]) (w' := (fw (sz a0 56 0 a3 a4 a5))) (cs' := 109) (ss' := 12668) ?_ (fun _ _ => rfl)
  refine go_cl (k := 20) (st' := [.int 0]) (cs' := 109) (ss' := 12668) rfl rfl rfl rfl rfl rfl rfl (ro_2111 (sz a0 56 0 a3 a4 a5)) ?_
  refine go_seg 8 (pc' := 308) (ls' := [(3, .int 0), (2, .ref 90), (1, .ref 1), (0, .ref 0)]) (st' := [.int 0, .ref 0, .int 56, .ref 90, .int 0]) (w' := (wd_1456 (sz a0 56 0 a3 a4 a5))) (cs' := 109) (ss' := 12668) ?_ (fun _ _ => rfl)
  refine go_seg 5 (pc' := 319) (ls' := [(3, .int 0), (2, .ref 90), (1, .ref 1), (0, .ref 0)]) (st' := [.int 0, .int 56, .ref 90, .int 0]) (w' := (wd_1456 (sz a0 56 0 a3 a4 a5))) (cs' := 109) (ss' := 12668) ?_ (fun _ _ => rfl)
  refine go_cl (k := 20) (st' := [.int 0, .int 0]) (cs' := 109) (ss' := 12668) rfl rfl rfl rfl rfl rfl rfl (ro_2114 (sz a0 56 0 a3 a4 a5)) ?_
  refine go_cmp true rfl (br_self _) ?_
  exact law_tail (f := sc a0 56 0 a3 a4 a5) rfl
def wd_1458 (z : pq_C) : pq_W := ((fw z).set 4 (.inl (.boolean, 64, .inl (upd (fun _ => 0) 57 0))))
theorem ro_2118 (z : pq_C) : pq_Ru 2 22 [.ref 1, .int 57, .int 0] (fw z) (some (.int 0), (wd_1458 z)) := by
  refine ru_of (k := 1) (M := pm_22) rfl rfl ?_
  refine go_seg 1 (pc' := 1) (ls' := [(0, .ref 1), (1, .int 57), (2, .int 0)]) (st' := [.int 57]) (w' := (fw z)) (cs' := 0) (ss' := 0) ?_ (fun _ _ => rfl)
  refine go_cl (k := 1) (st' := [.int 1]) (cs' := 0) (ss' := 0) rfl rfl rfl rfl rfl rfl rfl (ro_1649 z) ?_
  refine go_seg 8 (pc' := 24) (ls' := [(3, .int 0), (0, .ref 1), (1, .int 57), (2, .int 0)]) (st' := [.ref 1]) (w' := (fw z)) (cs' := 0) (ss' := 0) ?_ (fun _ _ => rfl)
  refine go_seg 8 (pc' := 38) (ls' := [(3, .int 0), (0, .ref 1), (1, .int 57), (2, .int 0)]) (st' := []) (w' := (wd_1458 z)) (cs' := 0) (ss' := 0) ?_ (fun _ _ => rfl)
  exact go_end 3 (fun _ _ => rfl)
theorem ro_2119 (z : pq_C) : pq_Ru 1 161 [.long 57, .long 0, .long 63] (wd_1458 z) (some (.int 1), (wd_1458 z)) := by
  refine ru_of (k := 0) (M := pm_161) rfl rfl ?_
  refine go_seg 8 (pc' := 13) (ls' := [(0, .long 57), (2, .long 0), (4, .long 63)]) (st' := []) (w' := (wd_1458 z)) (cs' := 0) (ss' := 0) ?_ (fun _ _ => rfl)
  exact go_end 3 (fun _ _ => rfl)
theorem ro_2120 (z : pq_C) : pq_Ru 2 160 [.int 57] (wd_1458 z) (some (.int 1), (wd_1458 z)) := by
  refine ru_of (k := 1) (M := pm_160) rfl rfl ?_
  refine go_seg 4 (pc' := 6) (ls' := [(0, .int 57)]) (st' := [.long 63, .long 0, .long 57]) (w' := (wd_1458 z)) (cs' := 0) (ss' := 0) ?_ (fun _ _ => rfl)
  refine go_cl (k := 1) (st' := [.int 1]) (cs' := 0) (ss' := 0) rfl rfl rfl rfl rfl rfl rfl (ro_2119 z) ?_
  exact go_end 1 (fun _ _ => rfl)
def wd_1459 (z : pq_C) : pq_W := ((wd_1458 z).set 91 (.inl (.int, 2858, .inl (upd (upd (upd (upd (upd (upd (upd (upd (upd (upd (upd (upd (upd (upd (upd (upd (upd (upd (upd (upd (upd (upd (upd (upd (upd (upd (upd (upd (upd (upd (upd (upd (upd (upd (upd (upd (upd (upd (upd (upd (upd (upd (upd (upd (upd (upd (upd (upd (upd (upd (upd (upd (upd (upd (upd (upd (upd (upd (upd (upd (upd (upd (upd (upd (upd (upd (upd (upd (upd (upd (upd (upd (upd (upd (upd (upd (upd (upd (upd (upd (upd (upd (fun _ => 0) 1 10) 10 (-1)) 11 (-1)) 12 (-1)) 13 (-1)) 14 (-1)) 15 (-1)) 16 (-1)) 17 (-1)) 18 (-1)) 19 (-1)) 20 (-1)) 21 (-1)) 22 (-1)) 23 (-1)) 24 (-1)) 25 (-1)) 26 (-1)) 27 (-1)) 28 (-1)) 29 (-1)) 30 (-1)) 31 (-1)) 32 (-1)) 33 (-1)) 34 (-1)) 35 (-1)) 36 (-1)) 37 (-1)) 38 (-1)) 39 (-1)) 40 (-1)) 41 (-1)) 42 (-1)) 43 (-1)) 44 (-1)) 45 (-1)) 46 (-1)) 47 (-1)) 48 (-1)) 49 (-1)) 50 (-1)) 51 (-1)) 52 (-1)) 53 (-1)) 54 (-1)) 55 (-1)) 56 (-1)) 57 (-1)) 58 (-1)) 59 (-1)) 60 (-1)) 61 (-1)) 62 (-1)) 63 (-1)) 64 (-1)) 65 (-1)) 66 (-1)) 67 (-1)) 68 (-1)) 69 (-1)) 70 (-1)) 71 (-1)) 72 (-1)) 73 (-1)) 139 1000) 140 100) 145 1000) 146 100) 151 1000) 152 100) 157 1000) 158 100) 163 1000) 164 100) 169 1000) 170 100) 175 1000) 176 100) 181 1000) 182 100) 131 0))))
theorem ro_2121 (z : pq_C) : pq_Ru 3 165 [.ref 90, .int 57, .int 0] (wd_1458 z) (some (.int 0), (wd_1459 z)) := by
  refine ru_of (k := 2) (M := pm_165) rfl rfl ?_
  refine go_seg 1 (pc' := 1) (ls' := [(0, .ref 90), (1, .int 57), (2, .int 0)]) (st' := [.int 57]) (w' := (wd_1458 z)) (cs' := 0) (ss' := 0) ?_ (fun _ _ => rfl)
  refine go_cl (k := 2) (st' := [.int 1]) (cs' := 0) (ss' := 0) rfl rfl rfl rfl rfl rfl rfl (ro_2120 z) ?_
  refine go_seg 8 (pc' := 24) (ls' := [(0, .ref 90), (1, .int 57), (2, .int 0)]) (st' := [.int 0, .int 0]) (w' := (wd_1458 z)) (cs' := 0) (ss' := 0) ?_ (fun _ _ => rfl)
  refine go_seg 8 (pc' := 47) (ls' := [(3, .int 0), (0, .ref 90), (1, .int 57), (2, .int 0)]) (st' := [.int 74, .ref 91]) (w' := (wd_1458 z)) (cs' := 0) (ss' := 0) ?_ (fun _ _ => rfl)
  exact go_end 8 (fun _ _ => rfl)
theorem lf_2_2123 (a0 : Int32) (a3 : Int32) (a4 : Int32) (a5 : Int32) : ∃ w', pq_Go 20 pm_law 278 [(3, .int 0), (2, .ref 90), (1, .ref 1), (0, .ref 0)] [] (fw (sz a0 57 0 a3 a4 a5)) 109 12668 (some (.int 1), w') := by
  refine ⟨(wd_1459 (sz a0 57 0 a3 a4 a5)), ?_⟩
  refine go_seg 8 (pc' := 286) (ls' := [(3, .int 0), (2, .ref 90), (1, .ref 1), (0, .ref 0)]) (st' := [.int 0, .ref 0, .int 57, .ref 1]) (w' := (fw (sz a0 57 0 a3 a4 a5))) (cs' := 109) (ss' := 12668) ?_ (fun _ _ => rfl)
  refine go_seg 5 (pc' := 297) (ls' := [(3, .int 0), (2, .ref 90), (1, .ref 1), (0, .ref 0)]) (st' := [.int 0, .int 57, .ref 1]) (w' := (fw (sz a0 57 0 a3 a4 a5))) (cs' := 109) (ss' := 12668) ?_ (fun _ _ => rfl)
  refine go_cl (k := 20) (st' := [.int 0]) (cs' := 109) (ss' := 12668) rfl rfl rfl rfl rfl rfl rfl (ro_2118 (sz a0 57 0 a3 a4 a5)) ?_
  refine go_seg 8 (pc' := 308) (ls' := [(3, .int 0), (2, .ref 90), (1, .ref 1), (0, .ref 0)]) (st' := [.int 0, .ref 0, .int 57, .ref 90, .int 0]) (w' := (wd_1458 (sz a0 57 0 a3 a4 a5))) (cs' := 109) (ss' := 12668) ?_ (fun _ _ => rfl)
  refine go_seg 5 (pc' := 319) (ls' := [(3, .int 0), (2, .ref 90), (1, .ref 1), (0, .ref 0)]) (st' := [.int 0, .int 57, .ref 90, .int 0]) (w' := (wd_1458 (sz a0 57 0 a3 a4 a5))) (cs' := 109) (ss' := 12668) ?_ (fun _ _ => rfl)
  refine go_cl (k := 20) (st' := [.int 0, .int 0]) (cs' := 109) (ss' := 12668) rfl rfl rfl rfl rfl rfl rfl (ro_2121 (sz a0 57 0 a3 a4 a5)) ?_
  refine go_cmp true rfl (br_self _) ?_
  exact law_tail (f := sc a0 57 0 a3 a4 a5) rfl
def wd_1460 (z : pq_C) : pq_W := ((fw z).set 4 (.inl (.boolean, 64, .inl (upd (fun _ => 0) 58 0))))
theorem ro_2125 (z : pq_C) : pq_Ru 2 22 [.ref 1, .int 58, .int 0] (fw z) (some (.int 0), (wd_1460 z)) := by
  refine ru_of (k := 1) (M := pm_22) rfl rfl ?_
  refine go_seg 1 (pc' := 1) (ls' := [(0, .ref 1), (1, .int 58), (2, .int 0)]) (st' := [.int 58]) (w' := (fw z)) (cs' := 0) (ss' := 0) ?_ (fun _ _ => rfl)
  refine go_cl (k := 1) (st' := [.int 1]) (cs' := 0) (ss' := 0) rfl rfl rfl rfl rfl rfl rfl (ro_1657 z) ?_
  refine go_seg 8 (pc' := 24) (ls' := [(3, .int 0), (0, .ref 1), (1, .int 58), (2, .int 0)]) (st' := [.ref 1]) (w' := (fw z)) (cs' := 0) (ss' := 0) ?_ (fun _ _ => rfl)
  refine go_seg 8 (pc' := 38) (ls' := [(3, .int 0), (0, .ref 1), (1, .int 58), (2, .int 0)]) (st' := []) (w' := (wd_1460 z)) (cs' := 0) (ss' := 0) ?_ (fun _ _ => rfl)
  exact go_end 3 (fun _ _ => rfl)
theorem ro_2126 (z : pq_C) : pq_Ru 1 161 [.long 58, .long 0, .long 63] (wd_1460 z) (some (.int 1), (wd_1460 z)) := by
  refine ru_of (k := 0) (M := pm_161) rfl rfl ?_
  refine go_seg 8 (pc' := 13) (ls' := [(0, .long 58), (2, .long 0), (4, .long 63)]) (st' := []) (w' := (wd_1460 z)) (cs' := 0) (ss' := 0) ?_ (fun _ _ => rfl)
  exact go_end 3 (fun _ _ => rfl)
theorem ro_2127 (z : pq_C) : pq_Ru 2 160 [.int 58] (wd_1460 z) (some (.int 1), (wd_1460 z)) := by
  refine ru_of (k := 1) (M := pm_160) rfl rfl ?_
  refine go_seg 4 (pc' := 6) (ls' := [(0, .int 58)]) (st' := [.long 63, .long 0, .long 58]) (w' := (wd_1460 z)) (cs' := 0) (ss' := 0) ?_ (fun _ _ => rfl)
  refine go_cl (k := 1) (st' := [.int 1]) (cs' := 0) (ss' := 0) rfl rfl rfl rfl rfl rfl rfl (ro_2126 z) ?_
  exact go_end 1 (fun _ _ => rfl)
def wd_1461 (z : pq_C) : pq_W := ((wd_1460 z).set 91 (.inl (.int, 2858, .inl (upd (upd (upd (upd (upd (upd (upd (upd (upd (upd (upd (upd (upd (upd (upd (upd (upd (upd (upd (upd (upd (upd (upd (upd (upd (upd (upd (upd (upd (upd (upd (upd (upd (upd (upd (upd (upd (upd (upd (upd (upd (upd (upd (upd (upd (upd (upd (upd (upd (upd (upd (upd (upd (upd (upd (upd (upd (upd (upd (upd (upd (upd (upd (upd (upd (upd (upd (upd (upd (upd (upd (upd (upd (upd (upd (upd (upd (upd (upd (upd (upd (upd (fun _ => 0) 1 10) 10 (-1)) 11 (-1)) 12 (-1)) 13 (-1)) 14 (-1)) 15 (-1)) 16 (-1)) 17 (-1)) 18 (-1)) 19 (-1)) 20 (-1)) 21 (-1)) 22 (-1)) 23 (-1)) 24 (-1)) 25 (-1)) 26 (-1)) 27 (-1)) 28 (-1)) 29 (-1)) 30 (-1)) 31 (-1)) 32 (-1)) 33 (-1)) 34 (-1)) 35 (-1)) 36 (-1)) 37 (-1)) 38 (-1)) 39 (-1)) 40 (-1)) 41 (-1)) 42 (-1)) 43 (-1)) 44 (-1)) 45 (-1)) 46 (-1)) 47 (-1)) 48 (-1)) 49 (-1)) 50 (-1)) 51 (-1)) 52 (-1)) 53 (-1)) 54 (-1)) 55 (-1)) 56 (-1)) 57 (-1)) 58 (-1)) 59 (-1)) 60 (-1)) 61 (-1)) 62 (-1)) 63 (-1)) 64 (-1)) 65 (-1)) 66 (-1)) 67 (-1)) 68 (-1)) 69 (-1)) 70 (-1)) 71 (-1)) 72 (-1)) 73 (-1)) 139 1000) 140 100) 145 1000) 146 100) 151 1000) 152 100) 157 1000) 158 100) 163 1000) 164 100) 169 1000) 170 100) 175 1000) 176 100) 181 1000) 182 100) 132 0))))
theorem ro_2128 (z : pq_C) : pq_Ru 3 165 [.ref 90, .int 58, .int 0] (wd_1460 z) (some (.int 0), (wd_1461 z)) := by
  refine ru_of (k := 2) (M := pm_165) rfl rfl ?_
  refine go_seg 1 (pc' := 1) (ls' := [(0, .ref 90), (1, .int 58), (2, .int 0)]) (st' := [.int 58]) (w' := (wd_1460 z)) (cs' := 0) (ss' := 0) ?_ (fun _ _ => rfl)
  refine go_cl (k := 2) (st' := [.int 1]) (cs' := 0) (ss' := 0) rfl rfl rfl rfl rfl rfl rfl (ro_2127 z) ?_
  refine go_seg 8 (pc' := 24) (ls' := [(0, .ref 90), (1, .int 58), (2, .int 0)]) (st' := [.int 0, .int 0]) (w' := (wd_1460 z)) (cs' := 0) (ss' := 0) ?_ (fun _ _ => rfl)
  refine go_seg 8 (pc' := 47) (ls' := [(3, .int 0), (0, .ref 90), (1, .int 58), (2, .int 0)]) (st' := [.int 74, .ref 91]) (w' := (wd_1460 z)) (cs' := 0) (ss' := 0) ?_ (fun _ _ => rfl)
  exact go_end 8 (fun _ _ => rfl)
theorem lf_2_2130 (a0 : Int32) (a3 : Int32) (a4 : Int32) (a5 : Int32) : ∃ w', pq_Go 20 pm_law 278 [(3, .int 0), (2, .ref 90), (1, .ref 1), (0, .ref 0)] [] (fw (sz a0 58 0 a3 a4 a5)) 109 12668 (some (.int 1), w') := by
  refine ⟨(wd_1461 (sz a0 58 0 a3 a4 a5)), ?_⟩
  refine go_seg 8 (pc' := 286) (ls' := [(3, .int 0), (2, .ref 90), (1, .ref 1), (0, .ref 0)]) (st' := [.int 0, .ref 0, .int 58, .ref 1]) (w' := (fw (sz a0 58 0 a3 a4 a5))) (cs' := 109) (ss' := 12668) ?_ (fun _ _ => rfl)
  refine go_seg 5 (pc' := 297) (ls' := [(3, .int 0), (2, .ref 90), (1, .ref 1), (0, .ref 0)]) (st' := [.int 0, .int 58, .ref 1]) (w' := (fw (sz a0 58 0 a3 a4 a5))) (cs' := 109) (ss' := 12668) ?_ (fun _ _ => rfl)
  refine go_cl (k := 20) (st' := [.int 0]) (cs' := 109) (ss' := 12668) rfl rfl rfl rfl rfl rfl rfl (ro_2125 (sz a0 58 0 a3 a4 a5)) ?_
  refine go_seg 8 (pc' := 308) (ls' := [(3, .int 0), (2, .ref 90), (1, .ref 1), (0, .ref 0)]) (st' := [.int 0, .ref 0, .int 58, .ref 90, .int 0]) (w' := (wd_1460 (sz a0 58 0 a3 a4 a5))) (cs' := 109) (ss' := 12668) ?_ (fun _ _ => rfl)
  refine go_seg 5 (pc' := 319) (ls' := [(3, .int 0), (2, .ref 90), (1, .ref 1), (0, .ref 0)]) (st' := [.int 0, .int 58, .ref 90, .int 0]) (w' := (wd_1460 (sz a0 58 0 a3 a4 a5))) (cs' := 109) (ss' := 12668) ?_ (fun _ _ => rfl)
  refine go_cl (k := 20) (st' := [.int 0, .int 0]) (cs' := 109) (ss' := 12668) rfl rfl rfl rfl rfl rfl rfl (ro_2128 (sz a0 58 0 a3 a4 a5)) ?_
  refine go_cmp true rfl (br_self _) ?_
  exact law_tail (f := sc a0 58 0 a3 a4 a5) rfl
def wd_1462 (z : pq_C) : pq_W := ((fw z).set 4 (.inl (.boolean, 64, .inl (upd (fun _ => 0) 59 0))))
theorem ro_2132 (z : pq_C) : pq_Ru 2 22 [.ref 1, .int 59, .int 0] (fw z) (some (.int 0), (wd_1462 z)) := by
  refine ru_of (k := 1) (M := pm_22) rfl rfl ?_
  refine go_seg 1 (pc' := 1) (ls' := [(0, .ref 1), (1, .int 59), (2, .int 0)]) (st' := [.int 59]) (w' := (fw z)) (cs' := 0) (ss' := 0) ?_ (fun _ _ => rfl)
  refine go_cl (k := 1) (st' := [.int 1]) (cs' := 0) (ss' := 0) rfl rfl rfl rfl rfl rfl rfl (ro_1665 z) ?_
  refine go_seg 8 (pc' := 24) (ls' := [(3, .int 0), (0, .ref 1), (1, .int 59), (2, .int 0)]) (st' := [.ref 1]) (w' := (fw z)) (cs' := 0) (ss' := 0) ?_ (fun _ _ => rfl)
  refine go_seg 8 (pc' := 38) (ls' := [(3, .int 0), (0, .ref 1), (1, .int 59), (2, .int 0)]) (st' := []) (w' := (wd_1462 z)) (cs' := 0) (ss' := 0) ?_ (fun _ _ => rfl)
  exact go_end 3 (fun _ _ => rfl)
theorem ro_2133 (z : pq_C) : pq_Ru 1 161 [.long 59, .long 0, .long 63] (wd_1462 z) (some (.int 1), (wd_1462 z)) := by
  refine ru_of (k := 0) (M := pm_161) rfl rfl ?_
  refine go_seg 8 (pc' := 13) (ls' := [(0, .long 59), (2, .long 0), (4, .long 63)]) (st' := []) (w' := (wd_1462 z)) (cs' := 0) (ss' := 0) ?_ (fun _ _ => rfl)
  exact go_end 3 (fun _ _ => rfl)
theorem ro_2134 (z : pq_C) : pq_Ru 2 160 [.int 59] (wd_1462 z) (some (.int 1), (wd_1462 z)) := by
  refine ru_of (k := 1) (M := pm_160) rfl rfl ?_
  refine go_seg 4 (pc' := 6) (ls' := [(0, .int 59)]) (st' := [.long 63, .long 0, .long 59]) (w' := (wd_1462 z)) (cs' := 0) (ss' := 0) ?_ (fun _ _ => rfl)
  refine go_cl (k := 1) (st' := [.int 1]) (cs' := 0) (ss' := 0) rfl rfl rfl rfl rfl rfl rfl (ro_2133 z) ?_
  exact go_end 1 (fun _ _ => rfl)
def wd_1463 (z : pq_C) : pq_W := ((wd_1462 z).set 91 (.inl (.int, 2858, .inl (upd (upd (upd (upd (upd (upd (upd (upd (upd (upd (upd (upd (upd (upd (upd (upd (upd (upd (upd (upd (upd (upd (upd (upd (upd (upd (upd (upd (upd (upd (upd (upd (upd (upd (upd (upd (upd (upd (upd (upd (upd (upd (upd (upd (upd (upd (upd (upd (upd (upd (upd (upd (upd (upd (upd (upd (upd (upd (upd (upd (upd (upd (upd (upd (upd (upd (upd (upd (upd (upd (upd (upd (upd (upd (upd (upd (upd (upd (upd (upd (upd (upd (fun _ => 0) 1 10) 10 (-1)) 11 (-1)) 12 (-1)) 13 (-1)) 14 (-1)) 15 (-1)) 16 (-1)) 17 (-1)) 18 (-1)) 19 (-1)) 20 (-1)) 21 (-1)) 22 (-1)) 23 (-1)) 24 (-1)) 25 (-1)) 26 (-1)) 27 (-1)) 28 (-1)) 29 (-1)) 30 (-1)) 31 (-1)) 32 (-1)) 33 (-1)) 34 (-1)) 35 (-1)) 36 (-1)) 37 (-1)) 38 (-1)) 39 (-1)) 40 (-1)) 41 (-1)) 42 (-1)) 43 (-1)) 44 (-1)) 45 (-1)) 46 (-1)) 47 (-1)) 48 (-1)) 49 (-1)) 50 (-1)) 51 (-1)) 52 (-1)) 53 (-1)) 54 (-1)) 55 (-1)) 56 (-1)) 57 (-1)) 58 (-1)) 59 (-1)) 60 (-1)) 61 (-1)) 62 (-1)) 63 (-1)) 64 (-1)) 65 (-1)) 66 (-1)) 67 (-1)) 68 (-1)) 69 (-1)) 70 (-1)) 71 (-1)) 72 (-1)) 73 (-1)) 139 1000) 140 100) 145 1000) 146 100) 151 1000) 152 100) 157 1000) 158 100) 163 1000) 164 100) 169 1000) 170 100) 175 1000) 176 100) 181 1000) 182 100) 133 0))))
theorem ro_2135 (z : pq_C) : pq_Ru 3 165 [.ref 90, .int 59, .int 0] (wd_1462 z) (some (.int 0), (wd_1463 z)) := by
  refine ru_of (k := 2) (M := pm_165) rfl rfl ?_
  refine go_seg 1 (pc' := 1) (ls' := [(0, .ref 90), (1, .int 59), (2, .int 0)]) (st' := [.int 59]) (w' := (wd_1462 z)) (cs' := 0) (ss' := 0) ?_ (fun _ _ => rfl)
  refine go_cl (k := 2) (st' := [.int 1]) (cs' := 0) (ss' := 0) rfl rfl rfl rfl rfl rfl rfl (ro_2134 z) ?_
  refine go_seg 8 (pc' := 24) (ls' := [(0, .ref 90), (1, .int 59), (2, .int 0)]) (st' := [.int 0, .int 0]) (w' := (wd_1462 z)) (cs' := 0) (ss' := 0) ?_ (fun _ _ => rfl)
  refine go_seg 8 (pc' := 47) (ls' := [(3, .int 0), (0, .ref 90), (1, .int 59), (2, .int 0)]) (st' := [.int 74, .ref 91]) (w' := (wd_1462 z)) (cs' := 0) (ss' := 0) ?_ (fun _ _ => rfl)
  exact go_end 8 (fun _ _ => rfl)
theorem lf_2_2137 (a0 : Int32) (a3 : Int32) (a4 : Int32) (a5 : Int32) : ∃ w', pq_Go 20 pm_law 278 [(3, .int 0), (2, .ref 90), (1, .ref 1), (0, .ref 0)] [] (fw (sz a0 59 0 a3 a4 a5)) 109 12668 (some (.int 1), w') := by
  refine ⟨(wd_1463 (sz a0 59 0 a3 a4 a5)), ?_⟩
  refine go_seg 8 (pc' := 286) (ls' := [(3, .int 0), (2, .ref 90), (1, .ref 1), (0, .ref 0)]) (st' := [.int 0, .ref 0, .int 59, .ref 1]) (w' := (fw (sz a0 59 0 a3 a4 a5))) (cs' := 109) (ss' := 12668) ?_ (fun _ _ => rfl)
  refine go_seg 5 (pc' := 297) (ls' := [(3, .int 0), (2, .ref 90), (1, .ref 1), (0, .ref 0)]) (st' := [.int 0, .int 59, .ref 1]) (w' := (fw (sz a0 59 0 a3 a4 a5))) (cs' := 109) (ss' := 12668) ?_ (fun _ _ => rfl)
  refine go_cl (k := 20) (st' := [.int 0]) (cs' := 109) (ss' := 12668) rfl rfl rfl rfl rfl rfl rfl (ro_2132 (sz a0 59 0 a3 a4 a5)) ?_
  refine go_seg 8 (pc' := 308) (ls' := [(3, .int 0), (2, .ref 90), (1, .ref 1), (0, .ref 0)]) (st' := [.int 0, .ref 0, .int 59, .ref 90, .int 0]) (w' := (wd_1462 (sz a0 59 0 a3 a4 a5))) (cs' := 109) (ss' := 12668) ?_ (fun _ _ => rfl)
  refine go_seg 5 (pc' := 319) (ls' := [(3, .int 0), (2, .ref 90), (1, .ref 1), (0, .ref 0)]) (st' := [.int 0, .int 59, .ref 90, .int 0]) (w' := (wd_1462 (sz a0 59 0 a3 a4 a5))) (cs' := 109) (ss' := 12668) ?_ (fun _ _ => rfl)
  refine go_cl (k := 20) (st' := [.int 0, .int 0]) (cs' := 109) (ss' := 12668) rfl rfl rfl rfl rfl rfl rfl (ro_2135 (sz a0 59 0 a3 a4 a5)) ?_
  refine go_cmp true rfl (br_self _) ?_
  exact law_tail (f := sc a0 59 0 a3 a4 a5) rfl
def wd_1464 (z : pq_C) : pq_W := ((fw z).set 4 (.inl (.boolean, 64, .inl (upd (fun _ => 0) 60 0))))
theorem ro_2139 (z : pq_C) : pq_Ru 2 22 [.ref 1, .int 60, .int 0] (fw z) (some (.int 0), (wd_1464 z)) := by
  refine ru_of (k := 1) (M := pm_22) rfl rfl ?_
  refine go_seg 1 (pc' := 1) (ls' := [(0, .ref 1), (1, .int 60), (2, .int 0)]) (st' := [.int 60]) (w' := (fw z)) (cs' := 0) (ss' := 0) ?_ (fun _ _ => rfl)
  refine go_cl (k := 1) (st' := [.int 1]) (cs' := 0) (ss' := 0) rfl rfl rfl rfl rfl rfl rfl (ro_1673 z) ?_
  refine go_seg 8 (pc' := 24) (ls' := [(3, .int 0), (0, .ref 1), (1, .int 60), (2, .int 0)]) (st' := [.ref 1]) (w' := (fw z)) (cs' := 0) (ss' := 0) ?_ (fun _ _ => rfl)
  refine go_seg 8 (pc' := 38) (ls' := [(3, .int 0), (0, .ref 1), (1, .int 60), (2, .int 0)]) (st' := []) (w' := (wd_1464 z)) (cs' := 0) (ss' := 0) ?_ (fun _ _ => rfl)
  exact go_end 3 (fun _ _ => rfl)
theorem ro_2140 (z : pq_C) : pq_Ru 1 161 [.long 60, .long 0, .long 63] (wd_1464 z) (some (.int 1), (wd_1464 z)) := by
  refine ru_of (k := 0) (M := pm_161) rfl rfl ?_
  refine go_seg 8 (pc' := 13) (ls' := [(0, .long 60), (2, .long 0), (4, .long 63)]) (st' := []) (w' := (wd_1464 z)) (cs' := 0) (ss' := 0) ?_ (fun _ _ => rfl)
  exact go_end 3 (fun _ _ => rfl)
theorem ro_2141 (z : pq_C) : pq_Ru 2 160 [.int 60] (wd_1464 z) (some (.int 1), (wd_1464 z)) := by
  refine ru_of (k := 1) (M := pm_160) rfl rfl ?_
  refine go_seg 4 (pc' := 6) (ls' := [(0, .int 60)]) (st' := [.long 63, .long 0, .long 60]) (w' := (wd_1464 z)) (cs' := 0) (ss' := 0) ?_ (fun _ _ => rfl)
  refine go_cl (k := 1) (st' := [.int 1]) (cs' := 0) (ss' := 0) rfl rfl rfl rfl rfl rfl rfl (ro_2140 z) ?_
  exact go_end 1 (fun _ _ => rfl)
def wd_1465 (z : pq_C) : pq_W := ((wd_1464 z).set 91 (.inl (.int, 2858, .inl (upd (upd (upd (upd (upd (upd (upd (upd (upd (upd (upd (upd (upd (upd (upd (upd (upd (upd (upd (upd (upd (upd (upd (upd (upd (upd (upd (upd (upd (upd (upd (upd (upd (upd (upd (upd (upd (upd (upd (upd (upd (upd (upd (upd (upd (upd (upd (upd (upd (upd (upd (upd (upd (upd (upd (upd (upd (upd (upd (upd (upd (upd (upd (upd (upd (upd (upd (upd (upd (upd (upd (upd (upd (upd (upd (upd (upd (upd (upd (upd (upd (upd (fun _ => 0) 1 10) 10 (-1)) 11 (-1)) 12 (-1)) 13 (-1)) 14 (-1)) 15 (-1)) 16 (-1)) 17 (-1)) 18 (-1)) 19 (-1)) 20 (-1)) 21 (-1)) 22 (-1)) 23 (-1)) 24 (-1)) 25 (-1)) 26 (-1)) 27 (-1)) 28 (-1)) 29 (-1)) 30 (-1)) 31 (-1)) 32 (-1)) 33 (-1)) 34 (-1)) 35 (-1)) 36 (-1)) 37 (-1)) 38 (-1)) 39 (-1)) 40 (-1)) 41 (-1)) 42 (-1)) 43 (-1)) 44 (-1)) 45 (-1)) 46 (-1)) 47 (-1)) 48 (-1)) 49 (-1)) 50 (-1)) 51 (-1)) 52 (-1)) 53 (-1)) 54 (-1)) 55 (-1)) 56 (-1)) 57 (-1)) 58 (-1)) 59 (-1)) 60 (-1)) 61 (-1)) 62 (-1)) 63 (-1)) 64 (-1)) 65 (-1)) 66 (-1)) 67 (-1)) 68 (-1)) 69 (-1)) 70 (-1)) 71 (-1)) 72 (-1)) 73 (-1)) 139 1000) 140 100) 145 1000) 146 100) 151 1000) 152 100) 157 1000) 158 100) 163 1000) 164 100) 169 1000) 170 100) 175 1000) 176 100) 181 1000) 182 100) 134 0))))
theorem ro_2142 (z : pq_C) : pq_Ru 3 165 [.ref 90, .int 60, .int 0] (wd_1464 z) (some (.int 0), (wd_1465 z)) := by
  refine ru_of (k := 2) (M := pm_165) rfl rfl ?_
  refine go_seg 1 (pc' := 1) (ls' := [(0, .ref 90), (1, .int 60), (2, .int 0)]) (st' := [.int 60]) (w' := (wd_1464 z)) (cs' := 0) (ss' := 0) ?_ (fun _ _ => rfl)
  refine go_cl (k := 2) (st' := [.int 1]) (cs' := 0) (ss' := 0) rfl rfl rfl rfl rfl rfl rfl (ro_2141 z) ?_
  refine go_seg 8 (pc' := 24) (ls' := [(0, .ref 90), (1, .int 60), (2, .int 0)]) (st' := [.int 0, .int 0]) (w' := (wd_1464 z)) (cs' := 0) (ss' := 0) ?_ (fun _ _ => rfl)
  refine go_seg 8 (pc' := 47) (ls' := [(3, .int 0), (0, .ref 90), (1, .int 60), (2, .int 0)]) (st' := [.int 74, .ref 91]) (w' := (wd_1464 z)) (cs' := 0) (ss' := 0) ?_ (fun _ _ => rfl)
  exact go_end 8 (fun _ _ => rfl)
theorem lf_2_2144 (a0 : Int32) (a3 : Int32) (a4 : Int32) (a5 : Int32) : ∃ w', pq_Go 20 pm_law 278 [(3, .int 0), (2, .ref 90), (1, .ref 1), (0, .ref 0)] [] (fw (sz a0 60 0 a3 a4 a5)) 109 12668 (some (.int 1), w') := by
  refine ⟨(wd_1465 (sz a0 60 0 a3 a4 a5)), ?_⟩
  refine go_seg 8 (pc' := 286) (ls' := [(3, .int 0), (2, .ref 90), (1, .ref 1), (0, .ref 0)]) (st' := [.int 0, .ref 0, .int 60, .ref 1]) (w' := (fw (sz a0 60 0 a3 a4 a5))) (cs' := 109) (ss' := 12668) ?_ (fun _ _ => rfl)
  refine go_seg 5 (pc' := 297) (ls' := [(3, .int 0), (2, .ref 90), (1, .ref 1), (0, .ref 0)]) (st' := [.int 0, .int 60, .ref 1]) (w' := (fw (sz a0 60 0 a3 a4 a5))) (cs' := 109) (ss' := 12668) ?_ (fun _ _ => rfl)
  refine go_cl (k := 20) (st' := [.int 0]) (cs' := 109) (ss' := 12668) rfl rfl rfl rfl rfl rfl rfl (ro_2139 (sz a0 60 0 a3 a4 a5)) ?_
  refine go_seg 8 (pc' := 308) (ls' := [(3, .int 0), (2, .ref 90), (1, .ref 1), (0, .ref 0)]) (st' := [.int 0, .ref 0, .int 60, .ref 90, .int 0]) (w' := (wd_1464 (sz a0 60 0 a3 a4 a5))) (cs' := 109) (ss' := 12668) ?_ (fun _ _ => rfl)
  refine go_seg 5 (pc' := 319) (ls' := [(3, .int 0), (2, .ref 90), (1, .ref 1), (0, .ref 0)]) (st' := [.int 0, .int 60, .ref 90, .int 0]) (w' := (wd_1464 (sz a0 60 0 a3 a4 a5))) (cs' := 109) (ss' := 12668) ?_ (fun _ _ => rfl)
  refine go_cl (k := 20) (st' := [.int 0, .int 0]) (cs' := 109) (ss' := 12668) rfl rfl rfl rfl rfl rfl rfl (ro_2142 (sz a0 60 0 a3 a4 a5)) ?_
  refine go_cmp true rfl (br_self _) ?_
  exact law_tail (f := sc a0 60 0 a3 a4 a5) rfl
def wd_1466 (z : pq_C) : pq_W := ((fw z).set 4 (.inl (.boolean, 64, .inl (upd (fun _ => 0) 61 0))))
theorem ro_2146 (z : pq_C) : pq_Ru 2 22 [.ref 1, .int 61, .int 0] (fw z) (some (.int 0), (wd_1466 z)) := by
  refine ru_of (k := 1) (M := pm_22) rfl rfl ?_
  refine go_seg 1 (pc' := 1) (ls' := [(0, .ref 1), (1, .int 61), (2, .int 0)]) (st' := [.int 61]) (w' := (fw z)) (cs' := 0) (ss' := 0) ?_ (fun _ _ => rfl)
  refine go_cl (k := 1) (st' := [.int 1]) (cs' := 0) (ss' := 0) rfl rfl rfl rfl rfl rfl rfl (ro_1681 z) ?_
  refine go_seg 8 (pc' := 24) (ls' := [(3, .int 0), (0, .ref 1), (1, .int 61), (2, .int 0)]) (st' := [.ref 1]) (w' := (fw z)) (cs' := 0) (ss' := 0) ?_ (fun _ _ => rfl)
  refine go_seg 8 (pc' := 38) (ls' := [(3, .int 0), (0, .ref 1), (1, .int 61), (2, .int 0)]) (st' := []) (w' := (wd_1466 z)) (cs' := 0) (ss' := 0) ?_ (fun _ _ => rfl)
  exact go_end 3 (fun _ _ => rfl)
theorem ro_2147 (z : pq_C) : pq_Ru 1 161 [.long 61, .long 0, .long 63] (wd_1466 z) (some (.int 1), (wd_1466 z)) := by
  refine ru_of (k := 0) (M := pm_161) rfl rfl ?_
  refine go_seg 8 (pc' := 13) (ls' := [(0, .long 61), (2, .long 0), (4, .long 63)]) (st' := []) (w' := (wd_1466 z)) (cs' := 0) (ss' := 0) ?_ (fun _ _ => rfl)
  exact go_end 3 (fun _ _ => rfl)
theorem ro_2148 (z : pq_C) : pq_Ru 2 160 [.int 61] (wd_1466 z) (some (.int 1), (wd_1466 z)) := by
  refine ru_of (k := 1) (M := pm_160) rfl rfl ?_
  refine go_seg 4 (pc' := 6) (ls' := [(0, .int 61)]) (st' := [.long 63, .long 0, .long 61]) (w' := (wd_1466 z)) (cs' := 0) (ss' := 0) ?_ (fun _ _ => rfl)
  refine go_cl (k := 1) (st' := [.int 1]) (cs' := 0) (ss' := 0) rfl rfl rfl rfl rfl rfl rfl (ro_2147 z) ?_
  exact go_end 1 (fun _ _ => rfl)
def wd_1467 (z : pq_C) : pq_W := ((wd_1466 z).set 91 (.inl (.int, 2858, .inl (upd (upd (upd (upd (upd (upd (upd (upd (upd (upd (upd (upd (upd (upd (upd (upd (upd (upd (upd (upd (upd (upd (upd (upd (upd (upd (upd (upd (upd (upd (upd (upd (upd (upd (upd (upd (upd (upd (upd (upd (upd (upd (upd (upd (upd (upd (upd (upd (upd (upd (upd (upd (upd (upd (upd (upd (upd (upd (upd (upd (upd (upd (upd (upd (upd (upd (upd (upd (upd (upd (upd (upd (upd (upd (upd (upd (upd (upd (upd (upd (upd (upd (fun _ => 0) 1 10) 10 (-1)) 11 (-1)) 12 (-1)) 13 (-1)) 14 (-1)) 15 (-1)) 16 (-1)) 17 (-1)) 18 (-1)) 19 (-1)) 20 (-1)) 21 (-1)) 22 (-1)) 23 (-1)) 24 (-1)) 25 (-1)) 26 (-1)) 27 (-1)) 28 (-1)) 29 (-1)) 30 (-1)) 31 (-1)) 32 (-1)) 33 (-1)) 34 (-1)) 35 (-1)) 36 (-1)) 37 (-1)) 38 (-1)) 39 (-1)) 40 (-1)) 41 (-1)) 42 (-1)) 43 (-1)) 44 (-1)) 45 (-1)) 46 (-1)) 47 (-1)) 48 (-1)) 49 (-1)) 50 (-1)) 51 (-1)) 52 (-1)) 53 (-1)) 54 (-1)) 55 (-1)) 56 (-1)) 57 (-1)) 58 (-1)) 59 (-1)) 60 (-1)) 61 (-1)) 62 (-1)) 63 (-1)) 64 (-1)) 65 (-1)) 66 (-1)) 67 (-1)) 68 (-1)) 69 (-1)) 70 (-1)) 71 (-1)) 72 (-1)) 73 (-1)) 139 1000) 140 100) 145 1000) 146 100) 151 1000) 152 100) 157 1000) 158 100) 163 1000) 164 100) 169 1000) 170 100) 175 1000) 176 100) 181 1000) 182 100) 135 0))))
theorem ro_2149 (z : pq_C) : pq_Ru 3 165 [.ref 90, .int 61, .int 0] (wd_1466 z) (some (.int 0), (wd_1467 z)) := by
  refine ru_of (k := 2) (M := pm_165) rfl rfl ?_
  refine go_seg 1 (pc' := 1) (ls' := [(0, .ref 90), (1, .int 61), (2, .int 0)]) (st' := [.int 61]) (w' := (wd_1466 z)) (cs' := 0) (ss' := 0) ?_ (fun _ _ => rfl)
  refine go_cl (k := 2) (st' := [.int 1]) (cs' := 0) (ss' := 0) rfl rfl rfl rfl rfl rfl rfl (ro_2148 z) ?_
  refine go_seg 8 (pc' := 24) (ls' := [(0, .ref 90), (1, .int 61), (2, .int 0)]) (st' := [.int 0, .int 0]) (w' := (wd_1466 z)) (cs' := 0) (ss' := 0) ?_ (fun _ _ => rfl)
  refine go_seg 8 (pc' := 47) (ls' := [(3, .int 0), (0, .ref 90), (1, .int 61), (2, .int 0)]) (st' := [.int 74, .ref 91]) (w' := (wd_1466 z)) (cs' := 0) (ss' := 0) ?_ (fun _ _ => rfl)
  exact go_end 8 (fun _ _ => rfl)
theorem lf_2_2151 (a0 : Int32) (a3 : Int32) (a4 : Int32) (a5 : Int32) : ∃ w', pq_Go 20 pm_law 278 [(3, .int 0), (2, .ref 90), (1, .ref 1), (0, .ref 0)] [] (fw (sz a0 61 0 a3 a4 a5)) 109 12668 (some (.int 1), w') := by
  refine ⟨(wd_1467 (sz a0 61 0 a3 a4 a5)), ?_⟩
  refine go_seg 8 (pc' := 286) (ls' := [(3, .int 0), (2, .ref 90), (1, .ref 1), (0, .ref 0)]) (st' := [.int 0, .ref 0, .int 61, .ref 1]) (w' := (fw (sz a0 61 0 a3 a4 a5))) (cs' := 109) (ss' := 12668) ?_ (fun _ _ => rfl)
  refine go_seg 5 (pc' := 297) (ls' := [(3, .int 0), (2, .ref 90), (1, .ref 1), (0, .ref 0)]) (st' := [.int 0, .int 61, .ref 1]) (w' := (fw (sz a0 61 0 a3 a4 a5))) (cs' := 109) (ss' := 12668) ?_ (fun _ _ => rfl)
  refine go_cl (k := 20) (st' := [.int 0]) (cs' := 109) (ss' := 12668) rfl rfl rfl rfl rfl rfl rfl (ro_2146 (sz a0 61 0 a3 a4 a5)) ?_
  refine go_seg 8 (pc' := 308) (ls' := [(3, .int 0), (2, .ref 90), (1, .ref 1), (0, .ref 0)]) (st' := [.int 0, .ref 0, .int 61, .ref 90, .int 0]) (w' := (wd_1466 (sz a0 61 0 a3 a4 a5))) (cs' := 109) (ss' := 12668) ?_ (fun _ _ => rfl)
  refine go_seg 5 (pc' := 319) (ls' := [(3, .int 0), (2, .ref 90), (1, .ref 1), (0, .ref 0)]) (st' := [.int 0, .int 61, .ref 90, .int 0]) (w' := (wd_1466 (sz a0 61 0 a3 a4 a5))) (cs' := 109) (ss' := 12668) ?_ (fun _ _ => rfl)
  refine go_cl (k := 20) (st' := [.int 0, .int 0]) (cs' := 109) (ss' := 12668) rfl rfl rfl rfl rfl rfl rfl (ro_2149 (sz a0 61 0 a3 a4 a5)) ?_
  refine go_cmp true rfl (br_self _) ?_
  exact law_tail (f := sc a0 61 0 a3 a4 a5) rfl
def wd_1468 (z : pq_C) : pq_W := ((fw z).set 4 (.inl (.boolean, 64, .inl (upd (fun _ => 0) 62 0))))
theorem ro_2153 (z : pq_C) : pq_Ru 2 22 [.ref 1, .int 62, .int 0] (fw z) (some (.int 0), (wd_1468 z)) := by
  refine ru_of (k := 1) (M := pm_22) rfl rfl ?_
  refine go_seg 1 (pc' := 1) (ls' := [(0, .ref 1), (1, .int 62), (2, .int 0)]) (st' := [.int 62]) (w' := (fw z)) (cs' := 0) (ss' := 0) ?_ (fun _ _ => rfl)
  refine go_cl (k := 1) (st' := [.int 1]) (cs' := 0) (ss' := 0) rfl rfl rfl rfl rfl rfl rfl (ro_1689 z) ?_
  refine go_seg 8 (pc' := 24) (ls' := [(3, .int 0), (0, .ref 1), (1, .int 62), (2, .int 0)]) (st' := [.ref 1]) (w' := (fw z)) (cs' := 0) (ss' := 0) ?_ (fun _ _ => rfl)
  refine go_seg 8 (pc' := 38) (ls' := [(3, .int 0), (0, .ref 1), (1, .int 62), (2, .int 0)]) (st' := []) (w' := (wd_1468 z)) (cs' := 0) (ss' := 0) ?_ (fun _ _ => rfl)
  exact go_end 3 (fun _ _ => rfl)
theorem ro_2154 (z : pq_C) : pq_Ru 1 161 [.long 62, .long 0, .long 63] (wd_1468 z) (some (.int 1), (wd_1468 z)) := by
  refine ru_of (k := 0) (M := pm_161) rfl rfl ?_
  refine go_seg 8 (pc' := 13) (ls' := [(0, .long 62), (2, .long 0), (4, .long 63)]) (st' := []) (w' := (wd_1468 z)) (cs' := 0) (ss' := 0) ?_ (fun _ _ => rfl)
  exact go_end 3 (fun _ _ => rfl)
theorem ro_2155 (z : pq_C) : pq_Ru 2 160 [.int 62] (wd_1468 z) (some (.int 1), (wd_1468 z)) := by
  refine ru_of (k := 1) (M := pm_160) rfl rfl ?_
  refine go_seg 4 (pc' := 6) (ls' := [(0, .int 62)]) (st' := [.long 63, .long 0, .long 62]) (w' := (wd_1468 z)) (cs' := 0) (ss' := 0) ?_ (fun _ _ => rfl)
  refine go_cl (k := 1) (st' := [.int 1]) (cs' := 0) (ss' := 0) rfl rfl rfl rfl rfl rfl rfl (ro_2154 z) ?_
  exact go_end 1 (fun _ _ => rfl)
def wd_1469 (z : pq_C) : pq_W := ((wd_1468 z).set 91 (.inl (.int, 2858, .inl (upd (upd (upd (upd (upd (upd (upd (upd (upd (upd (upd (upd (upd (upd (upd (upd (upd (upd (upd (upd (upd (upd (upd (upd (upd (upd (upd (upd (upd (upd (upd (upd (upd (upd (upd (upd (upd (upd (upd (upd (upd (upd (upd (upd (upd (upd (upd (upd (upd (upd (upd (upd (upd (upd (upd (upd (upd (upd (upd (upd (upd (upd (upd (upd (upd (upd (upd (upd (upd (upd (upd (upd (upd (upd (upd (upd (upd (upd (upd (upd (upd (upd (fun _ => 0) 1 10) 10 (-1)) 11 (-1)) 12 (-1)) 13 (-1)) 14 (-1)) 15 (-1)) 16 (-1)) 17 (-1)) 18 (-1)) 19 (-1)) 20 (-1)) 21 (-1)) 22 (-1)) 23 (-1)) 24 (-1)) 25 (-1)) 26 (-1)) 27 (-1)) 28 (-1)) 29 (-1)) 30 (-1)) 31 (-1)) 32 (-1)) 33 (-1)) 34 (-1)) 35 (-1)) 36 (-1)) 37 (-1)) 38 (-1)) 39 (-1)) 40 (-1)) 41 (-1)) 42 (-1)) 43 (-1)) 44 (-1)) 45 (-1)) 46 (-1)) 47 (-1)) 48 (-1)) 49 (-1)) 50 (-1)) 51 (-1)) 52 (-1)) 53 (-1)) 54 (-1)) 55 (-1)) 56 (-1)) 57 (-1)) 58 (-1)) 59 (-1)) 60 (-1)) 61 (-1)) 62 (-1)) 63 (-1)) 64 (-1)) 65 (-1)) 66 (-1)) 67 (-1)) 68 (-1)) 69 (-1)) 70 (-1)) 71 (-1)) 72 (-1)) 73 (-1)) 139 1000) 140 100) 145 1000) 146 100) 151 1000) 152 100) 157 1000) 158 100) 163 1000) 164 100) 169 1000) 170 100) 175 1000) 176 100) 181 1000) 182 100) 136 0))))
theorem ro_2156 (z : pq_C) : pq_Ru 3 165 [.ref 90, .int 62, .int 0] (wd_1468 z) (some (.int 0), (wd_1469 z)) := by
  refine ru_of (k := 2) (M := pm_165) rfl rfl ?_
  refine go_seg 1 (pc' := 1) (ls' := [(0, .ref 90), (1, .int 62), (2, .int 0)]) (st' := [.int 62]) (w' := (wd_1468 z)) (cs' := 0) (ss' := 0) ?_ (fun _ _ => rfl)
  refine go_cl (k := 2) (st' := [.int 1]) (cs' := 0) (ss' := 0) rfl rfl rfl rfl rfl rfl rfl (ro_2155 z) ?_
  refine go_seg 8 (pc' := 24) (ls' := [(0, .ref 90), (1, .int 62), (2, .int 0)]) (st' := [.int 0, .int 0]) (w' := (wd_1468 z)) (cs' := 0) (ss' := 0) ?_ (fun _ _ => rfl)
  refine go_seg 8 (pc' := 47) (ls' := [(3, .int 0), (0, .ref 90), (1, .int 62), (2, .int 0)]) (st' := [.int 74, .ref 91]) (w' := (wd_1468 z)) (cs' := 0) (ss' := 0) ?_ (fun _ _ => rfl)
  exact go_end 8 (fun _ _ => rfl)
theorem lf_2_2158 (a0 : Int32) (a3 : Int32) (a4 : Int32) (a5 : Int32) : ∃ w', pq_Go 20 pm_law 278 [(3, .int 0), (2, .ref 90), (1, .ref 1), (0, .ref 0)] [] (fw (sz a0 62 0 a3 a4 a5)) 109 12668 (some (.int 1), w') := by
  refine ⟨(wd_1469 (sz a0 62 0 a3 a4 a5)), ?_⟩
  refine go_seg 8 (pc' := 286) (ls' := [(3, .int 0), (2, .ref 90), (1, .ref 1), (0, .ref 0)]) (st' := [.int 0, .ref 0, .int 62, .ref 1]) (w' := (fw (sz a0 62 0 a3 a4 a5))) (cs' := 109) (ss' := 12668) ?_ (fun _ _ => rfl)
  refine go_seg 5 (pc' := 297) (ls' := [(3, .int 0), (2, .ref 90), (1, .ref 1), (0, .ref 0)]) (st' := [.int 0, .int 62, .ref 1]) (w' := (fw (sz a0 62 0 a3 a4 a5))) (cs' := 109) (ss' := 12668) ?_ (fun _ _ => rfl)
  refine go_cl (k := 20) (st' := [.int 0]) (cs' := 109) (ss' := 12668) rfl rfl rfl rfl rfl rfl rfl (ro_2153 (sz a0 62 0 a3 a4 a5)) ?_
  refine go_seg 8 (pc' := 308) (ls' := [(3, .int 0), (2, .ref 90), (1, .ref 1), (0, .ref 0)]) (st' := [.int 0, .ref 0, .int 62, .ref 90, .int 0]) (w' := (wd_1468 (sz a0 62 0 a3 a4 a5))) (cs' := 109) (ss' := 12668) ?_ (fun _ _ => rfl)
  refine go_seg 5 (pc' := 319) (ls' := [(3, .int 0), (2, .ref 90), (1, .ref 1), (0, .ref 0)]) (st' := [.int 0, .int 62, .ref 90, .int 0]) (w' := (wd_1468 (sz a0 62 0 a3 a4 a5))) (cs' := 109) (ss' := 12668) ?_ (fun _ _ => rfl)
  refine go_cl (k := 20) (st' := [.int 0, .int 0]) (cs' := 109) (ss' := 12668) rfl rfl rfl rfl rfl rfl rfl (ro_2156 (sz a0 62 0 a3 a4 a5)) ?_
  refine go_cmp true rfl (br_self _) ?_
  exact law_tail (f := sc a0 62 0 a3 a4 a5) rfl
def wd_1470 (z : pq_C) : pq_W := ((fw z).set 4 (.inl (.boolean, 64, .inl (upd (fun _ => 0) 63 0))))
theorem ro_2160 (z : pq_C) : pq_Ru 2 22 [.ref 1, .int 63, .int 0] (fw z) (some (.int 0), (wd_1470 z)) := by
  refine ru_of (k := 1) (M := pm_22) rfl rfl ?_
  refine go_seg 1 (pc' := 1) (ls' := [(0, .ref 1), (1, .int 63), (2, .int 0)]) (st' := [.int 63]) (w' := (fw z)) (cs' := 0) (ss' := 0) ?_ (fun _ _ => rfl)
  refine go_cl (k := 1) (st' := [.int 1]) (cs' := 0) (ss' := 0) rfl rfl rfl rfl rfl rfl rfl (ro_1697 z) ?_
  refine go_seg 8 (pc' := 24) (ls' := [(3, .int 0), (0, .ref 1), (1, .int 63), (2, .int 0)]) (st' := [.ref 1]) (w' := (fw z)) (cs' := 0) (ss' := 0) ?_ (fun _ _ => rfl)
  refine go_seg 8 (pc' := 38) (ls' := [(3, .int 0), (0, .ref 1), (1, .int 63), (2, .int 0)]) (st' := []) (w' := (wd_1470 z)) (cs' := 0) (ss' := 0) ?_ (fun _ _ => rfl)
  exact go_end 3 (fun _ _ => rfl)
theorem ro_2161 (z : pq_C) : pq_Ru 1 161 [.long 63, .long 0, .long 63] (wd_1470 z) (some (.int 1), (wd_1470 z)) := by
  refine ru_of (k := 0) (M := pm_161) rfl rfl ?_
  refine go_seg 8 (pc' := 13) (ls' := [(0, .long 63), (2, .long 0), (4, .long 63)]) (st' := []) (w' := (wd_1470 z)) (cs' := 0) (ss' := 0) ?_ (fun _ _ => rfl)
  exact go_end 3 (fun _ _ => rfl)
theorem ro_2162 (z : pq_C) : pq_Ru 2 160 [.int 63] (wd_1470 z) (some (.int 1), (wd_1470 z)) := by
  refine ru_of (k := 1) (M := pm_160) rfl rfl ?_
  refine go_seg 4 (pc' := 6) (ls' := [(0, .int 63)]) (st' := [.long 63, .long 0, .long 63]) (w' := (wd_1470 z)) (cs' := 0) (ss' := 0) ?_ (fun _ _ => rfl)
  refine go_cl (k := 1) (st' := [.int 1]) (cs' := 0) (ss' := 0) rfl rfl rfl rfl rfl rfl rfl (ro_2161 z) ?_
  exact go_end 1 (fun _ _ => rfl)
def wd_1471 (z : pq_C) : pq_W := ((wd_1470 z).set 91 (.inl (.int, 2858, .inl (upd (upd (upd (upd (upd (upd (upd (upd (upd (upd (upd (upd (upd (upd (upd (upd (upd (upd (upd (upd (upd (upd (upd (upd (upd (upd (upd (upd (upd (upd (upd (upd (upd (upd (upd (upd (upd (upd (upd (upd (upd (upd (upd (upd (upd (upd (upd (upd (upd (upd (upd (upd (upd (upd (upd (upd (upd (upd (upd (upd (upd (upd (upd (upd (upd (upd (upd (upd (upd (upd (upd (upd (upd (upd (upd (upd (upd (upd (upd (upd (upd (upd (fun _ => 0) 1 10) 10 (-1)) 11 (-1)) 12 (-1)) 13 (-1)) 14 (-1)) 15 (-1)) 16 (-1)) 17 (-1)) 18 (-1)) 19 (-1)) 20 (-1)) 21 (-1)) 22 (-1)) 23 (-1)) 24 (-1)) 25 (-1)) 26 (-1)) 27 (-1)) 28 (-1)) 29 (-1)) 30 (-1)) 31 (-1)) 32 (-1)) 33 (-1)) 34 (-1)) 35 (-1)) 36 (-1)) 37 (-1)) 38 (-1)) 39 (-1)) 40 (-1)) 41 (-1)) 42 (-1)) 43 (-1)) 44 (-1)) 45 (-1)) 46 (-1)) 47 (-1)) 48 (-1)) 49 (-1)) 50 (-1)) 51 (-1)) 52 (-1)) 53 (-1)) 54 (-1)) 55 (-1)) 56 (-1)) 57 (-1)) 58 (-1)) 59 (-1)) 60 (-1)) 61 (-1)) 62 (-1)) 63 (-1)) 64 (-1)) 65 (-1)) 66 (-1)) 67 (-1)) 68 (-1)) 69 (-1)) 70 (-1)) 71 (-1)) 72 (-1)) 73 (-1)) 139 1000) 140 100) 145 1000) 146 100) 151 1000) 152 100) 157 1000) 158 100) 163 1000) 164 100) 169 1000) 170 100) 175 1000) 176 100) 181 1000) 182 100) 137 0))))
theorem ro_2163 (z : pq_C) : pq_Ru 3 165 [.ref 90, .int 63, .int 0] (wd_1470 z) (some (.int 0), (wd_1471 z)) := by
  refine ru_of (k := 2) (M := pm_165) rfl rfl ?_
  refine go_seg 1 (pc' := 1) (ls' := [(0, .ref 90), (1, .int 63), (2, .int 0)]) (st' := [.int 63]) (w' := (wd_1470 z)) (cs' := 0) (ss' := 0) ?_ (fun _ _ => rfl)
  refine go_cl (k := 2) (st' := [.int 1]) (cs' := 0) (ss' := 0) rfl rfl rfl rfl rfl rfl rfl (ro_2162 z) ?_
  refine go_seg 8 (pc' := 24) (ls' := [(0, .ref 90), (1, .int 63), (2, .int 0)]) (st' := [.int 0, .int 0]) (w' := (wd_1470 z)) (cs' := 0) (ss' := 0) ?_ (fun _ _ => rfl)
  refine go_seg 8 (pc' := 47) (ls' := [(3, .int 0), (0, .ref 90), (1, .int 63), (2, .int 0)]) (st' := [.int 74, .ref 91]) (w' := (wd_1470 z)) (cs' := 0) (ss' := 0) ?_ (fun _ _ => rfl)
  exact go_end 8 (fun _ _ => rfl)
theorem lf_2_2165 (a0 : Int32) (a3 : Int32) (a4 : Int32) (a5 : Int32) : ∃ w', pq_Go 20 pm_law 278 [(3, .int 0), (2, .ref 90), (1, .ref 1), (0, .ref 0)] [] (fw (sz a0 63 0 a3 a4 a5)) 109 12668 (some (.int 1), w') := by
  refine ⟨(wd_1471 (sz a0 63 0 a3 a4 a5)), ?_⟩
  refine go_seg 8 (pc' := 286) (ls' := [(3, .int 0), (2, .ref 90), (1, .ref 1), (0, .ref 0)]) (st' := [.int 0, .ref 0, .int 63, .ref 1]) (w' := (fw (sz a0 63 0 a3 a4 a5))) (cs' := 109) (ss' := 12668) ?_ (fun _ _ => rfl)
  refine go_seg 5 (pc' := 297) (ls' := [(3, .int 0), (2, .ref 90), (1, .ref 1), (0, .ref 0)]) (st' := [.int 0, .int 63, .ref 1]) (w' := (fw (sz a0 63 0 a3 a4 a5))) (cs' := 109) (ss' := 12668) ?_ (fun _ _ => rfl)
  refine go_cl (k := 20) (st' := [.int 0]) (cs' := 109) (ss' := 12668) rfl rfl rfl rfl rfl rfl rfl (ro_2160 (sz a0 63 0 a3 a4 a5)) ?_
  refine go_seg 8 (pc' := 308) (ls' := [(3, .int 0), (2, .ref 90), (1, .ref 1), (0, .ref 0)]) (st' := [.int 0, .ref 0, .int 63, .ref 90, .int 0]) (w' := (wd_1470 (sz a0 63 0 a3 a4 a5))) (cs' := 109) (ss' := 12668) ?_ (fun _ _ => rfl)
  refine go_seg 5 (pc' := 319) (ls' := [(3, .int 0), (2, .ref 90), (1, .ref 1), (0, .ref 0)]) (st' := [.int 0, .int 63, .ref 90, .int 0]) (w' := (wd_1470 (sz a0 63 0 a3 a4 a5))) (cs' := 109) (ss' := 12668) ?_ (fun _ _ => rfl)
  refine go_cl (k := 20) (st' := [.int 0, .int 0]) (cs' := 109) (ss' := 12668) rfl rfl rfl rfl rfl rfl rfl (ro_2163 (sz a0 63 0 a3 a4 a5)) ?_
  refine go_cmp true rfl (br_self _) ?_
  exact law_tail (f := sc a0 63 0 a3 a4 a5) rfl
theorem ro_2166 (z : pq_C) (a1 : Int32) (h0 : 0 ≤ a1.toInt) (h1 : 64 ≤ a1.toInt) : pq_Ru 3 22 [.ref 1, .int a1, .int 0] (fw z) (some (.int (-1000001)), (wd_1000 z)) := by
  refine ru_of (k := 2) (M := pm_22) rfl rfl ?_
  refine go_seg 1 (pc' := 1) (ls' := [(0, .ref 1), (1, .int a1), (2, .int 0)]) (st' := [.int a1]) (w' := (fw z)) (cs' := 0) (ss' := 0) ?_ (fun _ _ => rfl)
  refine go_cl (k := 2) (st' := [.int 0]) (cs' := 0) (ss' := 0) rfl rfl rfl rfl rfl rfl rfl (ro_1709 z a1 (by omega) (by omega)) ?_
  refine go_seg 3 (pc' := 9) (ls' := [(0, .ref 1), (1, .int a1), (2, .int 0)]) (st' := [.int 1, .ref 1]) (w' := (fw z)) (cs' := 0) (ss' := 0) ?_ (fun _ _ => rfl)
  refine go_cl (k := 2) (st' := [.int (-1000001)]) (cs' := 0) (ss' := 0) rfl rfl rfl rfl rfl rfl rfl (ro_2 z) ?_
  exact go_end 1 (fun _ _ => rfl)
theorem ro_2167 (z : pq_C) (a1 : Int32) (h0 : 0 ≤ a1.toInt) (h1 : 64 ≤ a1.toInt) : pq_Ru 3 165 [.ref 90, .int a1, .int 0] (wd_1000 z) (some (.int (-1000001)), (wd_1001 z)) := by
  refine ru_of (k := 2) (M := pm_165) rfl rfl ?_
  refine go_seg 1 (pc' := 1) (ls' := [(0, .ref 90), (1, .int a1), (2, .int 0)]) (st' := [.int a1]) (w' := (wd_1000 z)) (cs' := 0) (ss' := 0) ?_ (fun _ _ => rfl)
  refine go_cl (k := 2) (st' := [.int 0]) (cs' := 0) (ss' := 0) rfl rfl rfl rfl rfl rfl rfl (ro_1711 z a1 (by omega) (by omega)) ?_
  refine go_seg 3 (pc' := 10) (ls' := [(0, .ref 90), (1, .int a1), (2, .int 0)]) (st' := [.int (-1000001), .ref 90]) (w' := (wd_1000 z)) (cs' := 0) (ss' := 0) ?_ (fun _ _ => rfl)
  refine go_cl (k := 2) (st' := [.int (-1000001)]) (cs' := 0) (ss' := 0) rfl rfl rfl rfl rfl rfl rfl (ro_5 z) ?_
  exact go_end 1 (fun _ _ => rfl)
theorem lf_2_2168 (a0 : Int32) (a1 : Int32) (a3 : Int32) (a4 : Int32) (a5 : Int32) (h0 : 0 ≤ a1.toInt) (h1 : 64 ≤ a1.toInt) : ∃ w', pq_Go 20 pm_law 278 [(3, .int 0), (2, .ref 90), (1, .ref 1), (0, .ref 0)] [] (fw (sz a0 a1 0 a3 a4 a5)) 109 12668 (some (.int 1), w') := by
  refine ⟨(wd_1001 (sz a0 a1 0 a3 a4 a5)), ?_⟩
  refine go_seg 8 (pc' := 286) (ls' := [(3, .int 0), (2, .ref 90), (1, .ref 1), (0, .ref 0)]) (st' := [.int 0, .ref 0, .int a1, .ref 1]) (w' := (fw (sz a0 a1 0 a3 a4 a5))) (cs' := 109) (ss' := 12668) ?_ (fun _ _ => rfl)
  refine go_seg 5 (pc' := 297) (ls' := [(3, .int 0), (2, .ref 90), (1, .ref 1), (0, .ref 0)]) (st' := [.int 0, .int a1, .ref 1]) (w' := (fw (sz a0 a1 0 a3 a4 a5))) (cs' := 109) (ss' := 12668) ?_ (fun _ _ => rfl)
  refine go_cl (k := 20) (st' := [.int (-1000001)]) (cs' := 109) (ss' := 12668) rfl rfl rfl rfl rfl rfl rfl (ro_2166 (sz a0 a1 0 a3 a4 a5) a1 (by omega) (by omega)) ?_
  refine go_seg 8 (pc' := 308) (ls' := [(3, .int 0), (2, .ref 90), (1, .ref 1), (0, .ref 0)]) (st' := [.int 0, .ref 0, .int a1, .ref 90, .int (-1000001)]) (w' := (wd_1000 (sz a0 a1 0 a3 a4 a5))) (cs' := 109) (ss' := 12668) ?_ (fun _ _ => rfl)
  refine go_seg 5 (pc' := 319) (ls' := [(3, .int 0), (2, .ref 90), (1, .ref 1), (0, .ref 0)]) (st' := [.int 0, .int a1, .ref 90, .int (-1000001)]) (w' := (wd_1000 (sz a0 a1 0 a3 a4 a5))) (cs' := 109) (ss' := 12668) ?_ (fun _ _ => rfl)
  refine go_cl (k := 20) (st' := [.int (-1000001), .int (-1000001)]) (cs' := 109) (ss' := 12668) rfl rfl rfl rfl rfl rfl rfl (ro_2167 (sz a0 a1 0 a3 a4 a5) a1 (by omega) (by omega)) ?_
  refine go_cmp true rfl (br_self _) ?_
  exact law_tail (f := sc a0 a1 0 a3 a4 a5) rfl
theorem ro_2169 (z : pq_C) (a1 : Int32) (h0 : a1.toInt < 0) : pq_Ru 3 22 [.ref 1, .int a1, .int 1] (fw z) (some (.int (-1000001)), (wd_1000 z)) := by
  refine ru_of (k := 2) (M := pm_22) rfl rfl ?_
  refine go_seg 1 (pc' := 1) (ls' := [(0, .ref 1), (1, .int a1), (2, .int 1)]) (st' := [.int a1]) (w' := (fw z)) (cs' := 0) (ss' := 0) ?_ (fun _ _ => rfl)
  refine go_cl (k := 2) (st' := [.int 0]) (cs' := 0) (ss' := 0) rfl rfl rfl rfl rfl rfl rfl (ro_1181 z a1 (by omega)) ?_
  refine go_seg 3 (pc' := 9) (ls' := [(0, .ref 1), (1, .int a1), (2, .int 1)]) (st' := [.int 1, .ref 1]) (w' := (fw z)) (cs' := 0) (ss' := 0) ?_ (fun _ _ => rfl)
  refine go_cl (k := 2) (st' := [.int (-1000001)]) (cs' := 0) (ss' := 0) rfl rfl rfl rfl rfl rfl rfl (ro_2 z) ?_
  exact go_end 1 (fun _ _ => rfl)
theorem ro_2170 (z : pq_C) (a1 : Int32) (h0 : a1.toInt < 0) : pq_Ru 3 165 [.ref 90, .int a1, .int 1] (wd_1000 z) (some (.int (-1000001)), (wd_1001 z)) := by
  refine ru_of (k := 2) (M := pm_165) rfl rfl ?_
  refine go_seg 1 (pc' := 1) (ls' := [(0, .ref 90), (1, .int a1), (2, .int 1)]) (st' := [.int a1]) (w' := (wd_1000 z)) (cs' := 0) (ss' := 0) ?_ (fun _ _ => rfl)
  refine go_cl (k := 2) (st' := [.int 0]) (cs' := 0) (ss' := 0) rfl rfl rfl rfl rfl rfl rfl (ro_1183 z a1 (by omega)) ?_
  refine go_seg 3 (pc' := 10) (ls' := [(0, .ref 90), (1, .int a1), (2, .int 1)]) (st' := [.int (-1000001), .ref 90]) (w' := (wd_1000 z)) (cs' := 0) (ss' := 0) ?_ (fun _ _ => rfl)
  refine go_cl (k := 2) (st' := [.int (-1000001)]) (cs' := 0) (ss' := 0) rfl rfl rfl rfl rfl rfl rfl (ro_5 z) ?_
  exact go_end 1 (fun _ _ => rfl)
theorem lf_2_2171 (a0 : Int32) (a1 : Int32) (a2 : Int32) (a3 : Int32) (a4 : Int32) (a5 : Int32) (h0 : ¬ a2.toInt = 0) (h1 : a1.toInt < 0) : ∃ w', pq_Go 20 pm_law 278 [(3, .int 0), (2, .ref 90), (1, .ref 1), (0, .ref 0)] [] (fw (sz a0 a1 a2 a3 a4 a5)) 109 12668 (some (.int 1), w') := by
  refine ⟨(wd_1001 (sz a0 a1 a2 a3 a4 a5)), ?_⟩
  refine go_seg 8 (pc' := 286) (ls' := [(3, .int 0), (2, .ref 90), (1, .ref 1), (0, .ref 0)]) (st' := [.int 0, .ref 0, .int a1, .ref 1]) (w' := (fw (sz a0 a1 a2 a3 a4 a5))) (cs' := 109) (ss' := 12668) ?_ (fun _ _ => rfl)
  refine go_seg 3 (pc' := 289) (ls' := [(3, .int 0), (2, .ref 90), (1, .ref 1), (0, .ref 0)]) (st' := [.int a2, .int a1, .ref 1]) (w' := (fw (sz a0 a1 a2 a3 a4 a5))) (cs' := 109) (ss' := 12668) ?_ (fun _ _ => rfl)
  refine go_if false rfl (br_eq_f (b := 0) rfl (by omega)) ?_
  refine go_seg 2 (pc' := 297) (ls' := [(3, .int 0), (2, .ref 90), (1, .ref 1), (0, .ref 0)]) (st' := [.int 1, .int a1, .ref 1]) (w' := (fw (sz a0 a1 a2 a3 a4 a5))) (cs' := 109) (ss' := 12668) ?_ (fun _ _ => rfl)
  refine go_cl (k := 20) (st' := [.int (-1000001)]) (cs' := 109) (ss' := 12668) rfl rfl rfl rfl rfl rfl rfl (ro_2169 (sz a0 a1 a2 a3 a4 a5) a1 (by omega)) ?_
  refine go_seg 8 (pc' := 308) (ls' := [(3, .int 0), (2, .ref 90), (1, .ref 1), (0, .ref 0)]) (st' := [.int 0, .ref 0, .int a1, .ref 90, .int (-1000001)]) (w' := (wd_1000 (sz a0 a1 a2 a3 a4 a5))) (cs' := 109) (ss' := 12668) ?_ (fun _ _ => rfl)
  refine go_seg 3 (pc' := 311) (ls' := [(3, .int 0), (2, .ref 90), (1, .ref 1), (0, .ref 0)]) (st' := [.int a2, .int a1, .ref 90, .int (-1000001)]) (w' := (wd_1000 (sz a0 a1 a2 a3 a4 a5))) (cs' := 109) (ss' := 12668) ?_ (fun _ _ => rfl)
  refine go_if false rfl (br_eq_f (b := 0) rfl (by omega)) ?_
  refine go_seg 2 (pc' := 319) (ls' := [(3, .int 0), (2, .ref 90), (1, .ref 1), (0, .ref 0)]) (st' := [.int 1, .int a1, .ref 90, .int (-1000001)]) (w' := (wd_1000 (sz a0 a1 a2 a3 a4 a5))) (cs' := 109) (ss' := 12668) ?_ (fun _ _ => rfl)
  refine go_cl (k := 20) (st' := [.int (-1000001), .int (-1000001)]) (cs' := 109) (ss' := 12668) rfl rfl rfl rfl rfl rfl rfl (ro_2170 (sz a0 a1 a2 a3 a4 a5) a1 (by omega)) ?_
  refine go_cmp true rfl (br_self _) ?_
  exact law_tail (f := sc a0 a1 a2 a3 a4 a5) rfl
def wd_1472 (z : pq_C) : pq_W := ((fw z).set 4 (.inl (.boolean, 64, .inl (upd (fun _ => 0) 0 1))))
theorem ro_2173 (z : pq_C) : pq_Ru 2 22 [.ref 1, .int 0, .int 1] (fw z) (some (.int 1), (wd_1472 z)) := by
  refine ru_of (k := 1) (M := pm_22) rfl rfl ?_
  refine go_seg 1 (pc' := 1) (ls' := [(0, .ref 1), (1, .int 0), (2, .int 1)]) (st' := [.int 0]) (w' := (fw z)) (cs' := 0) (ss' := 0) ?_ (fun _ _ => rfl)
  refine go_cl (k := 1) (st' := [.int 1]) (cs' := 0) (ss' := 0) rfl rfl rfl rfl rfl rfl rfl (ro_1192 z) ?_
  refine go_seg 8 (pc' := 24) (ls' := [(3, .int 0), (0, .ref 1), (1, .int 0), (2, .int 1)]) (st' := [.ref 1]) (w' := (fw z)) (cs' := 0) (ss' := 0) ?_ (fun _ _ => rfl)
  refine go_seg 8 (pc' := 42) (ls' := [(3, .int 0), (0, .ref 1), (1, .int 0), (2, .int 1)]) (st' := []) (w' := (wd_1472 z)) (cs' := 0) (ss' := 0) ?_ (fun _ _ => rfl)
  exact go_end 2 (fun _ _ => rfl)
theorem ro_2174 (z : pq_C) : pq_Ru 1 161 [.long 0, .long 0, .long 63] (wd_1472 z) (some (.int 1), (wd_1472 z)) := by
  refine ru_of (k := 0) (M := pm_161) rfl rfl ?_
  refine go_seg 8 (pc' := 13) (ls' := [(0, .long 0), (2, .long 0), (4, .long 63)]) (st' := []) (w' := (wd_1472 z)) (cs' := 0) (ss' := 0) ?_ (fun _ _ => rfl)
  exact go_end 3 (fun _ _ => rfl)
theorem ro_2175 (z : pq_C) : pq_Ru 2 160 [.int 0] (wd_1472 z) (some (.int 1), (wd_1472 z)) := by
  refine ru_of (k := 1) (M := pm_160) rfl rfl ?_
  refine go_seg 4 (pc' := 6) (ls' := [(0, .int 0)]) (st' := [.long 63, .long 0, .long 0]) (w' := (wd_1472 z)) (cs' := 0) (ss' := 0) ?_ (fun _ _ => rfl)
  refine go_cl (k := 1) (st' := [.int 1]) (cs' := 0) (ss' := 0) rfl rfl rfl rfl rfl rfl rfl (ro_2174 z) ?_
  exact go_end 1 (fun _ _ => rfl)
def wd_1473 (z : pq_C) : pq_W := ((wd_1472 z).set 91 (.inl (.int, 2858, .inl (upd (upd (upd (upd (upd (upd (upd (upd (upd (upd (upd (upd (upd (upd (upd (upd (upd (upd (upd (upd (upd (upd (upd (upd (upd (upd (upd (upd (upd (upd (upd (upd (upd (upd (upd (upd (upd (upd (upd (upd (upd (upd (upd (upd (upd (upd (upd (upd (upd (upd (upd (upd (upd (upd (upd (upd (upd (upd (upd (upd (upd (upd (upd (upd (upd (upd (upd (upd (upd (upd (upd (upd (upd (upd (upd (upd (upd (upd (upd (upd (upd (upd (fun _ => 0) 1 10) 10 (-1)) 11 (-1)) 12 (-1)) 13 (-1)) 14 (-1)) 15 (-1)) 16 (-1)) 17 (-1)) 18 (-1)) 19 (-1)) 20 (-1)) 21 (-1)) 22 (-1)) 23 (-1)) 24 (-1)) 25 (-1)) 26 (-1)) 27 (-1)) 28 (-1)) 29 (-1)) 30 (-1)) 31 (-1)) 32 (-1)) 33 (-1)) 34 (-1)) 35 (-1)) 36 (-1)) 37 (-1)) 38 (-1)) 39 (-1)) 40 (-1)) 41 (-1)) 42 (-1)) 43 (-1)) 44 (-1)) 45 (-1)) 46 (-1)) 47 (-1)) 48 (-1)) 49 (-1)) 50 (-1)) 51 (-1)) 52 (-1)) 53 (-1)) 54 (-1)) 55 (-1)) 56 (-1)) 57 (-1)) 58 (-1)) 59 (-1)) 60 (-1)) 61 (-1)) 62 (-1)) 63 (-1)) 64 (-1)) 65 (-1)) 66 (-1)) 67 (-1)) 68 (-1)) 69 (-1)) 70 (-1)) 71 (-1)) 72 (-1)) 73 (-1)) 139 1000) 140 100) 145 1000) 146 100) 151 1000) 152 100) 157 1000) 158 100) 163 1000) 164 100) 169 1000) 170 100) 175 1000) 176 100) 181 1000) 182 100) 74 1))))
theorem ro_2176 (z : pq_C) : pq_Ru 3 165 [.ref 90, .int 0, .int 1] (wd_1472 z) (some (.int 1), (wd_1473 z)) := by
  refine ru_of (k := 2) (M := pm_165) rfl rfl ?_
  refine go_seg 1 (pc' := 1) (ls' := [(0, .ref 90), (1, .int 0), (2, .int 1)]) (st' := [.int 0]) (w' := (wd_1472 z)) (cs' := 0) (ss' := 0) ?_ (fun _ _ => rfl)
  refine go_cl (k := 2) (st' := [.int 1]) (cs' := 0) (ss' := 0) rfl rfl rfl rfl rfl rfl rfl (ro_2175 z) ?_
  refine go_seg 8 (pc' := 24) (ls' := [(0, .ref 90), (1, .int 0), (2, .int 1)]) (st' := [.int 1, .int 0]) (w' := (wd_1472 z)) (cs' := 0) (ss' := 0) ?_ (fun _ _ => rfl)
  refine go_seg 8 (pc' := 42) (ls' := [(3, .int 1), (0, .ref 90), (1, .int 0), (2, .int 1)]) (st' := [.ref 90]) (w' := (wd_1472 z)) (cs' := 0) (ss' := 0) ?_ (fun _ _ => rfl)
  refine go_seg 8 (pc' := 58) (ls' := [(3, .int 1), (0, .ref 90), (1, .int 0), (2, .int 1)]) (st' := [.int 1, .int 74, .ref 91]) (w' := (wd_1472 z)) (cs' := 0) (ss' := 0) ?_ (fun _ _ => rfl)
  exact go_end 3 (fun _ _ => rfl)
theorem lf_2_2178 (a0 : Int32) (a2 : Int32) (a3 : Int32) (a4 : Int32) (a5 : Int32) (h0 : ¬ a2.toInt = 0) : ∃ w', pq_Go 20 pm_law 278 [(3, .int 0), (2, .ref 90), (1, .ref 1), (0, .ref 0)] [] (fw (sz a0 0 a2 a3 a4 a5)) 109 12668 (some (.int 1), w') := by
  refine ⟨(wd_1473 (sz a0 0 a2 a3 a4 a5)), ?_⟩
  refine go_seg 8 (pc' := 286) (ls' := [(3, .int 0), (2, .ref 90), (1, .ref 1), (0, .ref 0)]) (st' := [.int 0, .ref 0, .int 0, .ref 1]) (w' := (fw (sz a0 0 a2 a3 a4 a5))) (cs' := 109) (ss' := 12668) ?_ (fun _ _ => rfl)
  refine go_seg 3 (pc' := 289) (ls' := [(3, .int 0), (2, .ref 90), (1, .ref 1), (0, .ref 0)]) (st' := [.int a2, .int 0, .ref 1]) (w' := (fw (sz a0 0 a2 a3 a4 a5))) (cs' := 109) (ss' := 12668) ?_ (fun _ _ => rfl)
  refine go_if false rfl (br_eq_f (b := 0) rfl (by omega)) ?_
  refine go_seg 2 (pc' := 297) (ls' := [(3, .int 0), (2, .ref 90), (1, .ref 1), (0, .ref 0)]) (st' := [.int 1, .int 0, .ref 1]) (w' := (fw (sz a0 0 a2 a3 a4 a5))) (cs' := 109) (ss' := 12668) ?_ (fun _ _ => rfl)
  refine go_cl (k := 20) (st' := [.int 1]) (cs' := 109) (ss' := 12668) rfl rfl rfl rfl rfl rfl rfl (ro_2173 (sz a0 0 a2 a3 a4 a5)) ?_
  refine go_seg 8 (pc' := 308) (ls' := [(3, .int 0), (2, .ref 90), (1, .ref 1), (0, .ref 0)]) (st' := [.int 0, .ref 0, .int 0, .ref 90, .int 1]) (w' := (wd_1472 (sz a0 0 a2 a3 a4 a5))) (cs' := 109) (ss' := 12668) ?_ (fun _ _ => rfl)
  refine go_seg 3 (pc' := 311) (ls' := [(3, .int 0), (2, .ref 90), (1, .ref 1), (0, .ref 0)]) (st' := [.int a2, .int 0, .ref 90, .int 1]) (w' := (wd_1472 (sz a0 0 a2 a3 a4 a5))) (cs' := 109) (ss' := 12668) ?_ (fun _ _ => rfl)
  refine go_if false rfl (br_eq_f (b := 0) rfl (by omega)) ?_
  refine go_seg 2 (pc' := 319) (ls' := [(3, .int 0), (2, .ref 90), (1, .ref 1), (0, .ref 0)]) (st' := [.int 1, .int 0, .ref 90, .int 1]) (w' := (wd_1472 (sz a0 0 a2 a3 a4 a5))) (cs' := 109) (ss' := 12668) ?_ (fun _ _ => rfl)
  refine go_cl (k := 20) (st' := [.int 1, .int 1]) (cs' := 109) (ss' := 12668) rfl rfl rfl rfl rfl rfl rfl (ro_2176 (sz a0 0 a2 a3 a4 a5)) ?_
  refine go_cmp true rfl (br_self _) ?_
  exact law_tail (f := sc a0 0 a2 a3 a4 a5) rfl
def wd_1474 (z : pq_C) : pq_W := ((fw z).set 4 (.inl (.boolean, 64, .inl (upd (fun _ => 0) 1 1))))
theorem ro_2180 (z : pq_C) : pq_Ru 2 22 [.ref 1, .int 1, .int 1] (fw z) (some (.int 1), (wd_1474 z)) := by
  refine ru_of (k := 1) (M := pm_22) rfl rfl ?_
  refine go_seg 1 (pc' := 1) (ls' := [(0, .ref 1), (1, .int 1), (2, .int 1)]) (st' := [.int 1]) (w' := (fw z)) (cs' := 0) (ss' := 0) ?_ (fun _ _ => rfl)
  refine go_cl (k := 1) (st' := [.int 1]) (cs' := 0) (ss' := 0) rfl rfl rfl rfl rfl rfl rfl (ro_1201 z) ?_
  refine go_seg 8 (pc' := 24) (ls' := [(3, .int 0), (0, .ref 1), (1, .int 1), (2, .int 1)]) (st' := [.ref 1]) (w' := (fw z)) (cs' := 0) (ss' := 0) ?_ (fun _ _ => rfl)
  refine go_seg 8 (pc' := 42) (ls' := [(3, .int 0), (0, .ref 1), (1, .int 1), (2, .int 1)]) (st' := []) (w' := (wd_1474 z)) (cs' := 0) (ss' := 0) ?_ (fun _ _ => rfl)
  exact go_end 2 (fun _ _ => rfl)
theorem ro_2181 (z : pq_C) : pq_Ru 1 161 [.long 1, .long 0, .long 63] (wd_1474 z) (some (.int 1), (wd_1474 z)) := by
  refine ru_of (k := 0) (M := pm_161) rfl rfl ?_
  refine go_seg 8 (pc' := 13) (ls' := [(0, .long 1), (2, .long 0), (4, .long 63)]) (st' := []) (w' := (wd_1474 z)) (cs' := 0) (ss' := 0) ?_ (fun _ _ => rfl)
  exact go_end 3 (fun _ _ => rfl)
theorem ro_2182 (z : pq_C) : pq_Ru 2 160 [.int 1] (wd_1474 z) (some (.int 1), (wd_1474 z)) := by
  refine ru_of (k := 1) (M := pm_160) rfl rfl ?_
  refine go_seg 4 (pc' := 6) (ls' := [(0, .int 1)]) (st' := [.long 63, .long 0, .long 1]) (w' := (wd_1474 z)) (cs' := 0) (ss' := 0) ?_ (fun _ _ => rfl)
  refine go_cl (k := 1) (st' := [.int 1]) (cs' := 0) (ss' := 0) rfl rfl rfl rfl rfl rfl rfl (ro_2181 z) ?_
  exact go_end 1 (fun _ _ => rfl)
def wd_1475 (z : pq_C) : pq_W := ((wd_1474 z).set 91 (.inl (.int, 2858, .inl (upd (upd (upd (upd (upd (upd (upd (upd (upd (upd (upd (upd (upd (upd (upd (upd (upd (upd (upd (upd (upd (upd (upd (upd (upd (upd (upd (upd (upd (upd (upd (upd (upd (upd (upd (upd (upd (upd (upd (upd (upd (upd (upd (upd (upd (upd (upd (upd (upd (upd (upd (upd (upd (upd (upd (upd (upd (upd (upd (upd (upd (upd (upd (upd (upd (upd (upd (upd (upd (upd (upd (upd (upd (upd (upd (upd (upd (upd (upd (upd (upd (upd (fun _ => 0) 1 10) 10 (-1)) 11 (-1)) 12 (-1)) 13 (-1)) 14 (-1)) 15 (-1)) 16 (-1)) 17 (-1)) 18 (-1)) 19 (-1)) 20 (-1)) 21 (-1)) 22 (-1)) 23 (-1)) 24 (-1)) 25 (-1)) 26 (-1)) 27 (-1)) 28 (-1)) 29 (-1)) 30 (-1)) 31 (-1)) 32 (-1)) 33 (-1)) 34 (-1)) 35 (-1)) 36 (-1)) 37 (-1)) 38 (-1)) 39 (-1)) 40 (-1)) 41 (-1)) 42 (-1)) 43 (-1)) 44 (-1)) 45 (-1)) 46 (-1)) 47 (-1)) 48 (-1)) 49 (-1)) 50 (-1)) 51 (-1)) 52 (-1)) 53 (-1)) 54 (-1)) 55 (-1)) 56 (-1)) 57 (-1)) 58 (-1)) 59 (-1)) 60 (-1)) 61 (-1)) 62 (-1)) 63 (-1)) 64 (-1)) 65 (-1)) 66 (-1)) 67 (-1)) 68 (-1)) 69 (-1)) 70 (-1)) 71 (-1)) 72 (-1)) 73 (-1)) 139 1000) 140 100) 145 1000) 146 100) 151 1000) 152 100) 157 1000) 158 100) 163 1000) 164 100) 169 1000) 170 100) 175 1000) 176 100) 181 1000) 182 100) 75 1))))
theorem ro_2183 (z : pq_C) : pq_Ru 3 165 [.ref 90, .int 1, .int 1] (wd_1474 z) (some (.int 1), (wd_1475 z)) := by
  refine ru_of (k := 2) (M := pm_165) rfl rfl ?_
  refine go_seg 1 (pc' := 1) (ls' := [(0, .ref 90), (1, .int 1), (2, .int 1)]) (st' := [.int 1]) (w' := (wd_1474 z)) (cs' := 0) (ss' := 0) ?_ (fun _ _ => rfl)
  refine go_cl (k := 2) (st' := [.int 1]) (cs' := 0) (ss' := 0) rfl rfl rfl rfl rfl rfl rfl (ro_2182 z) ?_
  refine go_seg 8 (pc' := 24) (ls' := [(0, .ref 90), (1, .int 1), (2, .int 1)]) (st' := [.int 1, .int 0]) (w' := (wd_1474 z)) (cs' := 0) (ss' := 0) ?_ (fun _ _ => rfl)
  refine go_seg 8 (pc' := 42) (ls' := [(3, .int 1), (0, .ref 90), (1, .int 1), (2, .int 1)]) (st' := [.ref 90]) (w' := (wd_1474 z)) (cs' := 0) (ss' := 0) ?_ (fun _ _ => rfl)
  refine go_seg 8 (pc' := 58) (ls' := [(3, .int 1), (0, .ref 90), (1, .int 1), (2, .int 1)]) (st' := [.int 1, .int 75, .ref 91]) (w' := (wd_1474 z)) (cs' := 0) (ss' := 0) ?_ (fun _ _ => rfl)
  exact go_end 3 (fun _ _ => rfl)
theorem lf_2_2185 (a0 : Int32) (a2 : Int32) (a3 : Int32) (a4 : Int32) (a5 : Int32) (h0 : ¬ a2.toInt = 0) : ∃ w', pq_Go 20 pm_law 278 [(3, .int 0), (2, .ref 90), (1, .ref 1), (0, .ref 0)] [] (fw (sz a0 1 a2 a3 a4 a5)) 109 12668 (some (.int 1), w') := by
  refine ⟨(wd_1475 (sz a0 1 a2 a3 a4 a5)), ?_⟩
  refine go_seg 8 (pc' := 286) (ls' := [(3, .int 0), (2, .ref 90), (1, .ref 1), (0, .ref 0)]) (st' := [.int 0, .ref 0, .int 1, .ref 1]) (w' := (fw (sz a0 1 a2 a3 a4 a5))) (cs' := 109) (ss' := 12668) ?_ (fun _ _ => rfl)
  refine go_seg 3 (pc' := 289) (ls' := [(3, .int 0), (2, .ref 90), (1, .ref 1), (0, .ref 0)]) (st' := [.int a2, .int 1, .ref 1]) (w' := (fw (sz a0 1 a2 a3 a4 a5))) (cs' := 109) (ss' := 12668) ?_ (fun _ _ => rfl)
  refine go_if false rfl (br_eq_f (b := 0) rfl (by omega)) ?_
  refine go_seg 2 (pc' := 297) (ls' := [(3, .int 0), (2, .ref 90), (1, .ref 1), (0, .ref 0)]) (st' := [.int 1, .int 1, .ref 1]) (w' := (fw (sz a0 1 a2 a3 a4 a5))) (cs' := 109) (ss' := 12668) ?_ (fun _ _ => rfl)
  refine go_cl (k := 20) (st' := [.int 1]) (cs' := 109) (ss' := 12668) rfl rfl rfl rfl rfl rfl rfl (ro_2180 (sz a0 1 a2 a3 a4 a5)) ?_
  refine go_seg 8 (pc' := 308) (ls' := [(3, .int 0), (2, .ref 90), (1, .ref 1), (0, .ref 0)]) (st' := [.int 0, .ref 0, .int 1, .ref 90, .int 1]) (w' := (wd_1474 (sz a0 1 a2 a3 a4 a5))) (cs' := 109) (ss' := 12668) ?_ (fun _ _ => rfl)
  refine go_seg 3 (pc' := 311) (ls' := [(3, .int 0), (2, .ref 90), (1, .ref 1), (0, .ref 0)]) (st' := [.int a2, .int 1, .ref 90, .int 1]) (w' := (wd_1474 (sz a0 1 a2 a3 a4 a5))) (cs' := 109) (ss' := 12668) ?_ (fun _ _ => rfl)
  refine go_if false rfl (br_eq_f (b := 0) rfl (by omega)) ?_
  refine go_seg 2 (pc' := 319) (ls' := [(3, .int 0), (2, .ref 90), (1, .ref 1), (0, .ref 0)]) (st' := [.int 1, .int 1, .ref 90, .int 1]) (w' := (wd_1474 (sz a0 1 a2 a3 a4 a5))) (cs' := 109) (ss' := 12668) ?_ (fun _ _ => rfl)
  refine go_cl (k := 20) (st' := [.int 1, .int 1]) (cs' := 109) (ss' := 12668) rfl rfl rfl rfl rfl rfl rfl (ro_2183 (sz a0 1 a2 a3 a4 a5)) ?_
  refine go_cmp true rfl (br_self _) ?_
  exact law_tail (f := sc a0 1 a2 a3 a4 a5) rfl
def wd_1476 (z : pq_C) : pq_W := ((fw z).set 4 (.inl (.boolean, 64, .inl (upd (fun _ => 0) 2 1))))
theorem ro_2187 (z : pq_C) : pq_Ru 2 22 [.ref 1, .int 2, .int 1] (fw z) (some (.int 1), (wd_1476 z)) := by
  refine ru_of (k := 1) (M := pm_22) rfl rfl ?_
  refine go_seg 1 (pc' := 1) (ls' := [(0, .ref 1), (1, .int 2), (2, .int 1)]) (st' := [.int 2]) (w' := (fw z)) (cs' := 0) (ss' := 0) ?_ (fun _ _ => rfl)
  refine go_cl (k := 1) (st' := [.int 1]) (cs' := 0) (ss' := 0) rfl rfl rfl rfl rfl rfl rfl (ro_1209 z) ?_
  refine go_seg 8 (pc' := 24) (ls' := [(3, .int 0), (0, .ref 1), (1, .int 2), (2, .int 1)]) (st' := [.ref 1]) (w' := (fw z)) (cs' := 0) (ss' := 0) ?_ (fun _ _ => rfl)
  refine go_seg 8 (pc' := 42) (ls' := [(3, .int 0), (0, .ref 1), (1, .int 2), (2, .int 1)]) (st' := []) (w' := (wd_1476 z)) (cs' := 0) (ss' := 0) ?_ (fun _ _ => rfl)
  exact go_end 2 (fun _ _ => rfl)
theorem ro_2188 (z : pq_C) : pq_Ru 1 161 [.long 2, .long 0, .long 63] (wd_1476 z) (some (.int 1), (wd_1476 z)) := by
  refine ru_of (k := 0) (M := pm_161) rfl rfl ?_
  refine go_seg 8 (pc' := 13) (ls' := [(0, .long 2), (2, .long 0), (4, .long 63)]) (st' := []) (w' := (wd_1476 z)) (cs' := 0) (ss' := 0) ?_ (fun _ _ => rfl)
  exact go_end 3 (fun _ _ => rfl)
theorem ro_2189 (z : pq_C) : pq_Ru 2 160 [.int 2] (wd_1476 z) (some (.int 1), (wd_1476 z)) := by
  refine ru_of (k := 1) (M := pm_160) rfl rfl ?_
  refine go_seg 4 (pc' := 6) (ls' := [(0, .int 2)]) (st' := [.long 63, .long 0, .long 2]) (w' := (wd_1476 z)) (cs' := 0) (ss' := 0) ?_ (fun _ _ => rfl)
  refine go_cl (k := 1) (st' := [.int 1]) (cs' := 0) (ss' := 0) rfl rfl rfl rfl rfl rfl rfl (ro_2188 z) ?_
  exact go_end 1 (fun _ _ => rfl)
def wd_1477 (z : pq_C) : pq_W := ((wd_1476 z).set 91 (.inl (.int, 2858, .inl (upd (upd (upd (upd (upd (upd (upd (upd (upd (upd (upd (upd (upd (upd (upd (upd (upd (upd (upd (upd (upd (upd (upd (upd (upd (upd (upd (upd (upd (upd (upd (upd (upd (upd (upd (upd (upd (upd (upd (upd (upd (upd (upd (upd (upd (upd (upd (upd (upd (upd (upd (upd (upd (upd (upd (upd (upd (upd (upd (upd (upd (upd (upd (upd (upd (upd (upd (upd (upd (upd (upd (upd (upd (upd (upd (upd (upd (upd (upd (upd (upd (upd (fun _ => 0) 1 10) 10 (-1)) 11 (-1)) 12 (-1)) 13 (-1)) 14 (-1)) 15 (-1)) 16 (-1)) 17 (-1)) 18 (-1)) 19 (-1)) 20 (-1)) 21 (-1)) 22 (-1)) 23 (-1)) 24 (-1)) 25 (-1)) 26 (-1)) 27 (-1)) 28 (-1)) 29 (-1)) 30 (-1)) 31 (-1)) 32 (-1)) 33 (-1)) 34 (-1)) 35 (-1)) 36 (-1)) 37 (-1)) 38 (-1)) 39 (-1)) 40 (-1)) 41 (-1)) 42 (-1)) 43 (-1)) 44 (-1)) 45 (-1)) 46 (-1)) 47 (-1)) 48 (-1)) 49 (-1)) 50 (-1)) 51 (-1)) 52 (-1)) 53 (-1)) 54 (-1)) 55 (-1)) 56 (-1)) 57 (-1)) 58 (-1)) 59 (-1)) 60 (-1)) 61 (-1)) 62 (-1)) 63 (-1)) 64 (-1)) 65 (-1)) 66 (-1)) 67 (-1)) 68 (-1)) 69 (-1)) 70 (-1)) 71 (-1)) 72 (-1)) 73 (-1)) 139 1000) 140 100) 145 1000) 146 100) 151 1000) 152 100) 157 1000) 158 100) 163 1000) 164 100) 169 1000) 170 100) 175 1000) 176 100) 181 1000) 182 100) 76 1))))
theorem ro_2190 (z : pq_C) : pq_Ru 3 165 [.ref 90, .int 2, .int 1] (wd_1476 z) (some (.int 1), (wd_1477 z)) := by
  refine ru_of (k := 2) (M := pm_165) rfl rfl ?_
  refine go_seg 1 (pc' := 1) (ls' := [(0, .ref 90), (1, .int 2), (2, .int 1)]) (st' := [.int 2]) (w' := (wd_1476 z)) (cs' := 0) (ss' := 0) ?_ (fun _ _ => rfl)
  refine go_cl (k := 2) (st' := [.int 1]) (cs' := 0) (ss' := 0) rfl rfl rfl rfl rfl rfl rfl (ro_2189 z) ?_
  refine go_seg 8 (pc' := 24) (ls' := [(0, .ref 90), (1, .int 2), (2, .int 1)]) (st' := [.int 1, .int 0]) (w' := (wd_1476 z)) (cs' := 0) (ss' := 0) ?_ (fun _ _ => rfl)
  refine go_seg 8 (pc' := 42) (ls' := [(3, .int 1), (0, .ref 90), (1, .int 2), (2, .int 1)]) (st' := [.ref 90]) (w' := (wd_1476 z)) (cs' := 0) (ss' := 0) ?_ (fun _ _ => rfl)
  refine go_seg 8 (pc' := 58) (ls' := [(3, .int 1), (0, .ref 90), (1, .int 2), (2, .int 1)]) (st' := [.int 1, .int 76, .ref 91]) (w' := (wd_1476 z)) (cs' := 0) (ss' := 0) ?_ (fun _ _ => rfl)
  exact go_end 3 (fun _ _ => rfl)
theorem lf_2_2192 (a0 : Int32) (a2 : Int32) (a3 : Int32) (a4 : Int32) (a5 : Int32) (h0 : ¬ a2.toInt = 0) : ∃ w', pq_Go 20 pm_law 278 [(3, .int 0), (2, .ref 90), (1, .ref 1), (0, .ref 0)] [] (fw (sz a0 2 a2 a3 a4 a5)) 109 12668 (some (.int 1), w') := by
  refine ⟨(wd_1477 (sz a0 2 a2 a3 a4 a5)), ?_⟩
  refine go_seg 8 (pc' := 286) (ls' := [(3, .int 0), (2, .ref 90), (1, .ref 1), (0, .ref 0)]) (st' := [.int 0, .ref 0, .int 2, .ref 1]) (w' := (fw (sz a0 2 a2 a3 a4 a5))) (cs' := 109) (ss' := 12668) ?_ (fun _ _ => rfl)
  refine go_seg 3 (pc' := 289) (ls' := [(3, .int 0), (2, .ref 90), (1, .ref 1), (0, .ref 0)]) (st' := [.int a2, .int 2, .ref 1]) (w' := (fw (sz a0 2 a2 a3 a4 a5))) (cs' := 109) (ss' := 12668) ?_ (fun _ _ => rfl)
  refine go_if false rfl (br_eq_f (b := 0) rfl (by omega)) ?_
  refine go_seg 2 (pc' := 297) (ls' := [(3, .int 0), (2, .ref 90), (1, .ref 1), (0, .ref 0)]) (st' := [.int 1, .int 2, .ref 1]) (w' := (fw (sz a0 2 a2 a3 a4 a5))) (cs' := 109) (ss' := 12668) ?_ (fun _ _ => rfl)
  refine go_cl (k := 20) (st' := [.int 1]) (cs' := 109) (ss' := 12668) rfl rfl rfl rfl rfl rfl rfl (ro_2187 (sz a0 2 a2 a3 a4 a5)) ?_
  refine go_seg 8 (pc' := 308) (ls' := [(3, .int 0), (2, .ref 90), (1, .ref 1), (0, .ref 0)]) (st' := [.int 0, .ref 0, .int 2, .ref 90, .int 1]) (w' := (wd_1476 (sz a0 2 a2 a3 a4 a5))) (cs' := 109) (ss' := 12668) ?_ (fun _ _ => rfl)
  refine go_seg 3 (pc' := 311) (ls' := [(3, .int 0), (2, .ref 90), (1, .ref 1), (0, .ref 0)]) (st' := [.int a2, .int 2, .ref 90, .int 1]) (w' := (wd_1476 (sz a0 2 a2 a3 a4 a5))) (cs' := 109) (ss' := 12668) ?_ (fun _ _ => rfl)
  refine go_if false rfl (br_eq_f (b := 0) rfl (by omega)) ?_
  refine go_seg 2 (pc' := 319) (ls' := [(3, .int 0), (2, .ref 90), (1, .ref 1), (0, .ref 0)]) (st' := [.int 1, .int 2, .ref 90, .int 1]) (w' := (wd_1476 (sz a0 2 a2 a3 a4 a5))) (cs' := 109) (ss' := 12668) ?_ (fun _ _ => rfl)
  refine go_cl (k := 20) (st' := [.int 1, .int 1]) (cs' := 109) (ss' := 12668) rfl rfl rfl rfl rfl rfl rfl (ro_2190 (sz a0 2 a2 a3 a4 a5)) ?_
  refine go_cmp true rfl (br_self _) ?_
  exact law_tail (f := sc a0 2 a2 a3 a4 a5) rfl
def wd_1478 (z : pq_C) : pq_W := ((fw z).set 4 (.inl (.boolean, 64, .inl (upd (fun _ => 0) 3 1))))
theorem ro_2194 (z : pq_C) : pq_Ru 2 22 [.ref 1, .int 3, .int 1] (fw z) (some (.int 1), (wd_1478 z)) := by
  refine ru_of (k := 1) (M := pm_22) rfl rfl ?_
  refine go_seg 1 (pc' := 1) (ls' := [(0, .ref 1), (1, .int 3), (2, .int 1)]) (st' := [.int 3]) (w' := (fw z)) (cs' := 0) (ss' := 0) ?_ (fun _ _ => rfl)
  refine go_cl (k := 1) (st' := [.int 1]) (cs' := 0) (ss' := 0) rfl rfl rfl rfl rfl rfl rfl (ro_1217 z) ?_
  refine go_seg 8 (pc' := 24) (ls' := [(3, .int 0), (0, .ref 1), (1, .int 3), (2, .int 1)]) (st' := [.ref 1]) (w' := (fw z)) (cs' := 0) (ss' := 0) ?_ (fun _ _ => rfl)
  refine go_seg 8 (pc' := 42) (ls' := [(3, .int 0), (0, .ref 1), (1, .int 3), (2, .int 1)]) (st' := []) (w' := (wd_1478 z)) (cs' := 0) (ss' := 0) ?_ (fun _ _ => rfl)
  exact go_end 2 (fun _ _ => rfl)
theorem ro_2195 (z : pq_C) : pq_Ru 1 161 [.long 3, .long 0, .long 63] (wd_1478 z) (some (.int 1), (wd_1478 z)) := by
  refine ru_of (k := 0) (M := pm_161) rfl rfl ?_
  refine go_seg 8 (pc' := 13) (ls' := [(0, .long 3), (2, .long 0), (4, .long 63)]) (st' := []) (w' := (wd_1478 z)) (cs' := 0) (ss' := 0) ?_ (fun _ _ => rfl)
  exact go_end 3 (fun _ _ => rfl)
theorem ro_2196 (z : pq_C) : pq_Ru 2 160 [.int 3] (wd_1478 z) (some (.int 1), (wd_1478 z)) := by
  refine ru_of (k := 1) (M := pm_160) rfl rfl ?_
  refine go_seg 4 (pc' := 6) (ls' := [(0, .int 3)]) (st' := [.long 63, .long 0, .long 3]) (w' := (wd_1478 z)) (cs' := 0) (ss' := 0) ?_ (fun _ _ => rfl)
  refine go_cl (k := 1) (st' := [.int 1]) (cs' := 0) (ss' := 0) rfl rfl rfl rfl rfl rfl rfl (ro_2195 z) ?_
  exact go_end 1 (fun _ _ => rfl)
def wd_1479 (z : pq_C) : pq_W := ((wd_1478 z).set 91 (.inl (.int, 2858, .inl (upd (upd (upd (upd (upd (upd (upd (upd (upd (upd (upd (upd (upd (upd (upd (upd (upd (upd (upd (upd (upd (upd (upd (upd (upd (upd (upd (upd (upd (upd (upd (upd (upd (upd (upd (upd (upd (upd (upd (upd (upd (upd (upd (upd (upd (upd (upd (upd (upd (upd (upd (upd (upd (upd (upd (upd (upd (upd (upd (upd (upd (upd (upd (upd (upd (upd (upd (upd (upd (upd (upd (upd (upd (upd (upd (upd (upd (upd (upd (upd (upd (upd (fun _ => 0) 1 10) 10 (-1)) 11 (-1)) 12 (-1)) 13 (-1)) 14 (-1)) 15 (-1)) 16 (-1)) 17 (-1)) 18 (-1)) 19 (-1)) 20 (-1)) 21 (-1)) 22 (-1)) 23 (-1)) 24 (-1)) 25 (-1)) 26 (-1)) 27 (-1)) 28 (-1)) 29 (-1)) 30 (-1)) 31 (-1)) 32 (-1)) 33 (-1)) 34 (-1)) 35 (-1)) 36 (-1)) 37 (-1)) 38 (-1)) 39 (-1)) 40 (-1)) 41 (-1)) 42 (-1)) 43 (-1)) 44 (-1)) 45 (-1)) 46 (-1)) 47 (-1)) 48 (-1)) 49 (-1)) 50 (-1)) 51 (-1)) 52 (-1)) 53 (-1)) 54 (-1)) 55 (-1)) 56 (-1)) 57 (-1)) 58 (-1)) 59 (-1)) 60 (-1)) 61 (-1)) 62 (-1)) 63 (-1)) 64 (-1)) 65 (-1)) 66 (-1)) 67 (-1)) 68 (-1)) 69 (-1)) 70 (-1)) 71 (-1)) 72 (-1)) 73 (-1)) 139 1000) 140 100) 145 1000) 146 100) 151 1000) 152 100) 157 1000) 158 100) 163 1000) 164 100) 169 1000) 170 100) 175 1000) 176 100) 181 1000) 182 100) 77 1))))
theorem ro_2197 (z : pq_C) : pq_Ru 3 165 [.ref 90, .int 3, .int 1] (wd_1478 z) (some (.int 1), (wd_1479 z)) := by
  refine ru_of (k := 2) (M := pm_165) rfl rfl ?_
  refine go_seg 1 (pc' := 1) (ls' := [(0, .ref 90), (1, .int 3), (2, .int 1)]) (st' := [.int 3]) (w' := (wd_1478 z)) (cs' := 0) (ss' := 0) ?_ (fun _ _ => rfl)
  refine go_cl (k := 2) (st' := [.int 1]) (cs' := 0) (ss' := 0) rfl rfl rfl rfl rfl rfl rfl (ro_2196 z) ?_
  refine go_seg 8 (pc' := 24) (ls' := [(0, .ref 90), (1, .int 3), (2, .int 1)]) (st' := [.int 1, .int 0]) (w' := (wd_1478 z)) (cs' := 0) (ss' := 0) ?_ (fun _ _ => rfl)
  refine go_seg 8 (pc' := 42) (ls' := [(3, .int 1), (0, .ref 90), (1, .int 3), (2, .int 1)]) (st' := [.ref 90]) (w' := (wd_1478 z)) (cs' := 0) (ss' := 0) ?_ (fun _ _ => rfl)
  refine go_seg 8 (pc' := 58) (ls' := [(3, .int 1), (0, .ref 90), (1, .int 3), (2, .int 1)]) (st' := [.int 1, .int 77, .ref 91]) (w' := (wd_1478 z)) (cs' := 0) (ss' := 0) ?_ (fun _ _ => rfl)
  exact go_end 3 (fun _ _ => rfl)
theorem lf_2_2199 (a0 : Int32) (a2 : Int32) (a3 : Int32) (a4 : Int32) (a5 : Int32) (h0 : ¬ a2.toInt = 0) : ∃ w', pq_Go 20 pm_law 278 [(3, .int 0), (2, .ref 90), (1, .ref 1), (0, .ref 0)] [] (fw (sz a0 3 a2 a3 a4 a5)) 109 12668 (some (.int 1), w') := by
  refine ⟨(wd_1479 (sz a0 3 a2 a3 a4 a5)), ?_⟩
  refine go_seg 8 (pc' := 286) (ls' := [(3, .int 0), (2, .ref 90), (1, .ref 1), (0, .ref 0)]) (st' := [.int 0, .ref 0, .int 3, .ref 1]) (w' := (fw (sz a0 3 a2 a3 a4 a5))) (cs' := 109) (ss' := 12668) ?_ (fun _ _ => rfl)
  refine go_seg 3 (pc' := 289) (ls' := [(3, .int 0), (2, .ref 90), (1, .ref 1), (0, .ref 0)]) (st' := [.int a2, .int 3, .ref 1]) (w' := (fw (sz a0 3 a2 a3 a4 a5))) (cs' := 109) (ss' := 12668) ?_ (fun _ _ => rfl)
  refine go_if false rfl (br_eq_f (b := 0) rfl (by omega)) ?_
  refine go_seg 2 (pc' := 297) (ls' := [(3, .int 0), (2, .ref 90), (1, .ref 1), (0, .ref 0)]) (st' := [.int 1, .int 3, .ref 1]) (w' := (fw (sz a0 3 a2 a3 a4 a5))) (cs' := 109) (ss' := 12668) ?_ (fun _ _ => rfl)
  refine go_cl (k := 20) (st' := [.int 1]) (cs' := 109) (ss' := 12668) rfl rfl rfl rfl rfl rfl rfl (ro_2194 (sz a0 3 a2 a3 a4 a5)) ?_
  refine go_seg 8 (pc' := 308) (ls' := [(3, .int 0), (2, .ref 90), (1, .ref 1), (0, .ref 0)]) (st' := [.int 0, .ref 0, .int 3, .ref 90, .int 1]) (w' := (wd_1478 (sz a0 3 a2 a3 a4 a5))) (cs' := 109) (ss' := 12668) ?_ (fun _ _ => rfl)
  refine go_seg 3 (pc' := 311) (ls' := [(3, .int 0), (2, .ref 90), (1, .ref 1), (0, .ref 0)]) (st' := [.int a2, .int 3, .ref 90, .int 1]) (w' := (wd_1478 (sz a0 3 a2 a3 a4 a5))) (cs' := 109) (ss' := 12668) ?_ (fun _ _ => rfl)
  refine go_if false rfl (br_eq_f (b := 0) rfl (by omega)) ?_
  refine go_seg 2 (pc' := 319) (ls' := [(3, .int 0), (2, .ref 90), (1, .ref 1), (0, .ref 0)]) (st' := [.int 1, .int 3, .ref 90, .int 1]) (w' := (wd_1478 (sz a0 3 a2 a3 a4 a5))) (cs' := 109) (ss' := 12668) ?_ (fun _ _ => rfl)
  refine go_cl (k := 20) (st' := [.int 1, .int 1]) (cs' := 109) (ss' := 12668) rfl rfl rfl rfl rfl rfl rfl (ro_2197 (sz a0 3 a2 a3 a4 a5)) ?_
  refine go_cmp true rfl (br_self _) ?_
  exact law_tail (f := sc a0 3 a2 a3 a4 a5) rfl
def wd_1480 (z : pq_C) : pq_W := ((fw z).set 4 (.inl (.boolean, 64, .inl (upd (fun _ => 0) 4 1))))
theorem ro_2201 (z : pq_C) : pq_Ru 2 22 [.ref 1, .int 4, .int 1] (fw z) (some (.int 1), (wd_1480 z)) := by
  refine ru_of (k := 1) (M := pm_22) rfl rfl ?_
  refine go_seg 1 (pc' := 1) (ls' := [(0, .ref 1), (1, .int 4), (2, .int 1)]) (st' := [.int 4]) (w' := (fw z)) (cs' := 0) (ss' := 0) ?_ (fun _ _ => rfl)
  refine go_cl (k := 1) (st' := [.int 1]) (cs' := 0) (ss' := 0) rfl rfl rfl rfl rfl rfl rfl (ro_1225 z) ?_
  refine go_seg 8 (pc' := 24) (ls' := [(3, .int 0), (0, .ref 1), (1, .int 4), (2, .int 1)]) (st' := [.ref 1]) (w' := (fw z)) (cs' := 0) (ss' := 0) ?_ (fun _ _ => rfl)
  refine go_seg 8 (pc' := 42) (ls' := [(3, .int 0), (0, .ref 1), (1, .int 4), (2, .int 1)]) (st' := []) (w' := (wd_1480 z)) (cs' := 0) (ss' := 0) ?_ (fun _ _ => rfl)
  exact go_end 2 (fun _ _ => rfl)
theorem ro_2202 (z : pq_C) : pq_Ru 1 161 [.long 4, .long 0, .long 63] (wd_1480 z) (some (.int 1), (wd_1480 z)) := by
  refine ru_of (k := 0) (M := pm_161) rfl rfl ?_
  refine go_seg 8 (pc' := 13) (ls' := [(0, .long 4), (2, .long 0), (4, .long 63)]) (st' := []) (w' := (wd_1480 z)) (cs' := 0) (ss' := 0) ?_ (fun _ _ => rfl)
  exact go_end 3 (fun _ _ => rfl)
theorem ro_2203 (z : pq_C) : pq_Ru 2 160 [.int 4] (wd_1480 z) (some (.int 1), (wd_1480 z)) := by
  refine ru_of (k := 1) (M := pm_160) rfl rfl ?_
  refine go_seg 4 (pc' := 6) (ls' := [(0, .int 4)]) (st' := [.long 63, .long 0, .long 4]) (w' := (wd_1480 z)) (cs' := 0) (ss' := 0) ?_ (fun _ _ => rfl)
  refine go_cl (k := 1) (st' := [.int 1]) (cs' := 0) (ss' := 0) rfl rfl rfl rfl rfl rfl rfl (ro_2202 z) ?_
  exact go_end 1 (fun _ _ => rfl)
def wd_1481 (z : pq_C) : pq_W := ((wd_1480 z).set 91 (.inl (.int, 2858, .inl (upd (upd (upd (upd (upd (upd (upd (upd (upd (upd (upd (upd (upd (upd (upd (upd (upd (upd (upd (upd (upd (upd (upd (upd (upd (upd (upd (upd (upd (upd (upd (upd (upd (upd (upd (upd (upd (upd (upd (upd (upd (upd (upd (upd (upd (upd (upd (upd (upd (upd (upd (upd (upd (upd (upd (upd (upd (upd (upd (upd (upd (upd (upd (upd (upd (upd (upd (upd (upd (upd (upd (upd (upd (upd (upd (upd (upd (upd (upd (upd (upd (upd (fun _ => 0) 1 10) 10 (-1)) 11 (-1)) 12 (-1)) 13 (-1)) 14 (-1)) 15 (-1)) 16 (-1)) 17 (-1)) 18 (-1)) 19 (-1)) 20 (-1)) 21 (-1)) 22 (-1)) 23 (-1)) 24 (-1)) 25 (-1)) 26 (-1)) 27 (-1)) 28 (-1)) 29 (-1)) 30 (-1)) 31 (-1)) 32 (-1)) 33 (-1)) 34 (-1)) 35 (-1)) 36 (-1)) 37 (-1)) 38 (-1)) 39 (-1)) 40 (-1)) 41 (-1)) 42 (-1)) 43 (-1)) 44 (-1)) 45 (-1)) 46 (-1)) 47 (-1)) 48 (-1)) 49 (-1)) 50 (-1)) 51 (-1)) 52 (-1)) 53 (-1)) 54 (-1)) 55 (-1)) 56 (-1)) 57 (-1)) 58 (-1)) 59 (-1)) 60 (-1)) 61 (-1)) 62 (-1)) 63 (-1)) 64 (-1)) 65 (-1)) 66 (-1)) 67 (-1)) 68 (-1)) 69 (-1)) 70 (-1)) 71 (-1)) 72 (-1)) 73 (-1)) 139 1000) 140 100) 145 1000) 146 100) 151 1000) 152 100) 157 1000) 158 100) 163 1000) 164 100) 169 1000) 170 100) 175 1000) 176 100) 181 1000) 182 100) 78 1))))
theorem ro_2204 (z : pq_C) : pq_Ru 3 165 [.ref 90, .int 4, .int 1] (wd_1480 z) (some (.int 1), (wd_1481 z)) := by
  refine ru_of (k := 2) (M := pm_165) rfl rfl ?_
  refine go_seg 1 (pc' := 1) (ls' := [(0, .ref 90), (1, .int 4), (2, .int 1)]) (st' := [.int 4]) (w' := (wd_1480 z)) (cs' := 0) (ss' := 0) ?_ (fun _ _ => rfl)
  refine go_cl (k := 2) (st' := [.int 1]) (cs' := 0) (ss' := 0) rfl rfl rfl rfl rfl rfl rfl (ro_2203 z) ?_
  refine go_seg 8 (pc' := 24) (ls' := [(0, .ref 90), (1, .int 4), (2, .int 1)]) (st' := [.int 1, .int 0]) (w' := (wd_1480 z)) (cs' := 0) (ss' := 0) ?_ (fun _ _ => rfl)
  refine go_seg 8 (pc' := 42) (ls' := [(3, .int 1), (0, .ref 90), (1, .int 4), (2, .int 1)]) (st' := [.ref 90]) (w' := (wd_1480 z)) (cs' := 0) (ss' := 0) ?_ (fun _ _ => rfl)
  refine go_seg 8 (pc' := 58) (ls' := [(3, .int 1), (0, .ref 90), (1, .int 4), (2, .int 1)]) (st' := [.int 1, .int 78, .ref 91]) (w' := (wd_1480 z)) (cs' := 0) (ss' := 0) ?_ (fun _ _ => rfl)
  exact go_end 3 (fun _ _ => rfl)
theorem lf_2_2206 (a0 : Int32) (a2 : Int32) (a3 : Int32) (a4 : Int32) (a5 : Int32) (h0 : ¬ a2.toInt = 0) : ∃ w', pq_Go 20 pm_law 278 [(3, .int 0), (2, .ref 90), (1, .ref 1), (0, .ref 0)] [] (fw (sz a0 4 a2 a3 a4 a5)) 109 12668 (some (.int 1), w') := by
  refine ⟨(wd_1481 (sz a0 4 a2 a3 a4 a5)), ?_⟩
  refine go_seg 8 (pc' := 286) (ls' := [(3, .int 0), (2, .ref 90), (1, .ref 1), (0, .ref 0)]) (st' := [.int 0, .ref 0, .int 4, .ref 1]) (w' := (fw (sz a0 4 a2 a3 a4 a5))) (cs' := 109) (ss' := 12668) ?_ (fun _ _ => rfl)
  refine go_seg 3 (pc' := 289) (ls' := [(3, .int 0), (2, .ref 90), (1, .ref 1), (0, .ref 0)]) (st' := [.int a2, .int 4, .ref 1]) (w' := (fw (sz a0 4 a2 a3 a4 a5))) (cs' := 109) (ss' := 12668) ?_ (fun _ _ => rfl)
  refine go_if false rfl (br_eq_f (b := 0) rfl (by omega)) ?_
  refine go_seg 2 (pc' := 297) (ls' := [(3, .int 0), (2, .ref 90), (1, .ref 1), (0, .ref 0)]) (st' := [.int 1, .int 4, .ref 1]) (w' := (fw (sz a0 4 a2 a3 a4 a5))) (cs' := 109) (ss' := 12668) ?_ (fun _ _ => rfl)
  refine go_cl (k := 20) (st' := [.int 1]) (cs' := 109) (ss' := 12668) rfl rfl rfl rfl rfl rfl rfl (ro_2201 (sz a0 4 a2 a3 a4 a5)) ?_
  refine go_seg 8 (pc' := 308) (ls' := [(3, .int 0), (2, .ref 90), (1, .ref 1), (0, .ref 0)]) (st' := [.int 0, .ref 0, .int 4, .ref 90, .int 1]) (w' := (wd_1480 (sz a0 4 a2 a3 a4 a5))) (cs' := 109) (ss' := 12668) ?_ (fun _ _ => rfl)
  refine go_seg 3 (pc' := 311) (ls' := [(3, .int 0), (2, .ref 90), (1, .ref 1), (0, .ref 0)]) (st' := [.int a2, .int 4, .ref 90, .int 1]) (w' := (wd_1480 (sz a0 4 a2 a3 a4 a5))) (cs' := 109) (ss' := 12668) ?_ (fun _ _ => rfl)
  refine go_if false rfl (br_eq_f (b := 0) rfl (by omega)) ?_
  refine go_seg 2 (pc' := 319) (ls' := [(3, .int 0), (2, .ref 90), (1, .ref 1), (0, .ref 0)]) (st' := [.int 1, .int 4, .ref 90, .int 1]) (w' := (wd_1480 (sz a0 4 a2 a3 a4 a5))) (cs' := 109) (ss' := 12668) ?_ (fun _ _ => rfl)
  refine go_cl (k := 20) (st' := [.int 1, .int 1]) (cs' := 109) (ss' := 12668) rfl rfl rfl rfl rfl rfl rfl (ro_2204 (sz a0 4 a2 a3 a4 a5)) ?_
  refine go_cmp true rfl (br_self _) ?_
  exact law_tail (f := sc a0 4 a2 a3 a4 a5) rfl
def wd_1482 (z : pq_C) : pq_W := ((fw z).set 4 (.inl (.boolean, 64, .inl (upd (fun _ => 0) 5 1))))
theorem ro_2208 (z : pq_C) : pq_Ru 2 22 [.ref 1, .int 5, .int 1] (fw z) (some (.int 1), (wd_1482 z)) := by
  refine ru_of (k := 1) (M := pm_22) rfl rfl ?_
  refine go_seg 1 (pc' := 1) (ls' := [(0, .ref 1), (1, .int 5), (2, .int 1)]) (st' := [.int 5]) (w' := (fw z)) (cs' := 0) (ss' := 0) ?_ (fun _ _ => rfl)
  refine go_cl (k := 1) (st' := [.int 1]) (cs' := 0) (ss' := 0) rfl rfl rfl rfl rfl rfl rfl (ro_1233 z) ?_
  refine go_seg 8 (pc' := 24) (ls' := [(3, .int 0), (0, .ref 1), (1, .int 5), (2, .int 1)]) (st' := [.ref 1]) (w' := (fw z)) (cs' := 0) (ss' := 0) ?_ (fun _ _ => rfl)
  refine go_seg 8 (pc' := 42) (ls' := [(3, .int 0), (0, .ref 1), (1, .int 5), (2, .int 1)]) (st' := []) (w' := (wd_1482 z)) (cs' := 0) (ss' := 0) ?_ (fun _ _ => rfl)
  exact go_end 2 (fun _ _ => rfl)
theorem ro_2209 (z : pq_C) : pq_Ru 1 161 [.long 5, .long 0, .long 63] (wd_1482 z) (some (.int 1), (wd_1482 z)) := by
  refine ru_of (k := 0) (M := pm_161) rfl rfl ?_
  refine go_seg 8 (pc' := 13) (ls' := [(0, .long 5), (2, .long 0), (4, .long 63)]) (st' := []) (w' := (wd_1482 z)) (cs' := 0) (ss' := 0) ?_ (fun _ _ => rfl)
  exact go_end 3 (fun _ _ => rfl)
theorem ro_2210 (z : pq_C) : pq_Ru 2 160 [.int 5] (wd_1482 z) (some (.int 1), (wd_1482 z)) := by
  refine ru_of (k := 1) (M := pm_160) rfl rfl ?_
  refine go_seg 4 (pc' := 6) (ls' := [(0, .int 5)]) (st' := [.long 63, .long 0, .long 5]) (w' := (wd_1482 z)) (cs' := 0) (ss' := 0) ?_ (fun _ _ => rfl)
  refine go_cl (k := 1) (st' := [.int 1]) (cs' := 0) (ss' := 0) rfl rfl rfl rfl rfl rfl rfl (ro_2209 z) ?_
  exact go_end 1 (fun _ _ => rfl)
def wd_1483 (z : pq_C) : pq_W := ((wd_1482 z).set 91 (.inl (.int, 2858, .inl (upd (upd (upd (upd (upd (upd (upd (upd (upd (upd (upd (upd (upd (upd (upd (upd (upd (upd (upd (upd (upd (upd (upd (upd (upd (upd (upd (upd (upd (upd (upd (upd (upd (upd (upd (upd (upd (upd (upd (upd (upd (upd (upd (upd (upd (upd (upd (upd (upd (upd (upd (upd (upd (upd (upd (upd (upd (upd (upd (upd (upd (upd (upd (upd (upd (upd (upd (upd (upd (upd (upd (upd (upd (upd (upd (upd (upd (upd (upd (upd (upd (upd (fun _ => 0) 1 10) 10 (-1)) 11 (-1)) 12 (-1)) 13 (-1)) 14 (-1)) 15 (-1)) 16 (-1)) 17 (-1)) 18 (-1)) 19 (-1)) 20 (-1)) 21 (-1)) 22 (-1)) 23 (-1)) 24 (-1)) 25 (-1)) 26 (-1)) 27 (-1)) 28 (-1)) 29 (-1)) 30 (-1)) 31 (-1)) 32 (-1)) 33 (-1)) 34 (-1)) 35 (-1)) 36 (-1)) 37 (-1)) 38 (-1)) 39 (-1)) 40 (-1)) 41 (-1)) 42 (-1)) 43 (-1)) 44 (-1)) 45 (-1)) 46 (-1)) 47 (-1)) 48 (-1)) 49 (-1)) 50 (-1)) 51 (-1)) 52 (-1)) 53 (-1)) 54 (-1)) 55 (-1)) 56 (-1)) 57 (-1)) 58 (-1)) 59 (-1)) 60 (-1)) 61 (-1)) 62 (-1)) 63 (-1)) 64 (-1)) 65 (-1)) 66 (-1)) 67 (-1)) 68 (-1)) 69 (-1)) 70 (-1)) 71 (-1)) 72 (-1)) 73 (-1)) 139 1000) 140 100) 145 1000) 146 100) 151 1000) 152 100) 157 1000) 158 100) 163 1000) 164 100) 169 1000) 170 100) 175 1000) 176 100) 181 1000) 182 100) 79 1))))
theorem ro_2211 (z : pq_C) : pq_Ru 3 165 [.ref 90, .int 5, .int 1] (wd_1482 z) (some (.int 1), (wd_1483 z)) := by
  refine ru_of (k := 2) (M := pm_165) rfl rfl ?_
  refine go_seg 1 (pc' := 1) (ls' := [(0, .ref 90), (1, .int 5), (2, .int 1)]) (st' := [.int 5]) (w' := (wd_1482 z)) (cs' := 0) (ss' := 0) ?_ (fun _ _ => rfl)
  refine go_cl (k := 2) (st' := [.int 1]) (cs' := 0) (ss' := 0) rfl rfl rfl rfl rfl rfl rfl (ro_2210 z) ?_
  refine go_seg 8 (pc' := 24) (ls' := [(0, .ref 90), (1, .int 5), (2, .int 1)]) (st' := [.int 1, .int 0]) (w' := (wd_1482 z)) (cs' := 0) (ss' := 0) ?_ (fun _ _ => rfl)
  refine go_seg 8 (pc' := 42) (ls' := [(3, .int 1), (0, .ref 90), (1, .int 5), (2, .int 1)]) (st' := [.ref 90]) (w' := (wd_1482 z)) (cs' := 0) (ss' := 0) ?_ (fun _ _ => rfl)
  refine go_seg 8 (pc' := 58) (ls' := [(3, .int 1), (0, .ref 90), (1, .int 5), (2, .int 1)]) (st' := [.int 1, .int 79, .ref 91]) (w' := (wd_1482 z)) (cs' := 0) (ss' := 0) ?_ (fun _ _ => rfl)
  exact go_end 3 (fun _ _ => rfl)
theorem lf_2_2213 (a0 : Int32) (a2 : Int32) (a3 : Int32) (a4 : Int32) (a5 : Int32) (h0 : ¬ a2.toInt = 0) : ∃ w', pq_Go 20 pm_law 278 [(3, .int 0), (2, .ref 90), (1, .ref 1), (0, .ref 0)] [] (fw (sz a0 5 a2 a3 a4 a5)) 109 12668 (some (.int 1), w') := by
  refine ⟨(wd_1483 (sz a0 5 a2 a3 a4 a5)), ?_⟩
  refine go_seg 8 (pc' := 286) (ls' := [(3, .int 0), (2, .ref 90), (1, .ref 1), (0, .ref 0)]) (st' := [.int 0, .ref 0, .int 5, .ref 1]) (w' := (fw (sz a0 5 a2 a3 a4 a5))) (cs' := 109) (ss' := 12668) ?_ (fun _ _ => rfl)
  refine go_seg 3 (pc' := 289) (ls' := [(3, .int 0), (2, .ref 90), (1, .ref 1), (0, .ref 0)]) (st' := [.int a2, .int 5, .ref 1]) (w' := (fw (sz a0 5 a2 a3 a4 a5))) (cs' := 109) (ss' := 12668) ?_ (fun _ _ => rfl)
  refine go_if false rfl (br_eq_f (b := 0) rfl (by omega)) ?_
  refine go_seg 2 (pc' := 297) (ls' := [(3, .int 0), (2, .ref 90), (1, .ref 1), (0, .ref 0)]) (st' := [.int 1, .int 5, .ref 1]) (w' := (fw (sz a0 5 a2 a3 a4 a5))) (cs' := 109) (ss' := 12668) ?_ (fun _ _ => rfl)
  refine go_cl (k := 20) (st' := [.int 1]) (cs' := 109) (ss' := 12668) rfl rfl rfl rfl rfl rfl rfl (ro_2208 (sz a0 5 a2 a3 a4 a5)) ?_
  refine go_seg 8 (pc' := 308) (ls' := [(3, .int 0), (2, .ref 90), (1, .ref 1), (0, .ref 0)]) (st' := [.int 0, .ref 0, .int 5, .ref 90, .int 1]) (w' := (wd_1482 (sz a0 5 a2 a3 a4 a5))) (cs' := 109) (ss' := 12668) ?_ (fun _ _ => rfl)
  refine go_seg 3 (pc' := 311) (ls' := [(3, .int 0), (2, .ref 90), (1, .ref 1), (0, .ref 0)]) (st' := [.int a2, .int 5, .ref 90, .int 1]) (w' := (wd_1482 (sz a0 5 a2 a3 a4 a5))) (cs' := 109) (ss' := 12668) ?_ (fun _ _ => rfl)
  refine go_if false rfl (br_eq_f (b := 0) rfl (by omega)) ?_
  refine go_seg 2 (pc' := 319) (ls' := [(3, .int 0), (2, .ref 90), (1, .ref 1), (0, .ref 0)]) (st' := [.int 1, .int 5, .ref 90, .int 1]) (w' := (wd_1482 (sz a0 5 a2 a3 a4 a5))) (cs' := 109) (ss' := 12668) ?_ (fun _ _ => rfl)
  refine go_cl (k := 20) (st' := [.int 1, .int 1]) (cs' := 109) (ss' := 12668) rfl rfl rfl rfl rfl rfl rfl (ro_2211 (sz a0 5 a2 a3 a4 a5)) ?_
  refine go_cmp true rfl (br_self _) ?_
  exact law_tail (f := sc a0 5 a2 a3 a4 a5) rfl
def wd_1484 (z : pq_C) : pq_W := ((fw z).set 4 (.inl (.boolean, 64, .inl (upd (fun _ => 0) 6 1))))
theorem ro_2215 (z : pq_C) : pq_Ru 2 22 [.ref 1, .int 6, .int 1] (fw z) (some (.int 1), (wd_1484 z)) := by
  refine ru_of (k := 1) (M := pm_22) rfl rfl ?_
  refine go_seg 1 (pc' := 1) (ls' := [(0, .ref 1), (1, .int 6), (2, .int 1)]) (st' := [.int 6]) (w' := (fw z)) (cs' := 0) (ss' := 0) ?_ (fun _ _ => rfl)
  refine go_cl (k := 1) (st' := [.int 1]) (cs' := 0) (ss' := 0) rfl rfl rfl rfl rfl rfl rfl (ro_1241 z) ?_
  refine go_seg 8 (pc' := 24) (ls' := [(3, .int 0), (0, .ref 1), (1, .int 6), (2, .int 1)]) (st' := [.ref 1]) (w' := (fw z)) (cs' := 0) (ss' := 0) ?_ (fun _ _ => rfl)
  refine go_seg 8 (pc' := 42) (ls' := [(3, .int 0), (0, .ref 1), (1, .int 6), (2, .int 1)]) (st' := []) (w' := (wd_1484 z)) (cs' := 0) (ss' := 0) ?_ (fun _ _ => rfl)
  exact go_end 2 (fun _ _ => rfl)
theorem ro_2216 (z : pq_C) : pq_Ru 1 161 [.long 6, .long 0, .long 63] (wd_1484 z) (some (.int 1), (wd_1484 z)) := by
  refine ru_of (k := 0) (M := pm_161) rfl rfl ?_
  refine go_seg 8 (pc' := 13) (ls' := [(0, .long 6), (2, .long 0), (4, .long 63)]) (st' := []) (w' := (wd_1484 z)) (cs' := 0) (ss' := 0) ?_ (fun _ _ => rfl)
  exact go_end 3 (fun _ _ => rfl)
theorem ro_2217 (z : pq_C) : pq_Ru 2 160 [.int 6] (wd_1484 z) (some (.int 1), (wd_1484 z)) := by
  refine ru_of (k := 1) (M := pm_160) rfl rfl ?_
  refine go_seg 4 (pc' := 6) (ls' := [(0, .int 6)]) (st' := [.long 63, .long 0, .long 6]) (w' := (wd_1484 z)) (cs' := 0) (ss' := 0) ?_ (fun _ _ => rfl)
  refine go_cl (k := 1) (st' := [.int 1]) (cs' := 0) (ss' := 0) rfl rfl rfl rfl rfl rfl rfl (ro_2216 z) ?_
  exact go_end 1 (fun _ _ => rfl)
def wd_1485 (z : pq_C) : pq_W := ((wd_1484 z).set 91 (.inl (.int, 2858, .inl (upd (upd (upd (upd (upd (upd (upd (upd (upd (upd (upd (upd (upd (upd (upd (upd (upd (upd (upd (upd (upd (upd (upd (upd (upd (upd (upd (upd (upd (upd (upd (upd (upd (upd (upd (upd (upd (upd (upd (upd (upd (upd (upd (upd (upd (upd (upd (upd (upd (upd (upd (upd (upd (upd (upd (upd (upd (upd (upd (upd (upd (upd (upd (upd (upd (upd (upd (upd (upd (upd (upd (upd (upd (upd (upd (upd (upd (upd (upd (upd (upd (upd (fun _ => 0) 1 10) 10 (-1)) 11 (-1)) 12 (-1)) 13 (-1)) 14 (-1)) 15 (-1)) 16 (-1)) 17 (-1)) 18 (-1)) 19 (-1)) 20 (-1)) 21 (-1)) 22 (-1)) 23 (-1)) 24 (-1)) 25 (-1)) 26 (-1)) 27 (-1)) 28 (-1)) 29 (-1)) 30 (-1)) 31 (-1)) 32 (-1)) 33 (-1)) 34 (-1)) 35 (-1)) 36 (-1)) 37 (-1)) 38 (-1)) 39 (-1)) 40 (-1)) 41 (-1)) 42 (-1)) 43 (-1)) 44 (-1)) 45 (-1)) 46 (-1)) 47 (-1)) 48 (-1)) 49 (-1)) 50 (-1)) 51 (-1)) 52 (-1)) 53 (-1)) 54 (-1)) 55 (-1)) 56 (-1)) 57 (-1)) 58 (-1)) 59 (-1)) 60 (-1)) 61 (-1)) 62 (-1)) 63 (-1)) 64 (-1)) 65 (-1)) 66 (-1)) 67 (-1)) 68 (-1)) 69 (-1)) 70 (-1)) 71 (-1)) 72 (-1)) 73 (-1)) 139 1000) 140 100) 145 1000) 146 100) 151 1000) 152 100) 157 1000) 158 100) 163 1000) 164 100) 169 1000) 170 100) 175 1000) 176 100) 181 1000) 182 100) 80 1))))
theorem ro_2218 (z : pq_C) : pq_Ru 3 165 [.ref 90, .int 6, .int 1] (wd_1484 z) (some (.int 1), (wd_1485 z)) := by
  refine ru_of (k := 2) (M := pm_165) rfl rfl ?_
  refine go_seg 1 (pc' := 1) (ls' := [(0, .ref 90), (1, .int 6), (2, .int 1)]) (st' := [.int 6]) (w' := (wd_1484 z)) (cs' := 0) (ss' := 0) ?_ (fun _ _ => rfl)
  refine go_cl (k := 2) (st' := [.int 1]) (cs' := 0) (ss' := 0) rfl rfl rfl rfl rfl rfl rfl (ro_2217 z) ?_
  refine go_seg 8 (pc' := 24) (ls' := [(0, .ref 90), (1, .int 6), (2, .int 1)]) (st' := [.int 1, .int 0]) (w' := (wd_1484 z)) (cs' := 0) (ss' := 0) ?_ (fun _ _ => rfl)
  refine go_seg 8 (pc' := 42) (ls' := [(3, .int 1), (0, .ref 90), (1, .int 6), (2, .int 1)]) (st' := [.ref 90]) (w' := (wd_1484 z)) (cs' := 0) (ss' := 0) ?_ (fun _ _ => rfl)
  refine go_seg 8 (pc' := 58) (ls' := [(3, .int 1), (0, .ref 90), (1, .int 6), (2, .int 1)]) (st' := [.int 1, .int 80, .ref 91]) (w' := (wd_1484 z)) (cs' := 0) (ss' := 0) ?_ (fun _ _ => rfl)
  exact go_end 3 (fun _ _ => rfl)
theorem lf_2_2220 (a0 : Int32) (a2 : Int32) (a3 : Int32) (a4 : Int32) (a5 : Int32) (h0 : ¬ a2.toInt = 0) : ∃ w', pq_Go 20 pm_law 278 [(3, .int 0), (2, .ref 90), (1, .ref 1), (0, .ref 0)] [] (fw (sz a0 6 a2 a3 a4 a5)) 109 12668 (some (.int 1), w') := by
  refine ⟨(wd_1485 (sz a0 6 a2 a3 a4 a5)), ?_⟩
  refine go_seg 8 (pc' := 286) (ls' := [(3, .int 0), (2, .ref 90), (1, .ref 1), (0, .ref 0)]) (st' := [.int 0, .ref 0, .int 6, .ref 1]) (w' := (fw (sz a0 6 a2 a3 a4 a5))) (cs' := 109) (ss' := 12668) ?_ (fun _ _ => rfl)
  refine go_seg 3 (pc' := 289) (ls' := [(3, .int 0), (2, .ref 90), (1, .ref 1), (0, .ref 0)]) (st' := [.int a2, .int 6, .ref 1]) (w' := (fw (sz a0 6 a2 a3 a4 a5))) (cs' := 109) (ss' := 12668) ?_ (fun _ _ => rfl)
  refine go_if false rfl (br_eq_f (b := 0) rfl (by omega)) ?_
  refine go_seg 2 (pc' := 297) (ls' := [(3, .int 0), (2, .ref 90), (1, .ref 1), (0, .ref 0)]) (st' := [.int 1, .int 6, .ref 1]) (w' := (fw (sz a0 6 a2 a3 a4 a5))) (cs' := 109) (ss' := 12668) ?_ (fun _ _ => rfl)
  refine go_cl (k := 20) (st' := [.int 1]) (cs' := 109) (ss' := 12668) rfl rfl rfl rfl rfl rfl rfl (ro_2215 (sz a0 6 a2 a3 a4 a5)) ?_
  refine go_seg 8 (pc' := 308) (ls' := [(3, .int 0), (2, .ref 90), (1, .ref 1), (0, .ref 0)]) (st' := [.int 0, .ref 0, .int 6, .ref 90, .int 1]) (w' := (wd_1484 (sz a0 6 a2 a3 a4 a5))) (cs' := 109) (ss' := 12668) ?_ (fun _ _ => rfl)
  refine go_seg 3 (pc' := 311) (ls' := [(3, .int 0), (2, .ref 90), (1, .ref 1), (0, .ref 0)]) (st' := [.int a2, .int 6, .ref 90, .int 1]) (w' := (wd_1484 (sz a0 6 a2 a3 a4 a5))) (cs' := 109) (ss' := 12668) ?_ (fun _ _ => rfl)
  refine go_if false rfl (br_eq_f (b := 0) rfl (by omega)) ?_
  refine go_seg 2 (pc' := 319) (ls' := [(3, .int 0), (2, .ref 90), (1, .ref 1), (0, .ref 0)]) (st' := [.int 1, .int 6, .ref 90, .int 1]) (w' := (wd_1484 (sz a0 6 a2 a3 a4 a5))) (cs' := 109) (ss' := 12668) ?_ (fun _ _ => rfl)
  refine go_cl (k := 20) (st' := [.int 1, .int 1]) (cs' := 109) (ss' := 12668) rfl rfl rfl rfl rfl rfl rfl (ro_2218 (sz a0 6 a2 a3 a4 a5)) ?_
  refine go_cmp true rfl (br_self _) ?_
  exact law_tail (f := sc a0 6 a2 a3 a4 a5) rfl
def wd_1486 (z : pq_C) : pq_W := ((fw z).set 4 (.inl (.boolean, 64, .inl (upd (fun _ => 0) 7 1))))
theorem ro_2222 (z : pq_C) : pq_Ru 2 22 [.ref 1, .int 7, .int 1] (fw z) (some (.int 1), (wd_1486 z)) := by
  refine ru_of (k := 1) (M := pm_22) rfl rfl ?_
  refine go_seg 1 (pc' := 1) (ls' := [(0, .ref 1), (1, .int 7), (2, .int 1)]) (st' := [.int 7]) (w' := (fw z)) (cs' := 0) (ss' := 0) ?_ (fun _ _ => rfl)
  refine go_cl (k := 1) (st' := [.int 1]) (cs' := 0) (ss' := 0) rfl rfl rfl rfl rfl rfl rfl (ro_1249 z) ?_
  refine go_seg 8 (pc' := 24) (ls' := [(3, .int 0), (0, .ref 1), (1, .int 7), (2, .int 1)]) (st' := [.ref 1]) (w' := (fw z)) (cs' := 0) (ss' := 0) ?_ (fun _ _ => rfl)
  refine go_seg 8 (pc' := 42) (ls' := [(3, .int 0), (0, .ref 1), (1, .int 7), (2, .int 1)]) (st' := []) (w' := (wd_1486 z)) (cs' := 0) (ss' := 0) ?_ (fun _ _ => rfl)
  exact go_end 2 (fun _ _ => rfl)
theorem ro_2223 (z : pq_C) : pq_Ru 1 161 [.long 7, .long 0, .long 63] (wd_1486 z) (some (.int 1), (wd_1486 z)) := by
  refine ru_of (k := 0) (M := pm_161) rfl rfl ?_
  refine go_seg 8 (pc' := 13) (ls' := [(0, .long 7), (2, .long 0), (4, .long 63)]) (st' := []) (w' := (wd_1486 z)) (cs' := 0) (ss' := 0) ?_ (fun _ _ => rfl)
  exact go_end 3 (fun _ _ => rfl)
theorem ro_2224 (z : pq_C) : pq_Ru 2 160 [.int 7] (wd_1486 z) (some (.int 1), (wd_1486 z)) := by
  refine ru_of (k := 1) (M := pm_160) rfl rfl ?_
  refine go_seg 4 (pc' := 6) (ls' := [(0, .int 7)]) (st' := [.long 63, .long 0, .long 7]) (w' := (wd_1486 z)) (cs' := 0) (ss' := 0) ?_ (fun _ _ => rfl)
  refine go_cl (k := 1) (st' := [.int 1]) (cs' := 0) (ss' := 0) rfl rfl rfl rfl rfl rfl rfl (ro_2223 z) ?_
  exact go_end 1 (fun _ _ => rfl)
def wd_1487 (z : pq_C) : pq_W := ((wd_1486 z).set 91 (.inl (.int, 2858, .inl (upd (upd (upd (upd (upd (upd (upd (upd (upd (upd (upd (upd (upd (upd (upd (upd (upd (upd (upd (upd (upd (upd (upd (upd (upd (upd (upd (upd (upd (upd (upd (upd (upd (upd (upd (upd (upd (upd (upd (upd (upd (upd (upd (upd (upd (upd (upd (upd (upd (upd (upd (upd (upd (upd (upd (upd (upd (upd (upd (upd (upd (upd (upd (upd (upd (upd (upd (upd (upd (upd (upd (upd (upd (upd (upd (upd (upd (upd (upd (upd (upd (upd (fun _ => 0) 1 10) 10 (-1)) 11 (-1)) 12 (-1)) 13 (-1)) 14 (-1)) 15 (-1)) 16 (-1)) 17 (-1)) 18 (-1)) 19 (-1)) 20 (-1)) 21 (-1)) 22 (-1)) 23 (-1)) 24 (-1)) 25 (-1)) 26 (-1)) 27 (-1)) 28 (-1)) 29 (-1)) 30 (-1)) 31 (-1)) 32 (-1)) 33 (-1)) 34 (-1)) 35 (-1)) 36 (-1)) 37 (-1)) 38 (-1)) 39 (-1)) 40 (-1)) 41 (-1)) 42 (-1)) 43 (-1)) 44 (-1)) 45 (-1)) 46 (-1)) 47 (-1)) 48 (-1)) 49 (-1)) 50 (-1)) 51 (-1)) 52 (-1)) 53 (-1)) 54 (-1)) 55 (-1)) 56 (-1)) 57 (-1)) 58 (-1)) 59 (-1)) 60 (-1)) 61 (-1)) 62 (-1)) 63 (-1)) 64 (-1)) 65 (-1)) 66 (-1)) 67 (-1)) 68 (-1)) 69 (-1)) 70 (-1)) 71 (-1)) 72 (-1)) 73 (-1)) 139 1000) 140 100) 145 1000) 146 100) 151 1000) 152 100) 157 1000) 158 100) 163 1000) 164 100) 169 1000) 170 100) 175 1000) 176 100) 181 1000) 182 100) 81 1))))
theorem ro_2225 (z : pq_C) : pq_Ru 3 165 [.ref 90, .int 7, .int 1] (wd_1486 z) (some (.int 1), (wd_1487 z)) := by
  refine ru_of (k := 2) (M := pm_165) rfl rfl ?_
  refine go_seg 1 (pc' := 1) (ls' := [(0, .ref 90), (1, .int 7), (2, .int 1)]) (st' := [.int 7]) (w' := (wd_1486 z)) (cs' := 0) (ss' := 0) ?_ (fun _ _ => rfl)
  refine go_cl (k := 2) (st' := [.int 1]) (cs' := 0) (ss' := 0) rfl rfl rfl rfl rfl rfl rfl (ro_2224 z) ?_
  refine go_seg 8 (pc' := 24) (ls' := [(0, .ref 90), (1, .int 7), (2, .int 1)]) (st' := [.int 1, .int 0]) (w' := (wd_1486 z)) (cs' := 0) (ss' := 0) ?_ (fun _ _ => rfl)
  refine go_seg 8 (pc' := 42) (ls' := [(3, .int 1), (0, .ref 90), (1, .int 7), (2, .int 1)]) (st' := [.ref 90]) (w' := (wd_1486 z)) (cs' := 0) (ss' := 0) ?_ (fun _ _ => rfl)
  refine go_seg 8 (pc' := 58) (ls' := [(3, .int 1), (0, .ref 90), (1, .int 7), (2, .int 1)]) (st' := [.int 1, .int 81, .ref 91]) (w' := (wd_1486 z)) (cs' := 0) (ss' := 0) ?_ (fun _ _ => rfl)
  exact go_end 3 (fun _ _ => rfl)
theorem lf_2_2227 (a0 : Int32) (a2 : Int32) (a3 : Int32) (a4 : Int32) (a5 : Int32) (h0 : ¬ a2.toInt = 0) : ∃ w', pq_Go 20 pm_law 278 [(3, .int 0), (2, .ref 90), (1, .ref 1), (0, .ref 0)] [] (fw (sz a0 7 a2 a3 a4 a5)) 109 12668 (some (.int 1), w') := by
  refine ⟨(wd_1487 (sz a0 7 a2 a3 a4 a5)), ?_⟩
  refine go_seg 8 (pc' := 286) (ls' := [(3, .int 0), (2, .ref 90), (1, .ref 1), (0, .ref 0)]) (st' := [.int 0, .ref 0, .int 7, .ref 1]) (w' := (fw (sz a0 7 a2 a3 a4 a5))) (cs' := 109) (ss' := 12668) ?_ (fun _ _ => rfl)
  refine go_seg 3 (pc' := 289) (ls' := [(3, .int 0), (2, .ref 90), (1, .ref 1), (0, .ref 0)]) (st' := [.int a2, .int 7, .ref 1]) (w' := (fw (sz a0 7 a2 a3 a4 a5))) (cs' := 109) (ss' := 12668) ?_ (fun _ _ => rfl)
  refine go_if false rfl (br_eq_f (b := 0) rfl (by omega)) ?_
  refine go_seg 2 (pc' := 297) (ls' := [(3, .int 0), (2, .ref 90), (1, .ref 1), (0, .ref 0)]) (st' := [.int 1, .int 7, .ref 1]) (w' := (fw (sz a0 7 a2 a3 a4 a5))) (cs' := 109) (ss' := 12668) ?_ (fun _ _ => rfl)
  refine go_cl (k := 20) (st' := [.int 1]) (cs' := 109) (ss' := 12668) rfl rfl rfl rfl rfl rfl rfl (ro_2222 (sz a0 7 a2 a3 a4 a5)) ?_
  refine go_seg 8 (pc' := 308) (ls' := [(3, .int 0), (2, .ref 90), (1, .ref 1), (0, .ref 0)]) (st' := [.int 0, .ref 0, .int 7, .ref 90, .int 1]) (w' := (wd_1486 (sz a0 7 a2 a3 a4 a5))) (cs' := 109) (ss' := 12668) ?_ (fun _ _ => rfl)
  refine go_seg 3 (pc' := 311) (ls' := [(3, .int 0), (2, .ref 90), (1, .ref 1), (0, .ref 0)]) (st' := [.int a2, .int 7, .ref 90, .int 1]) (w' := (wd_1486 (sz a0 7 a2 a3 a4 a5))) (cs' := 109) (ss' := 12668) ?_ (fun _ _ => rfl)
  refine go_if false rfl (br_eq_f (b := 0) rfl (by omega)) ?_
  refine go_seg 2 (pc' := 319) (ls' := [(3, .int 0), (2, .ref 90), (1, .ref 1), (0, .ref 0)]) (st' := [.int 1, .int 7, .ref 90, .int 1]) (w' := (wd_1486 (sz a0 7 a2 a3 a4 a5))) (cs' := 109) (ss' := 12668) ?_ (fun _ _ => rfl)
  refine go_cl (k := 20) (st' := [.int 1, .int 1]) (cs' := 109) (ss' := 12668) rfl rfl rfl rfl rfl rfl rfl (ro_2225 (sz a0 7 a2 a3 a4 a5)) ?_
  refine go_cmp true rfl (br_self _) ?_
  exact law_tail (f := sc a0 7 a2 a3 a4 a5) rfl
def wd_1488 (z : pq_C) : pq_W := ((fw z).set 4 (.inl (.boolean, 64, .inl (upd (fun _ => 0) 8 1))))
theorem ro_2229 (z : pq_C) : pq_Ru 2 22 [.ref 1, .int 8, .int 1] (fw z) (some (.int 1), (wd_1488 z)) := by
  refine ru_of (k := 1) (M := pm_22) rfl rfl ?_
  refine go_seg 1 (pc' := 1) (ls' := [(0, .ref 1), (1, .int 8), (2, .int 1)]) (st' := [.int 8]) (w' := (fw z)) (cs' := 0) (ss' := 0) ?_ (fun _ _ => rfl)
  refine go_cl (k := 1) (st' := [.int 1]) (cs' := 0) (ss' := 0) rfl rfl rfl rfl rfl rfl rfl (ro_1257 z) ?_
  refine go_seg 8 (pc' := 24) (ls' := [(3, .int 0), (0, .ref 1), (1, .int 8), (2, .int 1)]) (st' := [.ref 1]) (w' := (fw z)) (cs' := 0) (ss' := 0) ?_ (fun _ _ => rfl)
  refine go_seg 8 (pc' := 42) (ls' := [(3, .int 0), (0, .ref 1), (1, .int 8), (2, .int 1)]) (st' := []) (w' := (wd_1488 z)) (cs' := 0) (ss' := 0) ?_ (fun _ _ => rfl)
  exact go_end 2 (fun _ _ => rfl)
theorem ro_2230 (z : pq_C) : pq_Ru 1 161 [.long 8, .long 0, .long 63] (wd_1488 z) (some (.int 1), (wd_1488 z)) := by
  refine ru_of (k := 0) (M := pm_161) rfl rfl ?_
  refine go_seg 8 (pc' := 13) (ls' := [(0, .long 8), (2, .long 0), (4, .long 63)]) (st' := []) (w' := (wd_1488 z)) (cs' := 0) (ss' := 0) ?_ (fun _ _ => rfl)
  exact go_end 3 (fun _ _ => rfl)
theorem ro_2231 (z : pq_C) : pq_Ru 2 160 [.int 8] (wd_1488 z) (some (.int 1), (wd_1488 z)) := by
  refine ru_of (k := 1) (M := pm_160) rfl rfl ?_
  refine go_seg 4 (pc' := 6) (ls' := [(0, .int 8)]) (st' := [.long 63, .long 0, .long 8]) (w' := (wd_1488 z)) (cs' := 0) (ss' := 0) ?_ (fun _ _ => rfl)
  refine go_cl (k := 1) (st' := [.int 1]) (cs' := 0) (ss' := 0) rfl rfl rfl rfl rfl rfl rfl (ro_2230 z) ?_
  exact go_end 1 (fun _ _ => rfl)
def wd_1489 (z : pq_C) : pq_W := ((wd_1488 z).set 91 (.inl (.int, 2858, .inl (upd (upd (upd (upd (upd (upd (upd (upd (upd (upd (upd (upd (upd (upd (upd (upd (upd (upd (upd (upd (upd (upd (upd (upd (upd (upd (upd (upd (upd (upd (upd (upd (upd (upd (upd (upd (upd (upd (upd (upd (upd (upd (upd (upd (upd (upd (upd (upd (upd (upd (upd (upd (upd (upd (upd (upd (upd (upd (upd (upd (upd (upd (upd (upd (upd (upd (upd (upd (upd (upd (upd (upd (upd (upd (upd (upd (upd (upd (upd (upd (upd (upd (fun _ => 0) 1 10) 10 (-1)) 11 (-1)) 12 (-1)) 13 (-1)) 14 (-1)) 15 (-1)) 16 (-1)) 17 (-1)) 18 (-1)) 19 (-1)) 20 (-1)) 21 (-1)) 22 (-1)) 23 (-1)) 24 (-1)) 25 (-1)) 26 (-1)) 27 (-1)) 28 (-1)) 29 (-1)) 30 (-1)) 31 (-1)) 32 (-1)) 33 (-1)) 34 (-1)) 35 (-1)) 36 (-1)) 37 (-1)) 38 (-1)) 39 (-1)) 40 (-1)) 41 (-1)) 42 (-1)) 43 (-1)) 44 (-1)) 45 (-1)) 46 (-1)) 47 (-1)) 48 (-1)) 49 (-1)) 50 (-1)) 51 (-1)) 52 (-1)) 53 (-1)) 54 (-1)) 55 (-1)) 56 (-1)) 57 (-1)) 58 (-1)) 59 (-1)) 60 (-1)) 61 (-1)) 62 (-1)) 63 (-1)) 64 (-1)) 65 (-1)) 66 (-1)) 67 (-1)) 68 (-1)) 69 (-1)) 70 (-1)) 71 (-1)) 72 (-1)) 73 (-1)) 139 1000) 140 100) 145 1000) 146 100) 151 1000) 152 100) 157 1000) 158 100) 163 1000) 164 100) 169 1000) 170 100) 175 1000) 176 100) 181 1000) 182 100) 82 1))))
theorem ro_2232 (z : pq_C) : pq_Ru 3 165 [.ref 90, .int 8, .int 1] (wd_1488 z) (some (.int 1), (wd_1489 z)) := by
  refine ru_of (k := 2) (M := pm_165) rfl rfl ?_
  refine go_seg 1 (pc' := 1) (ls' := [(0, .ref 90), (1, .int 8), (2, .int 1)]) (st' := [.int 8]) (w' := (wd_1488 z)) (cs' := 0) (ss' := 0) ?_ (fun _ _ => rfl)
  refine go_cl (k := 2) (st' := [.int 1]) (cs' := 0) (ss' := 0) rfl rfl rfl rfl rfl rfl rfl (ro_2231 z) ?_
  refine go_seg 8 (pc' := 24) (ls' := [(0, .ref 90), (1, .int 8), (2, .int 1)]) (st' := [.int 1, .int 0]) (w' := (wd_1488 z)) (cs' := 0) (ss' := 0) ?_ (fun _ _ => rfl)
  refine go_seg 8 (pc' := 42) (ls' := [(3, .int 1), (0, .ref 90), (1, .int 8), (2, .int 1)]) (st' := [.ref 90]) (w' := (wd_1488 z)) (cs' := 0) (ss' := 0) ?_ (fun _ _ => rfl)
  refine go_seg 8 (pc' := 58) (ls' := [(3, .int 1), (0, .ref 90), (1, .int 8), (2, .int 1)]) (st' := [.int 1, .int 82, .ref 91]) (w' := (wd_1488 z)) (cs' := 0) (ss' := 0) ?_ (fun _ _ => rfl)
  exact go_end 3 (fun _ _ => rfl)
theorem lf_2_2234 (a0 : Int32) (a2 : Int32) (a3 : Int32) (a4 : Int32) (a5 : Int32) (h0 : ¬ a2.toInt = 0) : ∃ w', pq_Go 20 pm_law 278 [(3, .int 0), (2, .ref 90), (1, .ref 1), (0, .ref 0)] [] (fw (sz a0 8 a2 a3 a4 a5)) 109 12668 (some (.int 1), w') := by
  refine ⟨(wd_1489 (sz a0 8 a2 a3 a4 a5)), ?_⟩
  refine go_seg 8 (pc' := 286) (ls' := [(3, .int 0), (2, .ref 90), (1, .ref 1), (0, .ref 0)]) (st' := [.int 0, .ref 0, .int 8, .ref 1]) (w' := (fw (sz a0 8 a2 a3 a4 a5))) (cs' := 109) (ss' := 12668) ?_ (fun _ _ => rfl)
  refine go_seg 3 (pc' := 289) (ls' := [(3, .int 0), (2, .ref 90), (1, .ref 1), (0, .ref 0)]) (st' := [.int a2, .int 8, .ref 1]) (w' := (fw (sz a0 8 a2 a3 a4 a5))) (cs' := 109) (ss' := 12668) ?_ (fun _ _ => rfl)
  refine go_if false rfl (br_eq_f (b := 0) rfl (by omega)) ?_
  refine go_seg 2 (pc' := 297) (ls' := [(3, .int 0), (2, .ref 90), (1, .ref 1), (0, .ref 0)]) (st' := [.int 1, .int 8, .ref 1]) (w' := (fw (sz a0 8 a2 a3 a4 a5))) (cs' := 109) (ss' := 12668) ?_ (fun _ _ => rfl)
  refine go_cl (k := 20) (st' := [.int 1]) (cs' := 109) (ss' := 12668) rfl rfl rfl rfl rfl rfl rfl (ro_2229 (sz a0 8 a2 a3 a4 a5)) ?_
  refine go_seg 8 (pc' := 308) (ls' := [(3, .int 0), (2, .ref 90), (1, .ref 1), (0, .ref 0)]) (st' := [.int 0, .ref 0, .int 8, .ref 90, .int 1]) (w' := (wd_1488 (sz a0 8 a2 a3 a4 a5))) (cs' := 109) (ss' := 12668) ?_ (fun _ _ => rfl)
  refine go_seg 3 (pc' := 311) (ls' := [(3, .int 0), (2, .ref 90), (1, .ref 1), (0, .ref 0)]) (st' := [.int a2, .int 8, .ref 90, .int 1]) (w' := (wd_1488 (sz a0 8 a2 a3 a4 a5))) (cs' := 109) (ss' := 12668) ?_ (fun _ _ => rfl)
  refine go_if false rfl (br_eq_f (b := 0) rfl (by omega)) ?_
  refine go_seg 2 (pc' := 319) (ls' := [(3, .int 0), (2, .ref 90), (1, .ref 1), (0, .ref 0)]) (st' := [.int 1, .int 8, .ref 90, .int 1]) (w' := (wd_1488 (sz a0 8 a2 a3 a4 a5))) (cs' := 109) (ss' := 12668) ?_ (fun _ _ => rfl)
  refine go_cl (k := 20) (st' := [.int 1, .int 1]) (cs' := 109) (ss' := 12668) rfl rfl rfl rfl rfl rfl rfl (ro_2232 (sz a0 8 a2 a3 a4 a5)) ?_
  refine go_cmp true rfl (br_self _) ?_
  exact law_tail (f := sc a0 8 a2 a3 a4 a5) rfl
def wd_1490 (z : pq_C) : pq_W := ((fw z).set 4 (.inl (.boolean, 64, .inl (upd (fun _ => 0) 9 1))))
theorem ro_2236 (z : pq_C) : pq_Ru 2 22 [.ref 1, .int 9, .int 1] (fw z) (some (.int 1), (wd_1490 z)) := by
  refine ru_of (k := 1) (M := pm_22) rfl rfl ?_
  refine go_seg 1 (pc' := 1) (ls' := [(0, .ref 1), (1, .int 9), (2, .int 1)]) (st' := [.int 9]) (w' := (fw z)) (cs' := 0) (ss' := 0) ?_ (fun _ _ => rfl)
  refine go_cl (k := 1) (st' := [.int 1]) (cs' := 0) (ss' := 0) rfl rfl rfl rfl rfl rfl rfl (ro_1265 z) ?_
  refine go_seg 8 (pc' := 24) (ls' := [(3, .int 0), (0, .ref 1), (1, .int 9), (2, .int 1)]) (st' := [.ref 1]) (w' := (fw z)) (cs' := 0) (ss' := 0) ?_ (fun _ _ => rfl)
  refine go_seg 8 (pc' := 42) (ls' := [(3, .int 0), (0, .ref 1), (1, .int 9), (2, .int 1)]) (st' := []) (w' := (wd_1490 z)) (cs' := 0) (ss' := 0) ?_ (fun _ _ => rfl)
  exact go_end 2 (fun _ _ => rfl)
theorem ro_2237 (z : pq_C) : pq_Ru 1 161 [.long 9, .long 0, .long 63] (wd_1490 z) (some (.int 1), (wd_1490 z)) := by
  refine ru_of (k := 0) (M := pm_161) rfl rfl ?_
  refine go_seg 8 (pc' := 13) (ls' := [(0, .long 9), (2, .long 0), (4, .long 63)]) (st' := []) (w' := (wd_1490 z)) (cs' := 0) (ss' := 0) ?_ (fun _ _ => rfl)
  exact go_end 3 (fun _ _ => rfl)
theorem ro_2238 (z : pq_C) : pq_Ru 2 160 [.int 9] (wd_1490 z) (some (.int 1), (wd_1490 z)) := by
  refine ru_of (k := 1) (M := pm_160) rfl rfl ?_
  refine go_seg 4 (pc' := 6) (ls' := [(0, .int 9)]) (st' := [.long 63, .long 0, .long 9]) (w' := (wd_1490 z)) (cs' := 0) (ss' := 0) ?_ (fun _ _ => rfl)
  refine go_cl (k := 1) (st' := [.int 1]) (cs' := 0) (ss' := 0) rfl rfl rfl rfl rfl rfl rfl (ro_2237 z) ?_
  exact go_end 1 (fun _ _ => rfl)
def wd_1491 (z : pq_C) : pq_W := ((wd_1490 z).set 91 (.inl (.int, 2858, .inl (upd (upd (upd (upd (upd (upd (upd (upd (upd (upd (upd (upd (upd (upd (upd (upd (upd (upd (upd (upd (upd (upd (upd (upd (upd (upd (upd (upd (upd (upd (upd (upd (upd (upd (upd (upd (upd (upd (upd (upd (upd (upd (upd (upd (upd (upd (upd (upd (upd (upd (upd (upd (upd (upd (upd (upd (upd (upd (upd (upd (upd (upd (upd (upd (upd (upd (upd (upd (upd (upd (upd (upd (upd (upd (upd (upd (upd (upd (upd (upd (upd (upd (fun _ => 0) 1 10) 10 (-1)) 11 (-1)) 12 (-1)) 13 (-1)) 14 (-1)) 15 (-1)) 16 (-1)) 17 (-1)) 18 (-1)) 19 (-1)) 20 (-1)) 21 (-1)) 22 (-1)) 23 (-1)) 24 (-1)) 25 (-1)) 26 (-1)) 27 (-1)) 28 (-1)) 29 (-1)) 30 (-1)) 31 (-1)) 32 (-1)) 33 (-1)) 34 (-1)) 35 (-1)) 36 (-1)) 37 (-1)) 38 (-1)) 39 (-1)) 40 (-1)) 41 (-1)) 42 (-1)) 43 (-1)) 44 (-1)) 45 (-1)) 46 (-1)) 47 (-1)) 48 (-1)) 49 (-1)) 50 (-1)) 51 (-1)) 52 (-1)) 53 (-1)) 54 (-1)) 55 (-1)) 56 (-1)) 57 (-1)) 58 (-1)) 59 (-1)) 60 (-1)) 61 (-1)) 62 (-1)) 63 (-1)) 64 (-1)) 65 (-1)) 66 (-1)) 67 (-1)) 68 (-1)) 69 (-1)) 70 (-1)) 71 (-1)) 72 (-1)) 73 (-1)) 139 1000) 140 100) 145 1000) 146 100) 151 1000) 152 100) 157 1000) 158 100) 163 1000) 164 100) 169 1000) 170 100) 175 1000) 176 100) 181 1000) 182 100) 83 1))))
theorem ro_2239 (z : pq_C) : pq_Ru 3 165 [.ref 90, .int 9, .int 1] (wd_1490 z) (some (.int 1), (wd_1491 z)) := by
  refine ru_of (k := 2) (M := pm_165) rfl rfl ?_
  refine go_seg 1 (pc' := 1) (ls' := [(0, .ref 90), (1, .int 9), (2, .int 1)]) (st' := [.int 9]) (w' := (wd_1490 z)) (cs' := 0) (ss' := 0) ?_ (fun _ _ => rfl)
  refine go_cl (k := 2) (st' := [.int 1]) (cs' := 0) (ss' := 0) rfl rfl rfl rfl rfl rfl rfl (ro_2238 z) ?_
  refine go_seg 8 (pc' := 24) (ls' := [(0, .ref 90), (1, .int 9), (2, .int 1)]) (st' := [.int 1, .int 0]) (w' := (wd_1490 z)) (cs' := 0) (ss' := 0) ?_ (fun _ _ => rfl)
  refine go_seg 8 (pc' := 42) (ls' := [(3, .int 1), (0, .ref 90), (1, .int 9), (2, .int 1)]) (st' := [.ref 90]) (w' := (wd_1490 z)) (cs' := 0) (ss' := 0) ?_ (fun _ _ => rfl)
  refine go_seg 8 (pc' := 58) (ls' := [(3, .int 1), (0, .ref 90), (1, .int 9), (2, .int 1)]) (st' := [.int 1, .int 83, .ref 91]) (w' := (wd_1490 z)) (cs' := 0) (ss' := 0) ?_ (fun _ _ => rfl)
  exact go_end 3 (fun _ _ => rfl)
theorem lf_2_2241 (a0 : Int32) (a2 : Int32) (a3 : Int32) (a4 : Int32) (a5 : Int32) (h0 : ¬ a2.toInt = 0) : ∃ w', pq_Go 20 pm_law 278 [(3, .int 0), (2, .ref 90), (1, .ref 1), (0, .ref 0)] [] (fw (sz a0 9 a2 a3 a4 a5)) 109 12668 (some (.int 1), w') := by
  refine ⟨(wd_1491 (sz a0 9 a2 a3 a4 a5)), ?_⟩
  refine go_seg 8 (pc' := 286) (ls' := [(3, .int 0), (2, .ref 90), (1, .ref 1), (0, .ref 0)]) (st' := [.int 0, .ref 0, .int 9, .ref 1]) (w' := (fw (sz a0 9 a2 a3 a4 a5))) (cs' := 109) (ss' := 12668) ?_ (fun _ _ => rfl)
  refine go_seg 3 (pc' := 289) (ls' := [(3, .int 0), (2, .ref 90), (1, .ref 1), (0, .ref 0)]) (st' := [.int a2, .int 9, .ref 1]) (w' := (fw (sz a0 9 a2 a3 a4 a5))) (cs' := 109) (ss' := 12668) ?_ (fun _ _ => rfl)
  refine go_if false rfl (br_eq_f (b := 0) rfl (by omega)) ?_
  refine go_seg 2 (pc' := 297) (ls' := [(3, .int 0), (2, .ref 90), (1, .ref 1), (0, .ref 0)]) (st' := [.int 1, .int 9, .ref 1]) (w' := (fw (sz a0 9 a2 a3 a4 a5))) (cs' := 109) (ss' := 12668) ?_ (fun _ _ => rfl)
  refine go_cl (k := 20) (st' := [.int 1]) (cs' := 109) (ss' := 12668) rfl rfl rfl rfl rfl rfl rfl (ro_2236 (sz a0 9 a2 a3 a4 a5)) ?_
  refine go_seg 8 (pc' := 308) (ls' := [(3, .int 0), (2, .ref 90), (1, .ref 1), (0, .ref 0)]) (st' := [.int 0, .ref 0, .int 9, .ref 90, .int 1]) (w' := (wd_1490 (sz a0 9 a2 a3 a4 a5))) (cs' := 109) (ss' := 12668) ?_ (fun _ _ => rfl)
  refine go_seg 3 (pc' := 311) (ls' := [(3, .int 0), (2, .ref 90), (1, .ref 1), (0, .ref 0)]) (st' := [.int a2, .int 9, .ref 90, .int 1]) (w' := (wd_1490 (sz a0 9 a2 a3 a4 a5))) (cs' := 109) (ss' := 12668) ?_ (fun _ _ => rfl)
  refine go_if false rfl (br_eq_f (b := 0) rfl (by omega)) ?_
  refine go_seg 2 (pc' := 319) (ls' := [(3, .int 0), (2, .ref 90), (1, .ref 1), (0, .ref 0)]) (st' := [.int 1, .int 9, .ref 90, .int 1]) (w' := (wd_1490 (sz a0 9 a2 a3 a4 a5))) (cs' := 109) (ss' := 12668) ?_ (fun _ _ => rfl)
  refine go_cl (k := 20) (st' := [.int 1, .int 1]) (cs' := 109) (ss' := 12668) rfl rfl rfl rfl rfl rfl rfl (ro_2239 (sz a0 9 a2 a3 a4 a5)) ?_
  refine go_cmp true rfl (br_self _) ?_
  exact law_tail (f := sc a0 9 a2 a3 a4 a5) rfl
def wd_1492 (z : pq_C) : pq_W := ((fw z).set 4 (.inl (.boolean, 64, .inl (upd (fun _ => 0) 10 1))))
theorem ro_2243 (z : pq_C) : pq_Ru 2 22 [.ref 1, .int 10, .int 1] (fw z) (some (.int 1), (wd_1492 z)) := by
  refine ru_of (k := 1) (M := pm_22) rfl rfl ?_
  refine go_seg 1 (pc' := 1) (ls' := [(0, .ref 1), (1, .int 10), (2, .int 1)]) (st' := [.int 10]) (w' := (fw z)) (cs' := 0) (ss' := 0) ?_ (fun _ _ => rfl)
  refine go_cl (k := 1) (st' := [.int 1]) (cs' := 0) (ss' := 0) rfl rfl rfl rfl rfl rfl rfl (ro_1273 z) ?_
  refine go_seg 8 (pc' := 24) (ls' := [(3, .int 0), (0, .ref 1), (1, .int 10), (2, .int 1)]) (st' := [.ref 1]) (w' := (fw z)) (cs' := 0) (ss' := 0) ?_ (fun _ _ => rfl)
  refine go_seg 8 (pc' := 42) (ls' := [(3, .int 0), (0, .ref 1), (1, .int 10), (2, .int 1)]) (st' := []) (w' := (wd_1492 z)) (cs' := 0) (ss' := 0) ?_ (fun _ _ => rfl)
  exact go_end 2 (fun _ _ => rfl)
theorem ro_2244 (z : pq_C) : pq_Ru 1 161 [.long 10, .long 0, .long 63] (wd_1492 z) (some (.int 1), (wd_1492 z)) := by
  refine ru_of (k := 0) (M := pm_161) rfl rfl ?_
  refine go_seg 8 (pc' := 13) (ls' := [(0, .long 10), (2, .long 0), (4, .long 63)]) (st' := []) (w' := (wd_1492 z)) (cs' := 0) (ss' := 0) ?_ (fun _ _ => rfl)
  exact go_end 3 (fun _ _ => rfl)
theorem ro_2245 (z : pq_C) : pq_Ru 2 160 [.int 10] (wd_1492 z) (some (.int 1), (wd_1492 z)) := by
  refine ru_of (k := 1) (M := pm_160) rfl rfl ?_
  refine go_seg 4 (pc' := 6) (ls' := [(0, .int 10)]) (st' := [.long 63, .long 0, .long 10]) (w' := (wd_1492 z)) (cs' := 0) (ss' := 0) ?_ (fun _ _ => rfl)
  refine go_cl (k := 1) (st' := [.int 1]) (cs' := 0) (ss' := 0) rfl rfl rfl rfl rfl rfl rfl (ro_2244 z) ?_
  exact go_end 1 (fun _ _ => rfl)
def wd_1493 (z : pq_C) : pq_W := ((wd_1492 z).set 91 (.inl (.int, 2858, .inl (upd (upd (upd (upd (upd (upd (upd (upd (upd (upd (upd (upd (upd (upd (upd (upd (upd (upd (upd (upd (upd (upd (upd (upd (upd (upd (upd (upd (upd (upd (upd (upd (upd (upd (upd (upd (upd (upd (upd (upd (upd (upd (upd (upd (upd (upd (upd (upd (upd (upd (upd (upd (upd (upd (upd (upd (upd (upd (upd (upd (upd (upd (upd (upd (upd (upd (upd (upd (upd (upd (upd (upd (upd (upd (upd (upd (upd (upd (upd (upd (upd (upd (fun _ => 0) 1 10) 10 (-1)) 11 (-1)) 12 (-1)) 13 (-1)) 14 (-1)) 15 (-1)) 16 (-1)) 17 (-1)) 18 (-1)) 19 (-1)) 20 (-1)) 21 (-1)) 22 (-1)) 23 (-1)) 24 (-1)) 25 (-1)) 26 (-1)) 27 (-1)) 28 (-1)) 29 (-1)) 30 (-1)) 31 (-1)) 32 (-1)) 33 (-1)) 34 (-1)) 35 (-1)) 36 (-1)) 37 (-1)) 38 (-1)) 39 (-1)) 40 (-1)) 41 (-1)) 42 (-1)) 43 (-1)) 44 (-1)) 45 (-1)) 46 (-1)) 47 (-1)) 48 (-1)) 49 (-1)) 50 (-1)) 51 (-1)) 52 (-1)) 53 (-1)) 54 (-1)) 55 (-1)) 56 (-1)) 57 (-1)) 58 (-1)) 59 (-1)) 60 (-1)) 61 (-1)) 62 (-1)) 63 (-1)) 64 (-1)) 65 (-1)) 66 (-1)) 67 (-1)) 68 (-1)) 69 (-1)) 70 (-1)) 71 (-1)) 72 (-1)) 73 (-1)) 139 1000) 140 100) 145 1000) 146 100) 151 1000) 152 100) 157 1000) 158 100) 163 1000) 164 100) 169 1000) 170 100) 175 1000) 176 100) 181 1000) 182 100) 84 1))))
theorem ro_2246 (z : pq_C) : pq_Ru 3 165 [.ref 90, .int 10, .int 1] (wd_1492 z) (some (.int 1), (wd_1493 z)) := by
  refine ru_of (k := 2) (M := pm_165) rfl rfl ?_
  refine go_seg 1 (pc' := 1) (ls' := [(0, .ref 90), (1, .int 10), (2, .int 1)]) (st' := [.int 10]) (w' := (wd_1492 z)) (cs' := 0) (ss' := 0) ?_ (fun _ _ => rfl)
  refine go_cl (k := 2) (st' := [.int 1]) (cs' := 0) (ss' := 0) rfl rfl rfl rfl rfl rfl rfl (ro_2245 z) ?_
  refine go_seg 8 (pc' := 24) (ls' := [(0, .ref 90), (1, .int 10), (2, .int 1)]) (st' := [.int 1, .int 0]) (w' := (wd_1492 z)) (cs' := 0) (ss' := 0) ?_ (fun _ _ => rfl)
  refine go_seg 8 (pc' := 42) (ls' := [(3, .int 1), (0, .ref 90), (1, .int 10), (2, .int 1)]) (st' := [.ref 90]) (w' := (wd_1492 z)) (cs' := 0) (ss' := 0) ?_ (fun _ _ => rfl)
  refine go_seg 8 (pc' := 58) (ls' := [(3, .int 1), (0, .ref 90), (1, .int 10), (2, .int 1)]) (st' := [.int 1, .int 84, .ref 91]) (w' := (wd_1492 z)) (cs' := 0) (ss' := 0) ?_ (fun _ _ => rfl)
  exact go_end 3 (fun _ _ => rfl)
theorem lf_2_2248 (a0 : Int32) (a2 : Int32) (a3 : Int32) (a4 : Int32) (a5 : Int32) (h0 : ¬ a2.toInt = 0) : ∃ w', pq_Go 20 pm_law 278 [(3, .int 0), (2, .ref 90), (1, .ref 1), (0, .ref 0)] [] (fw (sz a0 10 a2 a3 a4 a5)) 109 12668 (some (.int 1), w') := by
  refine ⟨(wd_1493 (sz a0 10 a2 a3 a4 a5)), ?_⟩
  refine go_seg 8 (pc' := 286) (ls' := [(3, .int 0), (2, .ref 90), (1, .ref 1), (0, .ref 0)]) (st' := [.int 0, .ref 0, .int 10, .ref 1]) (w' := (fw (sz a0 10 a2 a3 a4 a5))) (cs' := 109) (ss' := 12668) ?_ (fun _ _ => rfl)
  refine go_seg 3 (pc' := 289) (ls' := [(3, .int 0), (2, .ref 90), (1, .ref 1), (0, .ref 0)]) (st' := [.int a2, .int 10, .ref 1]) (w' := (fw (sz a0 10 a2 a3 a4 a5))) (cs' := 109) (ss' := 12668) ?_ (fun _ _ => rfl)
  refine go_if false rfl (br_eq_f (b := 0) rfl (by omega)) ?_
  refine go_seg 2 (pc' := 297) (ls' := [(3, .int 0), (2, .ref 90), (1, .ref 1), (0, .ref 0)]) (st' := [.int 1, .int 10, .ref 1]) (w' := (fw (sz a0 10 a2 a3 a4 a5))) (cs' := 109) (ss' := 12668) ?_ (fun _ _ => rfl)
  refine go_cl (k := 20) (st' := [.int 1]) (cs' := 109) (ss' := 12668) rfl rfl rfl rfl rfl rfl rfl (ro_2243 (sz a0 10 a2 a3 a4 a5)) ?_
  refine go_seg 8 (pc' := 308) (ls' := [(3, .int 0), (2, .ref 90), (1, .ref 1), (0, .ref 0)]) (st' := [.int 0, .ref 0, .int 10, .ref 90, .int 1]) (w' := (wd_1492 (sz a0 10 a2 a3 a4 a5))) (cs' := 109) (ss' := 12668) ?_ (fun _ _ => rfl)
  refine go_seg 3 (pc' := 311) (ls' := [(3, .int 0), (2, .ref 90), (1, .ref 1), (0, .ref 0)]) (st' := [.int a2, .int 10, .ref 90, .int 1]) (w' := (wd_1492 (sz a0 10 a2 a3 a4 a5))) (cs' := 109) (ss' := 12668) ?_ (fun _ _ => rfl)
  refine go_if false rfl (br_eq_f (b := 0) rfl (by omega)) ?_
  refine go_seg 2 (pc' := 319) (ls' := [(3, .int 0), (2, .ref 90), (1, .ref 1), (0, .ref 0)]) (st' := [.int 1, .int 10, .ref 90, .int 1]) (w' := (wd_1492 (sz a0 10 a2 a3 a4 a5))) (cs' := 109) (ss' := 12668) ?_ (fun _ _ => rfl)
  refine go_cl (k := 20) (st' := [.int 1, .int 1]) (cs' := 109) (ss' := 12668) rfl rfl rfl rfl rfl rfl rfl (ro_2246 (sz a0 10 a2 a3 a4 a5)) ?_
  refine go_cmp true rfl (br_self _) ?_
  exact law_tail (f := sc a0 10 a2 a3 a4 a5) rfl
def wd_1494 (z : pq_C) : pq_W := ((fw z).set 4 (.inl (.boolean, 64, .inl (upd (fun _ => 0) 11 1))))
theorem ro_2250 (z : pq_C) : pq_Ru 2 22 [.ref 1, .int 11, .int 1] (fw z) (some (.int 1), (wd_1494 z)) := by
  refine ru_of (k := 1) (M := pm_22) rfl rfl ?_
  refine go_seg 1 (pc' := 1) (ls' := [(0, .ref 1), (1, .int 11), (2, .int 1)]) (st' := [.int 11]) (w' := (fw z)) (cs' := 0) (ss' := 0) ?_ (fun _ _ => rfl)
  refine go_cl (k := 1) (st' := [.int 1]) (cs' := 0) (ss' := 0) rfl rfl rfl rfl rfl rfl rfl (ro_1281 z) ?_
  refine go_seg 8 (pc' := 24) (ls' := [(3, .int 0), (0, .ref 1), (1, .int 11), (2, .int 1)]) (st' := [.ref 1]) (w' := (fw z)) (cs' := 0) (ss' := 0) ?_ (fun _ _ => rfl)
  refine go_seg 8 (pc' := 42) (ls' := [(3, .int 0), (0, .ref 1), (1, .int 11), (2, .int 1)]) (st' := []) (w' := (wd_1494 z)) (cs' := 0) (ss' := 0) ?_ (fun _ _ => rfl)
  exact go_end 2 (fun _ _ => rfl)
theorem ro_2251 (z : pq_C) : pq_Ru 1 161 [.long 11, .long 0, .long 63] (wd_1494 z) (some (.int 1), (wd_1494 z)) := by
  refine ru_of (k := 0) (M := pm_161) rfl rfl ?_
  refine go_seg 8 (pc' := 13) (ls' := [(0, .long 11), (2, .long 0), (4, .long 63)]) (st' := []) (w' := (wd_1494 z)) (cs' := 0) (ss' := 0) ?_ (fun _ _ => rfl)
  exact go_end 3 (fun _ _ => rfl)
theorem ro_2252 (z : pq_C) : pq_Ru 2 160 [.int 11] (wd_1494 z) (some (.int 1), (wd_1494 z)) := by
  refine ru_of (k := 1) (M := pm_160) rfl rfl ?_
  refine go_seg 4 (pc' := 6) (ls' := [(0, .int 11)]) (st' := [.long 63, .long 0, .long 11]) (w' := (wd_1494 z)) (cs' := 0) (ss' := 0) ?_ (fun _ _ => rfl)
  refine go_cl (k := 1) (st' := [.int 1]) (cs' := 0) (ss' := 0) rfl rfl rfl rfl rfl rfl rfl (ro_2251 z) ?_
  exact go_end 1 (fun _ _ => rfl)
def wd_1495 (z : pq_C) : pq_W := ((wd_1494 z).set 91 (.inl (.int, 2858, .inl (upd (upd (upd (upd (upd (upd (upd (upd (upd (upd (upd (upd (upd (upd (upd (upd (upd (upd (upd (upd (upd (upd (upd (upd (upd (upd (upd (upd (upd (upd (upd (upd (upd (upd (upd (upd (upd (upd (upd (upd (upd (upd (upd (upd (upd (upd (upd (upd (upd (upd (upd (upd (upd (upd (upd (upd (upd (upd (upd (upd (upd (upd (upd (upd (upd (upd (upd (upd (upd (upd (upd (upd (upd (upd (upd (upd (upd (upd (upd (upd (upd (upd (fun _ => 0) 1 10) 10 (-1)) 11 (-1)) 12 (-1)) 13 (-1)) 14 (-1)) 15 (-1)) 16 (-1)) 17 (-1)) 18 (-1)) 19 (-1)) 20 (-1)) 21 (-1)) 22 (-1)) 23 (-1)) 24 (-1)) 25 (-1)) 26 (-1)) 27 (-1)) 28 (-1)) 29 (-1)) 30 (-1)) 31 (-1)) 32 (-1)) 33 (-1)) 34 (-1)) 35 (-1)) 36 (-1)) 37 (-1)) 38 (-1)) 39 (-1)) 40 (-1)) 41 (-1)) 42 (-1)) 43 (-1)) 44 (-1)) 45 (-1)) 46 (-1)) 47 (-1)) 48 (-1)) 49 (-1)) 50 (-1)) 51 (-1)) 52 (-1)) 53 (-1)) 54 (-1)) 55 (-1)) 56 (-1)) 57 (-1)) 58 (-1)) 59 (-1)) 60 (-1)) 61 (-1)) 62 (-1)) 63 (-1)) 64 (-1)) 65 (-1)) 66 (-1)) 67 (-1)) 68 (-1)) 69 (-1)) 70 (-1)) 71 (-1)) 72 (-1)) 73 (-1)) 139 1000) 140 100) 145 1000) 146 100) 151 1000) 152 100) 157 1000) 158 100) 163 1000) 164 100) 169 1000) 170 100) 175 1000) 176 100) 181 1000) 182 100) 85 1))))
theorem ro_2253 (z : pq_C) : pq_Ru 3 165 [.ref 90, .int 11, .int 1] (wd_1494 z) (some (.int 1), (wd_1495 z)) := by
  refine ru_of (k := 2) (M := pm_165) rfl rfl ?_
  refine go_seg 1 (pc' := 1) (ls' := [(0, .ref 90), (1, .int 11), (2, .int 1)]) (st' := [.int 11]) (w' := (wd_1494 z)) (cs' := 0) (ss' := 0) ?_ (fun _ _ => rfl)
  refine go_cl (k := 2) (st' := [.int 1]) (cs' := 0) (ss' := 0) rfl rfl rfl rfl rfl rfl rfl (ro_2252 z) ?_
  refine go_seg 8 (pc' := 24) (ls' := [(0, .ref 90), (1, .int 11), (2, .int 1)]) (st' := [.int 1, .int 0]) (w' := (wd_1494 z)) (cs' := 0) (ss' := 0) ?_ (fun _ _ => rfl)
  refine go_seg 8 (pc' := 42) (ls' := [(3, .int 1), (0, .ref 90), (1, .int 11), (2, .int 1)]) (st' := [.ref 90]) (w' := (wd_1494 z)) (cs' := 0) (ss' := 0) ?_ (fun _ _ => rfl)
  refine go_seg 8 (pc' := 58) (ls' := [(3, .int 1), (0, .ref 90), (1, .int 11), (2, .int 1)]) (st' := [.int 1, .int 85, .ref 91]) (w' := (wd_1494 z)) (cs' := 0) (ss' := 0) ?_ (fun _ _ => rfl)
  exact go_end 3 (fun _ _ => rfl)
theorem lf_2_2255 (a0 : Int32) (a2 : Int32) (a3 : Int32) (a4 : Int32) (a5 : Int32) (h0 : ¬ a2.toInt = 0) : ∃ w', pq_Go 20 pm_law 278 [(3, .int 0), (2, .ref 90), (1, .ref 1), (0, .ref 0)] [] (fw (sz a0 11 a2 a3 a4 a5)) 109 12668 (some (.int 1), w') := by
  refine ⟨(wd_1495 (sz a0 11 a2 a3 a4 a5)), ?_⟩
  refine go_seg 8 (pc' := 286) (ls' := [(3, .int 0), (2, .ref 90), (1, .ref 1), (0, .ref 0)]) (st' := [.int 0, .ref 0, .int 11, .ref 1]) (w' := (fw (sz a0 11 a2 a3 a4 a5))) (cs' := 109) (ss' := 12668) ?_ (fun _ _ => rfl)
  refine go_seg 3 (pc' := 289) (ls' := [(3, .int 0), (2, .ref 90), (1, .ref 1), (0, .ref 0)]) (st' := [.int a2, .int 11, .ref 1]) (w' := (fw (sz a0 11 a2 a3 a4 a5))) (cs' := 109) (ss' := 12668) ?_ (fun _ _ => rfl)
  refine go_if false rfl (br_eq_f (b := 0) rfl (by omega)) ?_
  refine go_seg 2 (pc' := 297) (ls' := [(3, .int 0), (2, .ref 90), (1, .ref 1), (0, .ref 0)]) (st' := [.int 1, .int 11, .ref 1]) (w' := (fw (sz a0 11 a2 a3 a4 a5))) (cs' := 109) (ss' := 12668) ?_ (fun _ _ => rfl)
  refine go_cl (k := 20) (st' := [.int 1]) (cs' := 109) (ss' := 12668) rfl rfl rfl rfl rfl rfl rfl (ro_2250 (sz a0 11 a2 a3 a4 a5)) ?_
  refine go_seg 8 (pc' := 308) (ls' := [(3, .int 0), (2, .ref 90), (1, .ref 1), (0, .ref 0)]) (st' := [.int 0, .ref 0, .int 11, .ref 90, .int 1]) (w' := (wd_1494 (sz a0 11 a2 a3 a4 a5))) (cs' := 109) (ss' := 12668) ?_ (fun _ _ => rfl)
  refine go_seg 3 (pc' := 311) (ls' := [(3, .int 0), (2, .ref 90), (1, .ref 1), (0, .ref 0)]) (st' := [.int a2, .int 11, .ref 90, .int 1]) (w' := (wd_1494 (sz a0 11 a2 a3 a4 a5))) (cs' := 109) (ss' := 12668) ?_ (fun _ _ => rfl)
  refine go_if false rfl (br_eq_f (b := 0) rfl (by omega)) ?_
  refine go_seg 2 (pc' := 319) (ls' := [(3, .int 0), (2, .ref 90), (1, .ref 1), (0, .ref 0)]) (st' := [.int 1, .int 11, .ref 90, .int 1]) (w' := (wd_1494 (sz a0 11 a2 a3 a4 a5))) (cs' := 109) (ss' := 12668) ?_ (fun _ _ => rfl)
  refine go_cl (k := 20) (st' := [.int 1, .int 1]) (cs' := 109) (ss' := 12668) rfl rfl rfl rfl rfl rfl rfl (ro_2253 (sz a0 11 a2 a3 a4 a5)) ?_
  refine go_cmp true rfl (br_self _) ?_
  exact law_tail (f := sc a0 11 a2 a3 a4 a5) rfl
def wd_1496 (z : pq_C) : pq_W := ((fw z).set 4 (.inl (.boolean, 64, .inl (upd (fun _ => 0) 12 1))))
theorem ro_2257 (z : pq_C) : pq_Ru 2 22 [.ref 1, .int 12, .int 1] (fw z) (some (.int 1), (wd_1496 z)) := by
  refine ru_of (k := 1) (M := pm_22) rfl rfl ?_
  refine go_seg 1 (pc' := 1) (ls' := [(0, .ref 1), (1, .int 12), (2, .int 1)]) (st' := [.int 12]) (w' := (fw z)) (cs' := 0) (ss' := 0) ?_ (fun _ _ => rfl)
  refine go_cl (k := 1) (st' := [.int 1]) (cs' := 0) (ss' := 0) rfl rfl rfl rfl rfl rfl rfl (ro_1289 z) ?_
  refine go_seg 8 (pc' := 24) (ls' := [(3, .int 0), (0, .ref 1), (1, .int 12), (2, .int 1)]) (st' := [.ref 1]) (w' := (fw z)) (cs' := 0) (ss' := 0) ?_ (fun _ _ => rfl)
  refine go_seg 8 (pc' := 42) (ls' := [(3, .int 0), (0, .ref 1), (1, .int 12), (2, .int 1)]) (st' := []) (w' := (wd_1496 z)) (cs' := 0) (ss' := 0) ?_ (fun _ _ => rfl)
  exact go_end 2 (fun _ _ => rfl)
theorem ro_2258 (z : pq_C) : pq_Ru 1 161 [.long 12, .long 0, .long 63] (wd_1496 z) (some (.int 1), (wd_1496 z)) := by
  refine ru_of (k := 0) (M := pm_161) rfl rfl ?_
  refine go_seg 8 (pc' := 13) (ls' := [(0, .long 12), (2, .long 0), (4, .long 63)]) (st' := []) (w' := (wd_1496 z)) (cs' := 0) (ss' := 0) ?_ (fun _ _ => rfl)
  exact go_end 3 (fun _ _ => rfl)
theorem ro_2259 (z : pq_C) : pq_Ru 2 160 [.int 12] (wd_1496 z) (some (.int 1), (wd_1496 z)) := by
  refine ru_of (k := 1) (M := pm_160) rfl rfl ?_
  refine go_seg 4 (pc' := 6) (ls' := [(0, .int 12)]) (st' := [.long 63, .long 0, .long 12]) (w' := (wd_1496 z)) (cs' := 0) (ss' := 0) ?_ (fun _ _ => rfl)
  refine go_cl (k := 1) (st' := [.int 1]) (cs' := 0) (ss' := 0) rfl rfl rfl rfl rfl rfl rfl (ro_2258 z) ?_
  exact go_end 1 (fun _ _ => rfl)
def wd_1497 (z : pq_C) : pq_W := ((wd_1496 z).set 91 (.inl (.int, 2858, .inl (upd (upd (upd (upd (upd (upd (upd (upd (upd (upd (upd (upd (upd (upd (upd (upd (upd (upd (upd (upd (upd (upd (upd (upd (upd (upd (upd (upd (upd (upd (upd (upd (upd (upd (upd (upd (upd (upd (upd (upd (upd (upd (upd (upd (upd (upd (upd (upd (upd (upd (upd (upd (upd (upd (upd (upd (upd (upd (upd (upd (upd (upd (upd (upd (upd (upd (upd (upd (upd (upd (upd (upd (upd (upd (upd (upd (upd (upd (upd (upd (upd (upd (fun _ => 0) 1 10) 10 (-1)) 11 (-1)) 12 (-1)) 13 (-1)) 14 (-1)) 15 (-1)) 16 (-1)) 17 (-1)) 18 (-1)) 19 (-1)) 20 (-1)) 21 (-1)) 22 (-1)) 23 (-1)) 24 (-1)) 25 (-1)) 26 (-1)) 27 (-1)) 28 (-1)) 29 (-1)) 30 (-1)) 31 (-1)) 32 (-1)) 33 (-1)) 34 (-1)) 35 (-1)) 36 (-1)) 37 (-1)) 38 (-1)) 39 (-1)) 40 (-1)) 41 (-1)) 42 (-1)) 43 (-1)) 44 (-1)) 45 (-1)) 46 (-1)) 47 (-1)) 48 (-1)) 49 (-1)) 50 (-1)) 51 (-1)) 52 (-1)) 53 (-1)) 54 (-1)) 55 (-1)) 56 (-1)) 57 (-1)) 58 (-1)) 59 (-1)) 60 (-1)) 61 (-1)) 62 (-1)) 63 (-1)) 64 (-1)) 65 (-1)) 66 (-1)) 67 (-1)) 68 (-1)) 69 (-1)) 70 (-1)) 71 (-1)) 72 (-1)) 73 (-1)) 139 1000) 140 100) 145 1000) 146 100) 151 1000) 152 100) 157 1000) 158 100) 163 1000) 164 100) 169 1000) 170 100) 175 1000) 176 100) 181 1000) 182 100) 86 1))))
theorem ro_2260 (z : pq_C) : pq_Ru 3 165 [.ref 90, .int 12, .int 1] (wd_1496 z) (some (.int 1), (wd_1497 z)) := by
  refine ru_of (k := 2) (M := pm_165) rfl rfl ?_
  refine go_seg 1 (pc' := 1) (ls' := [(0, .ref 90), (1, .int 12), (2, .int 1)]) (st' := [.int 12]) (w' := (wd_1496 z)) (cs' := 0) (ss' := 0) ?_ (fun _ _ => rfl)
  refine go_cl (k := 2) (st' := [.int 1]) (cs' := 0) (ss' := 0) rfl rfl rfl rfl rfl rfl rfl (ro_2259 z) ?_
  refine go_seg 8 (pc' := 24) (ls' := [(0, .ref 90), (1, .int 12), (2, .int 1)]) (st' := [.int 1, .int 0]) (w' := (wd_1496 z)) (cs' := 0) (ss' := 0) ?_ (fun _ _ => rfl)
  refine go_seg 8 (pc' := 42) (ls' := [(3, .int 1), (0, .ref 90), (1, .int 12), (2, .int 1)]) (st' := [.ref 90]) (w' := (wd_1496 z)) (cs' := 0) (ss' := 0) ?_ (fun _ _ => rfl)
  refine go_seg 8 (pc' := 58) (ls' := [(3, .int 1), (0, .ref 90), (1, .int 12), (2, .int 1)]) (st' := [.int 1, .int 86, .ref 91]) (w' := (wd_1496 z)) (cs' := 0) (ss' := 0) ?_ (fun _ _ => rfl)
  exact go_end 3 (fun _ _ => rfl)
theorem lf_2_2262 (a0 : Int32) (a2 : Int32) (a3 : Int32) (a4 : Int32) (a5 : Int32) (h0 : ¬ a2.toInt = 0) : ∃ w', pq_Go 20 pm_law 278 [(3, .int 0), (2, .ref 90), (1, .ref 1), (0, .ref 0)] [] (fw (sz a0 12 a2 a3 a4 a5)) 109 12668 (some (.int 1), w') := by
  refine ⟨(wd_1497 (sz a0 12 a2 a3 a4 a5)), ?_⟩
  refine go_seg 8 (pc' := 286) (ls' := [(3, .int 0), (2, .ref 90), (1, .ref 1), (0, .ref 0)]) (st' := [.int 0, .ref 0, .int 12, .ref 1]) (w' := (fw (sz a0 12 a2 a3 a4 a5))) (cs' := 109) (ss' := 12668) ?_ (fun _ _ => rfl)
  refine go_seg 3 (pc' := 289) (ls' := [(3, .int 0), (2, .ref 90), (1, .ref 1), (0, .ref 0)]) (st' := [.int a2, .int 12, .ref 1]) (w' := (fw (sz a0 12 a2 a3 a4 a5))) (cs' := 109) (ss' := 12668) ?_ (fun _ _ => rfl)
  refine go_if false rfl (br_eq_f (b := 0) rfl (by omega)) ?_
  refine go_seg 2 (pc' := 297) (ls' := [(3, .int 0), (2, .ref 90), (1, .ref 1), (0, .ref 0)]) (st' := [.int 1, .int 12, .ref 1]) (w' := (fw (sz a0 12 a2 a3 a4 a5))) (cs' := 109) (ss' := 12668) ?_ (fun _ _ => rfl)
  refine go_cl (k := 20) (st' := [.int 1]) (cs' := 109) (ss' := 12668) rfl rfl rfl rfl rfl rfl rfl (ro_2257 (sz a0 12 a2 a3 a4 a5)) ?_
  refine go_seg 8 (pc' := 308) (ls' := [(3, .int 0), (2, .ref 90), (1, .ref 1), (0, .ref 0)]) (st' := [.int 0, .ref 0, .int 12, .ref 90, .int 1]) (w' := (wd_1496 (sz a0 12 a2 a3 a4 a5))) (cs' := 109) (ss' := 12668) ?_ (fun _ _ => rfl)
  refine go_seg 3 (pc' := 311) (ls' := [(3, .int 0), (2, .ref 90), (1, .ref 1), (0, .ref 0)]) (st' := [.int a2, .int 12, .ref 90, .int 1]) (w' := (wd_1496 (sz a0 12 a2 a3 a4 a5))) (cs' := 109) (ss' := 12668) ?_ (fun _ _ => rfl)
  refine go_if false rfl (br_eq_f (b := 0) rfl (by omega)) ?_
  refine go_seg 2 (pc' := 319) (ls' := [(3, .int 0), (2, .ref 90), (1, .ref 1), (0, .ref 0)]) (st' := [.int 1, .int 12, .ref 90, .int 1]) (w' := (wd_1496 (sz a0 12 a2 a3 a4 a5))) (cs' := 109) (ss' := 12668) ?_ (fun _ _ => rfl)
  refine go_cl (k := 20) (st' := [.int 1, .int 1]) (cs' := 109) (ss' := 12668) rfl rfl rfl rfl rfl rfl rfl (ro_2260 (sz a0 12 a2 a3 a4 a5)) ?_
  refine go_cmp true rfl (br_self _) ?_
  exact law_tail (f := sc a0 12 a2 a3 a4 a5) rfl
def wd_1498 (z : pq_C) : pq_W := ((fw z).set 4 (.inl (.boolean, 64, .inl (upd (fun _ => 0) 13 1))))
theorem ro_2264 (z : pq_C) : pq_Ru 2 22 [.ref 1, .int 13, .int 1] (fw z) (some (.int 1), (wd_1498 z)) := by
  refine ru_of (k := 1) (M := pm_22) rfl rfl ?_
  refine go_seg 1 (pc' := 1) (ls' := [(0, .ref 1), (1, .int 13), (2, .int 1)]) (st' := [.int 13]) (w' := (fw z)) (cs' := 0) (ss' := 0) ?_ (fun _ _ => rfl)
  refine go_cl (k := 1) (st' := [.int 1]) (cs' := 0) (ss' := 0) rfl rfl rfl rfl rfl rfl rfl (ro_1297 z) ?_
  refine go_seg 8 (pc' := 24) (ls' := [(3, .int 0), (0, .ref 1), (1, .int 13), (2, .int 1)]) (st' := [.ref 1]) (w' := (fw z)) (cs' := 0) (ss' := 0) ?_ (fun _ _ => rfl)
  refine go_seg 8 (pc' := 42) (ls' := [(3, .int 0), (0, .ref 1), (1, .int 13), (2, .int 1)]) (st' := []) (w' := (wd_1498 z)) (cs' := 0) (ss' := 0) ?_ (fun _ _ => rfl)
  exact go_end 2 (fun _ _ => rfl)
theorem ro_2265 (z : pq_C) : pq_Ru 1 161 [.long 13, .long 0, .long 63] (wd_1498 z) (some (.int 1), (wd_1498 z)) := by
  refine ru_of (k := 0) (M := pm_161) rfl rfl ?_
  refine go_seg 8 (pc' := 13) (ls' := [(0, .long 13), (2, .long 0), (4, .long 63)]) (st' := []) (w' := (wd_1498 z)) (cs' := 0) (ss' := 0) ?_ (fun _ _ => rfl)
  exact go_end 3 (fun _ _ => rfl)
theorem ro_2266 (z : pq_C) : pq_Ru 2 160 [.int 13] (wd_1498 z) (some (.int 1), (wd_1498 z)) := by
  refine ru_of (k := 1) (M := pm_160) rfl rfl ?_
  refine go_seg 4 (pc' := 6) (ls' := [(0, .int 13)]) (st' := [.long 63, .long 0, .long 13]) (w' := (wd_1498 z)) (cs' := 0) (ss' := 0) ?_ (fun _ _ => rfl)
  refine go_cl (k := 1) (st' := [.int 1]) (cs' := 0) (ss' := 0) rfl rfl rfl rfl rfl rfl rfl (ro_2265 z) ?_
  exact go_end 1 (fun _ _ => rfl)
def wd_1499 (z : pq_C) : pq_W := ((wd_1498 z).set 91 (.inl (.int, 2858, .inl (upd (upd (upd (upd (upd (upd (upd (upd (upd (upd (upd (upd (upd (upd (upd (upd (upd (upd (upd (upd (upd (upd (upd (upd (upd (upd (upd (upd (upd (upd (upd (upd (upd (upd (upd (upd (upd (upd (upd (upd (upd (upd (upd (upd (upd (upd (upd (upd (upd (upd (upd (upd (upd (upd (upd (upd (upd (upd (upd (upd (upd (upd (upd (upd (upd (upd (upd (upd (upd (upd (upd (upd (upd (upd (upd (upd (upd (upd (upd (upd (upd (upd (fun _ => 0) 1 10) 10 (-1)) 11 (-1)) 12 (-1)) 13 (-1)) 14 (-1)) 15 (-1)) 16 (-1)) 17 (-1)) 18 (-1)) 19 (-1)) 20 (-1)) 21 (-1)) 22 (-1)) 23 (-1)) 24 (-1)) 25 (-1)) 26 (-1)) 27 (-1)) 28 (-1)) 29 (-1)) 30 (-1)) 31 (-1)) 32 (-1)) 33 (-1)) 34 (-1)) 35 (-1)) 36 (-1)) 37 (-1)) 38 (-1)) 39 (-1)) 40 (-1)) 41 (-1)) 42 (-1)) 43 (-1)) 44 (-1)) 45 (-1)) 46 (-1)) 47 (-1)) 48 (-1)) 49 (-1)) 50 (-1)) 51 (-1)) 52 (-1)) 53 (-1)) 54 (-1)) 55 (-1)) 56 (-1)) 57 (-1)) 58 (-1)) 59 (-1)) 60 (-1)) 61 (-1)) 62 (-1)) 63 (-1)) 64 (-1)) 65 (-1)) 66 (-1)) 67 (-1)) 68 (-1)) 69 (-1)) 70 (-1)) 71 (-1)) 72 (-1)) 73 (-1)) 139 1000) 140 100) 145 1000) 146 100) 151 1000) 152 100) 157 1000) 158 100) 163 1000) 164 100) 169 1000) 170 100) 175 1000) 176 100) 181 1000) 182 100) 87 1))))
theorem ro_2267 (z : pq_C) : pq_Ru 3 165 [.ref 90, .int 13, .int 1] (wd_1498 z) (some (.int 1), (wd_1499 z)) := by
  refine ru_of (k := 2) (M := pm_165) rfl rfl ?_
  refine go_seg 1 (pc' := 1) (ls' := [(0, .ref 90), (1, .int 13), (2, .int 1)]) (st' := [.int 13]) (w' := (wd_1498 z)) (cs' := 0) (ss' := 0) ?_ (fun _ _ => rfl)
  refine go_cl (k := 2) (st' := [.int 1]) (cs' := 0) (ss' := 0) rfl rfl rfl rfl rfl rfl rfl (ro_2266 z) ?_
  refine go_seg 8 (pc' := 24) (ls' := [(0, .ref 90), (1, .int 13), (2, .int 1)]) (st' := [.int 1, .int 0]) (w' := (wd_1498 z)) (cs' := 0) (ss' := 0) ?_ (fun _ _ => rfl)
  refine go_seg 8 (pc' := 42) (ls' := [(3, .int 1), (0, .ref 90), (1, .int 13), (2, .int 1)]) (st' := [.ref 90]) (w' := (wd_1498 z)) (cs' := 0) (ss' := 0) ?_ (fun _ _ => rfl)
  refine go_seg 8 (pc' := 58) (ls' := [(3, .int 1), (0, .ref 90), (1, .int 13), (2, .int 1)]) (st' := [.int 1, .int 87, .ref 91]) (w' := (wd_1498 z)) (cs' := 0) (ss' := 0) ?_ (fun _ _ => rfl)
  exact go_end 3 (fun _ _ => rfl)
theorem lf_2_2269 (a0 : Int32) (a2 : Int32) (a3 : Int32) (a4 : Int32) (a5 : Int32) (h0 : ¬ a2.toInt = 0) : ∃ w', pq_Go 20 pm_law 278 [(3, .int 0), (2, .ref 90), (1, .ref 1), (0, .ref 0)] [] (fw (sz a0 13 a2 a3 a4 a5)) 109 12668 (some (.int 1), w') := by
  refine ⟨(wd_1499 (sz a0 13 a2 a3 a4 a5)), ?_⟩
  refine go_seg 8 (pc' := 286) (ls' := [(3, .int 0), (2, .ref 90), (1, .ref 1), (0, .ref 0)]) (st' := [.int 0, .ref 0, .int 13, .ref 1]) (w' := (fw (sz a0 13 a2 a3 a4 a5))) (cs' := 109) (ss' := 12668) ?_ (fun _ _ => rfl)
  refine go_seg 3 (pc' := 289) (ls' := [(3, .int 0), (2, .ref 90), (1, .ref 1), (0, .ref 0)]) (st' := [.int a2, .int 13, .ref 1]) (w' := (fw (sz a0 13 a2 a3 a4 a5))) (cs' := 109) (ss' := 12668) ?_ (fun _ _ => rfl)
  refine go_if false rfl (br_eq_f (b := 0) rfl (by omega)) ?_
  refine go_seg 2 (pc' := 297) (ls' := [(3, .int 0), (2, .ref 90), (1, .ref 1), (0, .ref 0)]) (st' := [.int 1, .int 13, .ref 1]) (w' := (fw (sz a0 13 a2 a3 a4 a5))) (cs' := 109) (ss' := 12668) ?_ (fun _ _ => rfl)
  refine go_cl (k := 20) (st' := [.int 1]) (cs' := 109) (ss' := 12668) rfl rfl rfl rfl rfl rfl rfl (ro_2264 (sz a0 13 a2 a3 a4 a5)) ?_
  refine go_seg 8 (pc' := 308) (ls' := [(3, .int 0), (2, .ref 90), (1, .ref 1), (0, .ref 0)]) (st' := [.int 0, .ref 0, .int 13, .ref 90, .int 1]) (w' := (wd_1498 (sz a0 13 a2 a3 a4 a5))) (cs' := 109) (ss' := 12668) ?_ (fun _ _ => rfl)
  refine go_seg 3 (pc' := 311) (ls' := [(3, .int 0), (2, .ref 90), (1, .ref 1), (0, .ref 0)]) (st' := [.int a2, .int 13, .ref 90, .int 1]) (w' := (wd_1498 (sz a0 13 a2 a3 a4 a5))) (cs' := 109) (ss' := 12668) ?_ (fun _ _ => rfl)
  refine go_if false rfl (br_eq_f (b := 0) rfl (by omega)) ?_
  refine go_seg 2 (pc' := 319) (ls' := [(3, .int 0), (2, .ref 90), (1, .ref 1), (0, .ref 0)]) (st' := [.int 1, .int 13, .ref 90, .int 1]) (w' := (wd_1498 (sz a0 13 a2 a3 a4 a5))) (cs' := 109) (ss' := 12668) ?_ (fun _ _ => rfl)
  refine go_cl (k := 20) (st' := [.int 1, .int 1]) (cs' := 109) (ss' := 12668) rfl rfl rfl rfl rfl rfl rfl (ro_2267 (sz a0 13 a2 a3 a4 a5)) ?_
  refine go_cmp true rfl (br_self _) ?_
  exact law_tail (f := sc a0 13 a2 a3 a4 a5) rfl
def wd_1500 (z : pq_C) : pq_W := ((fw z).set 4 (.inl (.boolean, 64, .inl (upd (fun _ => 0) 14 1))))
theorem ro_2271 (z : pq_C) : pq_Ru 2 22 [.ref 1, .int 14, .int 1] (fw z) (some (.int 1), (wd_1500 z)) := by
  refine ru_of (k := 1) (M := pm_22) rfl rfl ?_
  refine go_seg 1 (pc' := 1) (ls' := [(0, .ref 1), (1, .int 14), (2, .int 1)]) (st' := [.int 14]) (w' := (fw z)) (cs' := 0) (ss' := 0) ?_ (fun _ _ => rfl)
  refine go_cl (k := 1) (st' := [.int 1]) (cs' := 0) (ss' := 0) rfl rfl rfl rfl rfl rfl rfl (ro_1305 z) ?_
  refine go_seg 8 (pc' := 24) (ls' := [(3, .int 0), (0, .ref 1), (1, .int 14), (2, .int 1)]) (st' := [.ref 1]) (w' := (fw z)) (cs' := 0) (ss' := 0) ?_ (fun _ _ => rfl)
  refine go_seg 8 (pc' := 42) (ls' := [(3, .int 0), (0, .ref 1), (1, .int 14), (2, .int 1)]) (st' := []) (w' := (wd_1500 z)) (cs' := 0) (ss' := 0) ?_ (fun _ _ => rfl)
  exact go_end 2 (fun _ _ => rfl)
theorem ro_2272 (z : pq_C) : pq_Ru 1 161 [.long 14, .long 0, .long 63] (wd_1500 z) (some (.int 1), (wd_1500 z)) := by
  refine ru_of (k := 0) (M := pm_161) rfl rfl ?_
  refine go_seg 8 (pc' := 13) (ls' := [(0, .long 14), (2, .long 0), (4, .long 63)]) (st' := []) (w' := (wd_1500 z)) (cs' := 0) (ss' := 0) ?_ (fun _ _ => rfl)
  exact go_end 3 (fun _ _ => rfl)
theorem ro_2273 (z : pq_C) : pq_Ru 2 160 [.int 14] (wd_1500 z) (some (.int 1), (wd_1500 z)) := by
  refine ru_of (k := 1) (M := pm_160) rfl rfl ?_
  refine go_seg 4 (pc' := 6) (ls' := [(0, .int 14)]) (st' := [.long 63, .long 0, .long 14]) (w' := (wd_1500 z)) (cs' := 0) (ss' := 0) ?_ (fun _ _ => rfl)
  refine go_cl (k := 1) (st' := [.int 1]) (cs' := 0) (ss' := 0) rfl rfl rfl rfl rfl rfl rfl (ro_2272 z) ?_
  exact go_end 1 (fun _ _ => rfl)
def wd_1501 (z : pq_C) : pq_W := ((wd_1500 z).set 91 (.inl (.int, 2858, .inl (upd (upd (upd (upd (upd (upd (upd (upd (upd (upd (upd (upd (upd (upd (upd (upd (upd (upd (upd (upd (upd (upd (upd (upd (upd (upd (upd (upd (upd (upd (upd (upd (upd (upd (upd (upd (upd (upd (upd (upd (upd (upd (upd (upd (upd (upd (upd (upd (upd (upd (upd (upd (upd (upd (upd (upd (upd (upd (upd (upd (upd (upd (upd (upd (upd (upd (upd (upd (upd (upd (upd (upd (upd (upd (upd (upd (upd (upd (upd (upd (upd (upd (fun _ => 0) 1 10) 10 (-1)) 11 (-1)) 12 (-1)) 13 (-1)) 14 (-1)) 15 (-1)) 16 (-1)) 17 (-1)) 18 (-1)) 19 (-1)) 20 (-1)) 21 (-1)) 22 (-1)) 23 (-1)) 24 (-1)) 25 (-1)) 26 (-1)) 27 (-1)) 28 (-1)) 29 (-1)) 30 (-1)) 31 (-1)) 32 (-1)) 33 (-1)) 34 (-1)) 35 (-1)) 36 (-1)) 37 (-1)) 38 (-1)) 39 (-1)) 40 (-1)) 41 (-1)) 42 (-1)) 43 (-1)) 44 (-1)) 45 (-1)) 46 (-1)) 47 (-1)) 48 (-1)) 49 (-1)) 50 (-1)) 51 (-1)) 52 (-1)) 53 (-1)) 54 (-1)) 55 (-1)) 56 (-1)) 57 (-1)) 58 (-1)) 59 (-1)) 60 (-1)) 61 (-1)) 62 (-1)) 63 (-1)) 64 (-1)) 65 (-1)) 66 (-1)) 67 (-1)) 68 (-1)) 69 (-1)) 70 (-1)) 71 (-1)) 72 (-1)) 73 (-1)) 139 1000) 140 100) 145 1000) 146 100) 151 1000) 152 100) 157 1000) 158 100) 163 1000) 164 100) 169 1000) 170 100) 175 1000) 176 100) 181 1000) 182 100) 88 1))))
theorem ro_2274 (z : pq_C) : pq_Ru 3 165 [.ref 90, .int 14, .int 1] (wd_1500 z) (some (.int 1), (wd_1501 z)) := by
  refine ru_of (k := 2) (M := pm_165) rfl rfl ?_
  refine go_seg 1 (pc' := 1) (ls' := [(0, .ref 90), (1, .int 14), (2, .int 1)]) (st' := [.int 14]) (w' := (wd_1500 z)) (cs' := 0) (ss' := 0) ?_ (fun _ _ => rfl)
  refine go_cl (k := 2) (st' := [.int 1]) (cs' := 0) (ss' := 0) rfl rfl rfl rfl rfl rfl rfl (ro_2273 z) ?_
  refine go_seg 8 (pc' := 24) (ls' := [(0, .ref 90), (1, .int 14), (2, .int 1)]) (st' := [.int 1, .int 0]) (w' := (wd_1500 z)) (cs' := 0) (ss' := 0) ?_ (fun _ _ => rfl)
  refine go_seg 8 (pc' := 42) (ls' := [(3, .int 1), (0, .ref 90), (1, .int 14), (2, .int 1)]) (st' := [.ref 90]) (w' := (wd_1500 z)) (cs' := 0) (ss' := 0) ?_ (fun _ _ => rfl)
  refine go_seg 8 (pc' := 58) (ls' := [(3, .int 1), (0, .ref 90), (1, .int 14), (2, .int 1)]) (st' := [.int 1, .int 88, .ref 91]) (w' := (wd_1500 z)) (cs' := 0) (ss' := 0) ?_ (fun _ _ => rfl)
  exact go_end 3 (fun _ _ => rfl)
theorem lf_2_2276 (a0 : Int32) (a2 : Int32) (a3 : Int32) (a4 : Int32) (a5 : Int32) (h0 : ¬ a2.toInt = 0) : ∃ w', pq_Go 20 pm_law 278 [(3, .int 0), (2, .ref 90), (1, .ref 1), (0, .ref 0)] [] (fw (sz a0 14 a2 a3 a4 a5)) 109 12668 (some (.int 1), w') := by
  refine ⟨(wd_1501 (sz a0 14 a2 a3 a4 a5)), ?_⟩
  refine go_seg 8 (pc' := 286) (ls' := [(3, .int 0), (2, .ref 90), (1, .ref 1), (0, .ref 0)]) (st' := [.int 0, .ref 0, .int 14, .ref 1]) (w' := (fw (sz a0 14 a2 a3 a4 a5))) (cs' := 109) (ss' := 12668) ?_ (fun _ _ => rfl)
  refine go_seg 3 (pc' := 289) (ls' := [(3, .int 0), (2, .ref 90), (1, .ref 1), (0, .ref 0)]) (st' := [.int a2, .int 14, .ref 1]) (w' := (fw (sz a0 14 a2 a3 a4 a5))) (cs' := 109) (ss' := 12668) ?_ (fun _ _ => rfl)
  refine go_if false rfl (br_eq_f (b := 0) rfl (by omega)) ?_
  refine go_seg 2 (pc' := 297) (ls' := [(3, .int 0), (2, .ref 90), (1, .ref 1), (0, .ref 0)]) (st' := [.int 1, .int 14, .ref 1]) (w' := (fw (sz a0 14 a2 a3 a4 a5))) (cs' := 109) (ss' := 12668) ?_ (fun _ _ => rfl)
  refine go_cl (k := 20) (st' := [.int 1]) (cs' := 109) (ss' := 12668) rfl rfl rfl rfl rfl rfl rfl (ro_2271 (sz a0 14 a2 a3 a4 a5)) ?_
  refine go_seg 8 (pc' := 308) (ls' := [(3, .int 0), (2, .ref 90), (1, .ref 1), (0, .ref 0)]) (st' := [.int 0, .ref 0, .int 14, .ref 90, .int 1]) (w' := (wd_1500 (sz a0 14 a2 a3 a4 a5))) (cs' := 109) (ss' := 12668) ?_ (fun _ _ => rfl)
  refine go_seg 3 (pc' := 311) (ls' := [(3, .int 0), (2, .ref 90), (1, .ref 1), (0, .ref 0)]) (st' := [.int a2, .int 14, .ref 90, .int 1]) (w' := (wd_1500 (sz a0 14 a2 a3 a4 a5))) (cs' := 109) (ss' := 12668) ?_ (fun _ _ => rfl)
  refine go_if false rfl (br_eq_f (b := 0) rfl (by omega)) ?_
  refine go_seg 2 (pc' := 319) (ls' := [(3, .int 0), (2, .ref 90), (1, .ref 1), (0, .ref 0)]) (st' := [.int 1, .int 14, .ref 90, .int 1]) (w' := (wd_1500 (sz a0 14 a2 a3 a4 a5))) (cs' := 109) (ss' := 12668) ?_ (fun _ _ => rfl)
  refine go_cl (k := 20) (st' := [.int 1, .int 1]) (cs' := 109) (ss' := 12668) rfl rfl rfl rfl rfl rfl rfl (ro_2274 (sz a0 14 a2 a3 a4 a5)) ?_
  refine go_cmp true rfl (br_self _) ?_
  exact law_tail (f := sc a0 14 a2 a3 a4 a5) rfl
def wd_1502 (z : pq_C) : pq_W := ((fw z).set 4 (.inl (.boolean, 64, .inl (upd (fun _ => 0) 15 1))))
theorem ro_2278 (z : pq_C) : pq_Ru 2 22 [.ref 1, .int 15, .int 1] (fw z) (some (.int 1), (wd_1502 z)) := by
  refine ru_of (k := 1) (M := pm_22) rfl rfl ?_
  refine go_seg 1 (pc' := 1) (ls' := [(0, .ref 1), (1, .int 15), (2, .int 1)]) (st' := [.int 15]) (w' := (fw z)) (cs' := 0) (ss' := 0) ?_ (fun _ _ => rfl)
  refine go_cl (k := 1) (st' := [.int 1]) (cs' := 0) (ss' := 0) rfl rfl rfl rfl rfl rfl rfl (ro_1313 z) ?_
  refine go_seg 8 (pc' := 24) (ls' := [(3, .int 0), (0, .ref 1), (1, .int 15), (2, .int 1)]) (st' := [.ref 1]) (w' := (fw z)) (cs' := 0) (ss' := 0) ?_ (fun _ _ => rfl)
  refine go_seg 8 (pc' := 42) (ls' := [(3, .int 0), (0, .ref 1), (1, .int 15), (2, .int 1)]) (st' := []) (w' := (wd_1502 z)) (cs' := 0) (ss' := 0) ?_ (fun _ _ => rfl)
  exact go_end 2 (fun _ _ => rfl)
theorem ro_2279 (z : pq_C) : pq_Ru 1 161 [.long 15, .long 0, .long 63] (wd_1502 z) (some (.int 1), (wd_1502 z)) := by
  refine ru_of (k := 0) (M := pm_161) rfl rfl ?_
  refine go_seg 8 (pc' := 13) (ls' := [(0, .long 15), (2, .long 0), (4, .long 63)]) (st' := []) (w' := (wd_1502 z)) (cs' := 0) (ss' := 0) ?_ (fun _ _ => rfl)
  exact go_end 3 (fun _ _ => rfl)
theorem ro_2280 (z : pq_C) : pq_Ru 2 160 [.int 15] (wd_1502 z) (some (.int 1), (wd_1502 z)) := by
  refine ru_of (k := 1) (M := pm_160) rfl rfl ?_
  refine go_seg 4 (pc' := 6) (ls' := [(0, .int 15)]) (st' := [.long 63, .long 0, .long 15]) (w' := (wd_1502 z)) (cs' := 0) (ss' := 0) ?_ (fun _ _ => rfl)
  refine go_cl (k := 1) (st' := [.int 1]) (cs' := 0) (ss' := 0) rfl rfl rfl rfl rfl rfl rfl (ro_2279 z) ?_
  exact go_end 1 (fun _ _ => rfl)
def wd_1503 (z : pq_C) : pq_W := ((wd_1502 z).set 91 (.inl (.int, 2858, .inl (upd (upd (upd (upd (upd (upd (upd (upd (upd (upd (upd (upd (upd (upd (upd (upd (upd (upd (upd (upd (upd (upd (upd (upd (upd (upd (upd (upd (upd (upd (upd (upd (upd (upd (upd (upd (upd (upd (upd (upd (upd (upd (upd (upd (upd (upd (upd (upd (upd (upd (upd (upd (upd (upd (upd (upd (upd (upd (upd (upd (upd (upd (upd (upd (upd (upd (upd (upd (upd (upd (upd (upd (upd (upd (upd (upd (upd (upd (upd (upd (upd (upd (fun _ => 0) 1 10) 10 (-1)) 11 (-1)) 12 (-1)) 13 (-1)) 14 (-1)) 15 (-1)) 16 (-1)) 17 (-1)) 18 (-1)) 19 (-1)) 20 (-1)) 21 (-1)) 22 (-1)) 23 (-1)) 24 (-1)) 25 (-1)) 26 (-1)) 27 (-1)) 28 (-1)) 29 (-1)) 30 (-1)) 31 (-1)) 32 (-1)) 33 (-1)) 34 (-1)) 35 (-1)) 36 (-1)) 37 (-1)) 38 (-1)) 39 (-1)) 40 (-1)) 41 (-1)) 42 (-1)) 43 (-1)) 44 (-1)) 45 (-1)) 46 (-1)) 47 (-1)) 48 (-1)) 49 (-1)) 50 (-1)) 51 (-1)) 52 (-1)) 53 (-1)) 54 (-1)) 55 (-1)) 56 (-1)) 57 (-1)) 58 (-1)) 59 (-1)) 60 (-1)) 61 (-1)) 62 (-1)) 63 (-1)) 64 (-1)) 65 (-1)) 66 (-1)) 67 (-1)) 68 (-1)) 69 (-1)) 70 (-1)) 71 (-1)) 72 (-1)) 73 (-1)) 139 1000) 140 100) 145 1000) 146 100) 151 1000) 152 100) 157 1000) 158 100) 163 1000) 164 100) 169 1000) 170 100) 175 1000) 176 100) 181 1000) 182 100) 89 1))))
theorem ro_2281 (z : pq_C) : pq_Ru 3 165 [.ref 90, .int 15, .int 1] (wd_1502 z) (some (.int 1), (wd_1503 z)) := by
  refine ru_of (k := 2) (M := pm_165) rfl rfl ?_
  refine go_seg 1 (pc' := 1) (ls' := [(0, .ref 90), (1, .int 15), (2, .int 1)]) (st' := [.int 15]) (w' := (wd_1502 z)) (cs' := 0) (ss' := 0) ?_ (fun _ _ => rfl)
  refine go_cl (k := 2) (st' := [.int 1]) (cs' := 0) (ss' := 0) rfl rfl rfl rfl rfl rfl rfl (ro_2280 z) ?_
  refine go_seg 8 (pc' := 24) (ls' := [(0, .ref 90), (1, .int 15), (2, .int 1)]) (st' := [.int 1, .int 0]) (w' := (wd_1502 z)) (cs' := 0) (ss' := 0) ?_ (fun _ _ => rfl)
  refine go_seg 8 (pc' := 42) (ls' := [(3, .int 1), (0, .ref 90), (1, .int 15), (2, .int 1)]) (st' := [.ref 90]) (w' := (wd_1502 z)) (cs' := 0) (ss' := 0) ?_ (fun _ _ => rfl)
  refine go_seg 8 (pc' := 58) (ls' := [(3, .int 1), (0, .ref 90), (1, .int 15), (2, .int 1)]) (st' := [.int 1, .int 89, .ref 91]) (w' := (wd_1502 z)) (cs' := 0) (ss' := 0) ?_ (fun _ _ => rfl)
  exact go_end 3 (fun _ _ => rfl)
theorem lf_2_2283 (a0 : Int32) (a2 : Int32) (a3 : Int32) (a4 : Int32) (a5 : Int32) (h0 : ¬ a2.toInt = 0) : ∃ w', pq_Go 20 pm_law 278 [(3, .int 0), (2, .ref 90), (1, .ref 1), (0, .ref 0)] [] (fw (sz a0 15 a2 a3 a4 a5)) 109 12668 (some (.int 1), w') := by
  refine ⟨(wd_1503 (sz a0 15 a2 a3 a4 a5)), ?_⟩
  refine go_seg 8 (pc' := 286) (ls' := [(3, .int 0), (2, .ref 90), (1, .ref 1), (0, .ref 0)]) (st' := [.int 0, .ref 0, .int 15, .ref 1]) (w' := (fw (sz a0 15 a2 a3 a4 a5))) (cs' := 109) (ss' := 12668) ?_ (fun _ _ => rfl)
  refine go_seg 3 (pc' := 289) (ls' := [(3, .int 0), (2, .ref 90), (1, .ref 1), (0, .ref 0)]) (st' := [.int a2, .int 15, .ref 1]) (w' := (fw (sz a0 15 a2 a3 a4 a5))) (cs' := 109) (ss' := 12668) ?_ (fun _ _ => rfl)
  refine go_if false rfl (br_eq_f (b := 0) rfl (by omega)) ?_
  refine go_seg 2 (pc' := 297) (ls' := [(3, .int 0), (2, .ref 90), (1, .ref 1), (0, .ref 0)]) (st' := [.int 1, .int 15, .ref 1]) (w' := (fw (sz a0 15 a2 a3 a4 a5))) (cs' := 109) (ss' := 12668) ?_ (fun _ _ => rfl)
  refine go_cl (k := 20) (st' := [.int 1]) (cs' := 109) (ss' := 12668) rfl rfl rfl rfl rfl rfl rfl (ro_2278 (sz a0 15 a2 a3 a4 a5)) ?_
  refine go_seg 8 (pc' := 308) (ls' := [(3, .int 0), (2, .ref 90), (1, .ref 1), (0, .ref 0)]) (st' := [.int 0, .ref 0, .int 15, .ref 90, .int 1]) (w' := (wd_1502 (sz a0 15 a2 a3 a4 a5))) (cs' := 109) (ss' := 12668) ?_ (fun _ _ => rfl)
  refine go_seg 3 (pc' := 311) (ls' := [(3, .int 0), (2, .ref 90), (1, .ref 1), (0, .ref 0)]) (st' := [.int a2, .int 15, .ref 90, .int 1]) (w' := (wd_1502 (sz a0 15 a2 a3 a4 a5))) (cs' := 109) (ss' := 12668) ?_ (fun _ _ => rfl)
  refine go_if false rfl (br_eq_f (b := 0) rfl (by omega)) ?_
  refine go_seg 2 (pc' := 319) (ls' := [(3, .int 0), (2, .ref 90), (1, .ref 1), (0, .ref 0)]) (st' := [.int 1, .int 15, .ref 90, .int 1]) (w' := (wd_1502 (sz a0 15 a2 a3 a4 a5))) (cs' := 109) (ss' := 12668) ?_ (fun _ _ => rfl)
  refine go_cl (k := 20) (st' := [.int 1, .int 1]) (cs' := 109) (ss' := 12668) rfl rfl rfl rfl rfl rfl rfl (ro_2281 (sz a0 15 a2 a3 a4 a5)) ?_
  refine go_cmp true rfl (br_self _) ?_
  exact law_tail (f := sc a0 15 a2 a3 a4 a5) rfl
def wd_1504 (z : pq_C) : pq_W := ((fw z).set 4 (.inl (.boolean, 64, .inl (upd (fun _ => 0) 16 1))))
theorem ro_2285 (z : pq_C) : pq_Ru 2 22 [.ref 1, .int 16, .int 1] (fw z) (some (.int 1), (wd_1504 z)) := by
  refine ru_of (k := 1) (M := pm_22) rfl rfl ?_
  refine go_seg 1 (pc' := 1) (ls' := [(0, .ref 1), (1, .int 16), (2, .int 1)]) (st' := [.int 16]) (w' := (fw z)) (cs' := 0) (ss' := 0) ?_ (fun _ _ => rfl)
  refine go_cl (k := 1) (st' := [.int 1]) (cs' := 0) (ss' := 0) rfl rfl rfl rfl rfl rfl rfl (ro_1321 z) ?_
  refine go_seg 8 (pc' := 24) (ls' := [(3, .int 0), (0, .ref 1), (1, .int 16), (2, .int 1)]) (st' := [.ref 1]) (w' := (fw z)) (cs' := 0) (ss' := 0) ?_ (fun _ _ => rfl)
  refine go_seg 8 (pc' := 42) (ls' := [(3, .int 0), (0, .ref 1), (1, .int 16), (2, .int 1)]) (st' := []) (w' := (wd_1504 z)) (cs' := 0) (ss' := 0) ?_ (fun _ _ => rfl)
  exact go_end 2 (fun _ _ => rfl)
theorem ro_2286 (z : pq_C) : pq_Ru 1 161 [.long 16, .long 0, .long 63] (wd_1504 z) (some (.int 1), (wd_1504 z)) := by
  refine ru_of (k := 0) (M := pm_161) rfl rfl ?_
  refine go_seg 8 (pc' := 13) (ls' := [(0, .long 16), (2, .long 0), (4, .long 63)]) (st' := []) (w' := (wd_1504 z)) (cs' := 0) (ss' := 0) ?_ (fun _ _ => rfl)
  exact go_end 3 (fun _ _ => rfl)
theorem ro_2287 (z : pq_C) : pq_Ru 2 160 [.int 16] (wd_1504 z) (some (.int 1), (wd_1504 z)) := by
  refine ru_of (k := 1) (M := pm_160) rfl rfl ?_
  refine go_seg 4 (pc' := 6) (ls' := [(0, .int 16)]) (st' := [.long 63, .long 0, .long 16]) (w' := (wd_1504 z)) (cs' := 0) (ss' := 0) ?_ (fun _ _ => rfl)
  refine go_cl (k := 1) (st' := [.int 1]) (cs' := 0) (ss' := 0) rfl rfl rfl rfl rfl rfl rfl (ro_2286 z) ?_
  exact go_end 1 (fun _ _ => rfl)
def wd_1505 (z : pq_C) : pq_W := ((wd_1504 z).set 91 (.inl (.int, 2858, .inl (upd (upd (upd (upd (upd (upd (upd (upd (upd (upd (upd (upd (upd (upd (upd (upd (upd (upd (upd (upd (upd (upd (upd (upd (upd (upd (upd (upd (upd (upd (upd (upd (upd (upd (upd (upd (upd (upd (upd (upd (upd (upd (upd (upd (upd (upd (upd (upd (upd (upd (upd (upd (upd (upd (upd (upd (upd (upd (upd (upd (upd (upd (upd (upd (upd (upd (upd (upd (upd (upd (upd (upd (upd (upd (upd (upd (upd (upd (upd (upd (upd (upd (fun _ => 0) 1 10) 10 (-1)) 11 (-1)) 12 (-1)) 13 (-1)) 14 (-1)) 15 (-1)) 16 (-1)) 17 (-1)) 18 (-1)) 19 (-1)) 20 (-1)) 21 (-1)) 22 (-1)) 23 (-1)) 24 (-1)) 25 (-1)) 26 (-1)) 27 (-1)) 28 (-1)) 29 (-1)) 30 (-1)) 31 (-1)) 32 (-1)) 33 (-1)) 34 (-1)) 35 (-1)) 36 (-1)) 37 (-1)) 38 (-1)) 39 (-1)) 40 (-1)) 41 (-1)) 42 (-1)) 43 (-1)) 44 (-1)) 45 (-1)) 46 (-1)) 47 (-1)) 48 (-1)) 49 (-1)) 50 (-1)) 51 (-1)) 52 (-1)) 53 (-1)) 54 (-1)) 55 (-1)) 56 (-1)) 57 (-1)) 58 (-1)) 59 (-1)) 60 (-1)) 61 (-1)) 62 (-1)) 63 (-1)) 64 (-1)) 65 (-1)) 66 (-1)) 67 (-1)) 68 (-1)) 69 (-1)) 70 (-1)) 71 (-1)) 72 (-1)) 73 (-1)) 139 1000) 140 100) 145 1000) 146 100) 151 1000) 152 100) 157 1000) 158 100) 163 1000) 164 100) 169 1000) 170 100) 175 1000) 176 100) 181 1000) 182 100) 90 1))))
theorem ro_2288 (z : pq_C) : pq_Ru 3 165 [.ref 90, .int 16, .int 1] (wd_1504 z) (some (.int 1), (wd_1505 z)) := by
  refine ru_of (k := 2) (M := pm_165) rfl rfl ?_
  refine go_seg 1 (pc' := 1) (ls' := [(0, .ref 90), (1, .int 16), (2, .int 1)]) (st' := [.int 16]) (w' := (wd_1504 z)) (cs' := 0) (ss' := 0) ?_ (fun _ _ => rfl)
  refine go_cl (k := 2) (st' := [.int 1]) (cs' := 0) (ss' := 0) rfl rfl rfl rfl rfl rfl rfl (ro_2287 z) ?_
  refine go_seg 8 (pc' := 24) (ls' := [(0, .ref 90), (1, .int 16), (2, .int 1)]) (st' := [.int 1, .int 0]) (w' := (wd_1504 z)) (cs' := 0) (ss' := 0) ?_ (fun _ _ => rfl)
  refine go_seg 8 (pc' := 42) (ls' := [(3, .int 1), (0, .ref 90), (1, .int 16), (2, .int 1)]) (st' := [.ref 90]) (w' := (wd_1504 z)) (cs' := 0) (ss' := 0) ?_ (fun _ _ => rfl)
  refine go_seg 8 (pc' := 58) (ls' := [(3, .int 1), (0, .ref 90), (1, .int 16), (2, .int 1)]) (st' := [.int 1, .int 90, .ref 91]) (w' := (wd_1504 z)) (cs' := 0) (ss' := 0) ?_ (fun _ _ => rfl)
  exact go_end 3 (fun _ _ => rfl)
theorem lf_2_2290 (a0 : Int32) (a2 : Int32) (a3 : Int32) (a4 : Int32) (a5 : Int32) (h0 : ¬ a2.toInt = 0) : ∃ w', pq_Go 20 pm_law 278 [(3, .int 0), (2, .ref 90), (1, .ref 1), (0, .ref 0)] [] (fw (sz a0 16 a2 a3 a4 a5)) 109 12668 (some (.int 1), w') := by
  refine ⟨(wd_1505 (sz a0 16 a2 a3 a4 a5)), ?_⟩
  refine go_seg 8 (pc' := 286) (ls' := [(3, .int 0), (2, .ref 90), (1, .ref 1), (0, .ref 0)]) (st' := [.int 0, .ref 0, .int 16, .ref 1]) (w' := (fw (sz a0 16 a2 a3 a4 a5))) (cs' := 109) (ss' := 12668) ?_ (fun _ _ => rfl)
  refine go_seg 3 (pc' := 289) (ls' := [(3, .int 0), (2, .ref 90), (1, .ref 1), (0, .ref 0)]) (st' := [.int a2, .int 16, .ref 1]) (w' := (fw (sz a0 16 a2 a3 a4 a5))) (cs' := 109) (ss' := 12668) ?_ (fun _ _ => rfl)
  refine go_if false rfl (br_eq_f (b := 0) rfl (by omega)) ?_
  refine go_seg 2 (pc' := 297) (ls' := [(3, .int 0), (2, .ref 90), (1, .ref 1), (0, .ref 0)]) (st' := [.int 1, .int 16, .ref 1]) (w' := (fw (sz a0 16 a2 a3 a4 a5))) (cs' := 109) (ss' := 12668) ?_ (fun _ _ => rfl)
  refine go_cl (k := 20) (st' := [.int 1]) (cs' := 109) (ss' := 12668) rfl rfl rfl rfl rfl rfl rfl (ro_2285 (sz a0 16 a2 a3 a4 a5)) ?_
  refine go_seg 8 (pc' := 308) (ls' := [(3, .int 0), (2, .ref 90), (1, .ref 1), (0, .ref 0)]) (st' := [.int 0, .ref 0, .int 16, .ref 90, .int 1]) (w' := (wd_1504 (sz a0 16 a2 a3 a4 a5))) (cs' := 109) (ss' := 12668) ?_ (fun _ _ => rfl)
  refine go_seg 3 (pc' := 311) (ls' := [(3, .int 0), (2, .ref 90), (1, .ref 1), (0, .ref 0)]) (st' := [.int a2, .int 16, .ref 90, .int 1]) (w' := (wd_1504 (sz a0 16 a2 a3 a4 a5))) (cs' := 109) (ss' := 12668) ?_ (fun _ _ => rfl)
  refine go_if false rfl (br_eq_f (b := 0) rfl (by omega)) ?_
  refine go_seg 2 (pc' := 319) (ls' := [(3, .int 0), (2, .ref 90), (1, .ref 1), (0, .ref 0)]) (st' := [.int 1, .int 16, .ref 90, .int 1]) (w' := (wd_1504 (sz a0 16 a2 a3 a4 a5))) (cs' := 109) (ss' := 12668) ?_ (fun _ _ => rfl)
  refine go_cl (k := 20) (st' := [.int 1, .int 1]) (cs' := 109) (ss' := 12668) rfl rfl rfl rfl rfl rfl rfl (ro_2288 (sz a0 16 a2 a3 a4 a5)) ?_
  refine go_cmp true rfl (br_self _) ?_
  exact law_tail (f := sc a0 16 a2 a3 a4 a5) rfl
def wd_1506 (z : pq_C) : pq_W := ((fw z).set 4 (.inl (.boolean, 64, .inl (upd (fun _ => 0) 17 1))))
theorem ro_2292 (z : pq_C) : pq_Ru 2 22 [.ref 1, .int 17, .int 1] (fw z) (some (.int 1), (wd_1506 z)) := by
  refine ru_of (k := 1) (M := pm_22) rfl rfl ?_
  refine go_seg 1 (pc' := 1) (ls' := [(0, .ref 1), (1, .int 17), (2, .int 1)]) (st' := [.int 17]) (w' := (fw z)) (cs' := 0) (ss' := 0) ?_ (fun _ _ => rfl)
  refine go_cl (k := 1) (st' := [.int 1]) (cs' := 0) (ss' := 0) rfl rfl rfl rfl rfl rfl rfl (ro_1329 z) ?_
  refine go_seg 8 (pc' := 24) (ls' := [(3, .int 0), (0, .ref 1), (1, .int 17), (2, .int 1)]) (st' := [.ref 1]) (w' := (fw z)) (cs' := 0) (ss' := 0) ?_ (fun _ _ => rfl)
  refine go_seg 8 (pc' := 42) (ls' := [(3, .int 0), (0, .ref 1), (1, .int 17), (2, .int 1)]) (st' := []) (w' := (wd_1506 z)) (cs' := 0) (ss' := 0) ?_ (fun _ _ => rfl)
  exact go_end 2 (fun _ _ => rfl)
theorem ro_2293 (z : pq_C) : pq_Ru 1 161 [.long 17, .long 0, .long 63] (wd_1506 z) (some (.int 1), (wd_1506 z)) := by
  refine ru_of (k := 0) (M := pm_161) rfl rfl ?_
  refine go_seg 8 (pc' := 13) (ls' := [(0, .long 17), (2, .long 0), (4, .long 63)]) (st' := []) (w' := (wd_1506 z)) (cs' := 0) (ss' := 0) ?_ (fun _ _ => rfl)
  exact go_end 3 (fun _ _ => rfl)
theorem ro_2294 (z : pq_C) : pq_Ru 2 160 [.int 17] (wd_1506 z) (some (.int 1), (wd_1506 z)) := by
  refine ru_of (k := 1) (M := pm_160) rfl rfl ?_
  refine go_seg 4 (pc' := 6) (ls' := [(0, .int 17)]) (st' := [.long 63, .long 0, .long 17]) (w' := (wd_1506 z)) (cs' := 0) (ss' := 0) ?_ (fun _ _ => rfl)
  refine go_cl (k := 1) (st' := [.int 1]) (cs' := 0) (ss' := 0) rfl rfl rfl rfl rfl rfl rfl (ro_2293 z) ?_
  exact go_end 1 (fun _ _ => rfl)
def wd_1507 (z : pq_C) : pq_W := ((wd_1506 z).set 91 (.inl (.int, 2858, .inl (upd (upd (upd (upd (upd (upd (upd (upd (upd (upd (upd (upd (upd (upd (upd (upd (upd (upd (upd (upd (upd (upd (upd (upd (upd (upd (upd (upd (upd (upd (upd (upd (upd (upd (upd (upd (upd (upd (upd (upd (upd (upd (upd (upd (upd (upd (upd (upd (upd (upd (upd (upd (upd (upd (upd (upd (upd (upd (upd (upd (upd (upd (upd (upd (upd (upd (upd (upd (upd (upd (upd (upd (upd (upd (upd (upd (upd (upd (upd (upd (upd (upd (fun _ => 0) 1 10) 10 (-1)) 11 (-1)) 12 (-1)) 13 (-1)) 14 (-1)) 15 (-1)) 16 (-1)) 17 (-1)) 18 (-1)) 19 (-1)) 20 (-1)) 21 (-1)) 22 (-1)) 23 (-1)) 24 (-1)) 25 (-1)) 26 (-1)) 27 (-1)) 28 (-1)) 29 (-1)) 30 (-1)) 31 (-1)) 32 (-1)) 33 (-1)) 34 (-1)) 35 (-1)) 36 (-1)) 37 (-1)) 38 (-1)) 39 (-1)) 40 (-1)) 41 (-1)) 42 (-1)) 43 (-1)) 44 (-1)) 45 (-1)) 46 (-1)) 47 (-1)) 48 (-1)) 49 (-1)) 50 (-1)) 51 (-1)) 52 (-1)) 53 (-1)) 54 (-1)) 55 (-1)) 56 (-1)) 57 (-1)) 58 (-1)) 59 (-1)) 60 (-1)) 61 (-1)) 62 (-1)) 63 (-1)) 64 (-1)) 65 (-1)) 66 (-1)) 67 (-1)) 68 (-1)) 69 (-1)) 70 (-1)) 71 (-1)) 72 (-1)) 73 (-1)) 139 1000) 140 100) 145 1000) 146 100) 151 1000) 152 100) 157 1000) 158 100) 163 1000) 164 100) 169 1000) 170 100) 175 1000) 176 100) 181 1000) 182 100) 91 1))))
theorem ro_2295 (z : pq_C) : pq_Ru 3 165 [.ref 90, .int 17, .int 1] (wd_1506 z) (some (.int 1), (wd_1507 z)) := by
  refine ru_of (k := 2) (M := pm_165) rfl rfl ?_
  refine go_seg 1 (pc' := 1) (ls' := [(0, .ref 90), (1, .int 17), (2, .int 1)]) (st' := [.int 17]) (w' := (wd_1506 z)) (cs' := 0) (ss' := 0) ?_ (fun _ _ => rfl)
  refine go_cl (k := 2) (st' := [.int 1]) (cs' := 0) (ss' := 0) rfl rfl rfl rfl rfl rfl rfl (ro_2294 z) ?_
  refine go_seg 8 (pc' := 24) (ls' := [(0, .ref 90), (1, .int 17), (2, .int 1)]) (st' := [.int 1, .int 0]) (w' := (wd_1506 z)) (cs' := 0) (ss' := 0) ?_ (fun _ _ => rfl)
  refine go_seg 8 (pc' := 42) (ls' := [(3, .int 1), (0, .ref 90), (1, .int 17), (2, .int 1)]) (st' := [.ref 90]) (w' := (wd_1506 z)) (cs' := 0) (ss' := 0) ?_ (fun _ _ => rfl)
  refine go_seg 8 (pc' := 58) (ls' := [(3, .int 1), (0, .ref 90), (1, .int 17), (2, .int 1)]) (st' := [.int 1, .int 91, .ref 91]) (w' := (wd_1506 z)) (cs' := 0) (ss' := 0) ?_ (fun _ _ => rfl)
  exact go_end 3 (fun _ _ => rfl)
theorem lf_2_2297 (a0 : Int32) (a2 : Int32) (a3 : Int32) (a4 : Int32) (a5 : Int32) (h0 : ¬ a2.toInt = 0) : ∃ w', pq_Go 20 pm_law 278 [(3, .int 0), (2, .ref 90), (1, .ref 1), (0, .ref 0)] [] (fw (sz a0 17 a2 a3 a4 a5)) 109 12668 (some (.int 1), w') := by
  refine ⟨(wd_1507 (sz a0 17 a2 a3 a4 a5)), ?_⟩
  refine go_seg 8 (pc' := 286) (ls' := [(3, .int 0), (2, .ref 90), (1, .ref 1), (0, .ref 0)]) (st' := [.int 0, .ref 0, .int 17, .ref 1]) (w' := (fw (sz a0 17 a2 a3 a4 a5))) (cs' := 109) (ss' := 12668) ?_ (fun _ _ => rfl)
  refine go_seg 3 (pc' := 289) (ls' := [(3, .int 0), (2, .ref 90), (1, .ref 1), (0, .ref 0)]) (st' := [.int a2, .int 17, .ref 1]) (w' := (fw (sz a0 17 a2 a3 a4 a5))) (cs' := 109) (ss' := 12668) ?_ (fun _ _ => rfl)
  refine go_if false rfl (br_eq_f (b := 0) rfl (by omega)) ?_
  refine go_seg 2 (pc' := 297) (ls' := [(3, .int 0), (2, .ref 90), (1, .ref 1), (0, .ref 0)]) (st' := [.int 1, .int 17, .ref 1]) (w' := (fw (sz a0 17 a2 a3 a4 a5))) (cs' := 109) (ss' := 12668) ?_ (fun _ _ => rfl)
  refine go_cl (k := 20) (st' := [.int 1]) (cs' := 109) (ss' := 12668) rfl rfl rfl rfl rfl rfl rfl (ro_2292 (sz a0 17 a2 a3 a4 a5)) ?_
  refine go_seg 8 (pc' := 308) (ls' := [(3, .int 0), (2, .ref 90), (1, .ref 1), (0, .ref 0)]) (st' := [.int 0, .ref 0, .int 17, .ref 90, .int 1]) (w' := (wd_1506 (sz a0 17 a2 a3 a4 a5))) (cs' := 109) (ss' := 12668) ?_ (fun _ _ => rfl)
  refine go_seg 3 (pc' := 311) (ls' := [(3, .int 0), (2, .ref 90), (1, .ref 1), (0, .ref 0)]) (st' := [.int a2, .int 17, .ref 90, .int 1]) (w' := (wd_1506 (sz a0 17 a2 a3 a4 a5))) (cs' := 109) (ss' := 12668) ?_ (fun _ _ => rfl)
  refine go_if false rfl (br_eq_f (b := 0) rfl (by omega)) ?_
  refine go_seg 2 (pc' := 319) (ls' := [(3, .int 0), (2, .ref 90), (1, .ref 1), (0, .ref 0)]) (st' := [.int 1, .int 17, .ref 90, .int 1]) (w' := (wd_1506 (sz a0 17 a2 a3 a4 a5))) (cs' := 109) (ss' := 12668) ?_ (fun _ _ => rfl)
  refine go_cl (k := 20) (st' := [.int 1, .int 1]) (cs' := 109) (ss' := 12668) rfl rfl rfl rfl rfl rfl rfl (ro_2295 (sz a0 17 a2 a3 a4 a5)) ?_
  refine go_cmp true rfl (br_self _) ?_
  exact law_tail (f := sc a0 17 a2 a3 a4 a5) rfl
def wd_1508 (z : pq_C) : pq_W := ((fw z).set 4 (.inl (.boolean, 64, .inl (upd (fun _ => 0) 18 1))))
theorem ro_2299 (z : pq_C) : pq_Ru 2 22 [.ref 1, .int 18, .int 1] (fw z) (some (.int 1), (wd_1508 z)) := by
  refine ru_of (k := 1) (M := pm_22) rfl rfl ?_
  refine go_seg 1 (pc' := 1) (ls' := [(0, .ref 1), (1, .int 18), (2, .int 1)]) (st' := [.int 18]) (w' := (fw z)) (cs' := 0) (ss' := 0) ?_ (fun _ _ => rfl)
  refine go_cl (k := 1) (st' := [.int 1]) (cs' := 0) (ss' := 0) rfl rfl rfl rfl rfl rfl rfl (ro_1337 z) ?_
  refine go_seg 8 (pc' := 24) (ls' := [(3, .int 0), (0, .ref 1), (1, .int 18), (2, .int 1)]) (st' := [.ref 1]) (w' := (fw z)) (cs' := 0) (ss' := 0) ?_ (fun _ _ => rfl)
  refine go_seg 8 (pc' := 42) (ls' := [(3, .int 0), (0, .ref 1), (1, .int 18), (2, .int 1)]) (st' := []) (w' := (wd_1508 z)) (cs' := 0) (ss' := 0) ?_ (fun _ _ => rfl)
  exact go_end 2 (fun _ _ => rfl)
theorem ro_2300 (z : pq_C) : pq_Ru 1 161 [.long 18, .long 0, .long 63] (wd_1508 z) (some (.int 1), (wd_1508 z)) := by
  refine ru_of (k := 0) (M := pm_161) rfl rfl ?_
  refine go_seg 8 (pc' := 13) (ls' := [(0, .long 18), (2, .long 0), (4, .long 63)]) (st' := []) (w' := (wd_1508 z)) (cs' := 0) (ss' := 0) ?_ (fun _ _ => rfl)
  exact go_end 3 (fun _ _ => rfl)
theorem ro_2301 (z : pq_C) : pq_Ru 2 160 [.int 18] (wd_1508 z) (some (.int 1), (wd_1508 z)) := by
  refine ru_of (k := 1) (M := pm_160) rfl rfl ?_
  refine go_seg 4 (pc' := 6) (ls' := [(0, .int 18)]) (st' := [.long 63, .long 0, .long 18]) (w' := (wd_1508 z)) (cs' := 0) (ss' := 0) ?_ (fun _ _ => rfl)
  refine go_cl (k := 1) (st' := [.int 1]) (cs' := 0) (ss' := 0) rfl rfl rfl rfl rfl rfl rfl (ro_2300 z) ?_
  exact go_end 1 (fun _ _ => rfl)
def wd_1509 (z : pq_C) : pq_W := ((wd_1508 z).set 91 (.inl (.int, 2858, .inl (upd (upd (upd (upd (upd (upd (upd (upd (upd (upd (upd (upd (upd (upd (upd (upd (upd (upd (upd (upd (upd (upd (upd (upd (upd (upd (upd (upd (upd (upd (upd (upd (upd (upd (upd (upd (upd (upd (upd (upd (upd (upd (upd (upd (upd (upd (upd (upd (upd (upd (upd (upd (upd (upd (upd (upd (upd (upd (upd (upd (upd (upd (upd (upd (upd (upd (upd (upd (upd (upd (upd (upd (upd (upd (upd (upd (upd (upd (upd (upd (upd (upd (fun _ => 0) 1 10) 10 (-1)) 11 (-1)) 12 (-1)) 13 (-1)) 14 (-1)) 15 (-1)) 16 (-1)) 17 (-1)) 18 (-1)) 19 (-1)) 20 (-1)) 21 (-1)) 22 (-1)) 23 (-1)) 24 (-1)) 25 (-1)) 26 (-1)) 27 (-1)) 28 (-1)) 29 (-1)) 30 (-1)) 31 (-1)) 32 (-1)) 33 (-1)) 34 (-1)) 35 (-1)) 36 (-1)) 37 (-1)) 38 (-1)) 39 (-1)) 40 (-1)) 41 (-1)) 42 (-1)) 43 (-1)) 44 (-1)) 45 (-1)) 46 (-1)) 47 (-1)) 48 (-1)) 49 (-1)) 50 (-1)) 51 (-1)) 52 (-1)) 53 (-1)) 54 (-1)) 55 (-1)) 56 (-1)) 57 (-1)) 58 (-1)) 59 (-1)) 60 (-1)) 61 (-1)) 62 (-1)) 63 (-1)) 64 (-1)) 65 (-1)) 66 (-1)) 67 (-1)) 68 (-1)) 69 (-1)) 70 (-1)) 71 (-1)) 72 (-1)) 73 (-1)) 139 1000) 140 100) 145 1000) 146 100) 151 1000) 152 100) 157 1000) 158 100) 163 1000) 164 100) 169 1000) 170 100) 175 1000) 176 100) 181 1000) 182 100) 92 1))))
theorem ro_2302 (z : pq_C) : pq_Ru 3 165 [.ref 90, .int 18, .int 1] (wd_1508 z) (some (.int 1), (wd_1509 z)) := by
  refine ru_of (k := 2) (M := pm_165) rfl rfl ?_
  refine go_seg 1 (pc' := 1) (ls' := [(0, .ref 90), (1, .int 18), (2, .int 1)]) (st' := [.int 18]) (w' := (wd_1508 z)) (cs' := 0) (ss' := 0) ?_ (fun _ _ => rfl)
  refine go_cl (k := 2) (st' := [.int 1]) (cs' := 0) (ss' := 0) rfl rfl rfl rfl rfl rfl rfl (ro_2301 z) ?_
  refine go_seg 8 (pc' := 24) (ls' := [(0, .ref 90), (1, .int 18), (2, .int 1)]) (st' := [.int 1, .int 0]) (w' := (wd_1508 z)) (cs' := 0) (ss' := 0) ?_ (fun _ _ => rfl)
  refine go_seg 8 (pc' := 42) (ls' := [(3, .int 1), (0, .ref 90), (1, .int 18), (2, .int 1)]) (st' := [.ref 90]) (w' := (wd_1508 z)) (cs' := 0) (ss' := 0) ?_ (fun _ _ => rfl)
  refine go_seg 8 (pc' := 58) (ls' := [(3, .int 1), (0, .ref 90), (1, .int 18), (2, .int 1)]) (st' := [.int 1, .int 92, .ref 91]) (w' := (wd_1508 z)) (cs' := 0) (ss' := 0) ?_ (fun _ _ => rfl)
  exact go_end 3 (fun _ _ => rfl)
theorem lf_2_2304 (a0 : Int32) (a2 : Int32) (a3 : Int32) (a4 : Int32) (a5 : Int32) (h0 : ¬ a2.toInt = 0) : ∃ w', pq_Go 20 pm_law 278 [(3, .int 0), (2, .ref 90), (1, .ref 1), (0, .ref 0)] [] (fw (sz a0 18 a2 a3 a4 a5)) 109 12668 (some (.int 1), w') := by
  refine ⟨(wd_1509 (sz a0 18 a2 a3 a4 a5)), ?_⟩
  refine go_seg 8 (pc' := 286) (ls' := [(3, .int 0), (2, .ref 90), (1, .ref 1), (0, .ref 0)]) (st' := [.int 0, .ref 0, .int 18, .ref 1]) (w' := (fw (sz a0 18 a2 a3 a4 a5))) (cs' := 109) (ss' := 12668) ?_ (fun _ _ => rfl)
  refine go_seg 3 (pc' := 289) (ls' := [(3, .int 0), (2, .ref 90), (1, .ref 1), (0, .ref 0)]) (st' := [.int a2, .int 18, .ref 1]) (w' := (fw (sz a0 18 a2 a3 a4 a5))) (cs' := 109) (ss' := 12668) ?_ (fun _ _ => rfl)
  refine go_if false rfl (br_eq_f (b := 0) rfl (by omega)) ?_
  refine go_seg 2 (pc' := 297) (ls' := [(3, .int 0), (2, .ref 90), (1, .ref 1), (0, .ref 0)]) (st' := [.int 1, .int 18, .ref 1]) (w' := (fw (sz a0 18 a2 a3 a4 a5))) (cs' := 109) (ss' := 12668) ?_ (fun _ _ => rfl)
  refine go_cl (k := 20) (st' := [.int 1]) (cs' := 109) (ss' := 12668) rfl rfl rfl rfl rfl rfl rfl (ro_2299 (sz a0 18 a2 a3 a4 a5)) ?_
  refine go_seg 8 (pc' := 308) (ls' := [(3, .int 0), (2, .ref 90), (1, .ref 1), (0, .ref 0)]) (st' := [.int 0, .ref 0, .int 18, .ref 90, .int 1]) (w' := (wd_1508 (sz a0 18 a2 a3 a4 a5))) (cs' := 109) (ss' := 12668) ?_ (fun _ _ => rfl)
  refine go_seg 3 (pc' := 311) (ls' := [(3, .int 0), (2, .ref 90), (1, .ref 1), (0, .ref 0)]) (st' := [.int a2, .int 18, .ref 90, .int 1]) (w' := (wd_1508 (sz a0 18 a2 a3 a4 a5))) (cs' := 109) (ss' := 12668) ?_ (fun _ _ => rfl)
  refine go_if false rfl (br_eq_f (b := 0) rfl (by omega)) ?_
  refine go_seg 2 (pc' := 319) (ls' := [(3, .int 0), (2, .ref 90), (1, .ref 1), (0, .ref 0)]) (st' := [.int 1, .int 18, .ref 90, .int 1]) (w' := (wd_1508 (sz a0 18 a2 a3 a4 a5))) (cs' := 109) (ss' := 12668) ?_ (fun _ _ => rfl)
  refine go_cl (k := 20) (st' := [.int 1, .int 1]) (cs' := 109) (ss' := 12668) rfl rfl rfl rfl rfl rfl rfl (ro_2302 (sz a0 18 a2 a3 a4 a5)) ?_
  refine go_cmp true rfl (br_self _) ?_
  exact law_tail (f := sc a0 18 a2 a3 a4 a5) rfl
def wd_1510 (z : pq_C) : pq_W := ((fw z).set 4 (.inl (.boolean, 64, .inl (upd (fun _ => 0) 19 1))))
theorem ro_2306 (z : pq_C) : pq_Ru 2 22 [.ref 1, .int 19, .int 1] (fw z) (some (.int 1), (wd_1510 z)) := by
  refine ru_of (k := 1) (M := pm_22) rfl rfl ?_
  refine go_seg 1 (pc' := 1) (ls' := [(0, .ref 1), (1, .int 19), (2, .int 1)]) (st' := [.int 19]) (w' := (fw z)) (cs' := 0) (ss' := 0) ?_ (fun _ _ => rfl)
  refine go_cl (k := 1) (st' := [.int 1]) (cs' := 0) (ss' := 0) rfl rfl rfl rfl rfl rfl rfl (ro_1345 z) ?_
  refine go_seg 8 (pc' := 24) (ls' := [(3, .int 0), (0, .ref 1), (1, .int 19), (2, .int 1)]) (st' := [.ref 1]) (w' := (fw z)) (cs' := 0) (ss' := 0) ?_ (fun _ _ => rfl)
  refine go_seg 8 (pc' := 42) (ls' := [(3, .int 0), (0, .ref 1), (1, .int 19), (2, .int 1)]) (st' := []) (w' := (wd_1510 z)) (cs' := 0) (ss' := 0) ?_ (fun _ _ => rfl)
  exact go_end 2 (fun _ _ => rfl)
theorem ro_2307 (z : pq_C) : pq_Ru 1 161 [.long 19, .long 0, .long 63] (wd_1510 z) (some (.int 1), (wd_1510 z)) := by
  refine ru_of (k := 0) (M := pm_161) rfl rfl ?_
  refine go_seg 8 (pc' := 13) (ls' := [(0, .long 19), (2, .long 0), (4, .long 63)]) (st' := []) (w' := (wd_1510 z)) (cs' := 0) (ss' := 0) ?_ (fun _ _ => rfl)
  exact go_end 3 (fun _ _ => rfl)
theorem ro_2308 (z : pq_C) : pq_Ru 2 160 [.int 19] (wd_1510 z) (some (.int 1), (wd_1510 z)) := by
  refine ru_of (k := 1) (M := pm_160) rfl rfl ?_
  refine go_seg 4 (pc' := 6) (ls' := [(0, .int 19)]) (st' := [.long 63, .long 0, .long 19]) (w' := (wd_1510 z)) (cs' := 0) (ss' := 0) ?_ (fun _ _ => rfl)
  refine go_cl (k := 1) (st' := [.int 1]) (cs' := 0) (ss' := 0) rfl rfl rfl rfl rfl rfl rfl (ro_2307 z) ?_
  exact go_end 1 (fun _ _ => rfl)
def wd_1511 (z : pq_C) : pq_W := ((wd_1510 z).set 91 (.inl (.int, 2858, .inl (upd (upd (upd (upd (upd (upd (upd (upd (upd (upd (upd (upd (upd (upd (upd (upd (upd (upd (upd (upd (upd (upd (upd (upd (upd (upd (upd (upd (upd (upd (upd (upd (upd (upd (upd (upd (upd (upd (upd (upd (upd (upd (upd (upd (upd (upd (upd (upd (upd (upd (upd (upd (upd (upd (upd (upd (upd (upd (upd (upd (upd (upd (upd (upd (upd (upd (upd (upd (upd (upd (upd (upd (upd (upd (upd (upd (upd (upd (upd (upd (upd (upd (fun _ => 0) 1 10) 10 (-1)) 11 (-1)) 12 (-1)) 13 (-1)) 14 (-1)) 15 (-1)) 16 (-1)) 17 (-1)) 18 (-1)) 19 (-1)) 20 (-1)) 21 (-1)) 22 (-1)) 23 (-1)) 24 (-1)) 25 (-1)) 26 (-1)) 27 (-1)) 28 (-1)) 29 (-1)) 30 (-1)) 31 (-1)) 32 (-1)) 33 (-1)) 34 (-1)) 35 (-1)) 36 (-1)) 37 (-1)) 38 (-1)) 39 (-1)) 40 (-1)) 41 (-1)) 42 (-1)) 43 (-1)) 44 (-1)) 45 (-1)) 46 (-1)) 47 (-1)) 48 (-1)) 49 (-1)) 50 (-1)) 51 (-1)) 52 (-1)) 53 (-1)) 54 (-1)) 55 (-1)) 56 (-1)) 57 (-1)) 58 (-1)) 59 (-1)) 60 (-1)) 61 (-1)) 62 (-1)) 63 (-1)) 64 (-1)) 65 (-1)) 66 (-1)) 67 (-1)) 68 (-1)) 69 (-1)) 70 (-1)) 71 (-1)) 72 (-1)) 73 (-1)) 139 1000) 140 100) 145 1000) 146 100) 151 1000) 152 100) 157 1000) 158 100) 163 1000) 164 100) 169 1000) 170 100) 175 1000) 176 100) 181 1000) 182 100) 93 1))))
theorem ro_2309 (z : pq_C) : pq_Ru 3 165 [.ref 90, .int 19, .int 1] (wd_1510 z) (some (.int 1), (wd_1511 z)) := by
  refine ru_of (k := 2) (M := pm_165) rfl rfl ?_
  refine go_seg 1 (pc' := 1) (ls' := [(0, .ref 90), (1, .int 19), (2, .int 1)]) (st' := [.int 19]) (w' := (wd_1510 z)) (cs' := 0) (ss' := 0) ?_ (fun _ _ => rfl)
  refine go_cl (k := 2) (st' := [.int 1]) (cs' := 0) (ss' := 0) rfl rfl rfl rfl rfl rfl rfl (ro_2308 z) ?_
  refine go_seg 8 (pc' := 24) (ls' := [(0, .ref 90), (1, .int 19), (2, .int 1)]) (st' := [.int 1, .int 0]) (w' := (wd_1510 z)) (cs' := 0) (ss' := 0) ?_ (fun _ _ => rfl)
  refine go_seg 8 (pc' := 42) (ls' := [(3, .int 1), (0, .ref 90), (1, .int 19), (2, .int 1)]) (st' := [.ref 90]) (w' := (wd_1510 z)) (cs' := 0) (ss' := 0) ?_ (fun _ _ => rfl)
  refine go_seg 8 (pc' := 58) (ls' := [(3, .int 1), (0, .ref 90), (1, .int 19), (2, .int 1)]) (st' := [.int 1, .int 93, .ref 91]) (w' := (wd_1510 z)) (cs' := 0) (ss' := 0) ?_ (fun _ _ => rfl)
  exact go_end 3 (fun _ _ => rfl)
theorem lf_2_2311 (a0 : Int32) (a2 : Int32) (a3 : Int32) (a4 : Int32) (a5 : Int32) (h0 : ¬ a2.toInt = 0) : ∃ w', pq_Go 20 pm_law 278 [(3, .int 0), (2, .ref 90), (1, .ref 1), (0, .ref 0)] [] (fw (sz a0 19 a2 a3 a4 a5)) 109 12668 (some (.int 1), w') := by
  refine ⟨(wd_1511 (sz a0 19 a2 a3 a4 a5)), ?_⟩
  refine go_seg 8 (pc' := 286) (ls' := [(3, .int 0), (2, .ref 90), (1, .ref 1), (0, .ref 0)]) (st' := [.int 0, .ref 0, .int 19, .ref 1]) (w' := (fw (sz a0 19 a2 a3 a4 a5))) (cs' := 109) (ss' := 12668) ?_ (fun _ _ => rfl)
  refine go_seg 3 (pc' := 289) (ls' := [(3, .int 0), (2, .ref 90), (1, .ref 1), (0, .ref 0)]) (st' := [.int a2, .int 19, .ref 1]) (w' := (fw (sz a0 19 a2 a3 a4 a5))) (cs' := 109) (ss' := 12668) ?_ (fun _ _ => rfl)
  refine go_if false rfl (br_eq_f (b := 0) rfl (by omega)) ?_
  refine go_seg 2 (pc' := 297) (ls' := [(3, .int 0), (2, .ref 90), (1, .ref 1), (0, .ref 0)]) (st' := [.int 1, .int 19, .ref 1]) (w' := (fw (sz a0 19 a2 a3 a4 a5))) (cs' := 109) (ss' := 12668) ?_ (fun _ _ => rfl)
  refine go_cl (k := 20) (st' := [.int 1]) (cs' := 109) (ss' := 12668) rfl rfl rfl rfl rfl rfl rfl (ro_2306 (sz a0 19 a2 a3 a4 a5)) ?_
  refine go_seg 8 (pc' := 308) (ls' := [(3, .int 0), (2, .ref 90), (1, .ref 1), (0, .ref 0)]) (st' := [.int 0, .ref 0, .int 19, .ref 90, .int 1]) (w' := (wd_1510 (sz a0 19 a2 a3 a4 a5))) (cs' := 109) (ss' := 12668) ?_ (fun _ _ => rfl)
  refine go_seg 3 (pc' := 311) (ls' := [(3, .int 0), (2, .ref 90), (1, .ref 1), (0, .ref 0)]) (st' := [.int a2, .int 19, .ref 90, .int 1]) (w' := (wd_1510 (sz a0 19 a2 a3 a4 a5))) (cs' := 109) (ss' := 12668) ?_ (fun _ _ => rfl)
  refine go_if false rfl (br_eq_f (b := 0) rfl (by omega)) ?_
  refine go_seg 2 (pc' := 319) (ls' := [(3, .int 0), (2, .ref 90), (1, .ref 1), (0, .ref 0)]) (st' := [.int 1, .int 19, .ref 90, .int 1]) (w' := (wd_1510 (sz a0 19 a2 a3 a4 a5))) (cs' := 109) (ss' := 12668) ?_ (fun _ _ => rfl)
  refine go_cl (k := 20) (st' := [.int 1, .int 1]) (cs' := 109) (ss' := 12668) rfl rfl rfl rfl rfl rfl rfl (ro_2309 (sz a0 19 a2 a3 a4 a5)) ?_
  refine go_cmp true rfl (br_self _) ?_
  exact law_tail (f := sc a0 19 a2 a3 a4 a5) rfl
def wd_1512 (z : pq_C) : pq_W := ((fw z).set 4 (.inl (.boolean, 64, .inl (upd (fun _ => 0) 20 1))))
theorem ro_2313 (z : pq_C) : pq_Ru 2 22 [.ref 1, .int 20, .int 1] (fw z) (some (.int 1), (wd_1512 z)) := by
  refine ru_of (k := 1) (M := pm_22) rfl rfl ?_
  refine go_seg 1 (pc' := 1) (ls' := [(0, .ref 1), (1, .int 20), (2, .int 1)]) (st' := [.int 20]) (w' := (fw z)) (cs' := 0) (ss' := 0) ?_ (fun _ _ => rfl)
  refine go_cl (k := 1) (st' := [.int 1]) (cs' := 0) (ss' := 0) rfl rfl rfl rfl rfl rfl rfl (ro_1353 z) ?_
  refine go_seg 8 (pc' := 24) (ls' := [(3, .int 0), (0, .ref 1), (1, .int 20), (2, .int 1)]) (st' := [.ref 1]) (w' := (fw z)) (cs' := 0) (ss' := 0) ?_ (fun _ _ => rfl)
  refine go_seg 8 (pc' := 42) (ls' := [(3, .int 0), (0, .ref 1), (1, .int 20), (2, .int 1)]) (st' := []) (w' := (wd_1512 z)) (cs' := 0) (ss' := 0) ?_ (fun _ _ => rfl)
  exact go_end 2 (fun _ _ => rfl)
theorem ro_2314 (z : pq_C) : pq_Ru 1 161 [.long 20, .long 0, .long 63] (wd_1512 z) (some (.int 1), (wd_1512 z)) := by
  refine ru_of (k := 0) (M := pm_161) rfl rfl ?_
  refine go_seg 8 (pc' := 13) (ls' := [(0, .long 20), (2, .long 0), (4, .long 63)]) (st' := []) (w' := (wd_1512 z)) (cs' := 0) (ss' := 0) ?_ (fun _ _ => rfl)
  exact go_end 3 (fun _ _ => rfl)
theorem ro_2315 (z : pq_C) : pq_Ru 2 160 [.int 20] (wd_1512 z) (some (.int 1), (wd_1512 z)) := by
  refine ru_of (k := 1) (M := pm_160) rfl rfl ?_
  refine go_seg 4 (pc' := 6) (ls' := [(0, .int 20)]) (st' := [.long 63, .long 0, .long 20]) (w' := (wd_1512 z)) (cs' := 0) (ss' := 0) ?_ (fun _ _ => rfl)
  refine go_cl (k := 1) (st' := [.int 1]) (cs' := 0) (ss' := 0) rfl rfl rfl rfl rfl rfl rfl (ro_2314 z) ?_
  exact go_end 1 (fun _ _ => rfl)
def wd_1513 (z : pq_C) : pq_W := ((wd_1512 z).set 91 (.inl (.int, 2858, .inl (upd (upd (upd (upd (upd (upd (upd (upd (upd (upd (upd (upd (upd (upd (upd (upd (upd (upd (upd (upd (upd (upd (upd (upd (upd (upd (upd (upd (upd (upd (upd (upd (upd (upd (upd (upd (upd (upd (upd (upd (upd (upd (upd (upd (upd (upd (upd (upd (upd (upd (upd (upd (upd (upd (upd (upd (upd (upd (upd (upd (upd (upd (upd (upd (upd (upd (upd (upd (upd (upd (upd (upd (upd (upd (upd (upd (upd (upd (upd (upd (upd (upd (fun _ => 0) 1 10) 10 (-1)) 11 (-1)) 12 (-1)) 13 (-1)) 14 (-1)) 15 (-1)) 16 (-1)) 17 (-1)) 18 (-1)) 19 (-1)) 20 (-1)) 21 (-1)) 22 (-1)) 23 (-1)) 24 (-1)) 25 (-1)) 26 (-1)) 27 (-1)) 28 (-1)) 29 (-1)) 30 (-1)) 31 (-1)) 32 (-1)) 33 (-1)) 34 (-1)) 35 (-1)) 36 (-1)) 37 (-1)) 38 (-1)) 39 (-1)) 40 (-1)) 41 (-1)) 42 (-1)) 43 (-1)) 44 (-1)) 45 (-1)) 46 (-1)) 47 (-1)) 48 (-1)) 49 (-1)) 50 (-1)) 51 (-1)) 52 (-1)) 53 (-1)) 54 (-1)) 55 (-1)) 56 (-1)) 57 (-1)) 58 (-1)) 59 (-1)) 60 (-1)) 61 (-1)) 62 (-1)) 63 (-1)) 64 (-1)) 65 (-1)) 66 (-1)) 67 (-1)) 68 (-1)) 69 (-1)) 70 (-1)) 71 (-1)) 72 (-1)) 73 (-1)) 139 1000) 140 100) 145 1000) 146 100) 151 1000) 152 100) 157 1000) 158 100) 163 1000) 164 100) 169 1000) 170 100) 175 1000) 176 100) 181 1000) 182 100) 94 1))))
theorem ro_2316 (z : pq_C) : pq_Ru 3 165 [.ref 90, .int 20, .int 1] (wd_1512 z) (some (.int 1), (wd_1513 z)) := by
  refine ru_of (k := 2) (M := pm_165) rfl rfl ?_
  refine go_seg 1 (pc' := 1) (ls' := [(0, .ref 90), (1, .int 20), (2, .int 1)]) (st' := [.int 20]) (w' := (wd_1512 z)) (cs' := 0) (ss' := 0) ?_ (fun _ _ => rfl)
  refine go_cl (k := 2) (st' := [.int 1]) (cs' := 0) (ss' := 0) rfl rfl rfl rfl rfl rfl rfl (ro_2315 z) ?_
  refine go_seg 8 (pc' := 24) (ls' := [(0, .ref 90), (1, .int 20), (2, .int 1)]) (st' := [.int 1, .int 0]) (w' := (wd_1512 z)) (cs' := 0) (ss' := 0) ?_ (fun _ _ => rfl)
  refine go_seg 8 (pc' := 42) (ls' := [(3, .int 1), (0, .ref 90), (1, .int 20), (2, .int 1)]) (st' := [.ref 90]) (w' := (wd_1512 z)) (cs' := 0) (ss' := 0) ?_ (fun _ _ => rfl)
  refine go_seg 8 (pc' := 58) (ls' := [(3, .int 1), (0, .ref 90), (1, .int 20), (2, .int 1)]) (st' := [.int 1, .int 94, .ref 91]) (w' := (wd_1512 z)) (cs' := 0) (ss' := 0) ?_ (fun _ _ => rfl)
  exact go_end 3 (fun _ _ => rfl)
theorem lf_2_2318 (a0 : Int32) (a2 : Int32) (a3 : Int32) (a4 : Int32) (a5 : Int32) (h0 : ¬ a2.toInt = 0) : ∃ w', pq_Go 20 pm_law 278 [(3, .int 0), (2, .ref 90), (1, .ref 1), (0, .ref 0)] [] (fw (sz a0 20 a2 a3 a4 a5)) 109 12668 (some (.int 1), w') := by
  refine ⟨(wd_1513 (sz a0 20 a2 a3 a4 a5)), ?_⟩
  refine go_seg 8 (pc' := 286) (ls' := [(3, .int 0), (2, .ref 90), (1, .ref 1), (0, .ref 0)]) (st' := [.int 0, .ref 0, .int 20, .ref 1]) (w' := (fw (sz a0 20 a2 a3 a4 a5))) (cs' := 109) (ss' := 12668) ?_ (fun _ _ => rfl)
  refine go_seg 3 (pc' := 289) (ls' := [(3, .int 0), (2, .ref 90), (1, .ref 1), (0, .ref 0)]) (st' := [.int a2, .int 20, .ref 1]) (w' := (fw (sz a0 20 a2 a3 a4 a5))) (cs' := 109) (ss' := 12668) ?_ (fun _ _ => rfl)
  refine go_if false rfl (br_eq_f (b := 0) rfl (by omega)) ?_
  refine go_seg 2 (pc' := 297) (ls' := [(3, .int 0), (2, .ref 90), (1, .ref 1), (0, .ref 0)]) (st' := [.int 1, .int 20, .ref 1]) (w' := (fw (sz a0 20 a2 a3 a4 a5))) (cs' := 109) (ss' := 12668) ?_ (fun _ _ => rfl)
  refine go_cl (k := 20) (st' := [.int 1]) (cs' := 109) (ss' := 12668) rfl rfl rfl rfl rfl rfl rfl (ro_2313 (sz a0 20 a2 a3 a4 a5)) ?_
  refine go_seg 8 (pc' := 308) (ls' := [(3, .int 0), (2, .ref 90), (1, .ref 1), (0, .ref 0)]) (st' := [.int 0, .ref 0, .int 20, .ref 90, .int 1]) (w' := (wd_1512 (sz a0 20 a2 a3 a4 a5))) (cs' := 109) (ss' := 12668) ?_ (fun _ _ => rfl)
  refine go_seg 3 (pc' := 311) (ls' := [(3, .int 0), (2, .ref 90), (1, .ref 1), (0, .ref 0)]) (st' := [.int a2, .int 20, .ref 90, .int 1]) (w' := (wd_1512 (sz a0 20 a2 a3 a4 a5))) (cs' := 109) (ss' := 12668) ?_ (fun _ _ => rfl)
  refine go_if false rfl (br_eq_f (b := 0) rfl (by omega)) ?_
  refine go_seg 2 (pc' := 319) (ls' := [(3, .int 0), (2, .ref 90), (1, .ref 1), (0, .ref 0)]) (st' := [.int 1, .int 20, .ref 90, .int 1]) (w' := (wd_1512 (sz a0 20 a2 a3 a4 a5))) (cs' := 109) (ss' := 12668) ?_ (fun _ _ => rfl)
  refine go_cl (k := 20) (st' := [.int 1, .int 1]) (cs' := 109) (ss' := 12668) rfl rfl rfl rfl rfl rfl rfl (ro_2316 (sz a0 20 a2 a3 a4 a5)) ?_
  refine go_cmp true rfl (br_self _) ?_
  exact law_tail (f := sc a0 20 a2 a3 a4 a5) rfl
def wd_1514 (z : pq_C) : pq_W := ((fw z).set 4 (.inl (.boolean, 64, .inl (upd (fun _ => 0) 21 1))))
theorem ro_2320 (z : pq_C) : pq_Ru 2 22 [.ref 1, .int 21, .int 1] (fw z) (some (.int 1), (wd_1514 z)) := by
  refine ru_of (k := 1) (M := pm_22) rfl rfl ?_
  refine go_seg 1 (pc' := 1) (ls' := [(0, .ref 1), (1, .int 21), (2, .int 1)]) (st' := [.int 21]) (w' := (fw z)) (cs' := 0) (ss' := 0) ?_ (fun _ _ => rfl)
  refine go_cl (k := 1) (st' := [.int 1]) (cs' := 0) (ss' := 0) rfl rfl rfl rfl rfl rfl rfl (ro_1361 z) ?_
  refine go_seg 8 (pc' := 24) (ls' := [(3, .int 0), (0, .ref 1), (1, .int 21), (2, .int 1)]) (st' := [.ref 1]) (w' := (fw z)) (cs' := 0) (ss' := 0) ?_ (fun _ _ => rfl)
  refine go_seg 8 (pc' := 42) (ls' := [(3, .int 0), (0, .ref 1), (1, .int 21), (2, .int 1)]) (st' := []) (w' := (wd_1514 z)) (cs' := 0) (ss' := 0) ?_ (fun _ _ => rfl)
  exact go_end 2 (fun _ _ => rfl)
theorem ro_2321 (z : pq_C) : pq_Ru 1 161 [.long 21, .long 0, .long 63] (wd_1514 z) (some (.int 1), (wd_1514 z)) := by
  refine ru_of (k := 0) (M := pm_161) rfl rfl ?_
  refine go_seg 8 (pc' := 13) (ls' := [(0, .long 21), (2, .long 0), (4, .long 63)]) (st' := []) (w' := (wd_1514 z)) (cs' := 0) (ss' := 0) ?_ (fun _ _ => rfl)
  exact go_end 3 (fun _ _ => rfl)
theorem ro_2322 (z : pq_C) : pq_Ru 2 160 [.int 21] (wd_1514 z) (some (.int 1), (wd_1514 z)) := by
  refine ru_of (k := 1) (M := pm_160) rfl rfl ?_
  refine go_seg 4 (pc' := 6) (ls' := [(0, .int 21)]) (st' := [.long 63, .long 0, .long 21]) (w' := (wd_1514 z)) (cs' := 0) (ss' := 0) ?_ (fun _ _ => rfl)
  refine go_cl (k := 1) (st' := [.int 1]) (cs' := 0) (ss' := 0) rfl rfl rfl rfl rfl rfl rfl (ro_2321 z) ?_
  exact go_end 1 (fun _ _ => rfl)
def wd_1515 (z : pq_C) : pq_W := ((wd_1514 z).set 91 (.inl (.int, 2858, .inl (upd (upd (upd (upd (upd (upd (upd (upd (upd (upd (upd (upd (upd (upd (upd (upd (upd (upd (upd (upd (upd (upd (upd (upd (upd (upd (upd (upd (upd (upd (upd (upd (upd (upd (upd (upd (upd (upd (upd (upd (upd (upd (upd (upd (upd (upd (upd (upd (upd (upd (upd (upd (upd (upd (upd (upd (upd (upd (upd (upd (upd (upd (upd (upd (upd (upd (upd (upd (upd (upd (upd (upd (upd (upd (upd (upd (upd (upd (upd (upd (upd (upd (fun _ => 0) 1 10) 10 (-1)) 11 (-1)) 12 (-1)) 13 (-1)) 14 (-1)) 15 (-1)) 16 (-1)) 17 (-1)) 18 (-1)) 19 (-1)) 20 (-1)) 21 (-1)) 22 (-1)) 23 (-1)) 24 (-1)) 25 (-1)) 26 (-1)) 27 (-1)) 28 (-1)) 29 (-1)) 30 (-1)) 31 (-1)) 32 (-1)) 33 (-1)) 34 (-1)) 35 (-1)) 36 (-1)) 37 (-1)) 38 (-1)) 39 (-1)) 40 (-1)) 41 (-1)) 42 (-1)) 43 (-1)) 44 (-1)) 45 (-1)) 46 (-1)) 47 (-1)) 48 (-1)) 49 (-1)) 50 (-1)) 51 (-1)) 52 (-1)) 53 (-1)) 54 (-1)) 55 (-1)) 56 (-1)) 57 (-1)) 58 (-1)) 59 (-1)) 60 (-1)) 61 (-1)) 62 (-1)) 63 (-1)) 64 (-1)) 65 (-1)) 66 (-1)) 67 (-1)) 68 (-1)) 69 (-1)) 70 (-1)) 71 (-1)) 72 (-1)) 73 (-1)) 139 1000) 140 100) 145 1000) 146 100) 151 1000) 152 100) 157 1000) 158 100) 163 1000) 164 100) 169 1000) 170 100) 175 1000) 176 100) 181 1000) 182 100) 95 1))))
theorem ro_2323 (z : pq_C) : pq_Ru 3 165 [.ref 90, .int 21, .int 1] (wd_1514 z) (some (.int 1), (wd_1515 z)) := by
  refine ru_of (k := 2) (M := pm_165) rfl rfl ?_
  refine go_seg 1 (pc' := 1) (ls' := [(0, .ref 90), (1, .int 21), (2, .int 1)]) (st' := [.int 21]) (w' := (wd_1514 z)) (cs' := 0) (ss' := 0) ?_ (fun _ _ => rfl)
  refine go_cl (k := 2) (st' := [.int 1]) (cs' := 0) (ss' := 0) rfl rfl rfl rfl rfl rfl rfl (ro_2322 z) ?_
  refine go_seg 8 (pc' := 24) (ls' := [(0, .ref 90), (1, .int 21), (2, .int 1)]) (st' := [.int 1, .int 0]) (w' := (wd_1514 z)) (cs' := 0) (ss' := 0) ?_ (fun _ _ => rfl)
  refine go_seg 8 (pc' := 42) (ls' := [(3, .int 1), (0, .ref 90), (1, .int 21), (2, .int 1)]) (st' := [.ref 90]) (w' := (wd_1514 z)) (cs' := 0) (ss' := 0) ?_ (fun _ _ => rfl)
  refine go_seg 8 (pc' := 58) (ls' := [(3, .int 1), (0, .ref 90), (1, .int 21), (2, .int 1)]) (st' := [.int 1, .int 95, .ref 91]) (w' := (wd_1514 z)) (cs' := 0) (ss' := 0) ?_ (fun _ _ => rfl)
  exact go_end 3 (fun _ _ => rfl)
theorem lf_2_2325 (a0 : Int32) (a2 : Int32) (a3 : Int32) (a4 : Int32) (a5 : Int32) (h0 : ¬ a2.toInt = 0) : ∃ w', pq_Go 20 pm_law 278 [(3, .int 0), (2, .ref 90), (1, .ref 1), (0, .ref 0)] [] (fw (sz a0 21 a2 a3 a4 a5)) 109 12668 (some (.int 1), w') := by
  refine ⟨(wd_1515 (sz a0 21 a2 a3 a4 a5)), ?_⟩
  refine go_seg 8 (pc' := 286) (ls' := [(3, .int 0), (2, .ref 90), (1, .ref 1), (0, .ref 0)]) (st' := [.int 0, .ref 0, .int 21, .ref 1]) (w' := (fw (sz a0 21 a2 a3 a4 a5))) (cs' := 109) (ss' := 12668) ?_ (fun _ _ => rfl)
  refine go_seg 3 (pc' := 289) (ls' := [(3, .int 0), (2, .ref 90), (1, .ref 1), (0, .ref 0)]) (st' := [.int a2, .int 21, .ref 1]) (w' := (fw (sz a0 21 a2 a3 a4 a5))) (cs' := 109) (ss' := 12668) ?_ (fun _ _ => rfl)
  refine go_if false rfl (br_eq_f (b := 0) rfl (by omega)) ?_
  refine go_seg 2 (pc' := 297) (ls' := [(3, .int 0), (2, .ref 90), (1, .ref 1), (0, .ref 0)]) (st' := [.int 1, .int 21, .ref 1]) (w' := (fw (sz a0 21 a2 a3 a4 a5))) (cs' := 109) (ss' := 12668) ?_ (fun _ _ => rfl)
  refine go_cl (k := 20) (st' := [.int 1]) (cs' := 109) (ss' := 12668) rfl rfl rfl rfl rfl rfl rfl (ro_2320 (sz a0 21 a2 a3 a4 a5)) ?_
  refine go_seg 8 (pc' := 308) (ls' := [(3, .int 0), (2, .ref 90), (1, .ref 1), (0, .ref 0)]) (st' := [.int 0, .ref 0, .int 21, .ref 90, .int 1]) (w' := (wd_1514 (sz a0 21 a2 a3 a4 a5))) (cs' := 109) (ss' := 12668) ?_ (fun _ _ => rfl)
  refine go_seg 3 (pc' := 311) (ls' := [(3, .int 0), (2, .ref 90), (1, .ref 1), (0, .ref 0)]) (st' := [.int a2, .int 21, .ref 90, .int 1]) (w' := (wd_1514 (sz a0 21 a2 a3 a4 a5))) (cs' := 109) (ss' := 12668) ?_ (fun _ _ => rfl)
  refine go_if false rfl (br_eq_f (b := 0) rfl (by omega)) ?_
  refine go_seg 2 (pc' := 319) (ls' := [(3, .int 0), (2, .ref 90), (1, .ref 1), (0, .ref 0)]) (st' := [.int 1, .int 21, .ref 90, .int 1]) (w' := (wd_1514 (sz a0 21 a2 a3 a4 a5))) (cs' := 109) (ss' := 12668) ?_ (fun _ _ => rfl)
  refine go_cl (k := 20) (st' := [.int 1, .int 1]) (cs' := 109) (ss' := 12668) rfl rfl rfl rfl rfl rfl rfl (ro_2323 (sz a0 21 a2 a3 a4 a5)) ?_
  refine go_cmp true rfl (br_self _) ?_
  exact law_tail (f := sc a0 21 a2 a3 a4 a5) rfl
def wd_1516 (z : pq_C) : pq_W := ((fw z).set 4 (.inl (.boolean, 64, .inl (upd (fun _ => 0) 22 1))))
theorem ro_2327 (z : pq_C) : pq_Ru 2 22 [.ref 1, .int 22, .int 1] (fw z) (some (.int 1), (wd_1516 z)) := by
  refine ru_of (k := 1) (M := pm_22) rfl rfl ?_
  refine go_seg 1 (pc' := 1) (ls' := [(0, .ref 1), (1, .int 22), (2, .int 1)]) (st' := [.int 22]) (w' := (fw z)) (cs' := 0) (ss' := 0) ?_ (fun _ _ => rfl)
  refine go_cl (k := 1) (st' := [.int 1]) (cs' := 0) (ss' := 0) rfl rfl rfl rfl rfl rfl rfl (ro_1369 z) ?_
  refine go_seg 8 (pc' := 24) (ls' := [(3, .int 0), (0, .ref 1), (1, .int 22), (2, .int 1)]) (st' := [.ref 1]) (w' := (fw z)) (cs' := 0) (ss' := 0) ?_ (fun _ _ => rfl)
  refine go_seg 8 (pc' := 42) (ls' := [(3, .int 0), (0, .ref 1), (1, .int 22), (2, .int 1)]) (st' := []) (w' := (wd_1516 z)) (cs' := 0) (ss' := 0) ?_ (fun _ _ => rfl)
  exact go_end 2 (fun _ _ => rfl)
theorem ro_2328 (z : pq_C) : pq_Ru 1 161 [.long 22, .long 0, .long 63] (wd_1516 z) (some (.int 1), (wd_1516 z)) := by
  refine ru_of (k := 0) (M := pm_161) rfl rfl ?_
  refine go_seg 8 (pc' := 13) (ls' := [(0, .long 22), (2, .long 0), (4, .long 63)]) (st' := []) (w' := (wd_1516 z)) (cs' := 0) (ss' := 0) ?_ (fun _ _ => rfl)
  exact go_end 3 (fun _ _ => rfl)
theorem ro_2329 (z : pq_C) : pq_Ru 2 160 [.int 22] (wd_1516 z) (some (.int 1), (wd_1516 z)) := by
  refine ru_of (k := 1) (M := pm_160) rfl rfl ?_
  refine go_seg 4 (pc' := 6) (ls' := [(0, .int 22)]) (st' := [.long 63, .long 0, .long 22]) (w' := (wd_1516 z)) (cs' := 0) (ss' := 0) ?_ (fun _ _ => rfl)
  refine go_cl (k := 1) (st' := [.int 1]) (cs' := 0) (ss' := 0) rfl rfl rfl rfl rfl rfl rfl (ro_2328 z) ?_
  exact go_end 1 (fun _ _ => rfl)
def wd_1517 (z : pq_C) : pq_W := ((wd_1516 z).set 91 (.inl (.int, 2858, .inl (upd (upd (upd (upd (upd (upd (upd (upd (upd (upd (upd (upd (upd (upd (upd (upd (upd (upd (upd (upd (upd (upd (upd (upd (upd (upd (upd (upd (upd (upd (upd (upd (upd (upd (upd (upd (upd (upd (upd (upd (upd (upd (upd (upd (upd (upd (upd (upd (upd (upd (upd (upd (upd (upd (upd (upd (upd (upd (upd (upd (upd (upd (upd (upd (upd (upd (upd (upd (upd (upd (upd (upd (upd (upd (upd (upd (upd (upd (upd (upd (upd (upd (fun _ => 0) 1 10) 10 (-1)) 11 (-1)) 12 (-1)) 13 (-1)) 14 (-1)) 15 (-1)) 16 (-1)) 17 (-1)) 18 (-1)) 19 (-1)) 20 (-1)) 21 (-1)) 22 (-1)) 23 (-1)) 24 (-1)) 25 (-1)) 26 (-1)) 27 (-1)) 28 (-1)) 29 (-1)) 30 (-1)) 31 (-1)) 32 (-1)) 33 (-1)) 34 (-1)) 35 (-1)) 36 (-1)) 37 (-1)) 38 (-1)) 39 (-1)) 40 (-1)) 41 (-1)) 42 (-1)) 43 (-1)) 44 (-1)) 45 (-1)) 46 (-1)) 47 (-1)) 48 (-1)) 49 (-1)) 50 (-1)) 51 (-1)) 52 (-1)) 53 (-1)) 54 (-1)) 55 (-1)) 56 (-1)) 57 (-1)) 58 (-1)) 59 (-1)) 60 (-1)) 61 (-1)) 62 (-1)) 63 (-1)) 64 (-1)) 65 (-1)) 66 (-1)) 67 (-1)) 68 (-1)) 69 (-1)) 70 (-1)) 71 (-1)) 72 (-1)) 73 (-1)) 139 1000) 140 100) 145 1000) 146 100) 151 1000) 152 100) 157 1000) 158 100) 163 1000) 164 100) 169 1000) 170 100) 175 1000) 176 100) 181 1000) 182 100) 96 1))))
theorem ro_2330 (z : pq_C) : pq_Ru 3 165 [.ref 90, .int 22, .int 1] (wd_1516 z) (some (.int 1), (wd_1517 z)) := by
  refine ru_of (k := 2) (M := pm_165) rfl rfl ?_
  refine go_seg 1 (pc' := 1) (ls' := [(0, .ref 90), (1, .int 22), (2, .int 1)]) (st' := [.int 22]) (w' := (wd_1516 z)) (cs' := 0) (ss' := 0) ?_ (fun _ _ => rfl)
  refine go_cl (k := 2) (st' := [.int 1]) (cs' := 0) (ss' := 0) rfl rfl rfl rfl rfl rfl rfl (ro_2329 z) ?_
  refine go_seg 8 (pc' := 24) (ls' := [(0, .ref 90), (1, .int 22), (2, .int 1)]) (st' := [.int 1, .int 0]) (w' := (wd_1516 z)) (cs' := 0) (ss' := 0) ?_ (fun _ _ => rfl)
  refine go_seg 8 (pc' := 42) (ls' := [(3, .int 1), (0, .ref 90), (1, .int 22), (2, .int 1)]) (st' := [.ref 90]) (w' := (wd_1516 z)) (cs' := 0) (ss' := 0) ?_ (fun _ _ => rfl)
  refine go_seg 8 (pc' := 58) (ls' := [(3, .int 1), (0, .ref 90), (1, .int 22), (2, .int 1)]) (st' := [.int 1, .int 96, .ref 91]) (w' := (wd_1516 z)) (cs' := 0) (ss' := 0) ?_ (fun _ _ => rfl)
  exact go_end 3 (fun _ _ => rfl)
theorem lf_2_2332 (a0 : Int32) (a2 : Int32) (a3 : Int32) (a4 : Int32) (a5 : Int32) (h0 : ¬ a2.toInt = 0) : ∃ w', pq_Go 20 pm_law 278 [(3, .int 0), (2, .ref 90), (1, .ref 1), (0, .ref 0)] [] (fw (sz a0 22 a2 a3 a4 a5)) 109 12668 (some (.int 1), w') := by
  refine ⟨(wd_1517 (sz a0 22 a2 a3 a4 a5)), ?_⟩
  refine go_seg 8 (pc' := 286) (ls' := [(3, .int 0), (2, .ref 90), (1, .ref 1), (0, .ref 0)]) (st' := [.int 0, .ref 0, .int 22, .ref 1]) (w' := (fw (sz a0 22 a2 a3 a4 a5))) (cs' := 109) (ss' := 12668) ?_ (fun _ _ => rfl)
  refine go_seg 3 (pc' := 289) (ls' := [(3, .int 0), (2, .ref 90), (1, .ref 1), (0, .ref 0)]) (st' := [.int a2, .int 22, .ref 1]) (w' := (fw (sz a0 22 a2 a3 a4 a5))) (cs' := 109) (ss' := 12668) ?_ (fun _ _ => rfl)
  refine go_if false rfl (br_eq_f (b := 0) rfl (by omega)) ?_
  refine go_seg 2 (pc' := 297) (ls' := [(3, .int 0), (2, .ref 90), (1, .ref 1), (0, .ref 0)]) (st' := [.int 1, .int 22, .ref 1]) (w' := (fw (sz a0 22 a2 a3 a4 a5))) (cs' := 109) (ss' := 12668) ?_ (fun _ _ => rfl)
  refine go_cl (k := 20) (st' := [.int 1]) (cs' := 109) (ss' := 12668) rfl rfl rfl rfl rfl rfl rfl (ro_2327 (sz a0 22 a2 a3 a4 a5)) ?_
  refine go_seg 8 (pc' := 308) (ls' := [(3, .int 0), (2, .ref 90), (1, .ref 1), (0, .ref 0)]) (st' := [.int 0, .ref 0, .int 22, .ref 90, .int 1]) (w' := (wd_1516 (sz a0 22 a2 a3 a4 a5))) (cs' := 109) (ss' := 12668) ?_ (fun _ _ => rfl)
  refine go_seg 3 (pc' := 311) (ls' := [(3, .int 0), (2, .ref 90), (1, .ref 1), (0, .ref 0)]) (st' := [.int a2, .int 22, .ref 90, .int 1]) (w' := (wd_1516 (sz a0 22 a2 a3 a4 a5))) (cs' := 109) (ss' := 12668) ?_ (fun _ _ => rfl)
  refine go_if false rfl (br_eq_f (b := 0) rfl (by omega)) ?_
  refine go_seg 2 (pc' := 319) (ls' := [(3, .int 0), (2, .ref 90), (1, .ref 1), (0, .ref 0)]) (st' := [.int 1, .int 22, .ref 90, .int 1]) (w' := (wd_1516 (sz a0 22 a2 a3 a4 a5))) (cs' := 109) (ss' := 12668) ?_ (fun _ _ => rfl)
  refine go_cl (k := 20) (st' := [.int 1, .int 1]) (cs' := 109) (ss' := 12668) rfl rfl rfl rfl rfl rfl rfl (ro_2330 (sz a0 22 a2 a3 a4 a5)) ?_
  refine go_cmp true rfl (br_self _) ?_
  exact law_tail (f := sc a0 22 a2 a3 a4 a5) rfl
def wd_1518 (z : pq_C) : pq_W := ((fw z).set 4 (.inl (.boolean, 64, .inl (upd (fun _ => 0) 23 1))))
theorem ro_2334 (z : pq_C) : pq_Ru 2 22 [.ref 1, .int 23, .int 1] (fw z) (some (.int 1), (wd_1518 z)) := by
  refine ru_of (k := 1) (M := pm_22) rfl rfl ?_
  refine go_seg 1 (pc' := 1) (ls' := [(0, .ref 1), (1, .int 23), (2, .int 1)]) (st' := [.int 23]) (w' := (fw z)) (cs' := 0) (ss' := 0) ?_ (fun _ _ => rfl)
  refine go_cl (k := 1) (st' := [.int 1]) (cs' := 0) (ss' := 0) rfl rfl rfl rfl rfl rfl rfl (ro_1377 z) ?_
  refine go_seg 8 (pc' := 24) (ls' := [(3, .int 0), (0, .ref 1), (1, .int 23), (2, .int 1)]) (st' := [.ref 1]) (w' := (fw z)) (cs' := 0) (ss' := 0) ?_ (fun _ _ => rfl)
  refine go_seg 8 (pc' := 42) (ls' := [(3, .int 0), (0, .ref 1), (1, .int 23), (2, .int 1)]) (st' := []) (w' := (wd_1518 z)) (cs' := 0) (ss' := 0) ?_ (fun _ _ => rfl)
  exact go_end 2 (fun _ _ => rfl)
theorem ro_2335 (z : pq_C) : pq_Ru 1 161 [.long 23, .long 0, .long 63] (wd_1518 z) (some (.int 1), (wd_1518 z)) := by
  refine ru_of (k := 0) (M := pm_161) rfl rfl ?_
  refine go_seg 8 (pc' := 13) (ls' := [(0, .long 23), (2, .long 0), (4, .long 63)]) (st' := []) (w' := (wd_1518 z)) (cs' := 0) (ss' := 0) ?_ (fun _ _ => rfl)
  exact go_end 3 (fun _ _ => rfl)
theorem ro_2336 (z : pq_C) : pq_Ru 2 160 [.int 23] (wd_1518 z) (some (.int 1), (wd_1518 z)) := by
  refine ru_of (k := 1) (M := pm_160) rfl rfl ?_
  refine go_seg 4 (pc' := 6) (ls' := [(0, .int 23)]) (st' := [.long 63, .long 0, .long 23]) (w' := (wd_1518 z)) (cs' := 0) (ss' := 0) ?_ (fun _ _ => rfl)
  refine go_cl (k := 1) (st' := [.int 1]) (cs' := 0) (ss' := 0) rfl rfl rfl rfl rfl rfl rfl (ro_2335 z) ?_
  exact go_end 1 (fun _ _ => rfl)
def wd_1519 (z : pq_C) : pq_W := ((wd_1518 z).set 91 (.inl (.int, 2858, .inl (upd (upd (upd (upd (upd (upd (upd (upd (upd (upd (upd (upd (upd (upd (upd (upd (upd (upd (upd (upd (upd (upd (upd (upd (upd (upd (upd (upd (upd (upd (upd (upd (upd (upd (upd (upd (upd (upd (upd (upd (upd (upd (upd (upd (upd (upd (upd (upd (upd (upd (upd (upd (upd (upd (upd (upd (upd (upd (upd (upd (upd (upd (upd (upd (upd (upd (upd (upd (upd (upd (upd (upd (upd (upd (upd (upd (upd (upd (upd (upd (upd (upd (fun _ => 0) 1 10) 10 (-1)) 11 (-1)) 12 (-1)) 13 (-1)) 14 (-1)) 15 (-1)) 16 (-1)) 17 (-1)) 18 (-1)) 19 (-1)) 20 (-1)) 21 (-1)) 22 (-1)) 23 (-1)) 24 (-1)) 25 (-1)) 26 (-1)) 27 (-1)) 28 (-1)) 29 (-1)) 30 (-1)) 31 (-1)) 32 (-1)) 33 (-1)) 34 (-1)) 35 (-1)) 36 (-1)) 37 (-1)) 38 (-1)) 39 (-1)) 40 (-1)) 41 (-1)) 42 (-1)) 43 (-1)) 44 (-1)) 45 (-1)) 46 (-1)) 47 (-1)) 48 (-1)) 49 (-1)) 50 (-1)) 51 (-1)) 52 (-1)) 53 (-1)) 54 (-1)) 55 (-1)) 56 (-1)) 57 (-1)) 58 (-1)) 59 (-1)) 60 (-1)) 61 (-1)) 62 (-1)) 63 (-1)) 64 (-1)) 65 (-1)) 66 (-1)) 67 (-1)) 68 (-1)) 69 (-1)) 70 (-1)) 71 (-1)) 72 (-1)) 73 (-1)) 139 1000) 140 100) 145 1000) 146 100) 151 1000) 152 100) 157 1000) 158 100) 163 1000) 164 100) 169 1000) 170 100) 175 1000) 176 100) 181 1000) 182 100) 97 1))))
theorem ro_2337 (z : pq_C) : pq_Ru 3 165 [.ref 90, .int 23, .int 1] (wd_1518 z) (some (.int 1), (wd_1519 z)) := by
  refine ru_of (k := 2) (M := pm_165) rfl rfl ?_
  refine go_seg 1 (pc' := 1) (ls' := [(0, .ref 90), (1, .int 23), (2, .int 1)]) (st' := [.int 23]) (w' := (wd_1518 z)) (cs' := 0) (ss' := 0) ?_ (fun _ _ => rfl)
  refine go_cl (k := 2) (st' := [.int 1]) (cs' := 0) (ss' := 0) rfl rfl rfl rfl rfl rfl rfl (ro_2336 z) ?_
  refine go_seg 8 (pc' := 24) (ls' := [(0, .ref 90), (1, .int 23), (2, .int 1)]) (st' := [.int 1, .int 0]) (w' := (wd_1518 z)) (cs' := 0) (ss' := 0) ?_ (fun _ _ => rfl)
  refine go_seg 8 (pc' := 42) (ls' := [(3, .int 1), (0, .ref 90), (1, .int 23), (2, .int 1)]) (st' := [.ref 90]) (w' := (wd_1518 z)) (cs' := 0) (ss' := 0) ?_ (fun _ _ => rfl)
  refine go_seg 8 (pc' := 58) (ls' := [(3, .int 1), (0, .ref 90), (1, .int 23), (2, .int 1)]) (st' := [.int 1, .int 97, .ref 91]) (w' := (wd_1518 z)) (cs' := 0) (ss' := 0) ?_ (fun _ _ => rfl)
  exact go_end 3 (fun _ _ => rfl)
theorem lf_2_2339 (a0 : Int32) (a2 : Int32) (a3 : Int32) (a4 : Int32) (a5 : Int32) (h0 : ¬ a2.toInt = 0) : ∃ w', pq_Go 20 pm_law 278 [(3, .int 0), (2, .ref 90), (1, .ref 1), (0, .ref 0)] [] (fw (sz a0 23 a2 a3 a4 a5)) 109 12668 (some (.int 1), w') := by
  refine ⟨(wd_1519 (sz a0 23 a2 a3 a4 a5)), ?_⟩
  refine go_seg 8 (pc' := 286) (ls' := [(3, .int 0), (2, .ref 90), (1, .ref 1), (0, .ref 0)]) (st' := [.int 0, .ref 0, .int 23, .ref 1]) (w' := (fw (sz a0 23 a2 a3 a4 a5))) (cs' := 109) (ss' := 12668) ?_ (fun _ _ => rfl)
  refine go_seg 3 (pc' := 289) (ls' := [(3, .int 0), (2, .ref 90), (1, .ref 1), (0, .ref 0)]) (st' := [.int a2, .int 23, .ref 1]) (w' := (fw (sz a0 23 a2 a3 a4 a5))) (cs' := 109) (ss' := 12668) ?_ (fun _ _ => rfl)
  refine go_if false rfl (br_eq_f (b := 0) rfl (by omega)) ?_
  refine go_seg 2 (pc' := 297) (ls' := [(3, .int 0), (2, .ref 90), (1, .ref 1), (0, .ref 0)]) (st' := [.int 1, .int 23, .ref 1]) (w' := (fw (sz a0 23 a2 a3 a4 a5))) (cs' := 109) (ss' := 12668) ?_ (fun _ _ => rfl)
  refine go_cl (k := 20) (st' := [.int 1]) (cs' := 109) (ss' := 12668) rfl rfl rfl rfl rfl rfl rfl (ro_2334 (sz a0 23 a2 a3 a4 a5)) ?_
  refine go_seg 8 (pc' := 308) (ls' := [(3, .int 0), (2, .ref 90), (1, .ref 1), (0, .ref 0)]) (st' := [.int 0, .ref 0, .int 23, .ref 90, .int 1]) (w' := (wd_1518 (sz a0 23 a2 a3 a4 a5))) (cs' := 109) (ss' := 12668) ?_ (fun _ _ => rfl)
  refine go_seg 3 (pc' := 311) (ls' := [(3, .int 0), (2, .ref 90), (1, .ref 1), (0, .ref 0)]) (st' := [.int a2, .int 23, .ref 90, .int 1]) (w' := (wd_1518 (sz a0 23 a2 a3 a4 a5))) (cs' := 109) (ss' := 12668) ?_ (fun _ _ => rfl)
  refine go_if false rfl (br_eq_f (b := 0) rfl (by omega)) ?_
  refine go_seg 2 (pc' := 319) (ls' := [(3, .int 0), (2, .ref 90), (1, .ref 1), (0, .ref 0)]) (st' := [.int 1, .int 23, .ref 90, .int 1]) (w' := (wd_1518 (sz a0 23 a2 a3 a4 a5))) (cs' := 109) (ss' := 12668) ?_ (fun _ _ => rfl)
  refine go_cl (k := 20) (st' := [.int 1, .int 1]) (cs' := 109) (ss' := 12668) rfl rfl rfl rfl rfl rfl rfl (ro_2337 (sz a0 23 a2 a3 a4 a5)) ?_
  refine go_cmp true rfl (br_self _) ?_
  exact law_tail (f := sc a0 23 a2 a3 a4 a5) rfl
def wd_1520 (z : pq_C) : pq_W := ((fw z).set 4 (.inl (.boolean, 64, .inl (upd (fun _ => 0) 24 1))))
theorem ro_2341 (z : pq_C) : pq_Ru 2 22 [.ref 1, .int 24, .int 1] (fw z) (some (.int 1), (wd_1520 z)) := by
  refine ru_of (k := 1) (M := pm_22) rfl rfl ?_
  refine go_seg 1 (pc' := 1) (ls' := [(0, .ref 1), (1, .int 24), (2, .int 1)]) (st' := [.int 24]) (w' := (fw z)) (cs' := 0) (ss' := 0) ?_ (fun _ _ => rfl)
  refine go_cl (k := 1) (st' := [.int 1]) (cs' := 0) (ss' := 0) rfl rfl rfl rfl rfl rfl rfl (ro_1385 z) ?_
  refine go_seg 8 (pc' := 24) (ls' := [(3, .int 0), (0, .ref 1), (1, .int 24), (2, .int 1)]) (st' := [.ref 1]) (w' := (fw z)) (cs' := 0) (ss' := 0) ?_ (fun _ _ => rfl)
  refine go_seg 8 (pc' := 42) (ls' := [(3, .int 0), (0, .ref 1), (1, .int 24), (2, .int 1)]) (st' := []) (w' := (wd_1520 z)) (cs' := 0) (ss' := 0) ?_ (fun _ _ => rfl)
  exact go_end 2 (fun _ _ => rfl)
theorem ro_2342 (z : pq_C) : pq_Ru 1 161 [.long 24, .long 0, .long 63] (wd_1520 z) (some (.int 1), (wd_1520 z)) := by
  refine ru_of (k := 0) (M := pm_161) rfl rfl ?_
  refine go_seg 8 (pc' := 13) (ls' := [(0, .long 24), (2, .long 0), (4, .long 63)]) (st' := []) (w' := (wd_1520 z)) (cs' := 0) (ss' := 0) ?_ (fun _ _ => rfl)
  exact go_end 3 (fun _ _ => rfl)
theorem ro_2343 (z : pq_C) : pq_Ru 2 160 [.int 24] (wd_1520 z) (some (.int 1), (wd_1520 z)) := by
  refine ru_of (k := 1) (M := pm_160) rfl rfl ?_
  refine go_seg 4 (pc' := 6) (ls' := [(0, .int 24)]) (st' := [.long 63, .long 0, .long 24]) (w' := (wd_1520 z)) (cs' := 0) (ss' := 0) ?_ (fun _ _ => rfl)
  refine go_cl (k := 1) (st' := [.int 1]) (cs' := 0) (ss' := 0) rfl rfl rfl rfl rfl rfl rfl (ro_2342 z) ?_
  exact go_end 1 (fun _ _ => rfl)
def wd_1521 (z : pq_C) : pq_W := ((wd_1520 z).set 91 (.inl (.int, 2858, .inl (upd (upd (upd (upd (upd (upd (upd (upd (upd (upd (upd (upd (upd (upd (upd (upd (upd (upd (upd (upd (upd (upd (upd (upd (upd (upd (upd (upd (upd (upd (upd (upd (upd (upd (upd (upd (upd (upd (upd (upd (upd (upd (upd (upd (upd (upd (upd (upd (upd (upd (upd (upd (upd (upd (upd (upd (upd (upd (upd (upd (upd (upd (upd (upd (upd (upd (upd (upd (upd (upd (upd (upd (upd (upd (upd (upd (upd (upd (upd (upd (upd (upd (fun _ => 0) 1 10) 10 (-1)) 11 (-1)) 12 (-1)) 13 (-1)) 14 (-1)) 15 (-1)) 16 (-1)) 17 (-1)) 18 (-1)) 19 (-1)) 20 (-1)) 21 (-1)) 22 (-1)) 23 (-1)) 24 (-1)) 25 (-1)) 26 (-1)) 27 (-1)) 28 (-1)) 29 (-1)) 30 (-1)) 31 (-1)) 32 (-1)) 33 (-1)) 34 (-1)) 35 (-1)) 36 (-1)) 37 (-1)) 38 (-1)) 39 (-1)) 40 (-1)) 41 (-1)) 42 (-1)) 43 (-1)) 44 (-1)) 45 (-1)) 46 (-1)) 47 (-1)) 48 (-1)) 49 (-1)) 50 (-1)) 51 (-1)) 52 (-1)) 53 (-1)) 54 (-1)) 55 (-1)) 56 (-1)) 57 (-1)) 58 (-1)) 59 (-1)) 60 (-1)) 61 (-1)) 62 (-1)) 63 (-1)) 64 (-1)) 65 (-1)) 66 (-1)) 67 (-1)) 68 (-1)) 69 (-1)) 70 (-1)) 71 (-1)) 72 (-1)) 73 (-1)) 139 1000) 140 100) 145 1000) 146 100) 151 1000) 152 100) 157 1000) 158 100) 163 1000) 164 100) 169 1000) 170 100) 175 1000) 176 100) 181 1000) 182 100) 98 1))))
theorem ro_2344 (z : pq_C) : pq_Ru 3 165 [.ref 90, .int 24, .int 1] (wd_1520 z) (some (.int 1), (wd_1521 z)) := by
  refine ru_of (k := 2) (M := pm_165) rfl rfl ?_
  refine go_seg 1 (pc' := 1) (ls' := [(0, .ref 90), (1, .int 24), (2, .int 1)]) (st' := [.int 24]) (w' := (wd_1520 z)) (cs' := 0) (ss' := 0) ?_ (fun _ _ => rfl)
  refine go_cl (k := 2) (st' := [.int 1]) (cs' := 0) (ss' := 0) rfl rfl rfl rfl rfl rfl rfl (ro_2343 z) ?_
  refine go_seg 8 (pc' := 24) (ls' := [(0, .ref 90), (1, .int 24), (2, .int 1)]) (st' := [.int 1, .int 0]) (w' := (wd_1520 z)) (cs' := 0) (ss' := 0) ?_ (fun _ _ => rfl)
  refine go_seg 8 (pc' := 42) (ls' := [(3, .int 1), (0, .ref 90), (1, .int 24), (2, .int 1)]) (st' := [.ref 90]) (w' := (wd_1520 z)) (cs' := 0) (ss' := 0) ?_ (fun _ _ => rfl)
  refine go_seg 8 (pc' := 58) (ls' := [(3, .int 1), (0, .ref 90), (1, .int 24), (2, .int 1)]) (st' := [.int 1, .int 98, .ref 91]) (w' := (wd_1520 z)) (cs' := 0) (ss' := 0) ?_ (fun _ _ => rfl)
  exact go_end 3 (fun _ _ => rfl)
theorem lf_2_2346 (a0 : Int32) (a2 : Int32) (a3 : Int32) (a4 : Int32) (a5 : Int32) (h0 : ¬ a2.toInt = 0) : ∃ w', pq_Go 20 pm_law 278 [(3, .int 0), (2, .ref 90), (1, .ref 1), (0, .ref 0)] [] (fw (sz a0 24 a2 a3 a4 a5)) 109 12668 (some (.int 1), w') := by
  refine ⟨(wd_1521 (sz a0 24 a2 a3 a4 a5)), ?_⟩
  refine go_seg 8 (pc' := 286) (ls' := [(3, .int 0), (2, .ref 90), (1, .ref 1), (0, .ref 0)]) (st' := [.int 0, .ref 0, .int 24, .ref 1]) (w' := (fw (sz a0 24 a2 a3 a4 a5))) (cs' := 109) (ss' := 12668) ?_ (fun _ _ => rfl)
  refine go_seg 3 (pc' := 289) (ls' := [(3, .int 0), (2, .ref 90), (1, .ref 1), (0, .ref 0)]) (st' := [.int a2, .int 24, .ref 1]) (w' := (fw (sz a0 24 a2 a3 a4 a5))) (cs' := 109) (ss' := 12668) ?_ (fun _ _ => rfl)
  refine go_if false rfl (br_eq_f (b := 0) rfl (by omega)) ?_
  refine go_seg 2 (pc' := 297) (ls' := [(3, .int 0), (2, .ref 90), (1, .ref 1), (0, .ref 0)]) (st' := [.int 1, .int 24, .ref 1]) (w' := (fw (sz a0 24 a2 a3 a4 a5))) (cs' := 109) (ss' := 12668) ?_ (fun _ _ => rfl)
  refine go_cl (k := 20) (st' := [.int 1]) (cs' := 109) (ss' := 12668) rfl rfl rfl rfl rfl rfl rfl (ro_2341 (sz a0 24 a2 a3 a4 a5)) ?_
  refine go_seg 8 (pc' := 308) (ls' := [(3, .int 0), (2, .ref 90), (1, .ref 1), (0, .ref 0)]) (st' := [.int 0, .ref 0, .int 24, .ref 90, .int 1]) (w' := (wd_1520 (sz a0 24 a2 a3 a4 a5))) (cs' := 109) (ss' := 12668) ?_ (fun _ _ => rfl)
  refine go_seg 3 (pc' := 311) (ls' := [(3, .int 0), (2, .ref 90), (1, .ref 1), (0, .ref 0)]) (st' := [.int a2, .int 24, .ref 90, .int 1]) (w' := (wd_1520 (sz a0 24 a2 a3 a4 a5))) (cs' := 109) (ss' := 12668) ?_ (fun _ _ => rfl)
  refine go_if false rfl (br_eq_f (b := 0) rfl (by omega)) ?_
  refine go_seg 2 (pc' := 319) (ls' := [(3, .int 0), (2, .ref 90), (1, .ref 1), (0, .ref 0)]) (st' := [.int 1, .int 24, .ref 90, .int 1]) (w' := (wd_1520 (sz a0 24 a2 a3 a4 a5))) (cs' := 109) (ss' := 12668) ?_ (fun _ _ => rfl)
  refine go_cl (k := 20) (st' := [.int 1, .int 1]) (cs' := 109) (ss' := 12668) rfl rfl rfl rfl rfl rfl rfl (ro_2344 (sz a0 24 a2 a3 a4 a5)) ?_
  refine go_cmp true rfl (br_self _) ?_
  exact law_tail (f := sc a0 24 a2 a3 a4 a5) rfl
def wd_1522 (z : pq_C) : pq_W := ((fw z).set 4 (.inl (.boolean, 64, .inl (upd (fun _ => 0) 25 1))))
theorem ro_2348 (z : pq_C) : pq_Ru 2 22 [.ref 1, .int 25, .int 1] (fw z) (some (.int 1), (wd_1522 z)) := by
  refine ru_of (k := 1) (M := pm_22) rfl rfl ?_
  refine go_seg 1 (pc' := 1) (ls' := [(0, .ref 1), (1, .int 25), (2, .int 1)]) (st' := [.int 25]) (w' := (fw z)) (cs' := 0) (ss' := 0) ?_ (fun _ _ => rfl)
  refine go_cl (k := 1) (st' := [.int 1]) (cs' := 0) (ss' := 0) rfl rfl rfl rfl rfl rfl rfl (ro_1393 z) ?_
  refine go_seg 8 (pc' := 24) (ls' := [(3, .int 0), (0, .ref 1), (1, .int 25), (2, .int 1)]) (st' := [.ref 1]) (w' := (fw z)) (cs' := 0) (ss' := 0) ?_ (fun _ _ => rfl)
  refine go_seg 8 (pc' := 42) (ls' := [(3, .int 0), (0, .ref 1), (1, .int 25), (2, .int 1)]) (st' := []) (w' := (wd_1522 z)) (cs' := 0) (ss' := 0) ?_ (fun _ _ => rfl)
  exact go_end 2 (fun _ _ => rfl)
theorem ro_2349 (z : pq_C) : pq_Ru 1 161 [.long 25, .long 0, .long 63] (wd_1522 z) (some (.int 1), (wd_1522 z)) := by
  refine ru_of (k := 0) (M := pm_161) rfl rfl ?_
  refine go_seg 8 (pc' := 13) (ls' := [(0, .long 25), (2, .long 0), (4, .long 63)]) (st' := []) (w' := (wd_1522 z)) (cs' := 0) (ss' := 0) ?_ (fun _ _ => rfl)
  exact go_end 3 (fun _ _ => rfl)
theorem ro_2350 (z : pq_C) : pq_Ru 2 160 [.int 25] (wd_1522 z) (some (.int 1), (wd_1522 z)) := by
  refine ru_of (k := 1) (M := pm_160) rfl rfl ?_
  refine go_seg 4 (pc' := 6) (ls' := [(0, .int 25)]) (st' := [.long 63, .long 0, .long 25]) (w' := (wd_1522 z)) (cs' := 0) (ss' := 0) ?_ (fun _ _ => rfl)
  refine go_cl (k := 1) (st' := [.int 1]) (cs' := 0) (ss' := 0) rfl rfl rfl rfl rfl rfl rfl (ro_2349 z) ?_
  exact go_end 1 (fun _ _ => rfl)
def wd_1523 (z : pq_C) : pq_W := ((wd_1522 z).set 91 (.inl (.int, 2858, .inl (upd (upd (upd (upd (upd (upd (upd (upd (upd (upd (upd (upd (upd (upd (upd (upd (upd (upd (upd (upd (upd (upd (upd (upd (upd (upd (upd (upd (upd (upd (upd (upd (upd (upd (upd (upd (upd (upd (upd (upd (upd (upd (upd (upd (upd (upd (upd (upd (upd (upd (upd (upd (upd (upd (upd (upd (upd (upd (upd (upd (upd (upd (upd (upd (upd (upd (upd (upd (upd (upd (upd (upd (upd (upd (upd (upd (upd (upd (upd (upd (upd (upd (fun _ => 0) 1 10) 10 (-1)) 11 (-1)) 12 (-1)) 13 (-1)) 14 (-1)) 15 (-1)) 16 (-1)) 17 (-1)) 18 (-1)) 19 (-1)) 20 (-1)) 21 (-1)) 22 (-1)) 23 (-1)) 24 (-1)) 25 (-1)) 26 (-1)) 27 (-1)) 28 (-1)) 29 (-1)) 30 (-1)) 31 (-1)) 32 (-1)) 33 (-1)) 34 (-1)) 35 (-1)) 36 (-1)) 37 (-1)) 38 (-1)) 39 (-1)) 40 (-1)) 41 (-1)) 42 (-1)) 43 (-1)) 44 (-1)) 45 (-1)) 46 (-1)) 47 (-1)) 48 (-1)) 49 (-1)) 50 (-1)) 51 (-1)) 52 (-1)) 53 (-1)) 54 (-1)) 55 (-1)) 56 (-1)) 57 (-1)) 58 (-1)) 59 (-1)) 60 (-1)) 61 (-1)) 62 (-1)) 63 (-1)) 64 (-1)) 65 (-1)) 66 (-1)) 67 (-1)) 68 (-1)) 69 (-1)) 70 (-1)) 71 (-1)) 72 (-1)) 73 (-1)) 139 1000) 140 100) 145 1000) 146 100) 151 1000) 152 100) 157 1000) 158 100) 163 1000) 164 100) 169 1000) 170 100) 175 1000) 176 100) 181 1000) 182 100) 99 1))))
theorem ro_2351 (z : pq_C) : pq_Ru 3 165 [.ref 90, .int 25, .int 1] (wd_1522 z) (some (.int 1), (wd_1523 z)) := by
  refine ru_of (k := 2) (M := pm_165) rfl rfl ?_
  refine go_seg 1 (pc' := 1) (ls' := [(0, .ref 90), (1, .int 25), (2, .int 1)]) (st' := [.int 25]) (w' := (wd_1522 z)) (cs' := 0) (ss' := 0) ?_ (fun _ _ => rfl)
  refine go_cl (k := 2) (st' := [.int 1]) (cs' := 0) (ss' := 0) rfl rfl rfl rfl rfl rfl rfl (ro_2350 z) ?_
  refine go_seg 8 (pc' := 24) (ls' := [(0, .ref 90), (1, .int 25), (2, .int 1)]) (st' := [.int 1, .int 0]) (w' := (wd_1522 z)) (cs' := 0) (ss' := 0) ?_ (fun _ _ => rfl)
  refine go_seg 8 (pc' := 42) (ls' := [(3, .int 1), (0, .ref 90), (1, .int 25), (2, .int 1)]) (st' := [.ref 90]) (w' := (wd_1522 z)) (cs' := 0) (ss' := 0) ?_ (fun _ _ => rfl)
  refine go_seg 8 (pc' := 58) (ls' := [(3, .int 1), (0, .ref 90), (1, .int 25), (2, .int 1)]) (st' := [.int 1, .int 99, .ref 91]) (w' := (wd_1522 z)) (cs' := 0) (ss' := 0) ?_ (fun _ _ => rfl)
  exact go_end 3 (fun _ _ => rfl)
theorem lf_2_2353 (a0 : Int32) (a2 : Int32) (a3 : Int32) (a4 : Int32) (a5 : Int32) (h0 : ¬ a2.toInt = 0) : ∃ w', pq_Go 20 pm_law 278 [(3, .int 0), (2, .ref 90), (1, .ref 1), (0, .ref 0)] [] (fw (sz a0 25 a2 a3 a4 a5)) 109 12668 (some (.int 1), w') := by
  refine ⟨(wd_1523 (sz a0 25 a2 a3 a4 a5)), ?_⟩
  refine go_seg 8 (pc' := 286) (ls' := [(3, .int 0), (2, .ref 90), (1, .ref 1), (0, .ref 0)]) (st' := [.int 0, .ref 0, .int 25, .ref 1]) (w' := (fw (sz a0 25 a2 a3 a4 a5))) (cs' := 109) (ss' := 12668) ?_ (fun _ _ => rfl)
  refine go_seg 3 (pc' := 289) (ls' := [(3, .int 0), (2, .ref 90), (1, .ref 1), (0, .ref 0)]) (st' := [.int a2, .int 25, .ref 1]) (w' := (fw (sz a0 25 a2 a3 a4 a5))) (cs' := 109) (ss' := 12668) ?_ (fun _ _ => rfl)
  refine go_if false rfl (br_eq_f (b := 0) rfl (by omega)) ?_
  refine go_seg 2 (pc' := 297) (ls' := [(3, .int 0), (2, .ref 90), (1, .ref 1), (0, .ref 0)]) (st' := [.int 1, .int 25, .ref 1]) (w' := (fw (sz a0 25 a2 a3 a4 a5))) (cs' := 109) (ss' := 12668) ?_ (fun _ _ => rfl)
  refine go_cl (k := 20) (st' := [.int 1]) (cs' := 109) (ss' := 12668) rfl rfl rfl rfl rfl rfl rfl (ro_2348 (sz a0 25 a2 a3 a4 a5)) ?_
  refine go_seg 8 (pc' := 308) (ls' := [(3, .int 0), (2, .ref 90), (1, .ref 1), (0, .ref 0)]) (st' := [.int 0, .ref 0, .int 25, .ref 90, .int 1]) (w' := (wd_1522 (sz a0 25 a2 a3 a4 a5))) (cs' := 109) (ss' := 12668) ?_ (fun _ _ => rfl)
  refine go_seg 3 (pc' := 311) (ls' := [(3, .int 0), (2, .ref 90), (1, .ref 1), (0, .ref 0)]) (st' := [.int a2, .int 25, .ref 90, .int 1]) (w' := (wd_1522 (sz a0 25 a2 a3 a4 a5))) (cs' := 109) (ss' := 12668) ?_ (fun _ _ => rfl)
  refine go_if false rfl (br_eq_f (b := 0) rfl (by omega)) ?_
  refine go_seg 2 (pc' := 319) (ls' := [(3, .int 0), (2, .ref 90), (1, .ref 1), (0, .ref 0)]) (st' := [.int 1, .int 25, .ref 90, .int 1]) (w' := (wd_1522 (sz a0 25 a2 a3 a4 a5))) (cs' := 109) (ss' := 12668) ?_ (fun _ _ => rfl)
  refine go_cl (k := 20) (st' := [.int 1, .int 1]) (cs' := 109) (ss' := 12668) rfl rfl rfl rfl rfl rfl rfl (ro_2351 (sz a0 25 a2 a3 a4 a5)) ?_
  refine go_cmp true rfl (br_self _) ?_
  exact law_tail (f := sc a0 25 a2 a3 a4 a5) rfl
def wd_1524 (z : pq_C) : pq_W := ((fw z).set 4 (.inl (.boolean, 64, .inl (upd (fun _ => 0) 26 1))))
theorem ro_2355 (z : pq_C) : pq_Ru 2 22 [.ref 1, .int 26, .int 1] (fw z) (some (.int 1), (wd_1524 z)) := by
  refine ru_of (k := 1) (M := pm_22) rfl rfl ?_
  refine go_seg 1 (pc' := 1) (ls' := [(0, .ref 1), (1, .int 26), (2, .int 1)]) (st' := [.int 26]) (w' := (fw z)) (cs' := 0) (ss' := 0) ?_ (fun _ _ => rfl)
  refine go_cl (k := 1) (st' := [.int 1]) (cs' := 0) (ss' := 0) rfl rfl rfl rfl rfl rfl rfl (ro_1401 z) ?_
  refine go_seg 8 (pc' := 24) (ls' := [(3, .int 0), (0, .ref 1), (1, .int 26), (2, .int 1)]) (st' := [.ref 1]) (w' := (fw z)) (cs' := 0) (ss' := 0) ?_ (fun _ _ => rfl)
  refine go_seg 8 (pc' := 42) (ls' := [(3, .int 0), (0, .ref 1), (1, .int 26), (2, .int 1)]) (st' := []) (w' := (wd_1524 z)) (cs' := 0) (ss' := 0) ?_ (fun _ _ => rfl)
  exact go_end 2 (fun _ _ => rfl)
theorem ro_2356 (z : pq_C) : pq_Ru 1 161 [.long 26, .long 0, .long 63] (wd_1524 z) (some (.int 1), (wd_1524 z)) := by
  refine ru_of (k := 0) (M := pm_161) rfl rfl ?_
  refine go_seg 8 (pc' := 13) (ls' := [(0, .long 26), (2, .long 0), (4, .long 63)]) (st' := []) (w' := (wd_1524 z)) (cs' := 0) (ss' := 0) ?_ (fun _ _ => rfl)
  exact go_end 3 (fun _ _ => rfl)
theorem ro_2357 (z : pq_C) : pq_Ru 2 160 [.int 26] (wd_1524 z) (some (.int 1), (wd_1524 z)) := by
  refine ru_of (k := 1) (M := pm_160) rfl rfl ?_
  refine go_seg 4 (pc' := 6) (ls' := [(0, .int 26)]) (st' := [.long 63, .long 0, .long 26]) (w' := (wd_1524 z)) (cs' := 0) (ss' := 0) ?_ (fun _ _ => rfl)
  refine go_cl (k := 1) (st' := [.int 1]) (cs' := 0) (ss' := 0) rfl rfl rfl rfl rfl rfl rfl (ro_2356 z) ?_
  exact go_end 1 (fun _ _ => rfl)
def wd_1525 (z : pq_C) : pq_W := ((wd_1524 z).set 91 (.inl (.int, 2858, .inl (upd (upd (upd (upd (upd (upd (upd (upd (upd (upd (upd (upd (upd (upd (upd (upd (upd (upd (upd (upd (upd (upd (upd (upd (upd (upd (upd (upd (upd (upd (upd (upd (upd (upd (upd (upd (upd (upd (upd (upd (upd (upd (upd (upd (upd (upd (upd (upd (upd (upd (upd (upd (upd (upd (upd (upd (upd (upd (upd (upd (upd (upd (upd (upd (upd (upd (upd (upd (upd (upd (upd (upd (upd (upd (upd (upd (upd (upd (upd (upd (upd (upd (fun _ => 0) 1 10) 10 (-1)) 11 (-1)) 12 (-1)) 13 (-1)) 14 (-1)) 15 (-1)) 16 (-1)) 17 (-1)) 18 (-1)) 19 (-1)) 20 (-1)) 21 (-1)) 22 (-1)) 23 (-1)) 24 (-1)) 25 (-1)) 26 (-1)) 27 (-1)) 28 (-1)) 29 (-1)) 30 (-1)) 31 (-1)) 32 (-1)) 33 (-1)) 34 (-1)) 35 (-1)) 36 (-1)) 37 (-1)) 38 (-1)) 39 (-1)) 40 (-1)) 41 (-1)) 42 (-1)) 43 (-1)) 44 (-1)) 45 (-1)) 46 (-1)) 47 (-1)) 48 (-1)) 49 (-1)) 50 (-1)) 51 (-1)) 52 (-1)) 53 (-1)) 54 (-1)) 55 (-1)) 56 (-1)) 57 (-1)) 58 (-1)) 59 (-1)) 60 (-1)) 61 (-1)) 62 (-1)) 63 (-1)) 64 (-1)) 65 (-1)) 66 (-1)) 67 (-1)) 68 (-1)) 69 (-1)) 70 (-1)) 71 (-1)) 72 (-1)) 73 (-1)) 139 1000) 140 100) 145 1000) 146 100) 151 1000) 152 100) 157 1000) 158 100) 163 1000) 164 100) 169 1000) 170 100) 175 1000) 176 100) 181 1000) 182 100) 100 1))))
theorem ro_2358 (z : pq_C) : pq_Ru 3 165 [.ref 90, .int 26, .int 1] (wd_1524 z) (some (.int 1), (wd_1525 z)) := by
  refine ru_of (k := 2) (M := pm_165) rfl rfl ?_
  refine go_seg 1 (pc' := 1) (ls' := [(0, .ref 90), (1, .int 26), (2, .int 1)]) (st' := [.int 26]) (w' := (wd_1524 z)) (cs' := 0) (ss' := 0) ?_ (fun _ _ => rfl)
  refine go_cl (k := 2) (st' := [.int 1]) (cs' := 0) (ss' := 0) rfl rfl rfl rfl rfl rfl rfl (ro_2357 z) ?_
  refine go_seg 8 (pc' := 24) (ls' := [(0, .ref 90), (1, .int 26), (2, .int 1)]) (st' := [.int 1, .int 0]) (w' := (wd_1524 z)) (cs' := 0) (ss' := 0) ?_ (fun _ _ => rfl)
  refine go_seg 8 (pc' := 42) (ls' := [(3, .int 1), (0, .ref 90), (1, .int 26), (2, .int 1)]) (st' := [.ref 90]) (w' := (wd_1524 z)) (cs' := 0) (ss' := 0) ?_ (fun _ _ => rfl)
  refine go_seg 8 (pc' := 58) (ls' := [(3, .int 1), (0, .ref 90), (1, .int 26), (2, .int 1)]) (st' := [.int 1, .int 100, .ref 91]) (w' := (wd_1524 z)) (cs' := 0) (ss' := 0) ?_ (fun _ _ => rfl)
  exact go_end 3 (fun _ _ => rfl)
theorem lf_2_2360 (a0 : Int32) (a2 : Int32) (a3 : Int32) (a4 : Int32) (a5 : Int32) (h0 : ¬ a2.toInt = 0) : ∃ w', pq_Go 20 pm_law 278 [(3, .int 0), (2, .ref 90), (1, .ref 1), (0, .ref 0)] [] (fw (sz a0 26 a2 a3 a4 a5)) 109 12668 (some (.int 1), w') := by
  refine ⟨(wd_1525 (sz a0 26 a2 a3 a4 a5)), ?_⟩
  refine go_seg 8 (pc' := 286) (ls' := [(3, .int 0), (2, .ref 90), (1, .ref 1), (0, .ref 0)]) (st' := [.int 0, .ref 0, .int 26, .ref 1]) (w' := (fw (sz a0 26 a2 a3 a4 a5))) (cs' := 109) (ss' := 12668) ?_ (fun _ _ => rfl)
  refine go_seg 3 (pc' := 289) (ls' := [(3, .int 0), (2, .ref 90), (1, .ref 1), (0, .ref 0)]) (st' := [.int a2, .int 26, .ref 1]) (w' := (fw (sz a0 26 a2 a3 a4 a5))) (cs' := 109) (ss' := 12668) ?_ (fun _ _ => rfl)
  refine go_if false rfl (br_eq_f (b := 0) rfl (by omega)) ?_
  refine go_seg 2 (pc' := 297) (ls' := [(3, .int 0), (2, .ref 90), (1, .ref 1), (0, .ref 0)]) (st' := [.int 1, .int 26, .ref 1]) (w' := (fw (sz a0 26 a2 a3 a4 a5))) (cs' := 109) (ss' := 12668) ?_ (fun _ _ => rfl)
  refine go_cl (k := 20) (st' := [.int 1]) (cs' := 109) (ss' := 12668) rfl rfl rfl rfl rfl rfl rfl (ro_2355 (sz a0 26 a2 a3 a4 a5)) ?_
  refine go_seg 8 (pc' := 308) (ls' := [(3, .int 0), (2, .ref 90), (1, .ref 1), (0, .ref 0)]) (st' := [.int 0, .ref 0, .int 26, .ref 90, .int 1]) (w' := (wd_1524 (sz a0 26 a2 a3 a4 a5))) (cs' := 109) (ss' := 12668) ?_ (fun _ _ => rfl)
  refine go_seg 3 (pc' := 311) (ls' := [(3, .int 0), (2, .ref 90), (1, .ref 1), (0, .ref 0)]) (st' := [.int a2, .int 26, .ref 90, .int 1]) (w' := (wd_1524 (sz a0 26 a2 a3 a4 a5))) (cs' := 109) (ss' := 12668) ?_ (fun _ _ => rfl)
  refine go_if false rfl (br_eq_f (b := 0) rfl (by omega)) ?_
  refine go_seg 2 (pc' := 319) (ls' := [(3, .int 0), (2, .ref 90), (1, .ref 1), (0, .ref 0)]) (st' := [.int 1, .int 26, .ref 90, .int 1]) (w' := (wd_1524 (sz a0 26 a2 a3 a4 a5))) (cs' := 109) (ss' := 12668) ?_ (fun _ _ => rfl)
  refine go_cl (k := 20) (st' := [.int 1, .int 1]) (cs' := 109) (ss' := 12668) rfl rfl rfl rfl rfl rfl rfl (ro_2358 (sz a0 26 a2 a3 a4 a5)) ?_
  refine go_cmp true rfl (br_self _) ?_
  exact law_tail (f := sc a0 26 a2 a3 a4 a5) rfl
def wd_1526 (z : pq_C) : pq_W := ((fw z).set 4 (.inl (.boolean, 64, .inl (upd (fun _ => 0) 27 1))))
theorem ro_2362 (z : pq_C) : pq_Ru 2 22 [.ref 1, .int 27, .int 1] (fw z) (some (.int 1), (wd_1526 z)) := by
  refine ru_of (k := 1) (M := pm_22) rfl rfl ?_
  refine go_seg 1 (pc' := 1) (ls' := [(0, .ref 1), (1, .int 27), (2, .int 1)]) (st' := [.int 27]) (w' := (fw z)) (cs' := 0) (ss' := 0) ?_ (fun _ _ => rfl)
  refine go_cl (k := 1) (st' := [.int 1]) (cs' := 0) (ss' := 0) rfl rfl rfl rfl rfl rfl rfl (ro_1409 z) ?_
  refine go_seg 8 (pc' := 24) (ls' := [(3, .int 0), (0, .ref 1), (1, .int 27), (2, .int 1)]) (st' := [.ref 1]) (w' := (fw z)) (cs' := 0) (ss' := 0) ?_ (fun _ _ => rfl)
  refine go_seg 8 (pc' := 42) (ls' := [(3, .int 0), (0, .ref 1), (1, .int 27), (2, .int 1)]) (st' := []) (w' := (wd_1526 z)) (cs' := 0) (ss' := 0) ?_ (fun _ _ => rfl)
  exact go_end 2 (fun _ _ => rfl)
theorem ro_2363 (z : pq_C) : pq_Ru 1 161 [.long 27, .long 0, .long 63] (wd_1526 z) (some (.int 1), (wd_1526 z)) := by
  refine ru_of (k := 0) (M := pm_161) rfl rfl ?_
  refine go_seg 8 (pc' := 13) (ls' := [(0, .long 27), (2, .long 0), (4, .long 63)]) (st' := []) (w' := (wd_1526 z)) (cs' := 0) (ss' := 0) ?_ (fun _ _ => rfl)
  exact go_end 3 (fun _ _ => rfl)
theorem ro_2364 (z : pq_C) : pq_Ru 2 160 [.int 27] (wd_1526 z) (some (.int 1), (wd_1526 z)) := by
  refine ru_of (k := 1) (M := pm_160) rfl rfl ?_
  refine go_seg 4 (pc' := 6) (ls' := [(0, .int 27)]) (st' := [.long 63, .long 0, .long 27]) (w' := (wd_1526 z)) (cs' := 0) (ss' := 0) ?_ (fun _ _ => rfl)
  refine go_cl (k := 1) (st' := [.int 1]) (cs' := 0) (ss' := 0) rfl rfl rfl rfl rfl rfl rfl (ro_2363 z) ?_
  exact go_end 1 (fun _ _ => rfl)
def wd_1527 (z : pq_C) : pq_W := ((wd_1526 z).set 91 (.inl (.int, 2858, .inl (upd (upd (upd (upd (upd (upd (upd (upd (upd (upd (upd (upd (upd (upd (upd (upd (upd (upd (upd (upd (upd (upd (upd (upd (upd (upd (upd (upd (upd (upd (upd (upd (upd (upd (upd (upd (upd (upd (upd (upd (upd (upd (upd (upd (upd (upd (upd (upd (upd (upd (upd (upd (upd (upd (upd (upd (upd (upd (upd (upd (upd (upd (upd (upd (upd (upd (upd (upd (upd (upd (upd (upd (upd (upd (upd (upd (upd (upd (upd (upd (upd (upd (fun _ => 0) 1 10) 10 (-1)) 11 (-1)) 12 (-1)) 13 (-1)) 14 (-1)) 15 (-1)) 16 (-1)) 17 (-1)) 18 (-1)) 19 (-1)) 20 (-1)) 21 (-1)) 22 (-1)) 23 (-1)) 24 (-1)) 25 (-1)) 26 (-1)) 27 (-1)) 28 (-1)) 29 (-1)) 30 (-1)) 31 (-1)) 32 (-1)) 33 (-1)) 34 (-1)) 35 (-1)) 36 (-1)) 37 (-1)) 38 (-1)) 39 (-1)) 40 (-1)) 41 (-1)) 42 (-1)) 43 (-1)) 44 (-1)) 45 (-1)) 46 (-1)) 47 (-1)) 48 (-1)) 49 (-1)) 50 (-1)) 51 (-1)) 52 (-1)) 53 (-1)) 54 (-1)) 55 (-1)) 56 (-1)) 57 (-1)) 58 (-1)) 59 (-1)) 60 (-1)) 61 (-1)) 62 (-1)) 63 (-1)) 64 (-1)) 65 (-1)) 66 (-1)) 67 (-1)) 68 (-1)) 69 (-1)) 70 (-1)) 71 (-1)) 72 (-1)) 73 (-1)) 139 1000) 140 100) 145 1000) 146 100) 151 1000) 152 100) 157 1000) 158 100) 163 1000) 164 100) 169 1000) 170 100) 175 1000) 176 100) 181 1000) 182 100) 101 1))))
theorem ro_2365 (z : pq_C) : pq_Ru 3 165 [.ref 90, .int 27, .int 1] (wd_1526 z) (some (.int 1), (wd_1527 z)) := by
  refine ru_of (k := 2) (M := pm_165) rfl rfl ?_
  refine go_seg 1 (pc' := 1) (ls' := [(0, .ref 90), (1, .int 27), (2, .int 1)]) (st' := [.int 27]) (w' := (wd_1526 z)) (cs' := 0) (ss' := 0) ?_ (fun _ _ => rfl)
  refine go_cl (k := 2) (st' := [.int 1]) (cs' := 0) (ss' := 0) rfl rfl rfl rfl rfl rfl rfl (ro_2364 z) ?_
  refine go_seg 8 (pc' := 24) (ls' := [(0, .ref 90), (1, .int 27), (2, .int 1)]) (st' := [.int 1, .int 0]) (w' := (wd_1526 z)) (cs' := 0) (ss' := 0) ?_ (fun _ _ => rfl)
  refine go_seg 8 (pc' := 42) (ls' := [(3, .int 1), (0, .ref 90), (1, .int 27), (2, .int 1)]) (st' := [.ref 90]) (w' := (wd_1526 z)) (cs' := 0) (ss' := 0) ?_ (fun _ _ => rfl)
  refine go_seg 8 (pc' := 58) (ls' := [(3, .int 1), (0, .ref 90), (1, .int 27), (2, .int 1)]) (st' := [.int 1, .int 101, .ref 91]) (w' := (wd_1526 z)) (cs' := 0) (ss' := 0) ?_ (fun _ _ => rfl)
  exact go_end 3 (fun _ _ => rfl)
theorem lf_2_2367 (a0 : Int32) (a2 : Int32) (a3 : Int32) (a4 : Int32) (a5 : Int32) (h0 : ¬ a2.toInt = 0) : ∃ w', pq_Go 20 pm_law 278 [(3, .int 0), (2, .ref 90), (1, .ref 1), (0, .ref 0)] [] (fw (sz a0 27 a2 a3 a4 a5)) 109 12668 (some (.int 1), w') := by
  refine ⟨(wd_1527 (sz a0 27 a2 a3 a4 a5)), ?_⟩
  refine go_seg 8 (pc' := 286) (ls' := [(3, .int 0), (2, .ref 90), (1, .ref 1), (0, .ref 0)]) (st' := [.int 0, .ref 0, .int 27, .ref 1]) (w' := (fw (sz a0 27 a2 a3 a4 a5))) (cs' := 109) (ss' := 12668) ?_ (fun _ _ => rfl)
  refine go_seg 3 (pc' := 289) (ls' := [(3, .int 0), (2, .ref 90), (1, .ref 1), (0, .ref 0)]) (st' := [.int a2, .int 27, .ref 1]) (w' := (fw (sz a0 27 a2 a3 a4 a5))) (cs' := 109) (ss' := 12668) ?_ (fun _ _ => rfl)
  refine go_if false rfl (br_eq_f (b := 0) rfl (by omega)) ?_
  refine go_seg 2 (pc' := 297) (ls' := [(3, .int 0), (2, .ref 90), (1, .ref 1), (0, .ref 0)]) (st' := [.int 1, .int 27, .ref 1]) (w' := (fw (sz a0 27 a2 a3 a4 a5))) (cs' := 109) (ss' := 12668) ?_ (fun _ _ => rfl)
  refine go_cl (k := 20) (st' := [.int 1]) (cs' := 109) (ss' := 12668) rfl rfl rfl rfl rfl rfl rfl (ro_2362 (sz a0 27 a2 a3 a4 a5)) ?_
  refine go_seg 8 (pc' := 308) (ls' := [(3, .int 0), (2, .ref 90), (1, .ref 1), (0, .ref 0)]) (st' := [.int 0, .ref 0, .int 27, .ref 90, .int 1]) (w' := (wd_1526 (sz a0 27 a2 a3 a4 a5))) (cs' := 109) (ss' := 12668) ?_ (fun _ _ => rfl)
  refine go_seg 3 (pc' := 311) (ls' := [(3, .int 0), (2, .ref 90), (1, .ref 1), (0, .ref 0)]) (st' := [.int a2, .int 27, .ref 90, .int 1]) (w' := (wd_1526 (sz a0 27 a2 a3 a4 a5))) (cs' := 109) (ss' := 12668) ?_ (fun _ _ => rfl)
  refine go_if false rfl (br_eq_f (b := 0) rfl (by omega)) ?_
  refine go_seg 2 (pc' := 319) (ls' := [(3, .int 0), (2, .ref 90), (1, .ref 1), (0, .ref 0)]) (st' := [.int 1, .int 27, .ref 90, .int 1]) (w' := (wd_1526 (sz a0 27 a2 a3 a4 a5))) (cs' := 109) (ss' := 12668) ?_ (fun _ _ => rfl)
  refine go_cl (k := 20) (st' := [.int 1, .int 1]) (cs' := 109) (ss' := 12668) rfl rfl rfl rfl rfl rfl rfl (ro_2365 (sz a0 27 a2 a3 a4 a5)) ?_
  refine go_cmp true rfl (br_self _) ?_
  exact law_tail (f := sc a0 27 a2 a3 a4 a5) rfl
def wd_1528 (z : pq_C) : pq_W := ((fw z).set 4 (.inl (.boolean, 64, .inl (upd (fun _ => 0) 28 1))))
theorem ro_2369 (z : pq_C) : pq_Ru 2 22 [.ref 1, .int 28, .int 1] (fw z) (some (.int 1), (wd_1528 z)) := by
  refine ru_of (k := 1) (M := pm_22) rfl rfl ?_
  refine go_seg 1 (pc' := 1) (ls' := [(0, .ref 1), (1, .int 28), (2, .int 1)]) (st' := [.int 28]) (w' := (fw z)) (cs' := 0) (ss' := 0) ?_ (fun _ _ => rfl)
  refine go_cl (k := 1) (st' := [.int 1]) (cs' := 0) (ss' := 0) rfl rfl rfl rfl rfl rfl rfl (ro_1417 z) ?_
  refine go_seg 8 (pc' := 24) (ls' := [(3, .int 0), (0, .ref 1), (1, .int 28), (2, .int 1)]) (st' := [.ref 1]) (w' := (fw z)) (cs' := 0) (ss' := 0) ?_ (fun _ _ => rfl)
  refine go_seg 8 (pc' := 42) (ls' := [(3, .int 0), (0, .ref 1), (1, .int 28), (2, .int 1)]) (st' := []) (w' := (wd_1528 z)) (cs' := 0) (ss' := 0) ?_ (fun _ _ => rfl)
  exact go_end 2 (fun _ _ => rfl)
theorem ro_2370 (z : pq_C) : pq_Ru 1 161 [.long 28, .long 0, .long 63] (wd_1528 z) (some (.int 1), (wd_1528 z)) := by
  refine ru_of (k := 0) (M := pm_161) rfl rfl ?_
  refine go_seg 8 (pc' := 13) (ls' := [(0, .long 28), (2, .long 0), (4, .long 63)]) (st' := []) (w' := (wd_1528 z)) (cs' := 0) (ss' := 0) ?_ (fun _ _ => rfl)
  exact go_end 3 (fun _ _ => rfl)
theorem ro_2371 (z : pq_C) : pq_Ru 2 160 [.int 28] (wd_1528 z) (some (.int 1), (wd_1528 z)) := by
  refine ru_of (k := 1) (M := pm_160) rfl rfl ?_
  refine go_seg 4 (pc' := 6) (ls' := [(0, .int 28)]) (st' := [.long 63, .long 0, .long 28]) (w' := (wd_1528 z)) (cs' := 0) (ss' := 0) ?_ (fun _ _ => rfl)
  refine go_cl (k := 1) (st' := [.int 1]) (cs' := 0) (ss' := 0) rfl rfl rfl rfl rfl rfl rfl (ro_2370 z) ?_
  exact go_end 1 (fun _ _ => rfl)
def wd_1529 (z : pq_C) : pq_W := ((wd_1528 z).set 91 (.inl (.int, 2858, .inl (upd (upd (upd (upd (upd (upd (upd (upd (upd (upd (upd (upd (upd (upd (upd (upd (upd (upd (upd (upd (upd (upd (upd (upd (upd (upd (upd (upd (upd (upd (upd (upd (upd (upd (upd (upd (upd (upd (upd (upd (upd (upd (upd (upd (upd (upd (upd (upd (upd (upd (upd (upd (upd (upd (upd (upd (upd (upd (upd (upd (upd (upd (upd (upd (upd (upd (upd (upd (upd (upd (upd (upd (upd (upd (upd (upd (upd (upd (upd (upd (upd (upd (fun _ => 0) 1 10) 10 (-1)) 11 (-1)) 12 (-1)) 13 (-1)) 14 (-1)) 15 (-1)) 16 (-1)) 17 (-1)) 18 (-1)) 19 (-1)) 20 (-1)) 21 (-1)) 22 (-1)) 23 (-1)) 24 (-1)) 25 (-1)) 26 (-1)) 27 (-1)) 28 (-1)) 29 (-1)) 30 (-1)) 31 (-1)) 32 (-1)) 33 (-1)) 34 (-1)) 35 (-1)) 36 (-1)) 37 (-1)) 38 (-1)) 39 (-1)) 40 (-1)) 41 (-1)) 42 (-1)) 43 (-1)) 44 (-1)) 45 (-1)) 46 (-1)) 47 (-1)) 48 (-1)) 49 (-1)) 50 (-1)) 51 (-1)) 52 (-1)) 53 (-1)) 54 (-1)) 55 (-1)) 56 (-1)) 57 (-1)) 58 (-1)) 59 (-1)) 60 (-1)) 61 (-1)) 62 (-1)) 63 (-1)) 64 (-1)) 65 (-1)) 66 (-1)) 67 (-1)) 68 (-1)) 69 (-1)) 70 (-1)) 71 (-1)) 72 (-1)) 73 (-1)) 139 1000) 140 100) 145 1000) 146 100) 151 1000) 152 100) 157 1000) 158 100) 163 1000) 164 100) 169 1000) 170 100) 175 1000) 176 100) 181 1000) 182 100) 102 1))))
theorem ro_2372 (z : pq_C) : pq_Ru 3 165 [.ref 90, .int 28, .int 1] (wd_1528 z) (some (.int 1), (wd_1529 z)) := by
  refine ru_of (k := 2) (M := pm_165) rfl rfl ?_
  refine go_seg 1 (pc' := 1) (ls' := [(0, .ref 90), (1, .int 28), (2, .int 1)]) (st' := [.int 28]) (w' := (wd_1528 z)) (cs' := 0) (ss' := 0) ?_ (fun _ _ => rfl)
  refine go_cl (k := 2) (st' := [.int 1]) (cs' := 0) (ss' := 0) rfl rfl rfl rfl rfl rfl rfl (ro_2371 z) ?_
  refine go_seg 8 (pc' := 24) (ls' := [(0, .ref 90), (1, .int 28), (2, .int 1)]) (st' := [.int 1, .int 0]) (w' := (wd_1528 z)) (cs' := 0) (ss' := 0) ?_ (fun _ _ => rfl)
  refine go_seg 8 (pc' := 42) (ls' := [(3, .int 1), (0, .ref 90), (1, .int 28), (2, .int 1)]) (st' := [.ref 90]) (w' := (wd_1528 z)) (cs' := 0) (ss' := 0) ?_ (fun _ _ => rfl)
  refine go_seg 8 (pc' := 58) (ls' := [(3, .int 1), (0, .ref 90), (1, .int 28), (2, .int 1)]) (st' := [.int 1, .int 102, .ref 91]) (w' := (wd_1528 z)) (cs' := 0) (ss' := 0) ?_ (fun _ _ => rfl)
  exact go_end 3 (fun _ _ => rfl)
theorem lf_2_2374 (a0 : Int32) (a2 : Int32) (a3 : Int32) (a4 : Int32) (a5 : Int32) (h0 : ¬ a2.toInt = 0) : ∃ w', pq_Go 20 pm_law 278 [(3, .int 0), (2, .ref 90), (1, .ref 1), (0, .ref 0)] [] (fw (sz a0 28 a2 a3 a4 a5)) 109 12668 (some (.int 1), w') := by
  refine ⟨(wd_1529 (sz a0 28 a2 a3 a4 a5)), ?_⟩
  refine go_seg 8 (pc' := 286) (ls' := [(3, .int 0), (2, .ref 90), (1, .ref 1), (0, .ref 0)]) (st' := [.int 0, .ref 0, .int 28, .ref 1]) (w' := (fw (sz a0 28 a2 a3 a4 a5))) (cs' := 109) (ss' := 12668) ?_ (fun _ _ => rfl)
  refine go_seg 3 (pc' := 289) (ls' := [(3, .int 0), (2, .ref 90), (1, .ref 1), (0, .ref 0)]) (st' := [.int a2, .int 28, .ref 1]) (w' := (fw (sz a0 28 a2 a3 a4 a5))) (cs' := 109) (ss' := 12668) ?_ (fun _ _ => rfl)
  refine go_if false rfl (br_eq_f (b := 0) rfl (by omega)) ?_
  refine go_seg 2 (pc' := 297) (ls' := [(3, .int 0), (2, .ref 90), (1, .ref 1), (0, .ref 0)]) (st' := [.int 1, .int 28, .ref 1]) (w' := (fw (sz a0 28 a2 a3 a4 a5))) (cs' := 109) (ss' := 12668) ?_ (fun _ _ => rfl)
  refine go_cl (k := 20) (st' := [.int 1]) (cs' := 109) (ss' := 12668) rfl rfl rfl rfl rfl rfl rfl (ro_2369 (sz a0 28 a2 a3 a4 a5)) ?_
  refine go_seg 8 (pc' := 308) (ls' := [(3, .int 0), (2, .ref 90), (1, .ref 1), (0, .ref 0)]) (st' := [.int 0, .ref 0, .int 28, .ref 90, .int 1]) (w' := (wd_1528 (sz a0 28 a2 a3 a4 a5))) (cs' := 109) (ss' := 12668) ?_ (fun _ _ => rfl)
  refine go_seg 3 (pc' := 311) (ls' := [(3, .int 0), (2, .ref 90), (1, .ref 1), (0, .ref 0)]) (st' := [.int a2, .int 28, .ref 90, .int 1]) (w' := (wd_1528 (sz a0 28 a2 a3 a4 a5))) (cs' := 109) (ss' := 12668) ?_ (fun _ _ => rfl)
  refine go_if false rfl (br_eq_f (b := 0) rfl (by omega)) ?_
  refine go_seg 2 (pc' := 319) (ls' := [(3, .int 0), (2, .ref 90), (1, .ref 1), (0, .ref 0)]) (st' := [.int 1, .int 28, .ref 90, .int 1]) (w' := (wd_1528 (sz a0 28 a2 a3 a4 a5))) (cs' := 109) (ss' := 12668) ?_ (fun _ _ => rfl)
  refine go_cl (k := 20) (st' := [.int 1, .int 1]) (cs' := 109) (ss' := 12668) rfl rfl rfl rfl rfl rfl rfl (ro_2372 (sz a0 28 a2 a3 a4 a5)) ?_
  refine go_cmp true rfl (br_self _) ?_
  exact law_tail (f := sc a0 28 a2 a3 a4 a5) rfl
def wd_1530 (z : pq_C) : pq_W := ((fw z).set 4 (.inl (.boolean, 64, .inl (upd (fun _ => 0) 29 1))))
theorem ro_2376 (z : pq_C) : pq_Ru 2 22 [.ref 1, .int 29, .int 1] (fw z) (some (.int 1), (wd_1530 z)) := by
  refine ru_of (k := 1) (M := pm_22) rfl rfl ?_
  refine go_seg 1 (pc' := 1) (ls' := [(0, .ref 1), (1, .int 29), (2, .int 1)]) (st' := [.int 29]) (w' := (fw z)) (cs' := 0) (ss' := 0) ?_ (fun _ _ => rfl)
  refine go_cl (k := 1) (st' := [.int 1]) (cs' := 0) (ss' := 0) rfl rfl rfl rfl rfl rfl rfl (ro_1425 z) ?_
  refine go_seg 8 (pc' := 24) (ls' := [(3, .int 0), (0, .ref 1), (1, .int 29), (2, .int 1)]) (st' := [.ref 1]) (w' := (fw z)) (cs' := 0) (ss' := 0) ?_ (fun _ _ => rfl)
  refine go_seg 8 (pc' := 42) (ls' := [(3, .int 0), (0, .ref 1), (1, .int 29), (2, .int 1)]) (st' := []) (w' := (wd_1530 z)) (cs' := 0) (ss' := 0) ?_ (fun _ _ => rfl)
  exact go_end 2 (fun _ _ => rfl)
theorem ro_2377 (z : pq_C) : pq_Ru 1 161 [.long 29, .long 0, .long 63] (wd_1530 z) (some (.int 1), (wd_1530 z)) := by
  refine ru_of (k := 0) (M := pm_161) rfl rfl ?_
  refine go_seg 8 (pc' := 13) (ls' := [(0, .long 29), (2, .long 0), (4, .long 63)]) (st' := []) (w' := (wd_1530 z)) (cs' := 0) (ss' := 0) ?_ (fun _ _ => rfl)
  exact go_end 3 (fun _ _ => rfl)
theorem ro_2378 (z : pq_C) : pq_Ru 2 160 [.int 29] (wd_1530 z) (some (.int 1), (wd_1530 z)) := by
  refine ru_of (k := 1) (M := pm_160) rfl rfl ?_
  refine go_seg 4 (pc' := 6) (ls' := [(0, .int 29)]) (st' := [.long 63, .long 0, .long 29]) (w' := (wd_1530 z)) (cs' := 0) (ss' := 0) ?_ (fun _ _ => rfl)
  refine go_cl (k := 1) (st' := [.int 1]) (cs' := 0) (ss' := 0) rfl rfl rfl rfl rfl rfl rfl (ro_2377 z) ?_
  exact go_end 1 (fun _ _ => rfl)
def wd_1531 (z : pq_C) : pq_W := ((wd_1530 z).set 91 (.inl (.int, 2858, .inl (upd (upd (upd (upd (upd (upd (upd (upd (upd (upd (upd (upd (upd (upd (upd (upd (upd (upd (upd (upd (upd (upd (upd (upd (upd (upd (upd (upd (upd (upd (upd (upd (upd (upd (upd (upd (upd (upd (upd (upd (upd (upd (upd (upd (upd (upd (upd (upd (upd (upd (upd (upd (upd (upd (upd (upd (upd (upd (upd (upd (upd (upd (upd (upd (upd (upd (upd (upd (upd (upd (upd (upd (upd (upd (upd (upd (upd (upd (upd (upd (upd (upd (fun _ => 0) 1 10) 10 (-1)) 11 (-1)) 12 (-1)) 13 (-1)) 14 (-1)) 15 (-1)) 16 (-1)) 17 (-1)) 18 (-1)) 19 (-1)) 20 (-1)) 21 (-1)) 22 (-1)) 23 (-1)) 24 (-1)) 25 (-1)) 26 (-1)) 27 (-1)) 28 (-1)) 29 (-1)) 30 (-1)) 31 (-1)) 32 (-1)) 33 (-1)) 34 (-1)) 35 (-1)) 36 (-1)) 37 (-1)) 38 (-1)) 39 (-1)) 40 (-1)) 41 (-1)) 42 (-1)) 43 (-1)) 44 (-1)) 45 (-1)) 46 (-1)) 47 (-1)) 48 (-1)) 49 (-1)) 50 (-1)) 51 (-1)) 52 (-1)) 53 (-1)) 54 (-1)) 55 (-1)) 56 (-1)) 57 (-1)) 58 (-1)) 59 (-1)) 60 (-1)) 61 (-1)) 62 (-1)) 63 (-1)) 64 (-1)) 65 (-1)) 66 (-1)) 67 (-1)) 68 (-1)) 69 (-1)) 70 (-1)) 71 (-1)) 72 (-1)) 73 (-1)) 139 1000) 140 100) 145 1000) 146 100) 151 1000) 152 100) 157 1000) 158 100) 163 1000) 164 100) 169 1000) 170 100) 175 1000) 176 100) 181 1000) 182 100) 103 1))))
theorem ro_2379 (z : pq_C) : pq_Ru 3 165 [.ref 90, .int 29, .int 1] (wd_1530 z) (some (.int 1), (wd_1531 z)) := by
  refine ru_of (k := 2) (M := pm_165) rfl rfl ?_
  refine go_seg 1 (pc' := 1) (ls' := [(0, .ref 90), (1, .int 29), (2, .int 1)]) (st' := [.int 29]) (w' := (wd_1530 z)) (cs' := 0) (ss' := 0) ?_ (fun _ _ => rfl)
  refine go_cl (k := 2) (st' := [.int 1]) (cs' := 0) (ss' := 0) rfl rfl rfl rfl rfl rfl rfl (ro_2378 z) ?_
  refine go_seg 8 (pc' := 24) (ls' := [(0, .ref 90), (1, .int 29), (2, .int 1)]) (st' := [.int 1, .int 0]) (w' := (wd_1530 z)) (cs' := 0) (ss' := 0) ?_ (fun _ _ => rfl)
  refine go_seg 8 (pc' := 42) (ls' := [(3, .int 1), (0, .ref 90), (1, .int 29), (2, .int 1)]) (st' := [.ref 90]) (w' := (wd_1530 z)) (cs' := 0) (ss' := 0) ?_ (fun _ _ => rfl)
  refine go_seg 8 (pc' := 58) (ls' := [(3, .int 1), (0, .ref 90), (1, .int 29), (2, .int 1)]) (st' := [.int 1, .int 103, .ref 91]) (w' := (wd_1530 z)) (cs' := 0) (ss' := 0) ?_ (fun _ _ => rfl)
  exact go_end 3 (fun _ _ => rfl)
theorem lf_2_2381 (a0 : Int32) (a2 : Int32) (a3 : Int32) (a4 : Int32) (a5 : Int32) (h0 : ¬ a2.toInt = 0) : ∃ w', pq_Go 20 pm_law 278 [(3, .int 0), (2, .ref 90), (1, .ref 1), (0, .ref 0)] [] (fw (sz a0 29 a2 a3 a4 a5)) 109 12668 (some (.int 1), w') := by
  refine ⟨(wd_1531 (sz a0 29 a2 a3 a4 a5)), ?_⟩
  refine go_seg 8 (pc' := 286) (ls' := [(3, .int 0), (2, .ref 90), (1, .ref 1), (0, .ref 0)]) (st' := [.int 0, .ref 0, .int 29, .ref 1]) (w' := (fw (sz a0 29 a2 a3 a4 a5))) (cs' := 109) (ss' := 12668) ?_ (fun _ _ => rfl)
  refine go_seg 3 (pc' := 289) (ls' := [(3, .int 0), (2, .ref 90), (1, .ref 1), (0, .ref 0)]) (st' := [.int a2, .int 29, .ref 1]) (w' := (fw (sz a0 29 a2 a3 a4 a5))) (cs' := 109) (ss' := 12668) ?_ (fun _ _ => rfl)
  refine go_if false rfl (br_eq_f (b := 0) rfl (by omega)) ?_
  refine go_seg 2 (pc' := 297) (ls' := [(3, .int 0), (2, .ref 90), (1, .ref 1), (0, .ref 0)]) (st' := [.int 1, .int 29, .ref 1]) (w' := (fw (sz a0 29 a2 a3 a4 a5))) (cs' := 109) (ss' := 12668) ?_ (fun _ _ => rfl)
  refine go_cl (k := 20) (st' := [.int 1]) (cs' := 109) (ss' := 12668) rfl rfl rfl rfl rfl rfl rfl (ro_2376 (sz a0 29 a2 a3 a4 a5)) ?_
  refine go_seg 8 (pc' := 308) (ls' := [(3, .int 0), (2, .ref 90), (1, .ref 1), (0, .ref 0)]) (st' := [.int 0, .ref 0, .int 29, .ref 90, .int 1]) (w' := (wd_1530 (sz a0 29 a2 a3 a4 a5))) (cs' := 109) (ss' := 12668) ?_ (fun _ _ => rfl)
  refine go_seg 3 (pc' := 311) (ls' := [(3, .int 0), (2, .ref 90), (1, .ref 1), (0, .ref 0)]) (st' := [.int a2, .int 29, .ref 90, .int 1]) (w' := (wd_1530 (sz a0 29 a2 a3 a4 a5))) (cs' := 109) (ss' := 12668) ?_ (fun _ _ => rfl)
  refine go_if false rfl (br_eq_f (b := 0) rfl (by omega)) ?_
  refine go_seg 2 (pc' := 319) (ls' := [(3, .int 0), (2, .ref 90), (1, .ref 1), (0, .ref 0)]) (st' := [.int 1, .int 29, .ref 90, .int 1]) (w' := (wd_1530 (sz a0 29 a2 a3 a4 a5))) (cs' := 109) (ss' := 12668) ?_ (fun _ _ => rfl)
  refine go_cl (k := 20) (st' := [.int 1, .int 1]) (cs' := 109) (ss' := 12668) rfl rfl rfl rfl rfl rfl rfl (ro_2379 (sz a0 29 a2 a3 a4 a5)) ?_
  refine go_cmp true rfl (br_self _) ?_
  exact law_tail (f := sc a0 29 a2 a3 a4 a5) rfl
def wd_1532 (z : pq_C) : pq_W := ((fw z).set 4 (.inl (.boolean, 64, .inl (upd (fun _ => 0) 30 1))))
theorem ro_2383 (z : pq_C) : pq_Ru 2 22 [.ref 1, .int 30, .int 1] (fw z) (some (.int 1), (wd_1532 z)) := by
  refine ru_of (k := 1) (M := pm_22) rfl rfl ?_
  refine go_seg 1 (pc' := 1) (ls' := [(0, .ref 1), (1, .int 30), (2, .int 1)]) (st' := [.int 30]) (w' := (fw z)) (cs' := 0) (ss' := 0) ?_ (fun _ _ => rfl)
  refine go_cl (k := 1) (st' := [.int 1]) (cs' := 0) (ss' := 0) rfl rfl rfl rfl rfl rfl rfl (ro_1433 z) ?_
  refine go_seg 8 (pc' := 24) (ls' := [(3, .int 0), (0, .ref 1), (1, .int 30), (2, .int 1)]) (st' := [.ref 1]) (w' := (fw z)) (cs' := 0) (ss' := 0) ?_ (fun _ _ => rfl)
  refine go_seg 8 (pc' := 42) (ls' := [(3, .int 0), (0, .ref 1), (1, .int 30), (2, .int 1)]) (st' := []) (w' := (wd_1532 z)) (cs' := 0) (ss' := 0) ?_ (fun _ _ => rfl)
  exact go_end 2 (fun _ _ => rfl)
theorem ro_2384 (z : pq_C) : pq_Ru 1 161 [.long 30, .long 0, .long 63] (wd_1532 z) (some (.int 1), (wd_1532 z)) := by
  refine ru_of (k := 0) (M := pm_161) rfl rfl ?_
  refine go_seg 8 (pc' := 13) (ls' := [(0, .long 30), (2, .long 0), (4, .long 63)]) (st' := []) (w' := (wd_1532 z)) (cs' := 0) (ss' := 0) ?_ (fun _ _ => rfl)
  exact go_end 3 (fun _ _ => rfl)
theorem ro_2385 (z : pq_C) : pq_Ru 2 160 [.int 30] (wd_1532 z) (some (.int 1), (wd_1532 z)) := by
  refine ru_of (k := 1) (M := pm_160) rfl rfl ?_
  refine go_seg 4 (pc' := 6) (ls' := [(0, .int 30)]) (st' := [.long 63, .long 0, .long 30]) (w' := (wd_1532 z)) (cs' := 0) (ss' := 0) ?_ (fun _ _ => rfl)
  refine go_cl (k := 1) (st' := [.int 1]) (cs' := 0) (ss' := 0) rfl rfl rfl rfl rfl rfl rfl (ro_2384 z) ?_
  exact go_end 1 (fun _ _ => rfl)
def wd_1533 (z : pq_C) : pq_W := ((wd_1532 z).set 91 (.inl (.int, 2858, .inl (upd (upd (upd (upd (upd (upd (upd (upd (upd (upd (upd (upd (upd (upd (upd (upd (upd (upd (upd (upd (upd (upd (upd (upd (upd (upd (upd (upd (upd (upd (upd (upd (upd (upd (upd (upd (upd (upd (upd (upd (upd (upd (upd (upd (upd (upd (upd (upd (upd (upd (upd (upd (upd (upd (upd (upd (upd (upd (upd (upd (upd (upd (upd (upd (upd (upd (upd (upd (upd (upd (upd (upd (upd (upd (upd (upd (upd (upd (upd (upd (upd (upd (fun _ => 0) 1 10) 10 (-1)) 11 (-1)) 12 (-1)) 13 (-1)) 14 (-1)) 15 (-1)) 16 (-1)) 17 (-1)) 18 (-1)) 19 (-1)) 20 (-1)) 21 (-1)) 22 (-1)) 23 (-1)) 24 (-1)) 25 (-1)) 26 (-1)) 27 (-1)) 28 (-1)) 29 (-1)) 30 (-1)) 31 (-1)) 32 (-1)) 33 (-1)) 34 (-1)) 35 (-1)) 36 (-1)) 37 (-1)) 38 (-1)) 39 (-1)) 40 (-1)) 41 (-1)) 42 (-1)) 43 (-1)) 44 (-1)) 45 (-1)) 46 (-1)) 47 (-1)) 48 (-1)) 49 (-1)) 50 (-1)) 51 (-1)) 52 (-1)) 53 (-1)) 54 (-1)) 55 (-1)) 56 (-1)) 57 (-1)) 58 (-1)) 59 (-1)) 60 (-1)) 61 (-1)) 62 (-1)) 63 (-1)) 64 (-1)) 65 (-1)) 66 (-1)) 67 (-1)) 68 (-1)) 69 (-1)) 70 (-1)) 71 (-1)) 72 (-1)) 73 (-1)) 139 1000) 140 100) 145 1000) 146 100) 151 1000) 152 100) 157 1000) 158 100) 163 1000) 164 100) 169 1000) 170 100) 175 1000) 176 100) 181 1000) 182 100) 104 1))))
theorem ro_2386 (z : pq_C) : pq_Ru 3 165 [.ref 90, .int 30, .int 1] (wd_1532 z) (some (.int 1), (wd_1533 z)) := by
  refine ru_of (k := 2) (M := pm_165) rfl rfl ?_
  refine go_seg 1 (pc' := 1) (ls' := [(0, .ref 90), (1, .int 30), (2, .int 1)]) (st' := [.int 30]) (w' := (wd_1532 z)) (cs' := 0) (ss' := 0) ?_ (fun _ _ => rfl)
  refine go_cl (k := 2) (st' := [.int 1]) (cs' := 0) (ss' := 0) rfl rfl rfl rfl rfl rfl rfl (ro_2385 z) ?_
  refine go_seg 8 (pc' := 24) (ls' := [(0, .ref 90), (1, .int 30), (2, .int 1)]) (st' := [.int 1, .int 0]) (w' := (wd_1532 z)) (cs' := 0) (ss' := 0) ?_ (fun _ _ => rfl)
  refine go_seg 8 (pc' := 42) (ls' := [(3, .int 1), (0, .ref 90), (1, .int 30), (2, .int 1)]) (st' := [.ref 90]) (w' := (wd_1532 z)) (cs' := 0) (ss' := 0) ?_ (fun _ _ => rfl)
  refine go_seg 8 (pc' := 58) (ls' := [(3, .int 1), (0, .ref 90), (1, .int 30), (2, .int 1)]) (st' := [.int 1, .int 104, .ref 91]) (w' := (wd_1532 z)) (cs' := 0) (ss' := 0) ?_ (fun _ _ => rfl)
  exact go_end 3 (fun _ _ => rfl)
theorem lf_2_2388 (a0 : Int32) (a2 : Int32) (a3 : Int32) (a4 : Int32) (a5 : Int32) (h0 : ¬ a2.toInt = 0) : ∃ w', pq_Go 20 pm_law 278 [(3, .int 0), (2, .ref 90), (1, .ref 1), (0, .ref 0)] [] (fw (sz a0 30 a2 a3 a4 a5)) 109 12668 (some (.int 1), w') := by
  refine ⟨(wd_1533 (sz a0 30 a2 a3 a4 a5)), ?_⟩
  refine go_seg 8 (pc' := 286) (ls' := [(3, .int 0), (2, .ref 90), (1, .ref 1), (0, .ref 0)]) (st' := [.int 0, .ref 0, .int 30, .ref 1]) (w' := (fw (sz a0 30 a2 a3 a4 a5))) (cs' := 109) (ss' := 12668) ?_ (fun _ _ => rfl)
  refine go_seg 3 (pc' := 289) (ls' := [(3, .int 0), (2, .ref 90), (1, .ref 1), (0, .ref 0)]) (st' := [.int a2, .int 30, .ref 1]) (w' := (fw (sz a0 30 a2 a3 a4 a5))) (cs' := 109) (ss' := 12668) ?_ (fun _ _ => rfl)
  refine go_if false rfl (br_eq_f (b := 0) rfl (by omega)) ?_
  refine go_seg 2 (pc' := 297) (ls' := [(3, .int 0), (2, .ref 90), (1, .ref 1), (0, .ref 0)]) (st' := [.int 1, .int 30, .ref 1]) (w' := (fw (sz a0 30 a2 a3 a4 a5))) (cs' := 109) (ss' := 12668) ?_ (fun _ _ => rfl)
  refine go_cl (k := 20) (st' := [.int 1]) (cs' := 109) (ss' := 12668) rfl rfl rfl rfl rfl rfl rfl (ro_2383 (sz a0 30 a2 a3 a4 a5)) ?_
  refine go_seg 8 (pc' := 308) (ls' := [(3, .int 0), (2, .ref 90), (1, .ref 1), (0, .ref 0)]) (st' := [.int 0, .ref 0, .int 30, .ref 90, .int 1]) (w' := (wd_1532 (sz a0 30 a2 a3 a4 a5))) (cs' := 109) (ss' := 12668) ?_ (fun _ _ => rfl)
  refine go_seg 3 (pc' := 311) (ls' := [(3, .int 0), (2, .ref 90), (1, .ref 1), (0, .ref 0)]) (st' := [.int a2, .int 30, .ref 90, .int 1]) (w' := (wd_1532 (sz a0 30 a2 a3 a4 a5))) (cs' := 109) (ss' := 12668) ?_ (fun _ _ => rfl)
  refine go_if false rfl (br_eq_f (b := 0) rfl (by omega)) ?_
  refine go_seg 2 (pc' := 319) (ls' := [(3, .int 0), (2, .ref 90), (1, .ref 1), (0, .ref 0)]) (st' := [.int 1, .int 30, .ref 90, .int 1]) (w' := (wd_1532 (sz a0 30 a2 a3 a4 a5))) (cs' := 109) (ss' := 12668) ?_ (fun _ _ => rfl)
  refine go_cl (k := 20) (st' := [.int 1, .int 1]) (cs' := 109) (ss' := 12668) rfl rfl rfl rfl rfl rfl rfl (ro_2386 (sz a0 30 a2 a3 a4 a5)) ?_
  refine go_cmp true rfl (br_self _) ?_
  exact law_tail (f := sc a0 30 a2 a3 a4 a5) rfl
def wd_1534 (z : pq_C) : pq_W := ((fw z).set 4 (.inl (.boolean, 64, .inl (upd (fun _ => 0) 31 1))))
theorem ro_2390 (z : pq_C) : pq_Ru 2 22 [.ref 1, .int 31, .int 1] (fw z) (some (.int 1), (wd_1534 z)) := by
  refine ru_of (k := 1) (M := pm_22) rfl rfl ?_
  refine go_seg 1 (pc' := 1) (ls' := [(0, .ref 1), (1, .int 31), (2, .int 1)]) (st' := [.int 31]) (w' := (fw z)) (cs' := 0) (ss' := 0) ?_ (fun _ _ => rfl)
  refine go_cl (k := 1) (st' := [.int 1]) (cs' := 0) (ss' := 0) rfl rfl rfl rfl rfl rfl rfl (ro_1441 z) ?_
  refine go_seg 8 (pc' := 24) (ls' := [(3, .int 0), (0, .ref 1), (1, .int 31), (2, .int 1)]) (st' := [.ref 1]) (w' := (fw z)) (cs' := 0) (ss' := 0) ?_ (fun _ _ => rfl)
  refine go_seg 8 (pc' := 42) (ls' := [(3, .int 0), (0, .ref 1), (1, .int 31), (2, .int 1)]) (st' := []) (w' := (wd_1534 z)) (cs' := 0) (ss' := 0) ?_ (fun _ _ => rfl)
  exact go_end 2 (fun _ _ => rfl)
theorem ro_2391 (z : pq_C) : pq_Ru 1 161 [.long 31, .long 0, .long 63] (wd_1534 z) (some (.int 1), (wd_1534 z)) := by
  refine ru_of (k := 0) (M := pm_161) rfl rfl ?_
  refine go_seg 8 (pc' := 13) (ls' := [(0, .long 31), (2, .long 0), (4, .long 63)]) (st' := []) (w' := (wd_1534 z)) (cs' := 0) (ss' := 0) ?_ (fun _ _ => rfl)
  exact go_end 3 (fun _ _ => rfl)
theorem ro_2392 (z : pq_C) : pq_Ru 2 160 [.int 31] (wd_1534 z) (some (.int 1), (wd_1534 z)) := by
  refine ru_of (k := 1) (M := pm_160) rfl rfl ?_
  refine go_seg 4 (pc' := 6) (ls' := [(0, .int 31)]) (st' := [.long 63, .long 0, .long 31]) (w' := (wd_1534 z)) (cs' := 0) (ss' := 0) ?_ (fun _ _ => rfl)
  refine go_cl (k := 1) (st' := [.int 1]) (cs' := 0) (ss' := 0) rfl rfl rfl rfl rfl rfl rfl (ro_2391 z) ?_
  exact go_end 1 (fun _ _ => rfl)
def wd_1535 (z : pq_C) : pq_W := ((wd_1534 z).set 91 (.inl (.int, 2858, .inl (upd (upd (upd (upd (upd (upd (upd (upd (upd (upd (upd (upd (upd (upd (upd (upd (upd (upd (upd (upd (upd (upd (upd (upd (upd (upd (upd (upd (upd (upd (upd (upd (upd (upd (upd (upd (upd (upd (upd (upd (upd (upd (upd (upd (upd (upd (upd (upd (upd (upd (upd (upd (upd (upd (upd (upd (upd (upd (upd (upd (upd (upd (upd (upd (upd (upd (upd (upd (upd (upd (upd (upd (upd (upd (upd (upd (upd (upd (upd (upd (upd (upd (fun _ => 0) 1 10) 10 (-1)) 11 (-1)) 12 (-1)) 13 (-1)) 14 (-1)) 15 (-1)) 16 (-1)) 17 (-1)) 18 (-1)) 19 (-1)) 20 (-1)) 21 (-1)) 22 (-1)) 23 (-1)) 24 (-1)) 25 (-1)) 26 (-1)) 27 (-1)) 28 (-1)) 29 (-1)) 30 (-1)) 31 (-1)) 32 (-1)) 33 (-1)) 34 (-1)) 35 (-1)) 36 (-1)) 37 (-1)) 38 (-1)) 39 (-1)) 40 (-1)) 41 (-1)) 42 (-1)) 43 (-1)) 44 (-1)) 45 (-1)) 46 (-1)) 47 (-1)) 48 (-1)) 49 (-1)) 50 (-1)) 51 (-1)) 52 (-1)) 53 (-1)) 54 (-1)) 55 (-1)) 56 (-1)) 57 (-1)) 58 (-1)) 59 (-1)) 60 (-1)) 61 (-1)) 62 (-1)) 63 (-1)) 64 (-1)) 65 (-1)) 66 (-1)) 67 (-1)) 68 (-1)) 69 (-1)) 70 (-1)) 71 (-1)) 72 (-1)) 73 (-1)) 139 1000) 140 100) 145 1000) 146 100) 151 1000) 152 100) 157 1000) 158 100) 163 1000) 164 100) 169 1000) 170 100) 175 1000) 176 100) 181 1000) 182 100) 105 1))))
theorem ro_2393 (z : pq_C) : pq_Ru 3 165 [.ref 90, .int 31, .int 1] (wd_1534 z) (some (.int 1), (wd_1535 z)) := by
  refine ru_of (k := 2) (M := pm_165) rfl rfl ?_
  refine go_seg 1 (pc' := 1) (ls' := [(0, .ref 90), (1, .int 31), (2, .int 1)]) (st' := [.int 31]) (w' := (wd_1534 z)) (cs' := 0) (ss' := 0) ?_ (fun _ _ => rfl)
  refine go_cl (k := 2) (st' := [.int 1]) (cs' := 0) (ss' := 0) rfl rfl rfl rfl rfl rfl rfl (ro_2392 z) ?_
  refine go_seg 8 (pc' := 24) (ls' := [(0, .ref 90), (1, .int 31), (2, .int 1)]) (st' := [.int 1, .int 0]) (w' := (wd_1534 z)) (cs' := 0) (ss' := 0) ?_ (fun _ _ => rfl)
  refine go_seg 8 (pc' := 42) (ls' := [(3, .int 1), (0, .ref 90), (1, .int 31), (2, .int 1)]) (st' := [.ref 90]) (w' := (wd_1534 z)) (cs' := 0) (ss' := 0) ?_ (fun _ _ => rfl)
  refine go_seg 8 (pc' := 58) (ls' := [(3, .int 1), (0, .ref 90), (1, .int 31), (2, .int 1)]) (st' := [.int 1, .int 105, .ref 91]) (w' := (wd_1534 z)) (cs' := 0) (ss' := 0) ?_ (fun _ _ => rfl)
  exact go_end 3 (fun _ _ => rfl)
theorem lf_2_2395 (a0 : Int32) (a2 : Int32) (a3 : Int32) (a4 : Int32) (a5 : Int32) (h0 : ¬ a2.toInt = 0) : ∃ w', pq_Go 20 pm_law 278 [(3, .int 0), (2, .ref 90), (1, .ref 1), (0, .ref 0)] [] (fw (sz a0 31 a2 a3 a4 a5)) 109 12668 (some (.int 1), w') := by
  refine ⟨(wd_1535 (sz a0 31 a2 a3 a4 a5)), ?_⟩
  refine go_seg 8 (pc' := 286) (ls' := [(3, .int 0), (2, .ref 90), (1, .ref 1), (0, .ref 0)]) (st' := [.int 0, .ref 0, .int 31, .ref 1]) (w' := (fw (sz a0 31 a2 a3 a4 a5))) (cs' := 109) (ss' := 12668) ?_ (fun _ _ => rfl)
  refine go_seg 3 (pc' := 289) (ls' := [(3, .int 0), (2, .ref 90), (1, .ref 1), (0, .ref 0)]) (st' := [.int a2, .int 31, .ref 1]) (w' := (fw (sz a0 31 a2 a3 a4 a5))) (cs' := 109) (ss' := 12668) ?_ (fun _ _ => rfl)
  refine go_if false rfl (br_eq_f (b := 0) rfl (by omega)) ?_
  refine go_seg 2 (pc' := 297) (ls' := [(3, .int 0), (2, .ref 90), (1, .ref 1), (0, .ref 0)]) (st' := [.int 1, .int 31, .ref 1]) (w' := (fw (sz a0 31 a2 a3 a4 a5))) (cs' := 109) (ss' := 12668) ?_ (fun _ _ => rfl)
  refine go_cl (k := 20) (st' := [.int 1]) (cs' := 109) (ss' := 12668) rfl rfl rfl rfl rfl rfl rfl (ro_2390 (sz a0 31 a2 a3 a4 a5)) ?_
  refine go_seg 8 (pc' := 308) (ls' := [(3, .int 0), (2, .ref 90), (1, .ref 1), (0, .ref 0)]) (st' := [.int 0, .ref 0, .int 31, .ref 90, .int 1]) (w' := (wd_1534 (sz a0 31 a2 a3 a4 a5))) (cs' := 109) (ss' := 12668) ?_ (fun _ _ => rfl)
  refine go_seg 3 (pc' := 311) (ls' := [(3, .int 0), (2, .ref 90), (1, .ref 1), (0, .ref 0)]) (st' := [.int a2, .int 31, .ref 90, .int 1]) (w' := (wd_1534 (sz a0 31 a2 a3 a4 a5))) (cs' := 109) (ss' := 12668) ?_ (fun _ _ => rfl)
  refine go_if false rfl (br_eq_f (b := 0) rfl (by omega)) ?_
  refine go_seg 2 (pc' := 319) (ls' := [(3, .int 0), (2, .ref 90), (1, .ref 1), (0, .ref 0)]) (st' := [.int 1, .int 31, .ref 90, .int 1]) (w' := (wd_1534 (sz a0 31 a2 a3 a4 a5))) (cs' := 109) (ss' := 12668) ?_ (fun _ _ => rfl)
  refine go_cl (k := 20) (st' := [.int 1, .int 1]) (cs' := 109) (ss' := 12668) rfl rfl rfl rfl rfl rfl rfl (ro_2393 (sz a0 31 a2 a3 a4 a5)) ?_
  refine go_cmp true rfl (br_self _) ?_
  exact law_tail (f := sc a0 31 a2 a3 a4 a5) rfl
def wd_1536 (z : pq_C) : pq_W := ((fw z).set 4 (.inl (.boolean, 64, .inl (upd (fun _ => 0) 32 1))))
theorem ro_2397 (z : pq_C) : pq_Ru 2 22 [.ref 1, .int 32, .int 1] (fw z) (some (.int 1), (wd_1536 z)) := by
  refine ru_of (k := 1) (M := pm_22) rfl rfl ?_
  refine go_seg 1 (pc' := 1) (ls' := [(0, .ref 1), (1, .int 32), (2, .int 1)]) (st' := [.int 32]) (w' := (fw z)) (cs' := 0) (ss' := 0) ?_ (fun _ _ => rfl)
  refine go_cl (k := 1) (st' := [.int 1]) (cs' := 0) (ss' := 0) rfl rfl rfl rfl rfl rfl rfl (ro_1449 z) ?_
  refine go_seg 8 (pc' := 24) (ls' := [(3, .int 0), (0, .ref 1), (1, .int 32), (2, .int 1)]) (st' := [.ref 1]) (w' := (fw z)) (cs' := 0) (ss' := 0) ?_ (fun _ _ => rfl)
  refine go_seg 8 (pc' := 42) (ls' := [(3, .int 0), (0, .ref 1), (1, .int 32), (2, .int 1)]) (st' := []) (w' := (wd_1536 z)) (cs' := 0) (ss' := 0) ?_ (fun _ _ => rfl)
  exact go_end 2 (fun _ _ => rfl)
theorem ro_2398 (z : pq_C) : pq_Ru 1 161 [.long 32, .long 0, .long 63] (wd_1536 z) (some (.int 1), (wd_1536 z)) := by
  refine ru_of (k := 0) (M := pm_161) rfl rfl ?_
  refine go_seg 8 (pc' := 13) (ls' := [(0, .long 32), (2, .long 0), (4, .long 63)]) (st' := []) (w' := (wd_1536 z)) (cs' := 0) (ss' := 0) ?_ (fun _ _ => rfl)
  exact go_end 3 (fun _ _ => rfl)
theorem ro_2399 (z : pq_C) : pq_Ru 2 160 [.int 32] (wd_1536 z) (some (.int 1), (wd_1536 z)) := by
  refine ru_of (k := 1) (M := pm_160) rfl rfl ?_
  refine go_seg 4 (pc' := 6) (ls' := [(0, .int 32)]) (st' := [.long 63, .long 0, .long 32]) (w' := (wd_1536 z)) (cs' := 0) (ss' := 0) ?_ (fun _ _ => rfl)
  refine go_cl (k := 1) (st' := [.int 1]) (cs' := 0) (ss' := 0) rfl rfl rfl rfl rfl rfl rfl (ro_2398 z) ?_
  exact go_end 1 (fun _ _ => rfl)
def wd_1537 (z : pq_C) : pq_W := ((wd_1536 z).set 91 (.inl (.int, 2858, .inl (upd (upd (upd (upd (upd (upd (upd (upd (upd (upd (upd (upd (upd (upd (upd (upd (upd (upd (upd (upd (upd (upd (upd (upd (upd (upd (upd (upd (upd (upd (upd (upd (upd (upd (upd (upd (upd (upd (upd (upd (upd (upd (upd (upd (upd (upd (upd (upd (upd (upd (upd (upd (upd (upd (upd (upd (upd (upd (upd (upd (upd (upd (upd (upd (upd (upd (upd (upd (upd (upd (upd (upd (upd (upd (upd (upd (upd (upd (upd (upd (upd (upd (fun _ => 0) 1 10) 10 (-1)) 11 (-1)) 12 (-1)) 13 (-1)) 14 (-1)) 15 (-1)) 16 (-1)) 17 (-1)) 18 (-1)) 19 (-1)) 20 (-1)) 21 (-1)) 22 (-1)) 23 (-1)) 24 (-1)) 25 (-1)) 26 (-1)) 27 (-1)) 28 (-1)) 29 (-1)) 30 (-1)) 31 (-1)) 32 (-1)) 33 (-1)) 34 (-1)) 35 (-1)) 36 (-1)) 37 (-1)) 38 (-1)) 39 (-1)) 40 (-1)) 41 (-1)) 42 (-1)) 43 (-1)) 44 (-1)) 45 (-1)) 46 (-1)) 47 (-1)) 48 (-1)) 49 (-1)) 50 (-1)) 51 (-1)) 52 (-1)) 53 (-1)) 54 (-1)) 55 (-1)) 56 (-1)) 57 (-1)) 58 (-1)) 59 (-1)) 60 (-1)) 61 (-1)) 62 (-1)) 63 (-1)) 64 (-1)) 65 (-1)) 66 (-1)) 67 (-1)) 68 (-1)) 69 (-1)) 70 (-1)) 71 (-1)) 72 (-1)) 73 (-1)) 139 1000) 140 100) 145 1000) 146 100) 151 1000) 152 100) 157 1000) 158 100) 163 1000) 164 100) 169 1000) 170 100) 175 1000) 176 100) 181 1000) 182 100) 106 1))))
theorem ro_2400 (z : pq_C) : pq_Ru 3 165 [.ref 90, .int 32, .int 1] (wd_1536 z) (some (.int 1), (wd_1537 z)) := by
  refine ru_of (k := 2) (M := pm_165) rfl rfl ?_
  refine go_seg 1 (pc' := 1) (ls' := [(0, .ref 90), (1, .int 32), (2, .int 1)]) (st' := [.int 32]) (w' := (wd_1536 z)) (cs' := 0) (ss' := 0) ?_ (fun _ _ => rfl)
  refine go_cl (k := 2) (st' := [.int 1]) (cs' := 0) (ss' := 0) rfl rfl rfl rfl rfl rfl rfl (ro_2399 z) ?_
  refine go_seg 8 (pc' := 24) (ls' := [(0, .ref 90), (1, .int 32), (2, .int 1)]) (st' := [.int 1, .int 0]) (w' := (wd_1536 z)) (cs' := 0) (ss' := 0) ?_ (fun _ _ => rfl)
  refine go_seg 8 (pc' := 42) (ls' := [(3, .int 1), (0, .ref 90), (1, .int 32), (2, .int 1)]) (st' := [.ref 90]) (w' := (wd_1536 z)) (cs' := 0) (ss' := 0) ?_ (fun _ _ => rfl)
  refine go_seg 8 (pc' := 58) (ls' := [(3, .int 1), (0, .ref 90), (1, .int 32), (2, .int 1)]) (st' := [.int 1, .int 106, .ref 91]) (w' := (wd_1536 z)) (cs' := 0) (ss' := 0) ?_ (fun _ _ => rfl)
  exact go_end 3 (fun _ _ => rfl)
theorem lf_2_2402 (a0 : Int32) (a2 : Int32) (a3 : Int32) (a4 : Int32) (a5 : Int32) (h0 : ¬ a2.toInt = 0) : ∃ w', pq_Go 20 pm_law 278 [(3, .int 0), (2, .ref 90), (1, .ref 1), (0, .ref 0)] [] (fw (sz a0 32 a2 a3 a4 a5)) 109 12668 (some (.int 1), w') := by
  refine ⟨(wd_1537 (sz a0 32 a2 a3 a4 a5)), ?_⟩
  refine go_seg 8 (pc' := 286) (ls' := [(3, .int 0), (2, .ref 90), (1, .ref 1), (0, .ref 0)]) (st' := [.int 0, .ref 0, .int 32, .ref 1]) (w' := (fw (sz a0 32 a2 a3 a4 a5))) (cs' := 109) (ss' := 12668) ?_ (fun _ _ => rfl)
  refine go_seg 3 (pc' := 289) (ls' := [(3, .int 0), (2, .ref 90), (1, .ref 1), (0, .ref 0)]) (st' := [.int a2, .int 32, .ref 1]) (w' := (fw (sz a0 32 a2 a3 a4 a5))) (cs' := 109) (ss' := 12668) ?_ (fun _ _ => rfl)
  refine go_if false rfl (br_eq_f (b := 0) rfl (by omega)) ?_
  refine go_seg 2 (pc' := 297) (ls' := [(3, .int 0), (2, .ref 90), (1, .ref 1), (0, .ref 0)]) (st' := [.int 1, .int 32, .ref 1]) (w' := (fw (sz a0 32 a2 a3 a4 a5))) (cs' := 109) (ss' := 12668) ?_ (fun _ _ => rfl)
  refine go_cl (k := 20) (st' := [.int 1]) (cs' := 109) (ss' := 12668) rfl rfl rfl rfl rfl rfl rfl (ro_2397 (sz a0 32 a2 a3 a4 a5)) ?_
  refine go_seg 8 (pc' := 308) (ls' := [(3, .int 0), (2, .ref 90), (1, .ref 1), (0, .ref 0)]) (st' := [.int 0, .ref 0, .int 32, .ref 90, .int 1]) (w' := (wd_1536 (sz a0 32 a2 a3 a4 a5))) (cs' := 109) (ss' := 12668) ?_ (fun _ _ => rfl)
  refine go_seg 3 (pc' := 311) (ls' := [(3, .int 0), (2, .ref 90), (1, .ref 1), (0, .ref 0)]) (st' := [.int a2, .int 32, .ref 90, .int 1]) (w' := (wd_1536 (sz a0 32 a2 a3 a4 a5))) (cs' := 109) (ss' := 12668) ?_ (fun _ _ => rfl)
  refine go_if false rfl (br_eq_f (b := 0) rfl (by omega)) ?_
  refine go_seg 2 (pc' := 319) (ls' := [(3, .int 0), (2, .ref 90), (1, .ref 1), (0, .ref 0)]) (st' := [.int 1, .int 32, .ref 90, .int 1]) (w' := (wd_1536 (sz a0 32 a2 a3 a4 a5))) (cs' := 109) (ss' := 12668) ?_ (fun _ _ => rfl)
  refine go_cl (k := 20) (st' := [.int 1, .int 1]) (cs' := 109) (ss' := 12668) rfl rfl rfl rfl rfl rfl rfl (ro_2400 (sz a0 32 a2 a3 a4 a5)) ?_
  refine go_cmp true rfl (br_self _) ?_
  exact law_tail (f := sc a0 32 a2 a3 a4 a5) rfl
def wd_1538 (z : pq_C) : pq_W := ((fw z).set 4 (.inl (.boolean, 64, .inl (upd (fun _ => 0) 33 1))))
theorem ro_2404 (z : pq_C) : pq_Ru 2 22 [.ref 1, .int 33, .int 1] (fw z) (some (.int 1), (wd_1538 z)) := by
  refine ru_of (k := 1) (M := pm_22) rfl rfl ?_
  refine go_seg 1 (pc' := 1) (ls' := [(0, .ref 1), (1, .int 33), (2, .int 1)]) (st' := [.int 33]) (w' := (fw z)) (cs' := 0) (ss' := 0) ?_ (fun _ _ => rfl)
  refine go_cl (k := 1) (st' := [.int 1]) (cs' := 0) (ss' := 0) rfl rfl rfl rfl rfl rfl rfl (ro_1457 z) ?_
  refine go_seg 8 (pc' := 24) (ls' := [(3, .int 0), (0, .ref 1), (1, .int 33), (2, .int 1)]) (st' := [.ref 1]) (w' := (fw z)) (cs' := 0) (ss' := 0) ?_ (fun _ _ => rfl)
  refine go_seg 8 (pc' := 42) (ls' := [(3, .int 0), (0, .ref 1), (1, .int 33), (2, .int 1)]) (st' := []) (w' := (wd_1538 z)) (cs' := 0) (ss' := 0) ?_ (fun _ _ => rfl)
  exact go_end 2 (fun _ _ => rfl)
theorem ro_2405 (z : pq_C) : pq_Ru 1 161 [.long 33, .long 0, .long 63] (wd_1538 z) (some (.int 1), (wd_1538 z)) := by
  refine ru_of (k := 0) (M := pm_161) rfl rfl ?_
  refine go_seg 8 (pc' := 13) (ls' := [(0, .long 33), (2, .long 0), (4, .long 63)]) (st' := []) (w' := (wd_1538 z)) (cs' := 0) (ss' := 0) ?_ (fun _ _ => rfl)
  exact go_end 3 (fun _ _ => rfl)
theorem ro_2406 (z : pq_C) : pq_Ru 2 160 [.int 33] (wd_1538 z) (some (.int 1), (wd_1538 z)) := by
  refine ru_of (k := 1) (M := pm_160) rfl rfl ?_
  refine go_seg 4 (pc' := 6) (ls' := [(0, .int 33)]) (st' := [.long 63, .long 0, .long 33]) (w' := (wd_1538 z)) (cs' := 0) (ss' := 0) ?_ (fun _ _ => rfl)
  refine go_cl (k := 1) (st' := [.int 1]) (cs' := 0) (ss' := 0) rfl rfl rfl rfl rfl rfl rfl (ro_2405 z) ?_
  exact go_end 1 (fun _ _ => rfl)
def wd_1539 (z : pq_C) : pq_W := ((wd_1538 z).set 91 (.inl (.int, 2858, .inl (upd (upd (upd (upd (upd (upd (upd (upd (upd (upd (upd (upd (upd (upd (upd (upd (upd (upd (upd (upd (upd (upd (upd (upd (upd (upd (upd (upd (upd (upd (upd (upd (upd (upd (upd (upd (upd (upd (upd (upd (upd (upd (upd (upd (upd (upd (upd (upd (upd (upd (upd (upd (upd (upd (upd (upd (upd (upd (upd (upd (upd (upd (upd (upd (upd (upd (upd (upd (upd (upd (upd (upd (upd (upd (upd (upd (upd (upd (upd (upd (upd (upd (fun _ => 0) 1 10) 10 (-1)) 11 (-1)) 12 (-1)) 13 (-1)) 14 (-1)) 15 (-1)) 16 (-1)) 17 (-1)) 18 (-1)) 19 (-1)) 20 (-1)) 21 (-1)) 22 (-1)) 23 (-1)) 24 (-1)) 25 (-1)) 26 (-1)) 27 (-1)) 28 (-1)) 29 (-1)) 30 (-1)) 31 (-1)) 32 (-1)) 33 (-1)) 34 (-1)) 35 (-1)) 36 (-1)) 37 (-1)) 38 (-1)) 39 (-1)) 40 (-1)) 41 (-1)) 42 (-1)) 43 (-1)) 44 (-1)) 45 (-1)) 46 (-1)) 47 (-1)) 48 (-1)) 49 (-1)) 50 (-1)) 51 (-1)) 52 (-1)) 53 (-1)) 54 (-1)) 55 (-1)) 56 (-1)) 57 (-1)) 58 (-1)) 59 (-1)) 60 (-1)) 61 (-1)) 62 (-1)) 63 (-1)) 64 (-1)) 65 (-1)) 66 (-1)) 67 (-1)) 68 (-1)) 69 (-1)) 70 (-1)) 71 (-1)) 72 (-1)) 73 (-1)) 139 1000) 140 100) 145 1000) 146 100) 151 1000) 152 100) 157 1000) 158 100) 163 1000) 164 100) 169 1000) 170 100) 175 1000) 176 100) 181 1000) 182 100) 107 1))))
theorem ro_2407 (z : pq_C) : pq_Ru 3 165 [.ref 90, .int 33, .int 1] (wd_1538 z) (some (.int 1), (wd_1539 z)) := by
  refine ru_of (k := 2) (M := pm_165) rfl rfl ?_
  refine go_seg 1 (pc' := 1) (ls' := [(0, .ref 90), (1, .int 33), (2, .int 1)]) (st' := [.int 33]) (w' := (wd_1538 z)) (cs' := 0) (ss' := 0) ?_ (fun _ _ => rfl)
  refine go_cl (k := 2) (st' := [.int 1]) (cs' := 0) (ss' := 0) rfl rfl rfl rfl rfl rfl rfl (ro_2406 z) ?_
  refine go_seg 8 (pc' := 24) (ls' := [(0, .ref 90), (1, .int 33), (2, .int 1)]) (st' := [.int 1, .int 0]) (w' := (wd_1538 z)) (cs' := 0) (ss' := 0) ?_ (fun _ _ => rfl)
  refine go_seg 8 (pc' := 42) (ls' := [(3, .int 1), (0, .ref 90), (1, .int 33), (2, .int 1)]) (st' := [.ref 90]) (w' := (wd_1538 z)) (cs' := 0) (ss' := 0) ?_ (fun _ _ => rfl)
  refine go_seg 8 (pc' := 58) (ls' := [(3, .int 1), (0, .ref 90), (1, .int 33), (2, .int 1)]) (st' := [.int 1, .int 107, .ref 91]) (w' := (wd_1538 z)) (cs' := 0) (ss' := 0) ?_ (fun _ _ => rfl)
  exact go_end 3 (fun _ _ => rfl)
theorem lf_2_2409 (a0 : Int32) (a2 : Int32) (a3 : Int32) (a4 : Int32) (a5 : Int32) (h0 : ¬ a2.toInt = 0) : ∃ w', pq_Go 20 pm_law 278 [(3, .int 0), (2, .ref 90), (1, .ref 1), (0, .ref 0)] [] (fw (sz a0 33 a2 a3 a4 a5)) 109 12668 (some (.int 1), w') := by
  refine ⟨(wd_1539 (sz a0 33 a2 a3 a4 a5)), ?_⟩
  refine go_seg 8 (pc' := 286) (ls' := [(3, .int 0), (2, .ref 90), (1, .ref 1), (0, .ref 0)]) (st' := [.int 0, .ref 0, .int 33, .ref 1]) (w' := (fw (sz a0 33 a2 a3 a4 a5))) (cs' := 109) (ss' := 12668) ?_ (fun _ _ => rfl)
  refine go_seg 3 (pc' := 289) (ls' := [(3, .int 0), (2, .ref 90), (1, .ref 1), (0, .ref 0)]) (st' := [.int a2, .int 33, .ref 1]) (w' := (fw (sz a0 33 a2 a3 a4 a5))) (cs' := 109) (ss' := 12668) ?_ (fun _ _ => rfl)
  refine go_if false rfl (br_eq_f (b := 0) rfl (by omega)) ?_
  refine go_seg 2 (pc' := 297) (ls' := [(3, .int 0), (2, .ref 90), (1, .ref 1), (0, .ref 0)]) (st' := [.int 1, .int 33, .ref 1]) (w' := (fw (sz a0 33 a2 a3 a4 a5))) (cs' := 109) (ss' := 12668) ?_ (fun _ _ => rfl)
  refine go_cl (k := 20) (st' := [.int 1]) (cs' := 109) (ss' := 12668) rfl rfl rfl rfl rfl rfl rfl (ro_2404 (sz a0 33 a2 a3 a4 a5)) ?_
  refine go_seg 8 (pc' := 308) (ls' := [(3, .int 0), (2, .ref 90), (1, .ref 1), (0, .ref 0)]) (st' := [.int 0, .ref 0, .int 33, .ref 90, .int 1]) (w' := (wd_1538 (sz a0 33 a2 a3 a4 a5))) (cs' := 109) (ss' := 12668) ?_ (fun _ _ => rfl)
  refine go_seg 3 (pc' := 311) (ls' := [(3, .int 0), (2, .ref 90), (1, .ref 1), (0, .ref 0)]) (st' := [.int a2, .int 33, .ref 90, .int 1]) (w' := (wd_1538 (sz a0 33 a2 a3 a4 a5))) (cs' := 109) (ss' := 12668) ?_ (fun _ _ => rfl)
  refine go_if false rfl (br_eq_f (b := 0) rfl (by omega)) ?_
  refine go_seg 2 (pc' := 319) (ls' := [(3, .int 0), (2, .ref 90), (1, .ref 1), (0, .ref 0)]) (st' := [.int 1, .int 33, .ref 90, .int 1]) (w' := (wd_1538 (sz a0 33 a2 a3 a4 a5))) (cs' := 109) (ss' := 12668) ?_ (fun _ _ => rfl)
  refine go_cl (k := 20) (st' := [.int 1, .int 1]) (cs' := 109) (ss' := 12668) rfl rfl rfl rfl rfl rfl rfl (ro_2407 (sz a0 33 a2 a3 a4 a5)) ?_
  refine go_cmp true rfl (br_self _) ?_
  exact law_tail (f := sc a0 33 a2 a3 a4 a5) rfl
def wd_1540 (z : pq_C) : pq_W := ((fw z).set 4 (.inl (.boolean, 64, .inl (upd (fun _ => 0) 34 1))))
theorem ro_2411 (z : pq_C) : pq_Ru 2 22 [.ref 1, .int 34, .int 1] (fw z) (some (.int 1), (wd_1540 z)) := by
  refine ru_of (k := 1) (M := pm_22) rfl rfl ?_
  refine go_seg 1 (pc' := 1) (ls' := [(0, .ref 1), (1, .int 34), (2, .int 1)]) (st' := [.int 34]) (w' := (fw z)) (cs' := 0) (ss' := 0) ?_ (fun _ _ => rfl)
  refine go_cl (k := 1) (st' := [.int 1]) (cs' := 0) (ss' := 0) rfl rfl rfl rfl rfl rfl rfl (ro_1465 z) ?_
  refine go_seg 8 (pc' := 24) (ls' := [(3, .int 0), (0, .ref 1), (1, .int 34), (2, .int 1)]) (st' := [.ref 1]) (w' := (fw z)) (cs' := 0) (ss' := 0) ?_ (fun _ _ => rfl)
  refine go_seg 8 (pc' := 42) (ls' := [(3, .int 0), (0, .ref 1), (1, .int 34), (2, .int 1)]) (st' := []) (w' := (wd_1540 z)) (cs' := 0) (ss' := 0) ?_ (fun _ _ => rfl)
  exact go_end 2 (fun _ _ => rfl)
theorem ro_2412 (z : pq_C) : pq_Ru 1 161 [.long 34, .long 0, .long 63] (wd_1540 z) (some (.int 1), (wd_1540 z)) := by
  refine ru_of (k := 0) (M := pm_161) rfl rfl ?_
  refine go_seg 8 (pc' := 13) (ls' := [(0, .long 34), (2, .long 0), (4, .long 63)]) (st' := []) (w' := (wd_1540 z)) (cs' := 0) (ss' := 0) ?_ (fun _ _ => rfl)
  exact go_end 3 (fun _ _ => rfl)
theorem ro_2413 (z : pq_C) : pq_Ru 2 160 [.int 34] (wd_1540 z) (some (.int 1), (wd_1540 z)) := by
  refine ru_of (k := 1) (M := pm_160) rfl rfl ?_
  refine go_seg 4 (pc' := 6) (ls' := [(0, .int 34)]) (st' := [.long 63, .long 0, .long 34]) (w' := (wd_1540 z)) (cs' := 0) (ss' := 0) ?_ (fun _ _ => rfl)
  refine go_cl (k := 1) (st' := [.int 1]) (cs' := 0) (ss' := 0) rfl rfl rfl rfl rfl rfl rfl (ro_2412 z) ?_
  exact go_end 1 (fun _ _ => rfl)
def wd_1541 (z : pq_C) : pq_W := ((wd_1540 z).set 91 (.inl (.int, 2858, .inl (upd (upd (upd (upd (upd (upd (upd (upd (upd (upd (upd (upd (upd (upd (upd (upd (upd (upd (upd (upd (upd (upd (upd (upd (upd (upd (upd (upd (upd (upd (upd (upd (upd (upd (upd (upd (upd (upd (upd (upd (upd (upd (upd (upd (upd (upd (upd (upd (upd (upd (upd (upd (upd (upd (upd (upd (upd (upd (upd (upd (upd (upd (upd (upd (upd (upd (upd (upd (upd (upd (upd (upd (upd (upd (upd (upd (upd (upd (upd (upd (upd (upd (fun _ => 0) 1 10) 10 (-1)) 11 (-1)) 12 (-1)) 13 (-1)) 14 (-1)) 15 (-1)) 16 (-1)) 17 (-1)) 18 (-1)) 19 (-1)) 20 (-1)) 21 (-1)) 22 (-1)) 23 (-1)) 24 (-1)) 25 (-1)) 26 (-1)) 27 (-1)) 28 (-1)) 29 (-1)) 30 (-1)) 31 (-1)) 32 (-1)) 33 (-1)) 34 (-1)) 35 (-1)) 36 (-1)) 37 (-1)) 38 (-1)) 39 (-1)) 40 (-1)) 41 (-1)) 42 (-1)) 43 (-1)) 44 (-1)) 45 (-1)) 46 (-1)) 47 (-1)) 48 (-1)) 49 (-1)) 50 (-1)) 51 (-1)) 52 (-1)) 53 (-1)) 54 (-1)) 55 (-1)) 56 (-1)) 57 (-1)) 58 (-1)) 59 (-1)) 60 (-1)) 61 (-1)) 62 (-1)) 63 (-1)) 64 (-1)) 65 (-1)) 66 (-1)) 67 (-1)) 68 (-1)) 69 (-1)) 70 (-1)) 71 (-1)) 72 (-1)) 73 (-1)) 139 1000) 140 100) 145 1000) 146 100) 151 1000) 152 100) 157 1000) 158 100) 163 1000) 164 100) 169 1000) 170 100) 175 1000) 176 100) 181 1000) 182 100) 108 1))))
theorem ro_2414 (z : pq_C) : pq_Ru 3 165 [.ref 90, .int 34, .int 1] (wd_1540 z) (some (.int 1), (wd_1541 z)) := by
  refine ru_of (k := 2) (M := pm_165) rfl rfl ?_
  refine go_seg 1 (pc' := 1) (ls' := [(0, .ref 90), (1, .int 34), (2, .int 1)]) (st' := [.int 34]) (w' := (wd_1540 z)) (cs' := 0) (ss' := 0) ?_ (fun _ _ => rfl)
  refine go_cl (k := 2) (st' := [.int 1]) (cs' := 0) (ss' := 0) rfl rfl rfl rfl rfl rfl rfl (ro_2413 z) ?_
  refine go_seg 8 (pc' := 24) (ls' := [(0, .ref 90), (1, .int 34), (2, .int 1)]) (st' := [.int 1, .int 0]) (w' := (wd_1540 z)) (cs' := 0) (ss' := 0) ?_ (fun _ _ => rfl)
  refine go_seg 8 (pc' := 42) (ls' := [(3, .int 1), (0, .ref 90), (1, .int 34), (2, .int 1)]) (st' := [.ref 90]) (w' := (wd_1540 z)) (cs' := 0) (ss' := 0) ?_ (fun _ _ => rfl)
  refine go_seg 8 (pc' := 58) (ls' := [(3, .int 1), (0, .ref 90), (1, .int 34), (2, .int 1)]) (st' := [.int 1, .int 108, .ref 91]) (w' := (wd_1540 z)) (cs' := 0) (ss' := 0) ?_ (fun _ _ => rfl)
  exact go_end 3 (fun _ _ => rfl)
theorem lf_2_2416 (a0 : Int32) (a2 : Int32) (a3 : Int32) (a4 : Int32) (a5 : Int32) (h0 : ¬ a2.toInt = 0) : ∃ w', pq_Go 20 pm_law 278 [(3, .int 0), (2, .ref 90), (1, .ref 1), (0, .ref 0)] [] (fw (sz a0 34 a2 a3 a4 a5)) 109 12668 (some (.int 1), w') := by
  refine ⟨(wd_1541 (sz a0 34 a2 a3 a4 a5)), ?_⟩
  refine go_seg 8 (pc' := 286) (ls' := [(3, .int 0), (2, .ref 90), (1, .ref 1), (0, .ref 0)]) (st' := [.int 0, .ref 0, .int 34, .ref 1]) (w' := (fw (sz a0 34 a2 a3 a4 a5))) (cs' := 109) (ss' := 12668) ?_ (fun _ _ => rfl)
  refine go_seg 3 (pc' := 289) (ls' := [(3, .int 0), (2, .ref 90), (1, .ref 1), (0, .ref 0)]) (st' := [.int a2, .int 34, .ref 1]) (w' := (fw (sz a0 34 a2 a3 a4 a5))) (cs' := 109) (ss' := 12668) ?_ (fun _ _ => rfl)
  refine go_if false rfl (br_eq_f (b := 0) rfl (by omega)) ?_
  refine go_seg 2 (pc' := 297) (ls' := [(3, .int 0), (2, .ref 90), (1, .ref 1), (0, .ref 0)]) (st' := [.int 1, .int 34, .ref 1]) (w' := (fw (sz a0 34 a2 a3 a4 a5))) (cs' := 109) (ss' := 12668) ?_ (fun _ _ => rfl)
  refine go_cl (k := 20) (st' := [.int 1]) (cs' := 109) (ss' := 12668) rfl rfl rfl rfl rfl rfl rfl (ro_2411 (sz a0 34 a2 a3 a4 a5)) ?_
  refine go_seg 8 (pc' := 308) (ls' := [(3, .int 0), (2, .ref 90), (1, .ref 1), (0, .ref 0)]) (st' := [.int 0, .ref 0, .int 34, .ref 90, .int 1]) (w' := (wd_1540 (sz a0 34 a2 a3 a4 a5))) (cs' := 109) (ss' := 12668) ?_ (fun _ _ => rfl)
  refine go_seg 3 (pc' := 311) (ls' := [(3, .int 0), (2, .ref 90), (1, .ref 1), (0, .ref 0)]) (st' := [.int a2, .int 34, .ref 90, .int 1]) (w' := (wd_1540 (sz a0 34 a2 a3 a4 a5))) (cs' := 109) (ss' := 12668) ?_ (fun _ _ => rfl)
  refine go_if false rfl (br_eq_f (b := 0) rfl (by omega)) ?_
  refine go_seg 2 (pc' := 319) (ls' := [(3, .int 0), (2, .ref 90), (1, .ref 1), (0, .ref 0)]) (st' := [.int 1, .int 34, .ref 90, .int 1]) (w' := (wd_1540 (sz a0 34 a2 a3 a4 a5))) (cs' := 109) (ss' := 12668) ?_ (fun _ _ => rfl)
  refine go_cl (k := 20) (st' := [.int 1, .int 1]) (cs' := 109) (ss' := 12668) rfl rfl rfl rfl rfl rfl rfl (ro_2414 (sz a0 34 a2 a3 a4 a5)) ?_
  refine go_cmp true rfl (br_self _) ?_
  exact law_tail (f := sc a0 34 a2 a3 a4 a5) rfl
def wd_1542 (z : pq_C) : pq_W := ((fw z).set 4 (.inl (.boolean, 64, .inl (upd (fun _ => 0) 35 1))))
theorem ro_2418 (z : pq_C) : pq_Ru 2 22 [.ref 1, .int 35, .int 1] (fw z) (some (.int 1), (wd_1542 z)) := by
  refine ru_of (k := 1) (M := pm_22) rfl rfl ?_
  refine go_seg 1 (pc' := 1) (ls' := [(0, .ref 1), (1, .int 35), (2, .int 1)]) (st' := [.int 35]) (w' := (fw z)) (cs' := 0) (ss' := 0) ?_ (fun _ _ => rfl)
  refine go_cl (k := 1) (st' := [.int 1]) (cs' := 0) (ss' := 0) rfl rfl rfl rfl rfl rfl rfl (ro_1473 z) ?_
  refine go_seg 8 (pc' := 24) (ls' := [(3, .int 0), (0, .ref 1), (1, .int 35), (2, .int 1)]) (st' := [.ref 1]) (w' := (fw z)) (cs' := 0) (ss' := 0) ?_ (fun _ _ => rfl)
  refine go_seg 8 (pc' := 42) (ls' := [(3, .int 0), (0, .ref 1), (1, .int 35), (2, .int 1)]) (st' := []) (w' := (wd_1542 z)) (cs' := 0) (ss' := 0) ?_ (fun _ _ => rfl)
  exact go_end 2 (fun _ _ => rfl)
theorem ro_2419 (z : pq_C) : pq_Ru 1 161 [.long 35, .long 0, .long 63] (wd_1542 z) (some (.int 1), (wd_1542 z)) := by
  refine ru_of (k := 0) (M := pm_161) rfl rfl ?_
  refine go_seg 8 (pc' := 13) (ls' := [(0, .long 35), (2, .long 0), (4, .long 63)]) (st' := []) (w' := (wd_1542 z)) (cs' := 0) (ss' := 0) ?_ (fun _ _ => rfl)
  exact go_end 3 (fun _ _ => rfl)
theorem ro_2420 (z : pq_C) : pq_Ru 2 160 [.int 35] (wd_1542 z) (some (.int 1), (wd_1542 z)) := by
  refine ru_of (k := 1) (M := pm_160) rfl rfl ?_
  refine go_seg 4 (pc' := 6) (ls' := [(0, .int 35)]) (st' := [.long 63, .long 0, .long 35]) (w' := (wd_1542 z)) (cs' := 0) (ss' := 0) ?_ (fun _ _ => rfl)
  refine go_cl (k := 1) (st' := [.int 1]) (cs' := 0) (ss' := 0) rfl rfl rfl rfl rfl rfl rfl (ro_2419 z) ?_
  exact go_end 1 (fun _ _ => rfl)
def wd_1543 (z : pq_C) : pq_W := ((wd_1542 z).set 91 (.inl (.int, 2858, .inl (upd (upd (upd (upd (upd (upd (upd (upd (upd (upd (upd (upd (upd (upd (upd (upd (upd (upd (upd (upd (upd (upd (upd (upd (upd (upd (upd (upd (upd (upd (upd (upd (upd (upd (upd (upd (upd (upd (upd (upd (upd (upd (upd (upd (upd (upd (upd (upd (upd (upd (upd (upd (upd (upd (upd (upd (upd (upd (upd (upd (upd (upd (upd (upd (upd (upd (upd (upd (upd (upd (upd (upd (upd (upd (upd (upd (upd (upd (upd (upd (upd (upd (fun _ => 0) 1 10) 10 (-1)) 11 (-1)) 12 (-1)) 13 (-1)) 14 (-1)) 15 (-1)) 16 (-1)) 17 (-1)) 18 (-1)) 19 (-1)) 20 (-1)) 21 (-1)) 22 (-1)) 23 (-1)) 24 (-1)) 25 (-1)) 26 (-1)) 27 (-1)) 28 (-1)) 29 (-1)) 30 (-1)) 31 (-1)) 32 (-1)) 33 (-1)) 34 (-1)) 35 (-1)) 36 (-1)) 37 (-1)) 38 (-1)) 39 (-1)) 40 (-1)) 41 (-1)) 42 (-1)) 43 (-1)) 44 (-1)) 45 (-1)) 46 (-1)) 47 (-1)) 48 (-1)) 49 (-1)) 50 (-1)) 51 (-1)) 52 (-1)) 53 (-1)) 54 (-1)) 55 (-1)) 56 (-1)) 57 (-1)) 58 (-1)) 59 (-1)) 60 (-1)) 61 (-1)) 62 (-1)) 63 (-1)) 64 (-1)) 65 (-1)) 66 (-1)) 67 (-1)) 68 (-1)) 69 (-1)) 70 (-1)) 71 (-1)) 72 (-1)) 73 (-1)) 139 1000) 140 100) 145 1000) 146 100) 151 1000) 152 100) 157 1000) 158 100) 163 1000) 164 100) 169 1000) 170 100) 175 1000) 176 100) 181 1000) 182 100) 109 1))))
theorem ro_2421 (z : pq_C) : pq_Ru 3 165 [.ref 90, .int 35, .int 1] (wd_1542 z) (some (.int 1), (wd_1543 z)) := by
  refine ru_of (k := 2) (M := pm_165) rfl rfl ?_
  refine go_seg 1 (pc' := 1) (ls' := [(0, .ref 90), (1, .int 35), (2, .int 1)]) (st' := [.int 35]) (w' := (wd_1542 z)) (cs' := 0) (ss' := 0) ?_ (fun _ _ => rfl)
  refine go_cl (k := 2) (st' := [.int 1]) (cs' := 0) (ss' := 0) rfl rfl rfl rfl rfl rfl rfl (ro_2420 z) ?_
  refine go_seg 8 (pc' := 24) (ls' := [(0, .ref 90), (1, .int 35), (2, .int 1)]) (st' := [.int 1, .int 0]) (w' := (wd_1542 z)) (cs' := 0) (ss' := 0) ?_ (fun _ _ => rfl)
  refine go_seg 8 (pc' := 42) (ls' := [(3, .int 1), (0, .ref 90), (1, .int 35), (2, .int 1)]) (st' := [.ref 90]) (w' := (wd_1542 z)) (cs' := 0) (ss' := 0) ?_ (fun _ _ => rfl)
  refine go_seg 8 (pc' := 58) (ls' := [(3, .int 1), (0, .ref 90), (1, .int 35), (2, .int 1)]) (st' := [.int 1, .int 109, .ref 91]) (w' := (wd_1542 z)) (cs' := 0) (ss' := 0) ?_ (fun _ _ => rfl)
  exact go_end 3 (fun _ _ => rfl)
theorem lf_2_2423 (a0 : Int32) (a2 : Int32) (a3 : Int32) (a4 : Int32) (a5 : Int32) (h0 : ¬ a2.toInt = 0) : ∃ w', pq_Go 20 pm_law 278 [(3, .int 0), (2, .ref 90), (1, .ref 1), (0, .ref 0)] [] (fw (sz a0 35 a2 a3 a4 a5)) 109 12668 (some (.int 1), w') := by
  refine ⟨(wd_1543 (sz a0 35 a2 a3 a4 a5)), ?_⟩
  refine go_seg 8 (pc' := 286) (ls' := [(3, .int 0), (2, .ref 90), (1, .ref 1), (0, .ref 0)]) (st' := [.int 0, .ref 0, .int 35, .ref 1]) (w' := (fw (sz a0 35 a2 a3 a4 a5))) (cs' := 109) (ss' := 12668) ?_ (fun _ _ => rfl)
  refine go_seg 3 (pc' := 289) (ls' := [(3, .int 0), (2, .ref 90), (1, .ref 1), (0, .ref 0)]) (st' := [.int a2, .int 35, .ref 1]) (w' := (fw (sz a0 35 a2 a3 a4 a5))) (cs' := 109) (ss' := 12668) ?_ (fun _ _ => rfl)
  refine go_if false rfl (br_eq_f (b := 0) rfl (by omega)) ?_
  refine go_seg 2 (pc' := 297) (ls' := [(3, .int 0), (2, .ref 90), (1, .ref 1), (0, .ref 0)]) (st' := [.int 1, .int 35, .ref 1]) (w' := (fw (sz a0 35 a2 a3 a4 a5))) (cs' := 109) (ss' := 12668) ?_ (fun _ _ => rfl)
  refine go_cl (k := 20) (st' := [.int 1]) (cs' := 109) (ss' := 12668) rfl rfl rfl rfl rfl rfl rfl (ro_2418 (sz a0 35 a2 a3 a4 a5)) ?_
  refine go_seg 8 (pc' := 308) (ls' := [(3, .int 0), (2, .ref 90), (1, .ref 1), (0, .ref 0)]) (st' := [.int 0, .ref 0, .int 35, .ref 90, .int 1]) (w' := (wd_1542 (sz a0 35 a2 a3 a4 a5))) (cs' := 109) (ss' := 12668) ?_ (fun _ _ => rfl)
  refine go_seg 3 (pc' := 311) (ls' := [(3, .int 0), (2, .ref 90), (1, .ref 1), (0, .ref 0)]) (st' := [.int a2, .int 35, .ref 90, .int 1]) (w' := (wd_1542 (sz a0 35 a2 a3 a4 a5))) (cs' := 109) (ss' := 12668) ?_ (fun _ _ => rfl)
  refine go_if false rfl (br_eq_f (b := 0) rfl (by omega)) ?_
  refine go_seg 2 (pc' := 319) (ls' := [(3, .int 0), (2, .ref 90), (1, .ref 1), (0, .ref 0)]) (st' := [.int 1, .int 35, .ref 90, .int 1]) (w' := (wd_1542 (sz a0 35 a2 a3 a4 a5))) (cs' := 109) (ss' := 12668) ?_ (fun _ _ => rfl)
  refine go_cl (k := 20) (st' := [.int 1, .int 1]) (cs' := 109) (ss' := 12668) rfl rfl rfl rfl rfl rfl rfl (ro_2421 (sz a0 35 a2 a3 a4 a5)) ?_
  refine go_cmp true rfl (br_self _) ?_
  exact law_tail (f := sc a0 35 a2 a3 a4 a5) rfl
def wd_1544 (z : pq_C) : pq_W := ((fw z).set 4 (.inl (.boolean, 64, .inl (upd (fun _ => 0) 36 1))))
theorem ro_2425 (z : pq_C) : pq_Ru 2 22 [.ref 1, .int 36, .int 1] (fw z) (some (.int 1), (wd_1544 z)) := by
  refine ru_of (k := 1) (M := pm_22) rfl rfl ?_
  refine go_seg 1 (pc' := 1) (ls' := [(0, .ref 1), (1, .int 36), (2, .int 1)]) (st' := [.int 36]) (w' := (fw z)) (cs' := 0) (ss' := 0) ?_ (fun _ _ => rfl)
  refine go_cl (k := 1) (st' := [.int 1]) (cs' := 0) (ss' := 0) rfl rfl rfl rfl rfl rfl rfl (ro_1481 z) ?_
  refine go_seg 8 (pc' := 24) (ls' := [(3, .int 0), (0, .ref 1), (1, .int 36), (2, .int 1)]) (st' := [.ref 1]) (w' := (fw z)) (cs' := 0) (ss' := 0) ?_ (fun _ _ => rfl)
  refine go_seg 8 (pc' := 42) (ls' := [(3, .int 0), (0, .ref 1), (1, .int 36), (2, .int 1)]) (st' := []) (w' := (wd_1544 z)) (cs' := 0) (ss' := 0) ?_ (fun _ _ => rfl)
  exact go_end 2 (fun _ _ => rfl)
theorem ro_2426 (z : pq_C) : pq_Ru 1 161 [.long 36, .long 0, .long 63] (wd_1544 z) (some (.int 1), (wd_1544 z)) := by
  refine ru_of (k := 0) (M := pm_161) rfl rfl ?_
  refine go_seg 8 (pc' := 13) (ls' := [(0, .long 36), (2, .long 0), (4, .long 63)]) (st' := []) (w' := (wd_1544 z)) (cs' := 0) (ss' := 0) ?_ (fun _ _ => rfl)
  exact go_end 3 (fun _ _ => rfl)
theorem ro_2427 (z : pq_C) : pq_Ru 2 160 [.int 36] (wd_1544 z) (some (.int 1), (wd_1544 z)) := by
  refine ru_of (k := 1) (M := pm_160) rfl rfl ?_
  refine go_seg 4 (pc' := 6) (ls' := [(0, .int 36)]) (st' := [.long 63, .long 0, .long 36]) (w' := (wd_1544 z)) (cs' := 0) (ss' := 0) ?_ (fun _ _ => rfl)
  refine go_cl (k := 1) (st' := [.int 1]) (cs' := 0) (ss' := 0) rfl rfl rfl rfl rfl rfl rfl (ro_2426 z) ?_
  exact go_end 1 (fun _ _ => rfl)
def wd_1545 (z : pq_C) : pq_W := ((wd_1544 z).set 91 (.inl (.int, 2858, .inl (upd (upd (upd (upd (upd (upd (upd (upd (upd (upd (upd (upd (upd (upd (upd (upd (upd (upd (upd (upd (upd (upd (upd (upd (upd (upd (upd (upd (upd (upd (upd (upd (upd (upd (upd (upd (upd (upd (upd (upd (upd (upd (upd (upd (upd (upd (upd (upd (upd (upd (upd (upd (upd (upd (upd (upd (upd (upd (upd (upd (upd (upd (upd (upd (upd (upd (upd (upd (upd (upd (upd (upd (upd (upd (upd (upd (upd (upd (upd (upd (upd (upd (fun _ => 0) 1 10) 10 (-1)) 11 (-1)) 12 (-1)) 13 (-1)) 14 (-1)) 15 (-1)) 16 (-1)) 17 (-1)) 18 (-1)) 19 (-1)) 20 (-1)) 21 (-1)) 22 (-1)) 23 (-1)) 24 (-1)) 25 (-1)) 26 (-1)) 27 (-1)) 28 (-1)) 29 (-1)) 30 (-1)) 31 (-1)) 32 (-1)) 33 (-1)) 34 (-1)) 35 (-1)) 36 (-1)) 37 (-1)) 38 (-1)) 39 (-1)) 40 (-1)) 41 (-1)) 42 (-1)) 43 (-1)) 44 (-1)) 45 (-1)) 46 (-1)) 47 (-1)) 48 (-1)) 49 (-1)) 50 (-1)) 51 (-1)) 52 (-1)) 53 (-1)) 54 (-1)) 55 (-1)) 56 (-1)) 57 (-1)) 58 (-1)) 59 (-1)) 60 (-1)) 61 (-1)) 62 (-1)) 63 (-1)) 64 (-1)) 65 (-1)) 66 (-1)) 67 (-1)) 68 (-1)) 69 (-1)) 70 (-1)) 71 (-1)) 72 (-1)) 73 (-1)) 139 1000) 140 100) 145 1000) 146 100) 151 1000) 152 100) 157 1000) 158 100) 163 1000) 164 100) 169 1000) 170 100) 175 1000) 176 100) 181 1000) 182 100) 110 1))))
theorem ro_2428 (z : pq_C) : pq_Ru 3 165 [.ref 90, .int 36, .int 1] (wd_1544 z) (some (.int 1), (wd_1545 z)) := by
  refine ru_of (k := 2) (M := pm_165) rfl rfl ?_
  refine go_seg 1 (pc' := 1) (ls' := [(0, .ref 90), (1, .int 36), (2, .int 1)]) (st' := [.int 36]) (w' := (wd_1544 z)) (cs' := 0) (ss' := 0) ?_ (fun _ _ => rfl)
  refine go_cl (k := 2) (st' := [.int 1]) (cs' := 0) (ss' := 0) rfl rfl rfl rfl rfl rfl rfl (ro_2427 z) ?_
  refine go_seg 8 (pc' := 24) (ls' := [(0, .ref 90), (1, .int 36), (2, .int 1)]) (st' := [.int 1, .int 0]) (w' := (wd_1544 z)) (cs' := 0) (ss' := 0) ?_ (fun _ _ => rfl)
  refine go_seg 8 (pc' := 42) (ls' := [(3, .int 1), (0, .ref 90), (1, .int 36), (2, .int 1)]) (st' := [.ref 90]) (w' := (wd_1544 z)) (cs' := 0) (ss' := 0) ?_ (fun _ _ => rfl)
  refine go_seg 8 (pc' := 58) (ls' := [(3, .int 1), (0, .ref 90), (1, .int 36), (2, .int 1)]) (st' := [.int 1, .int 110, .ref 91]) (w' := (wd_1544 z)) (cs' := 0) (ss' := 0) ?_ (fun _ _ => rfl)
  exact go_end 3 (fun _ _ => rfl)
theorem lf_2_2430 (a0 : Int32) (a2 : Int32) (a3 : Int32) (a4 : Int32) (a5 : Int32) (h0 : ¬ a2.toInt = 0) : ∃ w', pq_Go 20 pm_law 278 [(3, .int 0), (2, .ref 90), (1, .ref 1), (0, .ref 0)] [] (fw (sz a0 36 a2 a3 a4 a5)) 109 12668 (some (.int 1), w') := by
  refine ⟨(wd_1545 (sz a0 36 a2 a3 a4 a5)), ?_⟩
  refine go_seg 8 (pc' := 286) (ls' := [(3, .int 0), (2, .ref 90), (1, .ref 1), (0, .ref 0)]) (st' := [.int 0, .ref 0, .int 36, .ref 1]) (w' := (fw (sz a0 36 a2 a3 a4 a5))) (cs' := 109) (ss' := 12668) ?_ (fun _ _ => rfl)
  refine go_seg 3 (pc' := 289) (ls' := [(3, .int 0), (2, .ref 90), (1, .ref 1), (0, .ref 0)]) (st' := [.int a2, .int 36, .ref 1]) (w' := (fw (sz a0 36 a2 a3 a4 a5))) (cs' := 109) (ss' := 12668) ?_ (fun _ _ => rfl)
  refine go_if false rfl (br_eq_f (b := 0) rfl (by omega)) ?_
  refine go_seg 2 (pc' := 297) (ls' := [(3, .int 0), (2, .ref 90), (1, .ref 1), (0, .ref 0)]) (st' := [.int 1, .int 36, .ref 1]) (w' := (fw (sz a0 36 a2 a3 a4 a5))) (cs' := 109) (ss' := 12668) ?_ (fun _ _ => rfl)
  refine go_cl (k := 20) (st' := [.int 1]) (cs' := 109) (ss' := 12668) rfl rfl rfl rfl rfl rfl rfl (ro_2425 (sz a0 36 a2 a3 a4 a5)) ?_
  refine go_seg 8 (pc' := 308) (ls' := [(3, .int 0), (2, .ref 90), (1, .ref 1), (0, .ref 0)]) (st' := [.int 0, .ref 0, .int 36, .ref 90, .int 1]) (w' := (wd_1544 (sz a0 36 a2 a3 a4 a5))) (cs' := 109) (ss' := 12668) ?_ (fun _ _ => rfl)
  refine go_seg 3 (pc' := 311) (ls' := [(3, .int 0), (2, .ref 90), (1, .ref 1), (0, .ref 0)]) (st' := [.int a2, .int 36, .ref 90, .int 1]) (w' := (wd_1544 (sz a0 36 a2 a3 a4 a5))) (cs' := 109) (ss' := 12668) ?_ (fun _ _ => rfl)
  refine go_if false rfl (br_eq_f (b := 0) rfl (by omega)) ?_
  refine go_seg 2 (pc' := 319) (ls' := [(3, .int 0), (2, .ref 90), (1, .ref 1), (0, .ref 0)]) (st' := [.int 1, .int 36, .ref 90, .int 1]) (w' := (wd_1544 (sz a0 36 a2 a3 a4 a5))) (cs' := 109) (ss' := 12668) ?_ (fun _ _ => rfl)
  refine go_cl (k := 20) (st' := [.int 1, .int 1]) (cs' := 109) (ss' := 12668) rfl rfl rfl rfl rfl rfl rfl (ro_2428 (sz a0 36 a2 a3 a4 a5)) ?_
  refine go_cmp true rfl (br_self _) ?_
  exact law_tail (f := sc a0 36 a2 a3 a4 a5) rfl
def wd_1546 (z : pq_C) : pq_W := ((fw z).set 4 (.inl (.boolean, 64, .inl (upd (fun _ => 0) 37 1))))
theorem ro_2432 (z : pq_C) : pq_Ru 2 22 [.ref 1, .int 37, .int 1] (fw z) (some (.int 1), (wd_1546 z)) := by
  refine ru_of (k := 1) (M := pm_22) rfl rfl ?_
  refine go_seg 1 (pc' := 1) (ls' := [(0, .ref 1), (1, .int 37), (2, .int 1)]) (st' := [.int 37]) (w' := (fw z)) (cs' := 0) (ss' := 0) ?_ (fun _ _ => rfl)
  refine go_cl (k := 1) (st' := [.int 1]) (cs' := 0) (ss' := 0) rfl rfl rfl rfl rfl rfl rfl (ro_1489 z) ?_
  refine go_seg 8 (pc' := 24) (ls' := [(3, .int 0), (0, .ref 1), (1, .int 37), (2, .int 1)]) (st' := [.ref 1]) (w' := (fw z)) (cs' := 0) (ss' := 0) ?_ (fun _ _ => rfl)
  refine go_seg 8 (pc' := 42) (ls' := [(3, .int 0), (0, .ref 1), (1, .int 37), (2, .int 1)]) (st' := []) (w' := (wd_1546 z)) (cs' := 0) (ss' := 0) ?_ (fun _ _ => rfl)
  exact go_end 2 (fun _ _ => rfl)
theorem ro_2433 (z : pq_C) : pq_Ru 1 161 [.long 37, .long 0, .long 63] (wd_1546 z) (some (.int 1), (wd_1546 z)) := by
  refine ru_of (k := 0) (M := pm_161) rfl rfl ?_
  refine go_seg 8 (pc' := 13) (ls' := [(0, .long 37), (2, .long 0), (4, .long 63)]) (st' := []) (w' := (wd_1546 z)) (cs' := 0) (ss' := 0) ?_ (fun _ _ => rfl)
  exact go_end 3 (fun _ _ => rfl)
theorem ro_2434 (z : pq_C) : pq_Ru 2 160 [.int 37] (wd_1546 z) (some (.int 1), (wd_1546 z)) := by
  refine ru_of (k := 1) (M := pm_160) rfl rfl ?_
  refine go_seg 4 (pc' := 6) (ls' := [(0, .int 37)]) (st' := [.long 63, .long 0, .long 37]) (w' := (wd_1546 z)) (cs' := 0) (ss' := 0) ?_ (fun _ _ => rfl)
  refine go_cl (k := 1) (st' := [.int 1]) (cs' := 0) (ss' := 0) rfl rfl rfl rfl rfl rfl rfl (ro_2433 z) ?_
  exact go_end 1 (fun _ _ => rfl)
def wd_1547 (z : pq_C) : pq_W := ((wd_1546 z).set 91 (.inl (.int, 2858, .inl (upd (upd (upd (upd (upd (upd (upd (upd (upd (upd (upd (upd (upd (upd (upd (upd (upd (upd (upd (upd (upd (upd (upd (upd (upd (upd (upd (upd (upd (upd (upd (upd (upd (upd (upd (upd (upd (upd (upd (upd (upd (upd (upd (upd (upd (upd (upd (upd (upd (upd (upd (upd (upd (upd (upd (upd (upd (upd (upd (upd (upd (upd (upd (upd (upd (upd (upd (upd (upd (upd (upd (upd (upd (upd (upd (upd (upd (upd (upd (upd (upd (upd (fun _ => 0) 1 10) 10 (-1)) 11 (-1)) 12 (-1)) 13 (-1)) 14 (-1)) 15 (-1)) 16 (-1)) 17 (-1)) 18 (-1)) 19 (-1)) 20 (-1)) 21 (-1)) 22 (-1)) 23 (-1)) 24 (-1)) 25 (-1)) 26 (-1)) 27 (-1)) 28 (-1)) 29 (-1)) 30 (-1)) 31 (-1)) 32 (-1)) 33 (-1)) 34 (-1)) 35 (-1)) 36 (-1)) 37 (-1)) 38 (-1)) 39 (-1)) 40 (-1)) 41 (-1)) 42 (-1)) 43 (-1)) 44 (-1)) 45 (-1)) 46 (-1)) 47 (-1)) 48 (-1)) 49 (-1)) 50 (-1)) 51 (-1)) 52 (-1)) 53 (-1)) 54 (-1)) 55 (-1)) 56 (-1)) 57 (-1)) 58 (-1)) 59 (-1)) 60 (-1)) 61 (-1)) 62 (-1)) 63 (-1)) 64 (-1)) 65 (-1)) 66 (-1)) 67 (-1)) 68 (-1)) 69 (-1)) 70 (-1)) 71 (-1)) 72 (-1)) 73 (-1)) 139 1000) 140 100) 145 1000) 146 100) 151 1000) 152 100) 157 1000) 158 100) 163 1000) 164 100) 169 1000) 170 100) 175 1000) 176 100) 181 1000) 182 100) 111 1))))
theorem ro_2435 (z : pq_C) : pq_Ru 3 165 [.ref 90, .int 37, .int 1] (wd_1546 z) (some (.int 1), (wd_1547 z)) := by
  refine ru_of (k := 2) (M := pm_165) rfl rfl ?_
  refine go_seg 1 (pc' := 1) (ls' := [(0, .ref 90), (1, .int 37), (2, .int 1)]) (st' := [.int 37]) (w' := (wd_1546 z)) (cs' := 0) (ss' := 0) ?_ (fun _ _ => rfl)
  refine go_cl (k := 2) (st' := [.int 1]) (cs' := 0) (ss' := 0) rfl rfl rfl rfl rfl rfl rfl (ro_2434 z) ?_
  refine go_seg 8 (pc' := 24) (ls' := [(0, .ref 90), (1, .int 37), (2, .int 1)]) (st' := [.int 1, .int 0]) (w' := (wd_1546 z)) (cs' := 0) (ss' := 0) ?_ (fun _ _ => rfl)
  refine go_seg 8 (pc' := 42) (ls' := [(3, .int 1), (0, .ref 90), (1, .int 37), (2, .int 1)]) (st' := [.ref 90]) (w' := (wd_1546 z)) (cs' := 0) (ss' := 0) ?_ (fun _ _ => rfl)
  refine go_seg 8 (pc' := 58) (ls' := [(3, .int 1), (0, .ref 90), (1, .int 37), (2, .int 1)]) (st' := [.int 1, .int 111, .ref 91]) (w' := (wd_1546 z)) (cs' := 0) (ss' := 0) ?_ (fun _ _ => rfl)
  exact go_end 3 (fun _ _ => rfl)
theorem lf_2_2437 (a0 : Int32) (a2 : Int32) (a3 : Int32) (a4 : Int32) (a5 : Int32) (h0 : ¬ a2.toInt = 0) : ∃ w', pq_Go 20 pm_law 278 [(3, .int 0), (2, .ref 90), (1, .ref 1), (0, .ref 0)] [] (fw (sz a0 37 a2 a3 a4 a5)) 109 12668 (some (.int 1), w') := by
  refine ⟨(wd_1547 (sz a0 37 a2 a3 a4 a5)), ?_⟩
  refine go_seg 8 (pc' := 286) (ls' := [(3, .int 0), (2, .ref 90), (1, .ref 1), (0, .ref 0)]) (st' := [.int 0, .ref 0, .int 37, .ref 1]) (w' := (fw (sz a0 37 a2 a3 a4 a5))) (cs' := 109) (ss' := 12668) ?_ (fun _ _ => rfl)
  refine go_seg 3 (pc' := 289) (ls' := [(3, .int 0), (2, .ref 90), (1, .ref 1), (0, .ref 0)]) (st' := [.int a2, .int 37, .ref 1]) (w' := (fw (sz a0 37 a2 a3 a4 a5))) (cs' := 109) (ss' := 12668) ?_ (fun _ _ => rfl)
  refine go_if false rfl (br_eq_f (b := 0) rfl (by omega)) ?_
  refine go_seg 2 (pc' := 297) (ls' := [(3, .int 0), (2, .ref 90), (1, .ref 1), (0, .ref 0)]) (st' := [.int 1, .int 37, .ref 1]) (w' := (fw (sz a0 37 a2 a3 a4 a5))) (cs' := 109) (ss' := 12668) ?_ (fun _ _ => rfl)
  refine go_cl (k := 20) (st' := [.int 1]) (cs' := 109) (ss' := 12668) rfl rfl rfl rfl rfl rfl rfl (ro_2432 (sz a0 37 a2 a3 a4 a5)) ?_
  refine go_seg 8 (pc' := 308) (ls' := [(3, .int 0), (2, .ref 90), (1, .ref 1), (0, .ref 0)]) (st' := [.int 0, .ref 0, .int 37, .ref 90, .int 1]) (w' := (wd_1546 (sz a0 37 a2 a3 a4 a5))) (cs' := 109) (ss' := 12668) ?_ (fun _ _ => rfl)
  refine go_seg 3 (pc' := 311) (ls' := [(3, .int 0), (2, .ref 90), (1, .ref 1), (0, .ref 0)]) (st' := [.int a2, .int 37, .ref 90, .int 1]) (w' := (wd_1546 (sz a0 37 a2 a3 a4 a5))) (cs' := 109) (ss' := 12668) ?_ (fun _ _ => rfl)
  refine go_if false rfl (br_eq_f (b := 0) rfl (by omega)) ?_
  refine go_seg 2 (pc' := 319) (ls' := [(3, .int 0), (2, .ref 90), (1, .ref 1), (0, .ref 0)]) (st' := [.int 1, .int 37, .ref 90, .int 1]) (w' := (wd_1546 (sz a0 37 a2 a3 a4 a5))) (cs' := 109) (ss' := 12668) ?_ (fun _ _ => rfl)
  refine go_cl (k := 20) (st' := [.int 1, .int 1]) (cs' := 109) (ss' := 12668) rfl rfl rfl rfl rfl rfl rfl (ro_2435 (sz a0 37 a2 a3 a4 a5)) ?_
  refine go_cmp true rfl (br_self _) ?_
  exact law_tail (f := sc a0 37 a2 a3 a4 a5) rfl
def wd_1548 (z : pq_C) : pq_W := ((fw z).set 4 (.inl (.boolean, 64, .inl (upd (fun _ => 0) 38 1))))
theorem ro_2439 (z : pq_C) : pq_Ru 2 22 [.ref 1, .int 38, .int 1] (fw z) (some (.int 1), (wd_1548 z)) := by
  refine ru_of (k := 1) (M := pm_22) rfl rfl ?_
  refine go_seg 1 (pc' := 1) (ls' := [(0, .ref 1), (1, .int 38), (2, .int 1)]) (st' := [.int 38]) (w' := (fw z)) (cs' := 0) (ss' := 0) ?_ (fun _ _ => rfl)
  refine go_cl (k := 1) (st' := [.int 1]) (cs' := 0) (ss' := 0) rfl rfl rfl rfl rfl rfl rfl (ro_1497 z) ?_
  refine go_seg 8 (pc' := 24) (ls' := [(3, .int 0), (0, .ref 1), (1, .int 38), (2, .int 1)]) (st' := [.ref 1]) (w' := (fw z)) (cs' := 0) (ss' := 0) ?_ (fun _ _ => rfl)
  refine go_seg 8 (pc' := 42) (ls' := [(3, .int 0), (0, .ref 1), (1, .int 38), (2, .int 1)]) (st' := []) (w' := (wd_1548 z)) (cs' := 0) (ss' := 0) ?_ (fun _ _ => rfl)
  exact go_end 2 (fun _ _ => rfl)
theorem ro_2440 (z : pq_C) : pq_Ru 1 161 [.long 38, .long 0, .long 63] (wd_1548 z) (some (.int 1), (wd_1548 z)) := by
  refine ru_of (k := 0) (M := pm_161) rfl rfl ?_
  refine go_seg 8 (pc' := 13) (ls' := [(0, .long 38), (2, .long 0), (4, .long 63)]) (st' := []) (w' := (wd_1548 z)) (cs' := 0) (ss' := 0) ?_ (fun _ _ => rfl)
  exact go_end 3 (fun _ _ => rfl)
theorem ro_2441 (z : pq_C) : pq_Ru 2 160 [.int 38] (wd_1548 z) (some (.int 1), (wd_1548 z)) := by
  refine ru_of (k := 1) (M := pm_160) rfl rfl ?_
  refine go_seg 4 (pc' := 6) (ls' := [(0, .int 38)]) (st' := [.long 63, .long 0, .long 38]) (w' := (wd_1548 z)) (cs' := 0) (ss' := 0) ?_ (fun _ _ => rfl)
  refine go_cl (k := 1) (st' := [.int 1]) (cs' := 0) (ss' := 0) rfl rfl rfl rfl rfl rfl rfl (ro_2440 z) ?_
  exact go_end 1 (fun _ _ => rfl)
def wd_1549 (z : pq_C) : pq_W := ((wd_1548 z).set 91 (.inl (.int, 2858, .inl (upd (upd (upd (upd (upd (upd (upd (upd (upd (upd (upd (upd (upd (upd (upd (upd (upd (upd (upd (upd (upd (upd (upd (upd (upd (upd (upd (upd (upd (upd (upd (upd (upd (upd (upd (upd (upd (upd (upd (upd (upd (upd (upd (upd (upd (upd (upd (upd (upd (upd (upd (upd (upd (upd (upd (upd (upd (upd (upd (upd (upd (upd (upd (upd (upd (upd (upd (upd (upd (upd (upd (upd (upd (upd (upd (upd (upd (upd (upd (upd (upd (upd (fun _ => 0) 1 10) 10 (-1)) 11 (-1)) 12 (-1)) 13 (-1)) 14 (-1)) 15 (-1)) 16 (-1)) 17 (-1)) 18 (-1)) 19 (-1)) 20 (-1)) 21 (-1)) 22 (-1)) 23 (-1)) 24 (-1)) 25 (-1)) 26 (-1)) 27 (-1)) 28 (-1)) 29 (-1)) 30 (-1)) 31 (-1)) 32 (-1)) 33 (-1)) 34 (-1)) 35 (-1)) 36 (-1)) 37 (-1)) 38 (-1)) 39 (-1)) 40 (-1)) 41 (-1)) 42 (-1)) 43 (-1)) 44 (-1)) 45 (-1)) 46 (-1)) 47 (-1)) 48 (-1)) 49 (-1)) 50 (-1)) 51 (-1)) 52 (-1)) 53 (-1)) 54 (-1)) 55 (-1)) 56 (-1)) 57 (-1)) 58 (-1)) 59 (-1)) 60 (-1)) 61 (-1)) 62 (-1)) 63 (-1)) 64 (-1)) 65 (-1)) 66 (-1)) 67 (-1)) 68 (-1)) 69 (-1)) 70 (-1)) 71 (-1)) 72 (-1)) 73 (-1)) 139 1000) 140 100) 145 1000) 146 100) 151 1000) 152 100) 157 1000) 158 100) 163 1000) 164 100) 169 1000) 170 100) 175 1000) 176 100) 181 1000) 182 100) 112 1))))
theorem ro_2442 (z : pq_C) : pq_Ru 3 165 [.ref 90, .int 38, .int 1] (wd_1548 z) (some (.int 1), (wd_1549 z)) := by
  refine ru_of (k := 2) (M := pm_165) rfl rfl ?_
  refine go_seg 1 (pc' := 1) (ls' := [(0, .ref 90), (1, .int 38), (2, .int 1)]) (st' := [.int 38]) (w' := (wd_1548 z)) (cs' := 0) (ss' := 0) ?_ (fun _ _ => rfl)
  refine go_cl (k := 2) (st' := [.int 1]) (cs' := 0) (ss' := 0) rfl rfl rfl rfl rfl rfl rfl (ro_2441 z) ?_
  refine go_seg 8 (pc' := 24) (ls' := [(0, .ref 90), (1, .int 38), (2, .int 1)]) (st' := [.int 1, .int 0]) (w' := (wd_1548 z)) (cs' := 0) (ss' := 0) ?_ (fun _ _ => rfl)
  refine go_seg 8 (pc' := 42) (ls' := [(3, .int 1), (0, .ref 90), (1, .int 38), (2, .int 1)]) (st' := [.ref 90]) (w' := (wd_1548 z)) (cs' := 0) (ss' := 0) ?_ (fun _ _ => rfl)
  refine go_seg 8 (pc' := 58) (ls' := [(3, .int 1), (0, .ref 90), (1, .int 38), (2, .int 1)]) (st' := [.int 1, .int 112, .ref 91]) (w' := (wd_1548 z)) (cs' := 0) (ss' := 0) ?_ (fun _ _ => rfl)
  exact go_end 3 (fun _ _ => rfl)
theorem lf_2_2444 (a0 : Int32) (a2 : Int32) (a3 : Int32) (a4 : Int32) (a5 : Int32) (h0 : ¬ a2.toInt = 0) : ∃ w', pq_Go 20 pm_law 278 [(3, .int 0), (2, .ref 90), (1, .ref 1), (0, .ref 0)] [] (fw (sz a0 38 a2 a3 a4 a5)) 109 12668 (some (.int 1), w') := by
  refine ⟨(wd_1549 (sz a0 38 a2 a3 a4 a5)), ?_⟩
  refine go_seg 8 (pc' := 286) (ls' := [(3, .int 0), (2, .ref 90), (1, .ref 1), (0, .ref 0)]) (st' := [.int 0, .ref 0, .int 38, .ref 1]) (w' := (fw (sz a0 38 a2 a3 a4 a5))) (cs' := 109) (ss' := 12668) ?_ (fun _ _ => rfl)
  refine go_seg 3 (pc' := 289) (ls' := [(3, .int 0), (2, .ref 90), (1, .ref 1), (0, .ref 0)]) (st' := [.int a2, .int 38, .ref 1]) (w' := (fw (sz a0 38 a2 a3 a4 a5))) (cs' := 109) (ss' := 12668) ?_ (fun _ _ => rfl)
  refine go_if false rfl (br_eq_f (b := 0) rfl (by omega)) ?_
  refine go_seg 2 (pc' := 297) (ls' := [(3, .int 0), (2, .ref 90), (1, .ref 1), (0, .ref 0)]) (st' := [.int 1, .int 38, .ref 1]) (w' := (fw (sz a0 38 a2 a3 a4 a5))) (cs' := 109) (ss' := 12668) ?_ (fun _ _ => rfl)
  refine go_cl (k := 20) (st' := [.int 1]) (cs' := 109) (ss' := 12668) rfl rfl rfl rfl rfl rfl rfl (ro_2439 (sz a0 38 a2 a3 a4 a5)) ?_
  refine go_seg 8 (pc' := 308) (ls' := [(3, .int 0), (2, .ref 90), (1, .ref 1), (0, .ref 0)]) (st' := [.int 0, .ref 0, .int 38, .ref 90, .int 1]) (w' := (wd_1548 (sz a0 38 a2 a3 a4 a5))) (cs' := 109) (ss' := 12668) ?_ (fun _ _ => rfl)
  refine go_seg 3 (pc' := 311) (ls' := [(3, .int 0), (2, .ref 90), (1, .ref 1), (0, .ref 0)]) (st' := [.int a2, .int 38, .ref 90, .int 1]) (w' := (wd_1548 (sz a0 38 a2 a3 a4 a5))) (cs' := 109) (ss' := 12668) ?_ (fun _ _ => rfl)
  refine go_if false rfl (br_eq_f (b := 0) rfl (by omega)) ?_
  refine go_seg 2 (pc' := 319) (ls' := [(3, .int 0), (2, .ref 90), (1, .ref 1), (0, .ref 0)]) (st' := [.int 1, .int 38, .ref 90, .int 1]) (w' := (wd_1548 (sz a0 38 a2 a3 a4 a5))) (cs' := 109) (ss' := 12668) ?_ (fun _ _ => rfl)
  refine go_cl (k := 20) (st' := [.int 1, .int 1]) (cs' := 109) (ss' := 12668) rfl rfl rfl rfl rfl rfl rfl (ro_2442 (sz a0 38 a2 a3 a4 a5)) ?_
  refine go_cmp true rfl (br_self _) ?_
  exact law_tail (f := sc a0 38 a2 a3 a4 a5) rfl
def wd_1550 (z : pq_C) : pq_W := ((fw z).set 4 (.inl (.boolean, 64, .inl (upd (fun _ => 0) 39 1))))
theorem ro_2446 (z : pq_C) : pq_Ru 2 22 [.ref 1, .int 39, .int 1] (fw z) (some (.int 1), (wd_1550 z)) := by
  refine ru_of (k := 1) (M := pm_22) rfl rfl ?_
  refine go_seg 1 (pc' := 1) (ls' := [(0, .ref 1), (1, .int 39), (2, .int 1)]) (st' := [.int 39]) (w' := (fw z)) (cs' := 0) (ss' := 0) ?_ (fun _ _ => rfl)
  refine go_cl (k := 1) (st' := [.int 1]) (cs' := 0) (ss' := 0) rfl rfl rfl rfl rfl rfl rfl (ro_1505 z) ?_
  refine go_seg 8 (pc' := 24) (ls' := [(3, .int 0), (0, .ref 1), (1, .int 39), (2, .int 1)]) (st' := [.ref 1]) (w' := (fw z)) (cs' := 0) (ss' := 0) ?_ (fun _ _ => rfl)
  refine go_seg 8 (pc' := 42) (ls' := [(3, .int 0), (0, .ref 1), (1, .int 39), (2, .int 1)]) (st' := []) (w' := (wd_1550 z)) (cs' := 0) (ss' := 0) ?_ (fun _ _ => rfl)
  exact go_end 2 (fun _ _ => rfl)
theorem ro_2447 (z : pq_C) : pq_Ru 1 161 [.long 39, .long 0, .long 63] (wd_1550 z) (some (.int 1), (wd_1550 z)) := by
  refine ru_of (k := 0) (M := pm_161) rfl rfl ?_
  refine go_seg 8 (pc' := 13) (ls' := [(0, .long 39), (2, .long 0), (4, .long 63)]) (st' := []) (w' := (wd_1550 z)) (cs' := 0) (ss' := 0) ?_ (fun _ _ => rfl)
  exact go_end 3 (fun _ _ => rfl)
theorem ro_2448 (z : pq_C) : pq_Ru 2 160 [.int 39] (wd_1550 z) (some (.int 1), (wd_1550 z)) := by
  refine ru_of (k := 1) (M := pm_160) rfl rfl ?_
  refine go_seg 4 (pc' := 6) (ls' := [(0, .int 39)]) (st' := [.long 63, .long 0, .long 39]) (w' := (wd_1550 z)) (cs' := 0) (ss' := 0) ?_ (fun _ _ => rfl)
  refine go_cl (k := 1) (st' := [.int 1]) (cs' := 0) (ss' := 0) rfl rfl rfl rfl rfl rfl rfl (ro_2447 z) ?_
  exact go_end 1 (fun _ _ => rfl)
def wd_1551 (z : pq_C) : pq_W := ((wd_1550 z).set 91 (.inl (.int, 2858, .inl (upd (upd (upd (upd (upd (upd (upd (upd (upd (upd (upd (upd (upd (upd (upd (upd (upd (upd (upd (upd (upd (upd (upd (upd (upd (upd (upd (upd (upd (upd (upd (upd (upd (upd (upd (upd (upd (upd (upd (upd (upd (upd (upd (upd (upd (upd (upd (upd (upd (upd (upd (upd (upd (upd (upd (upd (upd (upd (upd (upd (upd (upd (upd (upd (upd (upd (upd (upd (upd (upd (upd (upd (upd (upd (upd (upd (upd (upd (upd (upd (upd (upd (fun _ => 0) 1 10) 10 (-1)) 11 (-1)) 12 (-1)) 13 (-1)) 14 (-1)) 15 (-1)) 16 (-1)) 17 (-1)) 18 (-1)) 19 (-1)) 20 (-1)) 21 (-1)) 22 (-1)) 23 (-1)) 24 (-1)) 25 (-1)) 26 (-1)) 27 (-1)) 28 (-1)) 29 (-1)) 30 (-1)) 31 (-1)) 32 (-1)) 33 (-1)) 34 (-1)) 35 (-1)) 36 (-1)) 37 (-1)) 38 (-1)) 39 (-1)) 40 (-1)) 41 (-1)) 42 (-1)) 43 (-1)) 44 (-1)) 45 (-1)) 46 (-1)) 47 (-1)) 48 (-1)) 49 (-1)) 50 (-1)) 51 (-1)) 52 (-1)) 53 (-1)) 54 (-1)) 55 (-1)) 56 (-1)) 57 (-1)) 58 (-1)) 59 (-1)) 60 (-1)) 61 (-1)) 62 (-1)) 63 (-1)) 64 (-1)) 65 (-1)) 66 (-1)) 67 (-1)) 68 (-1)) 69 (-1)) 70 (-1)) 71 (-1)) 72 (-1)) 73 (-1)) 139 1000) 140 100) 145 1000) 146 100) 151 1000) 152 100) 157 1000) 158 100) 163 1000) 164 100) 169 1000) 170 100) 175 1000) 176 100) 181 1000) 182 100) 113 1))))
theorem ro_2449 (z : pq_C) : pq_Ru 3 165 [.ref 90, .int 39, .int 1] (wd_1550 z) (some (.int 1), (wd_1551 z)) := by
  refine ru_of (k := 2) (M := pm_165) rfl rfl ?_
  refine go_seg 1 (pc' := 1) (ls' := [(0, .ref 90), (1, .int 39), (2, .int 1)]) (st' := [.int 39]) (w' := (wd_1550 z)) (cs' := 0) (ss' := 0) ?_ (fun _ _ => rfl)
  refine go_cl (k := 2) (st' := [.int 1]) (cs' := 0) (ss' := 0) rfl rfl rfl rfl rfl rfl rfl (ro_2448 z) ?_
  refine go_seg 8 (pc' := 24) (ls' := [(0, .ref 90), (1, .int 39), (2, .int 1)]) (st' := [.int 1, .int 0]) (w' := (wd_1550 z)) (cs' := 0) (ss' := 0) ?_ (fun _ _ => rfl)
  refine go_seg 8 (pc' := 42) (ls' := [(3, .int 1), (0, .ref 90), (1, .int 39), (2, .int 1)]) (st' := [.ref 90]) (w' := (wd_1550 z)) (cs' := 0) (ss' := 0) ?_ (fun _ _ => rfl)
  refine go_seg 8 (pc' := 58) (ls' := [(3, .int 1), (0, .ref 90), (1, .int 39), (2, .int 1)]) (st' := [.int 1, .int 113, .ref 91]) (w' := (wd_1550 z)) (cs' := 0) (ss' := 0) ?_ (fun _ _ => rfl)
  exact go_end 3 (fun _ _ => rfl)
theorem lf_2_2451 (a0 : Int32) (a2 : Int32) (a3 : Int32) (a4 : Int32) (a5 : Int32) (h0 : ¬ a2.toInt = 0) : ∃ w', pq_Go 20 pm_law 278 [(3, .int 0), (2, .ref 90), (1, .ref 1), (0, .ref 0)] [] (fw (sz a0 39 a2 a3 a4 a5)) 109 12668 (some (.int 1), w') := by
  refine ⟨(wd_1551 (sz a0 39 a2 a3 a4 a5)), ?_⟩
  refine go_seg 8 (pc' := 286) (ls' := [(3, .int 0), (2, .ref 90), (1, .ref 1), (0, .ref 0)]) (st' := [.int 0, .ref 0, .int 39, .ref 1]) (w' := (fw (sz a0 39 a2 a3 a4 a5))) (cs' := 109) (ss' := 12668) ?_ (fun _ _ => rfl)
  refine go_seg 3 (pc' := 289) (ls' := [(3, .int 0), (2, .ref 90), (1, .ref 1), (0, .ref 0)]) (st' := [.int a2, .int 39, .ref 1]) (w' := (fw (sz a0 39 a2 a3 a4 a5))) (cs' := 109) (ss' := 12668) ?_ (fun _ _ => rfl)
  refine go_if false rfl (br_eq_f (b := 0) rfl (by omega)) ?_
  refine go_seg 2 (pc' := 297) (ls' := [(3, .int 0), (2, .ref 90), (1, .ref 1), (0, .ref 0)]) (st' := [.int 1, .int 39, .ref 1]) (w' := (fw (sz a0 39 a2 a3 a4 a5))) (cs' := 109) (ss' := 12668) ?_ (fun _ _ => rfl)
  refine go_cl (k := 20) (st' := [.int 1]) (cs' := 109) (ss' := 12668) rfl rfl rfl rfl rfl rfl rfl (ro_2446 (sz a0 39 a2 a3 a4 a5)) ?_
  refine go_seg 8 (pc' := 308) (ls' := [(3, .int 0), (2, .ref 90), (1, .ref 1), (0, .ref 0)]) (st' := [.int 0, .ref 0, .int 39, .ref 90, .int 1]) (w' := (wd_1550 (sz a0 39 a2 a3 a4 a5))) (cs' := 109) (ss' := 12668) ?_ (fun _ _ => rfl)
  refine go_seg 3 (pc' := 311) (ls' := [(3, .int 0), (2, .ref 90), (1, .ref 1), (0, .ref 0)]) (st' := [.int a2, .int 39, .ref 90, .int 1]) (w' := (wd_1550 (sz a0 39 a2 a3 a4 a5))) (cs' := 109) (ss' := 12668) ?_ (fun _ _ => rfl)
  refine go_if false rfl (br_eq_f (b := 0) rfl (by omega)) ?_
  refine go_seg 2 (pc' := 319) (ls' := [(3, .int 0), (2, .ref 90), (1, .ref 1), (0, .ref 0)]) (st' := [.int 1, .int 39, .ref 90, .int 1]) (w' := (wd_1550 (sz a0 39 a2 a3 a4 a5))) (cs' := 109) (ss' := 12668) ?_ (fun _ _ => rfl)
  refine go_cl (k := 20) (st' := [.int 1, .int 1]) (cs' := 109) (ss' := 12668) rfl rfl rfl rfl rfl rfl rfl (ro_2449 (sz a0 39 a2 a3 a4 a5)) ?_
  refine go_cmp true rfl (br_self _) ?_
  exact law_tail (f := sc a0 39 a2 a3 a4 a5) rfl
def wd_1552 (z : pq_C) : pq_W := ((fw z).set 4 (.inl (.boolean, 64, .inl (upd (fun _ => 0) 40 1))))
theorem ro_2453 (z : pq_C) : pq_Ru 2 22 [.ref 1, .int 40, .int 1] (fw z) (some (.int 1), (wd_1552 z)) := by
  refine ru_of (k := 1) (M := pm_22) rfl rfl ?_
  refine go_seg 1 (pc' := 1) (ls' := [(0, .ref 1), (1, .int 40), (2, .int 1)]) (st' := [.int 40]) (w' := (fw z)) (cs' := 0) (ss' := 0) ?_ (fun _ _ => rfl)
  refine go_cl (k := 1) (st' := [.int 1]) (cs' := 0) (ss' := 0) rfl rfl rfl rfl rfl rfl rfl (ro_1513 z) ?_
  refine go_seg 8 (pc' := 24) (ls' := [(3, .int 0), (0, .ref 1), (1, .int 40), (2, .int 1)]) (st' := [.ref 1]) (w' := (fw z)) (cs' := 0) (ss' := 0) ?_ (fun _ _ => rfl)
  refine go_seg 8 (pc' := 42) (ls' := [(3, .int 0), (0, .ref 1), (1, .int 40), (2, .int 1)]) (st' := []) (w' := (wd_1552 z)) (cs' := 0) (ss' := 0) ?_ (fun _ _ => rfl)
  exact go_end 2 (fun _ _ => rfl)
theorem ro_2454 (z : pq_C) : pq_Ru 1 161 [.long 40, .long 0, .long 63] (wd_1552 z) (some (.int 1), (wd_1552 z)) := by
  refine ru_of (k := 0) (M := pm_161) rfl rfl ?_
  refine go_seg 8 (pc' := 13) (ls' := [(0, .long 40), (2, .long 0), (4, .long 63)]) (st' := []) (w' := (wd_1552 z)) (cs' := 0) (ss' := 0) ?_ (fun _ _ => rfl)
  exact go_end 3 (fun _ _ => rfl)
theorem ro_2455 (z : pq_C) : pq_Ru 2 160 [.int 40] (wd_1552 z) (some (.int 1), (wd_1552 z)) := by
  refine ru_of (k := 1) (M := pm_160) rfl rfl ?_
  refine go_seg 4 (pc' := 6) (ls' := [(0, .int 40)]) (st' := [.long 63, .long 0, .long 40]) (w' := (wd_1552 z)) (cs' := 0) (ss' := 0) ?_ (fun _ _ => rfl)
  refine go_cl (k := 1) (st' := [.int 1]) (cs' := 0) (ss' := 0) rfl rfl rfl rfl rfl rfl rfl (ro_2454 z) ?_
  exact go_end 1 (fun _ _ => rfl)
def wd_1553 (z : pq_C) : pq_W := ((wd_1552 z).set 91 (.inl (.int, 2858, .inl (upd (upd (upd (upd (upd (upd (upd (upd (upd (upd (upd (upd (upd (upd (upd (upd (upd (upd (upd (upd (upd (upd (upd (upd (upd (upd (upd (upd (upd (upd (upd (upd (upd (upd (upd (upd (upd (upd (upd (upd (upd (upd (upd (upd (upd (upd (upd (upd (upd (upd (upd (upd (upd (upd (upd (upd (upd (upd (upd (upd (upd (upd (upd (upd (upd (upd (upd (upd (upd (upd (upd (upd (upd (upd (upd (upd (upd (upd (upd (upd (upd (upd (fun _ => 0) 1 10) 10 (-1)) 11 (-1)) 12 (-1)) 13 (-1)) 14 (-1)) 15 (-1)) 16 (-1)) 17 (-1)) 18 (-1)) 19 (-1)) 20 (-1)) 21 (-1)) 22 (-1)) 23 (-1)) 24 (-1)) 25 (-1)) 26 (-1)) 27 (-1)) 28 (-1)) 29 (-1)) 30 (-1)) 31 (-1)) 32 (-1)) 33 (-1)) 34 (-1)) 35 (-1)) 36 (-1)) 37 (-1)) 38 (-1)) 39 (-1)) 40 (-1)) 41 (-1)) 42 (-1)) 43 (-1)) 44 (-1)) 45 (-1)) 46 (-1)) 47 (-1)) 48 (-1)) 49 (-1)) 50 (-1)) 51 (-1)) 52 (-1)) 53 (-1)) 54 (-1)) 55 (-1)) 56 (-1)) 57 (-1)) 58 (-1)) 59 (-1)) 60 (-1)) 61 (-1)) 62 (-1)) 63 (-1)) 64 (-1)) 65 (-1)) 66 (-1)) 67 (-1)) 68 (-1)) 69 (-1)) 70 (-1)) 71 (-1)) 72 (-1)) 73 (-1)) 139 1000) 140 100) 145 1000) 146 100) 151 1000) 152 100) 157 1000) 158 100) 163 1000) 164 100) 169 1000) 170 100) 175 1000) 176 100) 181 1000) 182 100) 114 1))))
theorem ro_2456 (z : pq_C) : pq_Ru 3 165 [.ref 90, .int 40, .int 1] (wd_1552 z) (some (.int 1), (wd_1553 z)) := by
  refine ru_of (k := 2) (M := pm_165) rfl rfl ?_
  refine go_seg 1 (pc' := 1) (ls' := [(0, .ref 90), (1, .int 40), (2, .int 1)]) (st' := [.int 40]) (w' := (wd_1552 z)) (cs' := 0) (ss' := 0) ?_ (fun _ _ => rfl)
  refine go_cl (k := 2) (st' := [.int 1]) (cs' := 0) (ss' := 0) rfl rfl rfl rfl rfl rfl rfl (ro_2455 z) ?_
  refine go_seg 8 (pc' := 24) (ls' := [(0, .ref 90), (1, .int 40), (2, .int 1)]) (st' := [.int 1, .int 0]) (w' := (wd_1552 z)) (cs' := 0) (ss' := 0) ?_ (fun _ _ => rfl)
  refine go_seg 8 (pc' := 42) (ls' := [(3, .int 1), (0, .ref 90), (1, .int 40), (2, .int 1)]) (st' := [.ref 90]) (w' := (wd_1552 z)) (cs' := 0) (ss' := 0) ?_ (fun _ _ => rfl)
  refine go_seg 8 (pc' := 58) (ls' := [(3, .int 1), (0, .ref 90), (1, .int 40), (2, .int 1)]) (st' := [.int 1, .int 114, .ref 91]) (w' := (wd_1552 z)) (cs' := 0) (ss' := 0) ?_ (fun _ _ => rfl)
  exact go_end 3 (fun _ _ => rfl)
theorem lf_2_2458 (a0 : Int32) (a2 : Int32) (a3 : Int32) (a4 : Int32) (a5 : Int32) (h0 : ¬ a2.toInt = 0) : ∃ w', pq_Go 20 pm_law 278 [(3, .int 0), (2, .ref 90), (1, .ref 1), (0, .ref 0)] [] (fw (sz a0 40 a2 a3 a4 a5)) 109 12668 (some (.int 1), w') := by
  refine ⟨(wd_1553 (sz a0 40 a2 a3 a4 a5)), ?_⟩
  refine go_seg 8 (pc' := 286) (ls' := [(3, .int 0), (2, .ref 90), (1, .ref 1), (0, .ref 0)]) (st' := [.int 0, .ref 0, .int 40, .ref 1]) (w' := (fw (sz a0 40 a2 a3 a4 a5))) (cs' := 109) (ss' := 12668) ?_ (fun _ _ => rfl)
  refine go_seg 3 (pc' := 289) (ls' := [(3, .int 0), (2, .ref 90), (1, .ref 1), (0, .ref 0)]) (st' := [.int a2, .int 40, .ref 1]) (w' := (fw (sz a0 40 a2 a3 a4 a5))) (cs' := 109) (ss' := 12668) ?_ (fun _ _ => rfl)
  refine go_if false rfl (br_eq_f (b := 0) rfl (by omega)) ?_
  refine go_seg 2 (pc' := 297) (ls' := [(3, .int 0), (2, .ref 90), (1, .ref 1), (0, .ref 0)]) (st' := [.int 1, .int 40, .ref 1]) (w' := (fw (sz a0 40 a2 a3 a4 a5))) (cs' := 109) (ss' := 12668) ?_ (fun _ _ => rfl)
  refine go_cl (k := 20) (st' := [.int 1]) (cs' := 109) (ss' := 12668) rfl rfl rfl rfl rfl rfl rfl (ro_2453 (sz a0 40 a2 a3 a4 a5)) ?_
  refine go_seg 8 (pc' := 308) (ls' := [(3, .int 0), (2, .ref 90), (1, .ref 1), (0, .ref 0)]) (st' := [.int 0, .ref 0, .int 40, .ref 90, .int 1]) (w' := (wd_1552 (sz a0 40 a2 a3 a4 a5))) (cs' := 109) (ss' := 12668) ?_ (fun _ _ => rfl)
  refine go_seg 3 (pc' := 311) (ls' := [(3, .int 0), (2, .ref 90), (1, .ref 1), (0, .ref 0)]) (st' := [.int a2, .int 40, .ref 90, .int 1]) (w' := (wd_1552 (sz a0 40 a2 a3 a4 a5))) (cs' := 109) (ss' := 12668) ?_ (fun _ _ => rfl)
  refine go_if false rfl (br_eq_f (b := 0) rfl (by omega)) ?_
  refine go_seg 2 (pc' := 319) (ls' := [(3, .int 0), (2, .ref 90), (1, .ref 1), (0, .ref 0)]) (st' := [.int 1, .int 40, .ref 90, .int 1]) (w' := (wd_1552 (sz a0 40 a2 a3 a4 a5))) (cs' := 109) (ss' := 12668) ?_ (fun _ _ => rfl)
  refine go_cl (k := 20) (st' := [.int 1, .int 1]) (cs' := 109) (ss' := 12668) rfl rfl rfl rfl rfl rfl rfl (ro_2456 (sz a0 40 a2 a3 a4 a5)) ?_
  refine go_cmp true rfl (br_self _) ?_
  exact law_tail (f := sc a0 40 a2 a3 a4 a5) rfl
def wd_1554 (z : pq_C) : pq_W := ((fw z).set 4 (.inl (.boolean, 64, .inl (upd (fun _ => 0) 41 1))))
theorem ro_2460 (z : pq_C) : pq_Ru 2 22 [.ref 1, .int 41, .int 1] (fw z) (some (.int 1), (wd_1554 z)) := by
  refine ru_of (k := 1) (M := pm_22) rfl rfl ?_
  refine go_seg 1 (pc' := 1) (ls' := [(0, .ref 1), (1, .int 41), (2, .int 1)]) (st' := [.int 41]) (w' := (fw z)) (cs' := 0) (ss' := 0) ?_ (fun _ _ => rfl)
  refine go_cl (k := 1) (st' := [.int 1]) (cs' := 0) (ss' := 0) rfl rfl rfl rfl rfl rfl rfl (ro_1521 z) ?_
  refine go_seg 8 (pc' := 24) (ls' := [(3, .int 0), (0, .ref 1), (1, .int 41), (2, .int 1)]) (st' := [.ref 1]) (w' := (fw z)) (cs' := 0) (ss' := 0) ?_ (fun _ _ => rfl)
  refine go_seg 8 (pc' := 42) (ls' := [(3, .int 0), (0, .ref 1), (1, .int 41), (2, .int 1)]) (st' := []) (w' := (wd_1554 z)) (cs' := 0) (ss' := 0) ?_ (fun _ _ => rfl)
  exact go_end 2 (fun _ _ => rfl)
theorem ro_2461 (z : pq_C) : pq_Ru 1 161 [.long 41, .long 0, .long 63] (wd_1554 z) (some (.int 1), (wd_1554 z)) := by
  refine ru_of (k := 0) (M := pm_161) rfl rfl ?_
  refine go_seg 8 (pc' := 13) (ls' := [(0, .long 41), (2, .long 0), (4, .long 63)]) (st' := []) (w' := (wd_1554 z)) (cs' := 0) (ss' := 0) ?_ (fun _ _ => rfl)
  exact go_end 3 (fun _ _ => rfl)
theorem ro_2462 (z : pq_C) : pq_Ru 2 160 [.int 41] (wd_1554 z) (some (.int 1), (wd_1554 z)) := by
  refine ru_of (k := 1) (M := pm_160) rfl rfl ?_
  refine go_seg 4 (pc' := 6) (ls' := [(0, .int 41)]) (st' := [.long 63, .long 0, .long 41]) (w' := (wd_1554 z)) (cs' := 0) (ss' := 0) ?_ (fun _ _ => rfl)
  refine go_cl (k := 1) (st' := [.int 1]) (cs' := 0) (ss' := 0) rfl rfl rfl rfl rfl rfl rfl (ro_2461 z) ?_
  exact go_end 1 (fun _ _ => rfl)
def wd_1555 (z : pq_C) : pq_W := ((wd_1554 z).set 91 (.inl (.int, 2858, .inl (upd (upd (upd (upd (upd (upd (upd (upd (upd (upd (upd (upd (upd (upd (upd (upd (upd (upd (upd (upd (upd (upd (upd (upd (upd (upd (upd (upd (upd (upd (upd (upd (upd (upd (upd (upd (upd (upd (upd (upd (upd (upd (upd (upd (upd (upd (upd (upd (upd (upd (upd (upd (upd (upd (upd (upd (upd (upd (upd (upd (upd (upd (upd (upd (upd (upd (upd (upd (upd (upd (upd (upd (upd (upd (upd (upd (upd (upd (upd (upd (upd (upd (fun _ => 0) 1 10) 10 (-1)) 11 (-1)) 12 (-1)) 13 (-1)) 14 (-1)) 15 (-1)) 16 (-1)) 17 (-1)) 18 (-1)) 19 (-1)) 20 (-1)) 21 (-1)) 22 (-1)) 23 (-1)) 24 (-1)) 25 (-1)) 26 (-1)) 27 (-1)) 28 (-1)) 29 (-1)) 30 (-1)) 31 (-1)) 32 (-1)) 33 (-1)) 34 (-1)) 35 (-1)) 36 (-1)) 37 (-1)) 38 (-1)) 39 (-1)) 40 (-1)) 41 (-1)) 42 (-1)) 43 (-1)) 44 (-1)) 45 (-1)) 46 (-1)) 47 (-1)) 48 (-1)) 49 (-1)) 50 (-1)) 51 (-1)) 52 (-1)) 53 (-1)) 54 (-1)) 55 (-1)) 56 (-1)) 57 (-1)) 58 (-1)) 59 (-1)) 60 (-1)) 61 (-1)) 62 (-1)) 63 (-1)) 64 (-1)) 65 (-1)) 66 (-1)) 67 (-1)) 68 (-1)) 69 (-1)) 70 (-1)) 71 (-1)) 72 (-1)) 73 (-1)) 139 1000) 140 100) 145 1000) 146 100) 151 1000) 152 100) 157 1000) 158 100) 163 1000) 164 100) 169 1000) 170 100) 175 1000) 176 100) 181 1000) 182 100) 115 1))))
theorem ro_2463 (z : pq_C) : pq_Ru 3 165 [.ref 90, .int 41, .int 1] (wd_1554 z) (some (.int 1), (wd_1555 z)) := by
  refine ru_of (k := 2) (M := pm_165) rfl rfl ?_
  refine go_seg 1 (pc' := 1) (ls' := [(0, .ref 90), (1, .int 41), (2, .int 1)]) (st' := [.int 41]) (w' := (wd_1554 z)) (cs' := 0) (ss' := 0) ?_ (fun _ _ => rfl)
  refine go_cl (k := 2) (st' := [.int 1]) (cs' := 0) (ss' := 0) rfl rfl rfl rfl rfl rfl rfl (ro_2462 z) ?_
  refine go_seg 8 (pc' := 24) (ls' := [(0, .ref 90), (1, .int 41), (2, .int 1)]) (st' := [.int 1, .int 0]) (w' := (wd_1554 z)) (cs' := 0) (ss' := 0) ?_ (fun _ _ => rfl)
  refine go_seg 8 (pc' := 42) (ls' := [(3, .int 1), (0, .ref 90), (1, .int 41), (2, .int 1)]) (st' := [.ref 90]) (w' := (wd_1554 z)) (cs' := 0) (ss' := 0) ?_ (fun _ _ => rfl)
  refine go_seg 8 (pc' := 58) (ls' := [(3, .int 1), (0, .ref 90), (1, .int 41), (2, .int 1)]) (st' := [.int 1, .int 115, .ref 91]) (w' := (wd_1554 z)) (cs' := 0) (ss' := 0) ?_ (fun _ _ => rfl)
  exact go_end 3 (fun _ _ => rfl)
theorem lf_2_2465 (a0 : Int32) (a2 : Int32) (a3 : Int32) (a4 : Int32) (a5 : Int32) (h0 : ¬ a2.toInt = 0) : ∃ w', pq_Go 20 pm_law 278 [(3, .int 0), (2, .ref 90), (1, .ref 1), (0, .ref 0)] [] (fw (sz a0 41 a2 a3 a4 a5)) 109 12668 (some (.int 1), w') := by
  refine ⟨(wd_1555 (sz a0 41 a2 a3 a4 a5)), ?_⟩
  refine go_seg 8 (pc' := 286) (ls' := [(3, .int 0), (2, .ref 90), (1, .ref 1), (0, .ref 0)]) (st' := [.int 0, .ref 0, .int 41, .ref 1]) (w' := (fw (sz a0 41 a2 a3 a4 a5))) (cs' := 109) (ss' := 12668) ?_ (fun _ _ => rfl)
  refine go_seg 3 (pc' := 289) (ls' := [(3, .int 0), (2, .ref 90), (1, .ref 1), (0, .ref 0)]) (st' := [.int a2, .int 41, .ref 1]) (w' := (fw (sz a0 41 a2 a3 a4 a5))) (cs' := 109) (ss' := 12668) ?_ (fun _ _ => rfl)
  refine go_if false rfl (br_eq_f (b := 0) rfl (by omega)) ?_
  refine go_seg 2 (pc' := 297) (ls' := [(3, .int 0), (2, .ref 90), (1, .ref 1), (0, .ref 0)]) (st' := [.int 1, .int 41, .ref 1]) (w' := (fw (sz a0 41 a2 a3 a4 a5))) (cs' := 109) (ss' := 12668) ?_ (fun _ _ => rfl)
  refine go_cl (k := 20) (st' := [.int 1]) (cs' := 109) (ss' := 12668) rfl rfl rfl rfl rfl rfl rfl (ro_2460 (sz a0 41 a2 a3 a4 a5)) ?_
  refine go_seg 8 (pc' := 308) (ls' := [(3, .int 0), (2, .ref 90), (1, .ref 1), (0, .ref 0)]) (st' := [.int 0, .ref 0, .int 41, .ref 90, .int 1]) (w' := (wd_1554 (sz a0 41 a2 a3 a4 a5))) (cs' := 109) (ss' := 12668) ?_ (fun _ _ => rfl)
  refine go_seg 3 (pc' := 311) (ls' := [(3, .int 0), (2, .ref 90), (1, .ref 1), (0, .ref 0)]) (st' := [.int a2, .int 41, .ref 90, .int 1]) (w' := (wd_1554 (sz a0 41 a2 a3 a4 a5))) (cs' := 109) (ss' := 12668) ?_ (fun _ _ => rfl)
  refine go_if false rfl (br_eq_f (b := 0) rfl (by omega)) ?_
  refine go_seg 2 (pc' := 319) (ls' := [(3, .int 0), (2, .ref 90), (1, .ref 1), (0, .ref 0)]) (st' := [.int 1, .int 41, .ref 90, .int 1]) (w' := (wd_1554 (sz a0 41 a2 a3 a4 a5))) (cs' := 109) (ss' := 12668) ?_ (fun _ _ => rfl)
  refine go_cl (k := 20) (st' := [.int 1, .int 1]) (cs' := 109) (ss' := 12668) rfl rfl rfl rfl rfl rfl rfl (ro_2463 (sz a0 41 a2 a3 a4 a5)) ?_
  refine go_cmp true rfl (br_self _) ?_
  exact law_tail (f := sc a0 41 a2 a3 a4 a5) rfl
def wd_1556 (z : pq_C) : pq_W := ((fw z).set 4 (.inl (.boolean, 64, .inl (upd (fun _ => 0) 42 1))))
theorem ro_2467 (z : pq_C) : pq_Ru 2 22 [.ref 1, .int 42, .int 1] (fw z) (some (.int 1), (wd_1556 z)) := by
  refine ru_of (k := 1) (M := pm_22) rfl rfl ?_
  refine go_seg 1 (pc' := 1) (ls' := [(0, .ref 1), (1, .int 42), (2, .int 1)]) (st' := [.int 42]) (w' := (fw z)) (cs' := 0) (ss' := 0) ?_ (fun _ _ => rfl)
  refine go_cl (k := 1) (st' := [.int 1]) (cs' := 0) (ss' := 0) rfl rfl rfl rfl rfl rfl rfl (ro_1529 z) ?_
  refine go_seg 8 (pc' := 24) (ls' := [(3, .int 0), (0, .ref 1), (1, .int 42), (2, .int 1)]) (st' := [.ref 1]) (w' := (fw z)) (cs' := 0) (ss' := 0) ?_ (fun _ _ => rfl)
  refine go_seg 8 (pc' := 42) (ls' := [(3, .int 0), (0, .ref 1), (1, .int 42), (2, .int 1)]) (st' := []) (w' := (wd_1556 z)) (cs' := 0) (ss' := 0) ?_ (fun _ _ => rfl)
  exact go_end 2 (fun _ _ => rfl)
theorem ro_2468 (z : pq_C) : pq_Ru 1 161 [.long 42, .long 0, .long 63] (wd_1556 z) (some (.int 1), (wd_1556 z)) := by
  refine ru_of (k := 0) (M := pm_161) rfl rfl ?_
  refine go_seg 8 (pc' := 13) (ls' := [(0, .long 42), (2, .long 0), (4, .long 63)]) (st' := []) (w' := (wd_1556 z)) (cs' := 0) (ss' := 0) ?_ (fun _ _ => rfl)
  exact go_end 3 (fun _ _ => rfl)
theorem ro_2469 (z : pq_C) : pq_Ru 2 160 [.int 42] (wd_1556 z) (some (.int 1), (wd_1556 z)) := by
  refine ru_of (k := 1) (M := pm_160) rfl rfl ?_
  refine go_seg 4 (pc' := 6) (ls' := [(0, .int 42)]) (st' := [.long 63, .long 0, .long 42]) (w' := (wd_1556 z)) (cs' := 0) (ss' := 0) ?_ (fun _ _ => rfl)
  refine go_cl (k := 1) (st' := [.int 1]) (cs' := 0) (ss' := 0) rfl rfl rfl rfl rfl rfl rfl (ro_2468 z) ?_
  exact go_end 1 (fun _ _ => rfl)
def wd_1557 (z : pq_C) : pq_W := ((wd_1556 z).set 91 (.inl (.int, 2858, .inl (upd (upd (upd (upd (upd (upd (upd (upd (upd (upd (upd (upd (upd (upd (upd (upd (upd (upd (upd (upd (upd (upd (upd (upd (upd (upd (upd (upd (upd (upd (upd (upd (upd (upd (upd (upd (upd (upd (upd (upd (upd (upd (upd (upd (upd (upd (upd (upd (upd (upd (upd (upd (upd (upd (upd (upd (upd (upd (upd (upd (upd (upd (upd (upd (upd (upd (upd (upd (upd (upd (upd (upd (upd (upd (upd (upd (upd (upd (upd (upd (upd (upd (fun _ => 0) 1 10) 10 (-1)) 11 (-1)) 12 (-1)) 13 (-1)) 14 (-1)) 15 (-1)) 16 (-1)) 17 (-1)) 18 (-1)) 19 (-1)) 20 (-1)) 21 (-1)) 22 (-1)) 23 (-1)) 24 (-1)) 25 (-1)) 26 (-1)) 27 (-1)) 28 (-1)) 29 (-1)) 30 (-1)) 31 (-1)) 32 (-1)) 33 (-1)) 34 (-1)) 35 (-1)) 36 (-1)) 37 (-1)) 38 (-1)) 39 (-1)) 40 (-1)) 41 (-1)) 42 (-1)) 43 (-1)) 44 (-1)) 45 (-1)) 46 (-1)) 47 (-1)) 48 (-1)) 49 (-1)) 50 (-1)) 51 (-1)) 52 (-1)) 53 (-1)) 54 (-1)) 55 (-1)) 56 (-1)) 57 (-1)) 58 (-1)) 59 (-1)) 60 (-1)) 61 (-1)) 62 (-1)) 63 (-1)) 64 (-1)) 65 (-1)) 66 (-1)) 67 (-1)) 68 (-1)) 69 (-1)) 70 (-1)) 71 (-1)) 72 (-1)) 73 (-1)) 139 1000) 140 100) 145 1000) 146 100) 151 1000) 152 100) 157 1000) 158 100) 163 1000) 164 100) 169 1000) 170 100) 175 1000) 176 100) 181 1000) 182 100) 116 1))))
theorem ro_2470 (z : pq_C) : pq_Ru 3 165 [.ref 90, .int 42, .int 1] (wd_1556 z) (some (.int 1), (wd_1557 z)) := by
  refine ru_of (k := 2) (M := pm_165) rfl rfl ?_
  refine go_seg 1 (pc' := 1) (ls' := [(0, .ref 90), (1, .int 42), (2, .int 1)]) (st' := [.int 42]) (w' := (wd_1556 z)) (cs' := 0) (ss' := 0) ?_ (fun _ _ => rfl)
  refine go_cl (k := 2) (st' := [.int 1]) (cs' := 0) (ss' := 0) rfl rfl rfl rfl rfl rfl rfl (ro_2469 z) ?_
  refine go_seg 8 (pc' := 24) (ls' := [(0, .ref 90), (1, .int 42), (2, .int 1)]) (st' := [.int 1, .int 0]) (w' := (wd_1556 z)) (cs' := 0) (ss' := 0) ?_ (fun _ _ => rfl)
  refine go_seg 8 (pc' := 42) (ls' := [(3, .int 1), (0, .ref 90), (1, .int 42), (2, .int 1)]) (st' := [.ref 90]) (w' := (wd_1556 z)) (cs' := 0) (ss' := 0) ?_ (fun _ _ => rfl)
  refine go_seg 8 (pc' := 58) (ls' := [(3, .int 1), (0, .ref 90), (1, .int 42), (2, .int 1)]) (st' := [.int 1, .int 116, .ref 91]) (w' := (wd_1556 z)) (cs' := 0) (ss' := 0) ?_ (fun _ _ => rfl)
  exact go_end 3 (fun _ _ => rfl)
theorem lf_2_2472 (a0 : Int32) (a2 : Int32) (a3 : Int32) (a4 : Int32) (a5 : Int32) (h0 : ¬ a2.toInt = 0) : ∃ w', pq_Go 20 pm_law 278 [(3, .int 0), (2, .ref 90), (1, .ref 1), (0, .ref 0)] [] (fw (sz a0 42 a2 a3 a4 a5)) 109 12668 (some (.int 1), w') := by
  refine ⟨(wd_1557 (sz a0 42 a2 a3 a4 a5)), ?_⟩
  refine go_seg 8 (pc' := 286) (ls' := [(3, .int 0), (2, .ref 90), (1, .ref 1), (0, .ref 0)]) (st' := [.int 0, .ref 0, .int 42, .ref 1]) (w' := (fw (sz a0 42 a2 a3 a4 a5))) (cs' := 109) (ss' := 12668) ?_ (fun _ _ => rfl)
  refine go_seg 3 (pc' := 289) (ls' := [(3, .int 0), (2, .ref 90), (1, .ref 1), (0, .ref 0)]) (st' := [.int a2, .int 42, .ref 1]) (w' := (fw (sz a0 42 a2 a3 a4 a5))) (cs' := 109) (ss' := 12668) ?_ (fun _ _ => rfl)
  refine go_if false rfl (br_eq_f (b := 0) rfl (by omega)) ?_
  refine go_seg 2 (pc' := 297) (ls' := [(3, .int 0), (2, .ref 90), (1, .ref 1), (0, .ref 0)]) (st' := [.int 1, .int 42, .ref 1]) (w' := (fw (sz a0 42 a2 a3 a4 a5))) (cs' := 109) (ss' := 12668) ?_ (fun _ _ => rfl)
  refine go_cl (k := 20) (st' := [.int 1]) (cs' := 109) (ss' := 12668) rfl rfl rfl rfl rfl rfl rfl (ro_2467 (sz a0 42 a2 a3 a4 a5)) ?_
  refine go_seg 8 (pc' := 308) (ls' := [(3, .int 0), (2, .ref 90), (1, .ref 1), (0, .ref 0)]) (st' := [.int 0, .ref 0, .int 42, .ref 90, .int 1]) (w' := (wd_1556 (sz a0 42 a2 a3 a4 a5))) (cs' := 109) (ss' := 12668) ?_ (fun _ _ => rfl)
  refine go_seg 3 (pc' := 311) (ls' := [(3, .int 0), (2, .ref 90), (1, .ref 1), (0, .ref 0)]) (st' := [.int a2, .int 42, .ref 90, .int 1]) (w' := (wd_1556 (sz a0 42 a2 a3 a4 a5))) (cs' := 109) (ss' := 12668) ?_ (fun _ _ => rfl)
  refine go_if false rfl (br_eq_f (b := 0) rfl (by omega)) ?_
  refine go_seg 2 (pc' := 319) (ls' := [(3, .int 0), (2, .ref 90), (1, .ref 1), (0, .ref 0)]) (st' := [.int 1, .int 42, .ref 90, .int 1]) (w' := (wd_1556 (sz a0 42 a2 a3 a4 a5))) (cs' := 109) (ss' := 12668) ?_ (fun _ _ => rfl)
  refine go_cl (k := 20) (st' := [.int 1, .int 1]) (cs' := 109) (ss' := 12668) rfl rfl rfl rfl rfl rfl rfl (ro_2470 (sz a0 42 a2 a3 a4 a5)) ?_
  refine go_cmp true rfl (br_self _) ?_
  exact law_tail (f := sc a0 42 a2 a3 a4 a5) rfl
def wd_1558 (z : pq_C) : pq_W := ((fw z).set 4 (.inl (.boolean, 64, .inl (upd (fun _ => 0) 43 1))))
theorem ro_2474 (z : pq_C) : pq_Ru 2 22 [.ref 1, .int 43, .int 1] (fw z) (some (.int 1), (wd_1558 z)) := by
  refine ru_of (k := 1) (M := pm_22) rfl rfl ?_
  refine go_seg 1 (pc' := 1) (ls' := [(0, .ref 1), (1, .int 43), (2, .int 1)]) (st' := [.int 43]) (w' := (fw z)) (cs' := 0) (ss' := 0) ?_ (fun _ _ => rfl)
  refine go_cl (k := 1) (st' := [.int 1]) (cs' := 0) (ss' := 0) rfl rfl rfl rfl rfl rfl rfl (ro_1537 z) ?_
  refine go_seg 8 (pc' := 24) (ls' := [(3, .int 0), (0, .ref 1), (1, .int 43), (2, .int 1)]) (st' := [.ref 1]) (w' := (fw z)) (cs' := 0) (ss' := 0) ?_ (fun _ _ => rfl)
  refine go_seg 8 (pc' := 42) (ls' := [(3, .int 0), (0, .ref 1), (1, .int 43), (2, .int 1)]) (st' := []) (w' := (wd_1558 z)) (cs' := 0) (ss' := 0) ?_ (fun _ _ => rfl)
  exact go_end 2 (fun _ _ => rfl)
theorem ro_2475 (z : pq_C) : pq_Ru 1 161 [.long 43, .long 0, .long 63] (wd_1558 z) (some (.int 1), (wd_1558 z)) := by
  refine ru_of (k := 0) (M := pm_161) rfl rfl ?_
  refine go_seg 8 (pc' := 13) (ls' := [(0, .long 43), (2, .long 0), (4, .long 63)]) (st' := []) (w' := (wd_1558 z)) (cs' := 0) (ss' := 0) ?_ (fun _ _ => rfl)
  exact go_end 3 (fun _ _ => rfl)
theorem ro_2476 (z : pq_C) : pq_Ru 2 160 [.int 43] (wd_1558 z) (some (.int 1), (wd_1558 z)) := by
  refine ru_of (k := 1) (M := pm_160) rfl rfl ?_
  refine go_seg 4 (pc' := 6) (ls' := [(0, .int 43)]) (st' := [.long 63, .long 0, .long 43]) (w' := (wd_1558 z)) (cs' := 0) (ss' := 0) ?_ (fun _ _ => rfl)
  refine go_cl (k := 1) (st' := [.int 1]) (cs' := 0) (ss' := 0) rfl rfl rfl rfl rfl rfl rfl (ro_2475 z) ?_
  exact go_end 1 (fun _ _ => rfl)
def wd_1559 (z : pq_C) : pq_W := ((wd_1558 z).set 91 (.inl (.int, 2858, .inl (upd (upd (upd (upd (upd (upd (upd (upd (upd (upd (upd (upd (upd (upd (upd (upd (upd (upd (upd (upd (upd (upd (upd (upd (upd (upd (upd (upd (upd (upd (upd (upd (upd (upd (upd (upd (upd (upd (upd (upd (upd (upd (upd (upd (upd (upd (upd (upd (upd (upd (upd (upd (upd (upd (upd (upd (upd (upd (upd (upd (upd (upd (upd (upd (upd (upd (upd (upd (upd (upd (upd (upd (upd (upd (upd (upd (upd (upd (upd (upd (upd (upd (fun _ => 0) 1 10) 10 (-1)) 11 (-1)) 12 (-1)) 13 (-1)) 14 (-1)) 15 (-1)) 16 (-1)) 17 (-1)) 18 (-1)) 19 (-1)) 20 (-1)) 21 (-1)) 22 (-1)) 23 (-1)) 24 (-1)) 25 (-1)) 26 (-1)) 27 (-1)) 28 (-1)) 29 (-1)) 30 (-1)) 31 (-1)) 32 (-1)) 33 (-1)) 34 (-1)) 35 (-1)) 36 (-1)) 37 (-1)) 38 (-1)) 39 (-1)) 40 (-1)) 41 (-1)) 42 (-1)) 43 (-1)) 44 (-1)) 45 (-1)) 46 (-1)) 47 (-1)) 48 (-1)) 49 (-1)) 50 (-1)) 51 (-1)) 52 (-1)) 53 (-1)) 54 (-1)) 55 (-1)) 56 (-1)) 57 (-1)) 58 (-1)) 59 (-1)) 60 (-1)) 61 (-1)) 62 (-1)) 63 (-1)) 64 (-1)) 65 (-1)) 66 (-1)) 67 (-1)) 68 (-1)) 69 (-1)) 70 (-1)) 71 (-1)) 72 (-1)) 73 (-1)) 139 1000) 140 100) 145 1000) 146 100) 151 1000) 152 100) 157 1000) 158 100) 163 1000) 164 100) 169 1000) 170 100) 175 1000) 176 100) 181 1000) 182 100) 117 1))))
theorem ro_2477 (z : pq_C) : pq_Ru 3 165 [.ref 90, .int 43, .int 1] (wd_1558 z) (some (.int 1), (wd_1559 z)) := by
  refine ru_of (k := 2) (M := pm_165) rfl rfl ?_
  refine go_seg 1 (pc' := 1) (ls' := [(0, .ref 90), (1, .int 43), (2, .int 1)]) (st' := [.int 43]) (w' := (wd_1558 z)) (cs' := 0) (ss' := 0) ?_ (fun _ _ => rfl)
  refine go_cl (k := 2) (st' := [.int 1]) (cs' := 0) (ss' := 0) rfl rfl rfl rfl rfl rfl rfl (ro_2476 z) ?_
  refine go_seg 8 (pc' := 24) (ls' := [(0, .ref 90), (1, .int 43), (2, .int 1)]) (st' := [.int 1, .int 0]) (w' := (wd_1558 z)) (cs' := 0) (ss' := 0) ?_ (fun _ _ => rfl)
  refine go_seg 8 (pc' := 42) (ls' := [(3, .int 1), (0, .ref 90), (1, .int 43), (2, .int 1)]) (st' := [.ref 90]) (w' := (wd_1558 z)) (cs' := 0) (ss' := 0) ?_ (fun _ _ => rfl)
  refine go_seg 8 (pc' := 58) (ls' := [(3, .int 1), (0, .ref 90), (1, .int 43), (2, .int 1)]) (st' := [.int 1, .int 117, .ref 91]) (w' := (wd_1558 z)) (cs' := 0) (ss' := 0) ?_ (fun _ _ => rfl)
  exact go_end 3 (fun _ _ => rfl)
theorem lf_2_2479 (a0 : Int32) (a2 : Int32) (a3 : Int32) (a4 : Int32) (a5 : Int32) (h0 : ¬ a2.toInt = 0) : ∃ w', pq_Go 20 pm_law 278 [(3, .int 0), (2, .ref 90), (1, .ref 1), (0, .ref 0)] [] (fw (sz a0 43 a2 a3 a4 a5)) 109 12668 (some (.int 1), w') := by
  refine ⟨(wd_1559 (sz a0 43 a2 a3 a4 a5)), ?_⟩
  refine go_seg 8 (pc' := 286) (ls' := [(3, .int 0), (2, .ref 90), (1, .ref 1), (0, .ref 0)]) (st' := [.int 0, .ref 0, .int 43, .ref 1]) (w' := (fw (sz a0 43 a2 a3 a4 a5))) (cs' := 109) (ss' := 12668) ?_ (fun _ _ => rfl)
  refine go_seg 3 (pc' := 289) (ls' := [(3, .int 0), (2, .ref 90), (1, .ref 1), (0, .ref 0)]) (st' := [.int a2, .int 43, .ref 1]) (w' := (fw (sz a0 43 a2 a3 a4 a5))) (cs' := 109) (ss' := 12668) ?_ (fun _ _ => rfl)
  refine go_if false rfl (br_eq_f (b := 0) rfl (by omega)) ?_
  refine go_seg 2 (pc' := 297) (ls' := [(3, .int 0), (2, .ref 90), (1, .ref 1), (0, .ref 0)]) (st' := [.int 1, .int 43, .ref 1]) (w' := (fw (sz a0 43 a2 a3 a4 a5))) (cs' := 109) (ss' := 12668) ?_ (fun _ _ => rfl)
  refine go_cl (k := 20) (st' := [.int 1]) (cs' := 109) (ss' := 12668) rfl rfl rfl rfl rfl rfl rfl (ro_2474 (sz a0 43 a2 a3 a4 a5)) ?_
  refine go_seg 8 (pc' := 308) (ls' := [(3, .int 0), (2, .ref 90), (1, .ref 1), (0, .ref 0)]) (st' := [.int 0, .ref 0, .int 43, .ref 90, .int 1]) (w' := (wd_1558 (sz a0 43 a2 a3 a4 a5))) (cs' := 109) (ss' := 12668) ?_ (fun _ _ => rfl)
  refine go_seg 3 (pc' := 311) (ls' := [(3, .int 0), (2, .ref 90), (1, .ref 1), (0, .ref 0)]) (st' := [.int a2, .int 43, .ref 90, .int 1]) (w' := (wd_1558 (sz a0 43 a2 a3 a4 a5))) (cs' := 109) (ss' := 12668) ?_ (fun _ _ => rfl)
  refine go_if false rfl (br_eq_f (b := 0) rfl (by omega)) ?_
  refine go_seg 2 (pc' := 319) (ls' := [(3, .int 0), (2, .ref 90), (1, .ref 1), (0, .ref 0)]) (st' := [.int 1, .int 43, .ref 90, .int 1]) (w' := (wd_1558 (sz a0 43 a2 a3 a4 a5))) (cs' := 109) (ss' := 12668) ?_ (fun _ _ => rfl)
  refine go_cl (k := 20) (st' := [.int 1, .int 1]) (cs' := 109) (ss' := 12668) rfl rfl rfl rfl rfl rfl rfl (ro_2477 (sz a0 43 a2 a3 a4 a5)) ?_
  refine go_cmp true rfl (br_self _) ?_
  exact law_tail (f := sc a0 43 a2 a3 a4 a5) rfl
def wd_1560 (z : pq_C) : pq_W := ((fw z).set 4 (.inl (.boolean, 64, .inl (upd (fun _ => 0) 44 1))))
theorem ro_2481 (z : pq_C) : pq_Ru 2 22 [.ref 1, .int 44, .int 1] (fw z) (some (.int 1), (wd_1560 z)) := by
  refine ru_of (k := 1) (M := pm_22) rfl rfl ?_
  refine go_seg 1 (pc' := 1) (ls' := [(0, .ref 1), (1, .int 44), (2, .int 1)]) (st' := [.int 44]) (w' := (fw z)) (cs' := 0) (ss' := 0) ?_ (fun _ _ => rfl)
  refine go_cl (k := 1) (st' := [.int 1]) (cs' := 0) (ss' := 0) rfl rfl rfl rfl rfl rfl rfl (ro_1545 z) ?_
  refine go_seg 8 (pc' := 24) (ls' := [(3, .int 0), (0, .ref 1), (1, .int 44), (2, .int 1)]) (st' := [.ref 1]) (w' := (fw z)) (cs' := 0) (ss' := 0) ?_ (fun _ _ => rfl)
  refine go_seg 8 (pc' := 42) (ls' := [(3, .int 0), (0, .ref 1), (1, .int 44), (2, .int 1)]) (st' := []) (w' := (wd_1560 z)) (cs' := 0) (ss' := 0) ?_ (fun _ _ => rfl)
  exact go_end 2 (fun _ _ => rfl)
theorem ro_2482 (z : pq_C) : pq_Ru 1 161 [.long 44, .long 0, .long 63] (wd_1560 z) (some (.int 1), (wd_1560 z)) := by
  refine ru_of (k := 0) (M := pm_161) rfl rfl ?_
  refine go_seg 8 (pc' := 13) (ls' := [(0, .long 44), (2, .long 0), (4, .long 63)]) (st' := []) (w' := (wd_1560 z)) (cs' := 0) (ss' := 0) ?_ (fun _ _ => rfl)
  exact go_end 3 (fun _ _ => rfl)
theorem ro_2483 (z : pq_C) : pq_Ru 2 160 [.int 44] (wd_1560 z) (some (.int 1), (wd_1560 z)) := by
  refine ru_of (k := 1) (M := pm_160) rfl rfl ?_
  refine go_seg 4 (pc' := 6) (ls' := [(0, .int 44)]) (st' := [.long 63, .long 0, .long 44]) (w' := (wd_1560 z)) (cs' := 0) (ss' := 0) ?_ (fun _ _ => rfl)
  refine go_cl (k := 1) (st' := [.int 1]) (cs' := 0) (ss' := 0) rfl rfl rfl rfl rfl rfl rfl (ro_2482 z) ?_
  exact go_end 1 (fun _ _ => rfl)
def wd_1561 (z : pq_C) : pq_W := ((wd_1560 z).set 91 (.inl (.int, 2858, .inl (upd (upd (upd (upd (upd (upd (upd (upd (upd (upd (upd (upd (upd (upd (upd (upd (upd (upd (upd (upd (upd (upd (upd (upd (upd (upd (upd (upd (upd (upd (upd (upd (upd (upd (upd (upd (upd (upd (upd (upd (upd (upd (upd (upd (upd (upd (upd (upd (upd (upd (upd (upd (upd (upd (upd (upd (upd (upd (upd (upd (upd (upd (upd (upd (upd (upd (upd (upd (upd (upd (upd (upd (upd (upd (upd (upd (upd (upd (upd (upd (upd (upd (fun _ => 0) 1 10) 10 (-1)) 11 (-1)) 12 (-1)) 13 (-1)) 14 (-1)) 15 (-1)) 16 (-1)) 17 (-1)) 18 (-1)) 19 (-1)) 20 (-1)) 21 (-1)) 22 (-1)) 23 (-1)) 24 (-1)) 25 (-1)) 26 (-1)) 27 (-1)) 28 (-1)) 29 (-1)) 30 (-1)) 31 (-1)) 32 (-1)) 33 (-1)) 34 (-1)) 35 (-1)) 36 (-1)) 37 (-1)) 38 (-1)) 39 (-1)) 40 (-1)) 41 (-1)) 42 (-1)) 43 (-1)) 44 (-1)) 45 (-1)) 46 (-1)) 47 (-1)) 48 (-1)) 49 (-1)) 50 (-1)) 51 (-1)) 52 (-1)) 53 (-1)) 54 (-1)) 55 (-1)) 56 (-1)) 57 (-1)) 58 (-1)) 59 (-1)) 60 (-1)) 61 (-1)) 62 (-1)) 63 (-1)) 64 (-1)) 65 (-1)) 66 (-1)) 67 (-1)) 68 (-1)) 69 (-1)) 70 (-1)) 71 (-1)) 72 (-1)) 73 (-1)) 139 1000) 140 100) 145 1000) 146 100) 151 1000) 152 100) 157 1000) 158 100) 163 1000) 164 100) 169 1000) 170 100) 175 1000) 176 100) 181 1000) 182 100) 118 1))))
theorem ro_2484 (z : pq_C) : pq_Ru 3 165 [.ref 90, .int 44, .int 1] (wd_1560 z) (some (.int 1), (wd_1561 z)) := by
  refine ru_of (k := 2) (M := pm_165) rfl rfl ?_
  refine go_seg 1 (pc' := 1) (ls' := [(0, .ref 90), (1, .int 44), (2, .int 1)]) (st' := [.int 44]) (w' := (wd_1560 z)) (cs' := 0) (ss' := 0) ?_ (fun _ _ => rfl)
  refine go_cl (k := 2) (st' := [.int 1]) (cs' := 0) (ss' := 0) rfl rfl rfl rfl rfl rfl rfl (ro_2483 z) ?_
  refine go_seg 8 (pc' := 24) (ls' := [(0, .ref 90), (1, .int 44), (2, .int 1)]) (st' := [.int 1, .int 0]) (w' := (wd_1560 z)) (cs' := 0) (ss' := 0) ?_ (fun _ _ => rfl)
  refine go_seg 8 (pc' := 42) (ls' := [(3, .int 1), (0, .ref 90), (1, .int 44), (2, .int 1)]) (st' := [.ref 90]) (w' := (wd_1560 z)) (cs' := 0) (ss' := 0) ?_ (fun _ _ => rfl)
  refine go_seg 8 (pc' := 58) (ls' := [(3, .int 1), (0, .ref 90), (1, .int 44), (2, .int 1)]) (st' := [.int 1, .int 118, .ref 91]) (w' := (wd_1560 z)) (cs' := 0) (ss' := 0) ?_ (fun _ _ => rfl)
  exact go_end 3 (fun _ _ => rfl)
theorem lf_2_2486 (a0 : Int32) (a2 : Int32) (a3 : Int32) (a4 : Int32) (a5 : Int32) (h0 : ¬ a2.toInt = 0) : ∃ w', pq_Go 20 pm_law 278 [(3, .int 0), (2, .ref 90), (1, .ref 1), (0, .ref 0)] [] (fw (sz a0 44 a2 a3 a4 a5)) 109 12668 (some (.int 1), w') := by
  refine ⟨(wd_1561 (sz a0 44 a2 a3 a4 a5)), ?_⟩
  refine go_seg 8 (pc' := 286) (ls' := [(3, .int 0), (2, .ref 90), (1, .ref 1), (0, .ref 0)]) (st' := [.int 0, .ref 0, .int 44, .ref 1]) (w' := (fw (sz a0 44 a2 a3 a4 a5))) (cs' := 109) (ss' := 12668) ?_ (fun _ _ => rfl)
  refine go_seg 3 (pc' := 289) (ls' := [(3, .int 0), (2, .ref 90), (1, .ref 1), (0, .ref 0)]) (st' := [.int a2, .int 44, .ref 1]) (w' := (fw (sz a0 44 a2 a3 a4 a5))) (cs' := 109) (ss' := 12668) ?_ (fun _ _ => rfl)
  refine go_if false rfl (br_eq_f (b := 0) rfl (by omega)) ?_
  refine go_seg 2 (pc' := 297) (ls' := [(3, .int 0), (2, .ref 90), (1, .ref 1), (0, .ref 0)]) (st' := [.int 1, .int 44, .ref 1]) (w' := (fw (sz a0 44 a2 a3 a4 a5))) (cs' := 109) (ss' := 12668) ?_ (fun _ _ => rfl)
  refine go_cl (k := 20) (st' := [.int 1]) (cs' := 109) (ss' := 12668) rfl rfl rfl rfl rfl rfl rfl (ro_2481 (sz a0 44 a2 a3 a4 a5)) ?_
  refine go_seg 8 (pc' := 308) (ls' := [(3, .int 0), (2, .ref 90), (1, .ref 1), (0, .ref 0)]) (st' := [.int 0, .ref 0, .int 44, .ref 90, .int 1]) (w' := (wd_1560 (sz a0 44 a2 a3 a4 a5))) (cs' := 109) (ss' := 12668) ?_ (fun _ _ => rfl)
  refine go_seg 3 (pc' := 311) (ls' := [(3, .int 0), (2, .ref 90), (1, .ref 1), (0, .ref 0)]) (st' := [.int a2, .int 44, .ref 90, .int 1]) (w' := (wd_1560 (sz a0 44 a2 a3 a4 a5))) (cs' := 109) (ss' := 12668) ?_ (fun _ _ => rfl)
  refine go_if false rfl (br_eq_f (b := 0) rfl (by omega)) ?_
  refine go_seg 2 (pc' := 319) (ls' := [(3, .int 0), (2, .ref 90), (1, .ref 1), (0, .ref 0)]) (st' := [.int 1, .int 44, .ref 90, .int 1]) (w' := (wd_1560 (sz a0 44 a2 a3 a4 a5))) (cs' := 109) (ss' := 12668) ?_ (fun _ _ => rfl)
  refine go_cl (k := 20) (st' := [.int 1, .int 1]) (cs' := 109) (ss' := 12668) rfl rfl rfl rfl rfl rfl rfl (ro_2484 (sz a0 44 a2 a3 a4 a5)) ?_
  refine go_cmp true rfl (br_self _) ?_
  exact law_tail (f := sc a0 44 a2 a3 a4 a5) rfl
def wd_1562 (z : pq_C) : pq_W := ((fw z).set 4 (.inl (.boolean, 64, .inl (upd (fun _ => 0) 45 1))))
theorem ro_2488 (z : pq_C) : pq_Ru 2 22 [.ref 1, .int 45, .int 1] (fw z) (some (.int 1), (wd_1562 z)) := by
  refine ru_of (k := 1) (M := pm_22) rfl rfl ?_
  refine go_seg 1 (pc' := 1) (ls' := [(0, .ref 1), (1, .int 45), (2, .int 1)]) (st' := [.int 45]) (w' := (fw z)) (cs' := 0) (ss' := 0) ?_ (fun _ _ => rfl)
  refine go_cl (k := 1) (st' := [.int 1]) (cs' := 0) (ss' := 0) rfl rfl rfl rfl rfl rfl rfl (ro_1553 z) ?_
  refine go_seg 8 (pc' := 24) (ls' := [(3, .int 0), (0, .ref 1), (1, .int 45), (2, .int 1)]) (st' := [.ref 1]) (w' := (fw z)) (cs' := 0) (ss' := 0) ?_ (fun _ _ => rfl)
  refine go_seg 8 (pc' := 42) (ls' := [(3, .int 0), (0, .ref 1), (1, .int 45), (2, .int 1)]) (st' := []) (w' := (wd_1562 z)) (cs' := 0) (ss' := 0) ?_ (fun _ _ => rfl)
  exact go_end 2 (fun _ _ => rfl)
theorem ro_2489 (z : pq_C) : pq_Ru 1 161 [.long 45, .long 0, .long 63] (wd_1562 z) (some (.int 1), (wd_1562 z)) := by
  refine ru_of (k := 0) (M := pm_161) rfl rfl ?_
  refine go_seg 8 (pc' := 13) (ls' := [(0, .long 45), (2, .long 0), (4, .long 63)]) (st' := []) (w' := (wd_1562 z)) (cs' := 0) (ss' := 0) ?_ (fun _ _ => rfl)
  exact go_end 3 (fun _ _ => rfl)
theorem ro_2490 (z : pq_C) : pq_Ru 2 160 [.int 45] (wd_1562 z) (some (.int 1), (wd_1562 z)) := by
  refine ru_of (k := 1) (M := pm_160) rfl rfl ?_
  refine go_seg 4 (pc' := 6) (ls' := [(0, .int 45)]) (st' := [.long 63, .long 0, .long 45]) (w' := (wd_1562 z)) (cs' := 0) (ss' := 0) ?_ (fun _ _ => rfl)
  refine go_cl (k := 1) (st' := [.int 1]) (cs' := 0) (ss' := 0) rfl rfl rfl rfl rfl rfl rfl (ro_2489 z) ?_
  exact go_end 1 (fun _ _ => rfl)
def wd_1563 (z : pq_C) : pq_W := ((wd_1562 z).set 91 (.inl (.int, 2858, .inl (upd (upd (upd (upd (upd (upd (upd (upd (upd (upd (upd (upd (upd (upd (upd (upd (upd (upd (upd (upd (upd (upd (upd (upd (upd (upd (upd (upd (upd (upd (upd (upd (upd (upd (upd (upd (upd (upd (upd (upd (upd (upd (upd (upd (upd (upd (upd (upd (upd (upd (upd (upd (upd (upd (upd (upd (upd (upd (upd (upd (upd (upd (upd (upd (upd (upd (upd (upd (upd (upd (upd (upd (upd (upd (upd (upd (upd (upd (upd (upd (upd (upd (fun _ => 0) 1 10) 10 (-1)) 11 (-1)) 12 (-1)) 13 (-1)) 14 (-1)) 15 (-1)) 16 (-1)) 17 (-1)) 18 (-1)) 19 (-1)) 20 (-1)) 21 (-1)) 22 (-1)) 23 (-1)) 24 (-1)) 25 (-1)) 26 (-1)) 27 (-1)) 28 (-1)) 29 (-1)) 30 (-1)) 31 (-1)) 32 (-1)) 33 (-1)) 34 (-1)) 35 (-1)) 36 (-1)) 37 (-1)) 38 (-1)) 39 (-1)) 40 (-1)) 41 (-1)) 42 (-1)) 43 (-1)) 44 (-1)) 45 (-1)) 46 (-1)) 47 (-1)) 48 (-1)) 49 (-1)) 50 (-1)) 51 (-1)) 52 (-1)) 53 (-1)) 54 (-1)) 55 (-1)) 56 (-1)) 57 (-1)) 58 (-1)) 59 (-1)) 60 (-1)) 61 (-1)) 62 (-1)) 63 (-1)) 64 (-1)) 65 (-1)) 66 (-1)) 67 (-1)) 68 (-1)) 69 (-1)) 70 (-1)) 71 (-1)) 72 (-1)) 73 (-1)) 139 1000) 140 100) 145 1000) 146 100) 151 1000) 152 100) 157 1000) 158 100) 163 1000) 164 100) 169 1000) 170 100) 175 1000) 176 100) 181 1000) 182 100) 119 1))))
theorem ro_2491 (z : pq_C) : pq_Ru 3 165 [.ref 90, .int 45, .int 1] (wd_1562 z) (some (.int 1), (wd_1563 z)) := by
  refine ru_of (k := 2) (M := pm_165) rfl rfl ?_
  refine go_seg 1 (pc' := 1) (ls' := [(0, .ref 90), (1, .int 45), (2, .int 1)]) (st' := [.int 45]) (w' := (wd_1562 z)) (cs' := 0) (ss' := 0) ?_ (fun _ _ => rfl)
  refine go_cl (k := 2) (st' := [.int 1]) (cs' := 0) (ss' := 0) rfl rfl rfl rfl rfl rfl rfl (ro_2490 z) ?_
  refine go_seg 8 (pc' := 24) (ls' := [(0, .ref 90), (1, .int 45), (2, .int 1)]) (st' := [.int 1, .int 0]) (w' := (wd_1562 z)) (cs' := 0) (ss' := 0) ?_ (fun _ _ => rfl)
  refine go_seg 8 (pc' := 42) (ls' := [(3, .int 1), (0, .ref 90), (1, .int 45), (2, .int 1)]) (st' := [.ref 90]) (w' := (wd_1562 z)) (cs' := 0) (ss' := 0) ?_ (fun _ _ => rfl)
  refine go_seg 8 (pc' := 58) (ls' := [(3, .int 1), (0, .ref 90), (1, .int 45), (2, .int 1)]) (st' := [.int 1, .int 119, .ref 91]) (w' := (wd_1562 z)) (cs' := 0) (ss' := 0) ?_ (fun _ _ => rfl)
  exact go_end 3 (fun _ _ => rfl)
theorem lf_2_2493 (a0 : Int32) (a2 : Int32) (a3 : Int32) (a4 : Int32) (a5 : Int32) (h0 : ¬ a2.toInt = 0) : ∃ w', pq_Go 20 pm_law 278 [(3, .int 0), (2, .ref 90), (1, .ref 1), (0, .ref 0)] [] (fw (sz a0 45 a2 a3 a4 a5)) 109 12668 (some (.int 1), w') := by
  refine ⟨(wd_1563 (sz a0 45 a2 a3 a4 a5)), ?_⟩
  refine go_seg 8 (pc' := 286) (ls' := [(3, .int 0), (2, .ref 90), (1, .ref 1), (0, .ref 0)]) (st' := [.int 0, .ref 0, .int 45, .ref 1]) (w' := (fw (sz a0 45 a2 a3 a4 a5))) (cs' := 109) (ss' := 12668) ?_ (fun _ _ => rfl)
  refine go_seg 3 (pc' := 289) (ls' := [(3, .int 0), (2, .ref 90), (1, .ref 1), (0, .ref 0)]) (st' := [.int a2, .int 45, .ref 1]) (w' := (fw (sz a0 45 a2 a3 a4 a5))) (cs' := 109) (ss' := 12668) ?_ (fun _ _ => rfl)
  refine go_if false rfl (br_eq_f (b := 0) rfl (by omega)) ?_
  refine go_seg 2 (pc' := 297) (ls' := [(3, .int 0), (2, .ref 90), (1, .ref 1), (0, .ref 0)]) (st' := [.int 1, .int 45, .ref 1]) (w' := (fw (sz a0 45 a2 a3 a4 a5))) (cs' := 109) (ss' := 12668) ?_ (fun _ _ => rfl)
  refine go_cl (k := 20) (st' := [.int 1]) (cs' := 109) (ss' := 12668) rfl rfl rfl rfl rfl rfl rfl (ro_2488 (sz a0 45 a2 a3 a4 a5)) ?_
  refine go_seg 8 (pc' := 308) (ls' := [(3, .int 0), (2, .ref 90), (1, .ref 1), (0, .ref 0)]) (st' := [.int 0, .ref 0, .int 45, .ref 90, .int 1]) (w' := (wd_1562 (sz a0 45 a2 a3 a4 a5))) (cs' := 109) (ss' := 12668) ?_ (fun _ _ => rfl)
  refine go_seg 3 (pc' := 311) (ls' := [(3, .int 0), (2, .ref 90), (1, .ref 1), (0, .ref 0)]) (st' := [.int a2, .int 45, .ref 90, .int 1]) (w' := (wd_1562 (sz a0 45 a2 a3 a4 a5))) (cs' := 109) (ss' := 12668) ?_ (fun _ _ => rfl)
  refine go_if false rfl (br_eq_f (b := 0) rfl (by omega)) ?_
  refine go_seg 2 (pc' := 319) (ls' := [(3, .int 0), (2, .ref 90), (1, .ref 1), (0, .ref 0)]) (st' := [.int 1, .int 45, .ref 90, .int 1]) (w' := (wd_1562 (sz a0 45 a2 a3 a4 a5))) (cs' := 109) (ss' := 12668) ?_ (fun _ _ => rfl)
  refine go_cl (k := 20) (st' := [.int 1, .int 1]) (cs' := 109) (ss' := 12668) rfl rfl rfl rfl rfl rfl rfl (ro_2491 (sz a0 45 a2 a3 a4 a5)) ?_
  refine go_cmp true rfl (br_self _) ?_
  exact law_tail (f := sc a0 45 a2 a3 a4 a5) rfl
def wd_1564 (z : pq_C) : pq_W := ((fw z).set 4 (.inl (.boolean, 64, .inl (upd (fun _ => 0) 46 1))))
theorem ro_2495 (z : pq_C) : pq_Ru 2 22 [.ref 1, .int 46, .int 1] (fw z) (some (.int 1), (wd_1564 z)) := by
  refine ru_of (k := 1) (M := pm_22) rfl rfl ?_
  refine go_seg 1 (pc' := 1) (ls' := [(0, .ref 1), (1, .int 46), (2, .int 1)]) (st' := [.int 46]) (w' := (fw z)) (cs' := 0) (ss' := 0) ?_ (fun _ _ => rfl)
  refine go_cl (k := 1) (st' := [.int 1]) (cs' := 0) (ss' := 0) rfl rfl rfl rfl rfl rfl rfl (ro_1561 z) ?_
  refine go_seg 8 (pc' := 24) (ls' := [(3, .int 0), (0, .ref 1), (1, .int 46), (2, .int 1)]) (st' := [.ref 1]) (w' := (fw z)) (cs' := 0) (ss' := 0) ?_ (fun _ _ => rfl)
  refine go_seg 8 (pc' := 42) (ls' := [(3, .int 0), (0, .ref 1), (1, .int 46), (2, .int 1)]) (st' := []) (w' := (wd_1564 z)) (cs' := 0) (ss' := 0) ?_ (fun _ _ => rfl)
  exact go_end 2 (fun _ _ => rfl)
theorem ro_2496 (z : pq_C) : pq_Ru 1 161 [.long 46, .long 0, .long 63] (wd_1564 z) (some (.int 1), (wd_1564 z)) := by
  refine ru_of (k := 0) (M := pm_161) rfl rfl ?_
  refine go_seg 8 (pc' := 13) (ls' := [(0, .long 46), (2, .long 0), (4, .long 63)]) (st' := []) (w' := (wd_1564 z)) (cs' := 0) (ss' := 0) ?_ (fun _ _ => rfl)
  exact go_end 3 (fun _ _ => rfl)
theorem ro_2497 (z : pq_C) : pq_Ru 2 160 [.int 46] (wd_1564 z) (some (.int 1), (wd_1564 z)) := by
  refine ru_of (k := 1) (M := pm_160) rfl rfl ?_
  refine go_seg 4 (pc' := 6) (ls' := [(0, .int 46)]) (st' := [.long 63, .long 0, .long 46]) (w' := (wd_1564 z)) (cs' := 0) (ss' := 0) ?_ (fun _ _ => rfl)
  refine go_cl (k := 1) (st' := [.int 1]) (cs' := 0) (ss' := 0) rfl rfl rfl rfl rfl rfl rfl (ro_2496 z) ?_
  exact go_end 1 (fun _ _ => rfl)
def wd_1565 (z : pq_C) : pq_W := ((wd_1564 z).set 91 (.inl (.int, 2858, .inl (upd (upd (upd (upd (upd (upd (upd (upd (upd (upd (upd (upd (upd (upd (upd (upd (upd (upd (upd (upd (upd (upd (upd (upd (upd (upd (upd (upd (upd (upd (upd (upd (upd (upd (upd (upd (upd (upd (upd (upd (upd (upd (upd (upd (upd (upd (upd (upd (upd (upd (upd (upd (upd (upd (upd (upd (upd (upd (upd (upd (upd (upd (upd (upd (upd (upd (upd (upd (upd (upd (upd (upd (upd (upd (upd (upd (upd (upd (upd (upd (upd (upd (fun _ => 0) 1 10) 10 (-1)) 11 (-1)) 12 (-1)) 13 (-1)) 14 (-1)) 15 (-1)) 16 (-1)) 17 (-1)) 18 (-1)) 19 (-1)) 20 (-1)) 21 (-1)) 22 (-1)) 23 (-1)) 24 (-1)) 25 (-1)) 26 (-1)) 27 (-1)) 28 (-1)) 29 (-1)) 30 (-1)) 31 (-1)) 32 (-1)) 33 (-1)) 34 (-1)) 35 (-1)) 36 (-1)) 37 (-1)) 38 (-1)) 39 (-1)) 40 (-1)) 41 (-1)) 42 (-1)) 43 (-1)) 44 (-1)) 45 (-1)) 46 (-1)) 47 (-1)) 48 (-1)) 49 (-1)) 50 (-1)) 51 (-1)) 52 (-1)) 53 (-1)) 54 (-1)) 55 (-1)) 56 (-1)) 57 (-1)) 58 (-1)) 59 (-1)) 60 (-1)) 61 (-1)) 62 (-1)) 63 (-1)) 64 (-1)) 65 (-1)) 66 (-1)) 67 (-1)) 68 (-1)) 69 (-1)) 70 (-1)) 71 (-1)) 72 (-1)) 73 (-1)) 139 1000) 140 100) 145 1000) 146 100) 151 1000) 152 100) 157 1000) 158 100) 163 1000) 164 100) 169 1000) 170 100) 175 1000) 176 100) 181 1000) 182 100) 120 1))))
theorem ro_2498 (z : pq_C) : pq_Ru 3 165 [.ref 90, .int 46, .int 1] (wd_1564 z) (some (.int 1), (wd_1565 z)) := by
  refine ru_of (k := 2) (M := pm_165) rfl rfl ?_
  refine go_seg 1 (pc' := 1) (ls' := [(0, .ref 90), (1, .int 46), (2, .int 1)]) (st' := [.int 46]) (w' := (wd_1564 z)) (cs' := 0) (ss' := 0) ?_ (fun _ _ => rfl)
  refine go_cl (k := 2) (st' := [.int 1]) (cs' := 0) (ss' := 0) rfl rfl rfl rfl rfl rfl rfl (ro_2497 z) ?_
  refine go_seg 8 (pc' := 24) (ls' := [(0, .ref 90), (1, .int 46), (2, .int 1)]) (st' := [.int 1, .int 0]) (w' := (wd_1564 z)) (cs' := 0) (ss' := 0) ?_ (fun _ _ => rfl)
  refine go_seg 8 (pc' := 42) (ls' := [(3, .int 1), (0, .ref 90), (1, .int 46), (2, .int 1)]) (st' := [.ref 90]) (w' := (wd_1564 z)) (cs' := 0) (ss' := 0) ?_ (fun _ _ => rfl)
  refine go_seg 8 (pc' := 58) (ls' := [(3, .int 1), (0, .ref 90), (1, .int 46), (2, .int 1)]) (st' := [.int 1, .int 120, .ref 91]) (w' := (wd_1564 z)) (cs' := 0) (ss' := 0) ?_ (fun _ _ => rfl)
  exact go_end 3 (fun _ _ => rfl)
theorem lf_2_2500 (a0 : Int32) (a2 : Int32) (a3 : Int32) (a4 : Int32) (a5 : Int32) (h0 : ¬ a2.toInt = 0) : ∃ w', pq_Go 20 pm_law 278 [(3, .int 0), (2, .ref 90), (1, .ref 1), (0, .ref 0)] [] (fw (sz a0 46 a2 a3 a4 a5)) 109 12668 (some (.int 1), w') := by
  refine ⟨(wd_1565 (sz a0 46 a2 a3 a4 a5)), ?_⟩
  refine go_seg 8 (pc' := 286) (ls' := [(3, .int 0), (2, .ref 90), (1, .ref 1), (0, .ref 0)]) (st' := [.int 0, .ref 0, .int 46, .ref 1]) (w' := (fw (sz a0 46 a2 a3 a4 a5))) (cs' := 109) (ss' := 12668) ?_ (fun _ _ => rfl)
  refine go_seg 3 (pc' := 289) (ls' := [(3, .int 0), (2, .ref 90), (1, .ref 1), (0, .ref 0)]) (st' := [.int a2, .int 46, .ref 1]) (w' := (fw (sz a0 46 a2 a3 a4 a5))) (cs' := 109) (ss' := 12668) ?_ (fun _ _ => rfl)
  refine go_if false rfl (br_eq_f (b := 0) rfl (by omega)) ?_
  refine go_seg 2 (pc' := 297) (ls' := [(3, .int 0), (2, .ref 90), (1, .ref 1), (0, .ref 0)]) (st' := [.int 1, .int 46, .ref 1]) (w' := (fw (sz a0 46 a2 a3 a4 a5))) (cs' := 109) (ss' := 12668) ?_ (fun _ _ => rfl)
  refine go_cl (k := 20) (st' := [.int 1]) (cs' := 109) (ss' := 12668) rfl rfl rfl rfl rfl rfl rfl (ro_2495 (sz a0 46 a2 a3 a4 a5)) ?_
  refine go_seg 8 (pc' := 308) (ls' := [(3, .int 0), (2, .ref 90), (1, .ref 1), (0, .ref 0)]) (st' := [.int 0, .ref 0, .int 46, .ref 90, .int 1]) (w' := (wd_1564 (sz a0 46 a2 a3 a4 a5))) (cs' := 109) (ss' := 12668) ?_ (fun _ _ => rfl)
  refine go_seg 3 (pc' := 311) (ls' := [(3, .int 0), (2, .ref 90), (1, .ref 1), (0, .ref 0)]) (st' := [.int a2, .int 46, .ref 90, .int 1]) (w' := (wd_1564 (sz a0 46 a2 a3 a4 a5))) (cs' := 109) (ss' := 12668) ?_ (fun _ _ => rfl)
  refine go_if false rfl (br_eq_f (b := 0) rfl (by omega)) ?_
  refine go_seg 2 (pc' := 319) (ls' := [(3, .int 0), (2, .ref 90), (1, .ref 1), (0, .ref 0)]) (st' := [.int 1, .int 46, .ref 90, .int 1]) (w' := (wd_1564 (sz a0 46 a2 a3 a4 a5))) (cs' := 109) (ss' := 12668) ?_ (fun _ _ => rfl)
  refine go_cl (k := 20) (st' := [.int 1, .int 1]) (cs' := 109) (ss' := 12668) rfl rfl rfl rfl rfl rfl rfl (ro_2498 (sz a0 46 a2 a3 a4 a5)) ?_
  refine go_cmp true rfl (br_self _) ?_
  exact law_tail (f := sc a0 46 a2 a3 a4 a5) rfl
def wd_1566 (z : pq_C) : pq_W := ((fw z).set 4 (.inl (.boolean, 64, .inl (upd (fun _ => 0) 47 1))))
theorem ro_2502 (z : pq_C) : pq_Ru 2 22 [.ref 1, .int 47, .int 1] (fw z) (some (.int 1), (wd_1566 z)) := by
  refine ru_of (k := 1) (M := pm_22) rfl rfl ?_
  refine go_seg 1 (pc' := 1) (ls' := [(0, .ref 1), (1, .int 47), (2, .int 1)]) (st' := [.int 47]) (w' := (fw z)) (cs' := 0) (ss' := 0) ?_ (fun _ _ => rfl)
  refine go_cl (k := 1) (st' := [.int 1]) (cs' := 0) (ss' := 0) rfl rfl rfl rfl rfl rfl rfl (ro_1569 z) ?_
  refine go_seg 8 (pc' := 24) (ls' := [(3, .int 0), (0, .ref 1), (1, .int 47), (2, .int 1)]) (st' := [.ref 1]) (w' := (fw z)) (cs' := 0) (ss' := 0) ?_ (fun _ _ => rfl)
  refine go_seg 8 (pc' := 42) (ls' := [(3, .int 0), (0, .ref 1), (1, .int 47), (2, .int 1)]) (st' := []) (w' := (wd_1566 z)) (cs' := 0) (ss' := 0) ?_ (fun _ _ => rfl)
  exact go_end 2 (fun _ _ => rfl)
theorem ro_2503 (z : pq_C) : pq_Ru 1 161 [.long 47, .long 0, .long 63] (wd_1566 z) (some (.int 1), (wd_1566 z)) := by
  refine ru_of (k := 0) (M := pm_161) rfl rfl ?_
  refine go_seg 8 (pc' := 13) (ls' := [(0, .long 47), (2, .long 0), (4, .long 63)]) (st' := []) (w' := (wd_1566 z)) (cs' := 0) (ss' := 0) ?_ (fun _ _ => rfl)
  exact go_end 3 (fun _ _ => rfl)
theorem ro_2504 (z : pq_C) : pq_Ru 2 160 [.int 47] (wd_1566 z) (some (.int 1), (wd_1566 z)) := by
  refine ru_of (k := 1) (M := pm_160) rfl rfl ?_
  refine go_seg 4 (pc' := 6) (ls' := [(0, .int 47)]) (st' := [.long 63, .long 0, .long 47]) (w' := (wd_1566 z)) (cs' := 0) (ss' := 0) ?_ (fun _ _ => rfl)
  refine go_cl (k := 1) (st' := [.int 1]) (cs' := 0) (ss' := 0) rfl rfl rfl rfl rfl rfl rfl (ro_2503 z) ?_
  exact go_end 1 (fun _ _ => rfl)
def wd_1567 (z : pq_C) : pq_W := ((wd_1566 z).set 91 (.inl (.int, 2858, .inl (upd (upd (upd (upd (upd (upd (upd (upd (upd (upd (upd (upd (upd (upd (upd (upd (upd (upd (upd (upd (upd (upd (upd (upd (upd (upd (upd (upd (upd (upd (upd (upd (upd (upd (upd (upd (upd (upd (upd (upd (upd (upd (upd (upd (upd (upd (upd (upd (upd (upd (upd (upd (upd (upd (upd (upd (upd (upd (upd (upd (upd (upd (upd (upd (upd (upd (upd (upd (upd (upd (upd (upd (upd (upd (upd (upd (upd (upd (upd (upd (upd (upd (fun _ => 0) 1 10) 10 (-1)) 11 (-1)) 12 (-1)) 13 (-1)) 14 (-1)) 15 (-1)) 16 (-1)) 17 (-1)) 18 (-1)) 19 (-1)) 20 (-1)) 21 (-1)) 22 (-1)) 23 (-1)) 24 (-1)) 25 (-1)) 26 (-1)) 27 (-1)) 28 (-1)) 29 (-1)) 30 (-1)) 31 (-1)) 32 (-1)) 33 (-1)) 34 (-1)) 35 (-1)) 36 (-1)) 37 (-1)) 38 (-1)) 39 (-1)) 40 (-1)) 41 (-1)) 42 (-1)) 43 (-1)) 44 (-1)) 45 (-1)) 46 (-1)) 47 (-1)) 48 (-1)) 49 (-1)) 50 (-1)) 51 (-1)) 52 (-1)) 53 (-1)) 54 (-1)) 55 (-1)) 56 (-1)) 57 (-1)) 58 (-1)) 59 (-1)) 60 (-1)) 61 (-1)) 62 (-1)) 63 (-1)) 64 (-1)) 65 (-1)) 66 (-1)) 67 (-1)) 68 (-1)) 69 (-1)) 70 (-1)) 71 (-1)) 72 (-1)) 73 (-1)) 139 1000) 140 100) 145 1000) 146 100) 151 1000) 152 100) 157 1000) 158 100) 163 1000) 164 100) 169 1000) 170 100) 175 1000) 176 100) 181 1000) 182 100) 121 1))))
theorem ro_2505 (z : pq_C) : pq_Ru 3 165 [.ref 90, .int 47, .int 1] (wd_1566 z) (some (.int 1), (wd_1567 z)) := by
  refine ru_of (k := 2) (M := pm_165) rfl rfl ?_
  refine go_seg 1 (pc' := 1) (ls' := [(0, .ref 90), (1, .int 47), (2, .int 1)]) (st' := [.int 47]) (w' := (wd_1566 z)) (cs' := 0) (ss' := 0) ?_ (fun _ _ => rfl)
  refine go_cl (k := 2) (st' := [.int 1]) (cs' := 0) (ss' := 0) rfl rfl rfl rfl rfl rfl rfl (ro_2504 z) ?_
  refine go_seg 8 (pc' := 24) (ls' := [(0, .ref 90), (1, .int 47), (2, .int 1)]) (st' := [.int 1, .int 0]) (w' := (wd_1566 z)) (cs' := 0) (ss' := 0) ?_ (fun _ _ => rfl)
  refine go_seg 8 (pc' := 42) (ls' := [(3, .int 1), (0, .ref 90), (1, .int 47), (2, .int 1)]) (st' := [.ref 90]) (w' := (wd_1566 z)) (cs' := 0) (ss' := 0) ?_ (fun _ _ => rfl)
  refine go_seg 8 (pc' := 58) (ls' := [(3, .int 1), (0, .ref 90), (1, .int 47), (2, .int 1)]) (st' := [.int 1, .int 121, .ref 91]) (w' := (wd_1566 z)) (cs' := 0) (ss' := 0) ?_ (fun _ _ => rfl)
  exact go_end 3 (fun _ _ => rfl)
theorem lf_2_2507 (a0 : Int32) (a2 : Int32) (a3 : Int32) (a4 : Int32) (a5 : Int32) (h0 : ¬ a2.toInt = 0) : ∃ w', pq_Go 20 pm_law 278 [(3, .int 0), (2, .ref 90), (1, .ref 1), (0, .ref 0)] [] (fw (sz a0 47 a2 a3 a4 a5)) 109 12668 (some (.int 1), w') := by
  refine ⟨(wd_1567 (sz a0 47 a2 a3 a4 a5)), ?_⟩
  refine go_seg 8 (pc' := 286) (ls' := [(3, .int 0), (2, .ref 90), (1, .ref 1), (0, .ref 0)]) (st' := [.int 0, .ref 0, .int 47, .ref 1]) (w' := (fw (sz a0 47 a2 a3 a4 a5))) (cs' := 109) (ss' := 12668) ?_ (fun _ _ => rfl)
  refine go_seg 3 (pc' := 289) (ls' := [(3, .int 0), (2, .ref 90), (1, .ref 1), (0, .ref 0)]) (st' := [.int a2, .int 47, .ref 1]) (w' := (fw (sz a0 47 a2 a3 a4 a5))) (cs' := 109) (ss' := 12668) ?_ (fun _ _ => rfl)
  refine go_if false rfl (br_eq_f (b := 0) rfl (by omega)) ?_
  refine go_seg 2 (pc' := 297) (ls' := [(3, .int 0), (2, .ref 90), (1, .ref 1), (0, .ref 0)]) (st' := [.int 1, .int 47, .ref 1]) (w' := (fw (sz a0 47 a2 a3 a4 a5))) (cs' := 109) (ss' := 12668) ?_ (fun _ _ => rfl)
  refine go_cl (k := 20) (st' := [.int 1]) (cs' := 109) (ss' := 12668) rfl rfl rfl rfl rfl rfl rfl (ro_2502 (sz a0 47 a2 a3 a4 a5)) ?_
  refine go_seg 8 (pc' := 308) (ls' := [(3, .int 0), (2, .ref 90), (1, .ref 1), (0, .ref 0)]) (st' := [.int 0, .ref 0, .int 47, .ref 90, .int 1]) (w' := (wd_1566 (sz a0 47 a2 a3 a4 a5))) (cs' := 109) (ss' := 12668) ?_ (fun _ _ => rfl)
  refine go_seg 3 (pc' := 311) (ls' := [(3, .int 0), (2, .ref 90), (1, .ref 1), (0, .ref 0)]) (st' := [.int a2, .int 47, .ref 90, .int 1]) (w' := (wd_1566 (sz a0 47 a2 a3 a4 a5))) (cs' := 109) (ss' := 12668) ?_ (fun _ _ => rfl)
  refine go_if false rfl (br_eq_f (b := 0) rfl (by omega)) ?_
  refine go_seg 2 (pc' := 319) (ls' := [(3, .int 0), (2, .ref 90), (1, .ref 1), (0, .ref 0)]) (st' := [.int 1, .int 47, .ref 90, .int 1]) (w' := (wd_1566 (sz a0 47 a2 a3 a4 a5))) (cs' := 109) (ss' := 12668) ?_ (fun _ _ => rfl)
  refine go_cl (k := 20) (st' := [.int 1, .int 1]) (cs' := 109) (ss' := 12668) rfl rfl rfl rfl rfl rfl rfl (ro_2505 (sz a0 47 a2 a3 a4 a5)) ?_
  refine go_cmp true rfl (br_self _) ?_
  exact law_tail (f := sc a0 47 a2 a3 a4 a5) rfl
def wd_1568 (z : pq_C) : pq_W := ((fw z).set 4 (.inl (.boolean, 64, .inl (upd (fun _ => 0) 48 1))))
theorem ro_2509 (z : pq_C) : pq_Ru 2 22 [.ref 1, .int 48, .int 1] (fw z) (some (.int 1), (wd_1568 z)) := by
  refine ru_of (k := 1) (M := pm_22) rfl rfl ?_
  refine go_seg 1 (pc' := 1) (ls' := [(0, .ref 1), (1, .int 48), (2, .int 1)]) (st' := [.int 48]) (w' := (fw z)) (cs' := 0) (ss' := 0) ?_ (fun _ _ => rfl)
  refine go_cl (k := 1) (st' := [.int 1]) (cs' := 0) (ss' := 0) rfl rfl rfl rfl rfl rfl rfl (ro_1577 z) ?_
  refine go_seg 8 (pc' := 24) (ls' := [(3, .int 0), (0, .ref 1), (1, .int 48), (2, .int 1)]) (st' := [.ref 1]) (w' := (fw z)) (cs' := 0) (ss' := 0) ?_ (fun _ _ => rfl)
  refine go_seg 8 (pc' := 42) (ls' := [(3, .int 0), (0, .ref 1), (1, .int 48), (2, .int 1)]) (st' := []) (w' := (wd_1568 z)) (cs' := 0) (ss' := 0) ?_ (fun _ _ => rfl)
  exact go_end 2 (fun _ _ => rfl)
theorem ro_2510 (z : pq_C) : pq_Ru 1 161 [.long 48, .long 0, .long 63] (wd_1568 z) (some (.int 1), (wd_1568 z)) := by
  refine ru_of (k := 0) (M := pm_161) rfl rfl ?_
  refine go_seg 8 (pc' := 13) (ls' := [(0, .long 48), (2, .long 0), (4, .long 63)]) (st' := []) (w' := (wd_1568 z)) (cs' := 0) (ss' := 0) ?_ (fun _ _ => rfl)
  exact go_end 3 (fun _ _ => rfl)
theorem ro_2511 (z : pq_C) : pq_Ru 2 160 [.int 48] (wd_1568 z) (some (.int 1), (wd_1568 z)) := by
  refine ru_of (k := 1) (M := pm_160) rfl rfl ?_
  refine go_seg 4 (pc' := 6) (ls' := [(0, .int 48)]) (st' := [.long 63, .long 0, .long 48]) (w' := (wd_1568 z)) (cs' := 0) (ss' := 0) ?_ (fun _ _ => rfl)
  refine go_cl (k := 1) (st' := [.int 1]) (cs' := 0) (ss' := 0) rfl rfl rfl rfl rfl rfl rfl (ro_2510 z) ?_
  exact go_end 1 (fun _ _ => rfl)
def wd_1569 (z : pq_C) : pq_W := ((wd_1568 z).set 91 (.inl (.int, 2858, .inl (upd (upd (upd (upd (upd (upd (upd (upd (upd (upd (upd (upd (upd (upd (upd (upd (upd (upd (upd (upd (upd (upd (upd (upd (upd (upd (upd (upd (upd (upd (upd (upd (upd (upd (upd (upd (upd (upd (upd (upd (upd (upd (upd (upd (upd (upd (upd (upd (upd (upd (upd (upd (upd (upd (upd (upd (upd (upd (upd (upd (upd (upd (upd (upd (upd (upd (upd (upd (upd (upd (upd (upd (upd (upd (upd (upd (upd (upd (upd (upd (upd (upd (fun _ => 0) 1 10) 10 (-1)) 11 (-1)) 12 (-1)) 13 (-1)) 14 (-1)) 15 (-1)) 16 (-1)) 17 (-1)) 18 (-1)) 19 (-1)) 20 (-1)) 21 (-1)) 22 (-1)) 23 (-1)) 24 (-1)) 25 (-1)) 26 (-1)) 27 (-1)) 28 (-1)) 29 (-1)) 30 (-1)) 31 (-1)) 32 (-1)) 33 (-1)) 34 (-1)) 35 (-1)) 36 (-1)) 37 (-1)) 38 (-1)) 39 (-1)) 40 (-1)) 41 (-1)) 42 (-1)) 43 (-1)) 44 (-1)) 45 (-1)) 46 (-1)) 47 (-1)) 48 (-1)) 49 (-1)) 50 (-1)) 51 (-1)) 52 (-1)) 53 (-1)) 54 (-1)) 55 (-1)) 56 (-1)) 57 (-1)) 58 (-1)) 59 (-1)) 60 (-1)) 61 (-1)) 62 (-1)) 63 (-1)) 64 (-1)) 65 (-1)) 66 (-1)) 67 (-1)) 68 (-1)) 69 (-1)) 70 (-1)) 71 (-1)) 72 (-1)) 73 (-1)) 139 1000) 140 100) 145 1000) 146 100) 151 1000) 152 100) 157 1000) 158 100) 163 1000) 164 100) 169 1000) 170 100) 175 1000) 176 100) 181 1000) 182 100) 122 1))))
theorem ro_2512 (z : pq_C) : pq_Ru 3 165 [.ref 90, .int 48, .int 1] (wd_1568 z) (some (.int 1), (wd_1569 z)) := by
  refine ru_of (k := 2) (M := pm_165) rfl rfl ?_
  refine go_seg 1 (pc' := 1) (ls' := [(0, .ref 90), (1, .int 48), (2, .int 1)]) (st' := [.int 48]) (w' := (wd_1568 z)) (cs' := 0) (ss' := 0) ?_ (fun _ _ => rfl)
  refine go_cl (k := 2) (st' := [.int 1]) (cs' := 0) (ss' := 0) rfl rfl rfl rfl rfl rfl rfl (ro_2511 z) ?_
  refine go_seg 8 (pc' := 24) (ls' := [(0, .ref 90), (1, .int 48), (2, .int 1)]) (st' := [.int 1, .int 0]) (w' := (wd_1568 z)) (cs' := 0) (ss' := 0) ?_ (fun _ _ => rfl)
  refine go_seg 8 (pc' := 42) (ls' := [(3, .int 1), (0, .ref 90), (1, .int 48), (2, .int 1)]) (st' := [.ref 90]) (w' := (wd_1568 z)) (cs' := 0) (ss' := 0) ?_ (fun _ _ => rfl)
  refine go_seg 8 (pc' := 58) (ls' := [(3, .int 1), (0, .ref 90), (1, .int 48), (2, .int 1)]) (st' := [.int 1, .int 122, .ref 91]) (w' := (wd_1568 z)) (cs' := 0) (ss' := 0) ?_ (fun _ _ => rfl)
  exact go_end 3 (fun _ _ => rfl)
theorem lf_2_2514 (a0 : Int32) (a2 : Int32) (a3 : Int32) (a4 : Int32) (a5 : Int32) (h0 : ¬ a2.toInt = 0) : ∃ w', pq_Go 20 pm_law 278 [(3, .int 0), (2, .ref 90), (1, .ref 1), (0, .ref 0)] [] (fw (sz a0 48 a2 a3 a4 a5)) 109 12668 (some (.int 1), w') := by
  refine ⟨(wd_1569 (sz a0 48 a2 a3 a4 a5)), ?_⟩
  refine go_seg 8 (pc' := 286) (ls' := [(3, .int 0), (2, .ref 90), (1, .ref 1), (0, .ref 0)]) (st' := [.int 0, .ref 0, .int 48, .ref 1]) (w' := (fw (sz a0 48 a2 a3 a4 a5))) (cs' := 109) (ss' := 12668) ?_ (fun _ _ => rfl)
  refine go_seg 3 (pc' := 289) (ls' := [(3, .int 0), (2, .ref 90), (1, .ref 1), (0, .ref 0)]) (st' := [.int a2, .int 48, .ref 1]) (w' := (fw (sz a0 48 a2 a3 a4 a5))) (cs' := 109) (ss' := 12668) ?_ (fun _ _ => rfl)
  refine go_if false rfl (br_eq_f (b := 0) rfl (by omega)) ?_
  refine go_seg 2 (pc' := 297) (ls' := [(3, .int 0), (2, .ref 90), (1, .ref 1), (0, .ref 0)]) (st' := [.int 1, .int 48, .ref 1]) (w' := (fw (sz a0 48 a2 a3 a4 a5))) (cs' := 109) (ss' := 12668) ?_ (fun _ _ => rfl)
  refine go_cl (k := 20) (st' := [.int 1]) (cs' := 109) (ss' := 12668) rfl rfl rfl rfl rfl rfl rfl (ro_2509 (sz a0 48 a2 a3 a4 a5)) ?_
  refine go_seg 8 (pc' := 308) (ls' := [(3, .int 0), (2, .ref 90), (1, .ref 1), (0, .ref 0)]) (st' := [.int 0, .ref 0, .int 48, .ref 90, .int 1]) (w' := (wd_1568 (sz a0 48 a2 a3 a4 a5))) (cs' := 109) (ss' := 12668) ?_ (fun _ _ => rfl)
  refine go_seg 3 (pc' := 311) (ls' := [(3, .int 0), (2, .ref 90), (1, .ref 1), (0, .ref 0)]) (st' := [.int a2, .int 48, .ref 90, .int 1]) (w' := (wd_1568 (sz a0 48 a2 a3 a4 a5))) (cs' := 109) (ss' := 12668) ?_ (fun _ _ => rfl)
  refine go_if false rfl (br_eq_f (b := 0) rfl (by omega)) ?_
  refine go_seg 2 (pc' := 319) (ls' := [(3, .int 0), (2, .ref 90), (1, .ref 1), (0, .ref 0)]) (st' := [.int 1, .int 48, .ref 90, .int 1]) (w' := (wd_1568 (sz a0 48 a2 a3 a4 a5))) (cs' := 109) (ss' := 12668) ?_ (fun _ _ => rfl)
  refine go_cl (k := 20) (st' := [.int 1, .int 1]) (cs' := 109) (ss' := 12668) rfl rfl rfl rfl rfl rfl rfl (ro_2512 (sz a0 48 a2 a3 a4 a5)) ?_
  refine go_cmp true rfl (br_self _) ?_
  exact law_tail (f := sc a0 48 a2 a3 a4 a5) rfl
def wd_1570 (z : pq_C) : pq_W := ((fw z).set 4 (.inl (.boolean, 64, .inl (upd (fun _ => 0) 49 1))))
theorem ro_2516 (z : pq_C) : pq_Ru 2 22 [.ref 1, .int 49, .int 1] (fw z) (some (.int 1), (wd_1570 z)) := by
  refine ru_of (k := 1) (M := pm_22) rfl rfl ?_
  refine go_seg 1 (pc' := 1) (ls' := [(0, .ref 1), (1, .int 49), (2, .int 1)]) (st' := [.int 49]) (w' := (fw z)) (cs' := 0) (ss' := 0) ?_ (fun _ _ => rfl)
  refine go_cl (k := 1) (st' := [.int 1]) (cs' := 0) (ss' := 0) rfl rfl rfl rfl rfl rfl rfl (ro_1585 z) ?_
  refine go_seg 8 (pc' := 24) (ls' := [(3, .int 0), (0, .ref 1), (1, .int 49), (2, .int 1)]) (st' := [.ref 1]) (w' := (fw z)) (cs' := 0) (ss' := 0) ?_ (fun _ _ => rfl)
  refine go_seg 8 (pc' := 42) (ls' := [(3, .int 0), (0, .ref 1), (1, .int 49), (2, .int 1)]) (st' := []) (w' := (wd_1570 z)) (cs' := 0) (ss' := 0) ?_ (fun _ _ => rfl)
  exact go_end 2 (fun _ _ => rfl)
theorem ro_2517 (z : pq_C) : pq_Ru 1 161 [.long 49, .long 0, .long 63] (wd_1570 z) (some (.int 1), (wd_1570 z)) := by
  refine ru_of (k := 0) (M := pm_161) rfl rfl ?_
  refine go_seg 8 (pc' := 13) (ls' := [(0, .long 49), (2, .long 0), (4, .long 63)]) (st' := []) (w' := (wd_1570 z)) (cs' := 0) (ss' := 0) ?_ (fun _ _ => rfl)
  exact go_end 3 (fun _ _ => rfl)
theorem ro_2518 (z : pq_C) : pq_Ru 2 160 [.int 49] (wd_1570 z) (some (.int 1), (wd_1570 z)) := by
  refine ru_of (k := 1) (M := pm_160) rfl rfl ?_
  refine go_seg 4 (pc' := 6) (ls' := [(0, .int 49)]) (st' := [.long 63, .long 0, .long 49]) (w' := (wd_1570 z)) (cs' := 0) (ss' := 0) ?_ (fun _ _ => rfl)
  refine go_cl (k := 1) (st' := [.int 1]) (cs' := 0) (ss' := 0) rfl rfl rfl rfl rfl rfl rfl (ro_2517 z) ?_
  exact go_end 1 (fun _ _ => rfl)
def wd_1571 (z : pq_C) : pq_W := ((wd_1570 z).set 91 (.inl (.int, 2858, .inl (upd (upd (upd (upd (upd (upd (upd (upd (upd (upd (upd (upd (upd (upd (upd (upd (upd (upd (upd (upd (upd (upd (upd (upd (upd (upd (upd (upd (upd (upd (upd (upd (upd (upd (upd (upd (upd (upd (upd (upd (upd (upd (upd (upd (upd (upd (upd (upd (upd (upd (upd (upd (upd (upd (upd (upd (upd (upd (upd (upd (upd (upd (upd (upd (upd (upd (upd (upd (upd (upd (upd (upd (upd (upd (upd (upd (upd (upd (upd (upd (upd (upd (fun _ => 0) 1 10) 10 (-1)) 11 (-1)) 12 (-1)) 13 (-1)) 14 (-1)) 15 (-1)) 16 (-1)) 17 (-1)) 18 (-1)) 19 (-1)) 20 (-1)) 21 (-1)) 22 (-1)) 23 (-1)) 24 (-1)) 25 (-1)) 26 (-1)) 27 (-1)) 28 (-1)) 29 (-1)) 30 (-1)) 31 (-1)) 32 (-1)) 33 (-1)) 34 (-1)) 35 (-1)) 36 (-1)) 37 (-1)) 38 (-1)) 39 (-1)) 40 (-1)) 41 (-1)) 42 (-1)) 43 (-1)) 44 (-1)) 45 (-1)) 46 (-1)) 47 (-1)) 48 (-1)) 49 (-1)) 50 (-1)) 51 (-1)) 52 (-1)) 53 (-1)) 54 (-1)) 55 (-1)) 56 (-1)) 57 (-1)) 58 (-1)) 59 (-1)) 60 (-1)) 61 (-1)) 62 (-1)) 63 (-1)) 64 (-1)) 65 (-1)) 66 (-1)) 67 (-1)) 68 (-1)) 69 (-1)) 70 (-1)) 71 (-1)) 72 (-1)) 73 (-1)) 139 1000) 140 100) 145 1000) 146 100) 151 1000) 152 100) 157 1000) 158 100) 163 1000) 164 100) 169 1000) 170 100) 175 1000) 176 100) 181 1000) 182 100) 123 1))))
theorem ro_2519 (z : pq_C) : pq_Ru 3 165 [.ref 90, .int 49, .int 1] (wd_1570 z) (some (.int 1), (wd_1571 z)) := by
  refine ru_of (k := 2) (M := pm_165) rfl rfl ?_
  refine go_seg 1 (pc' := 1) (ls' := [(0, .ref 90), (1, .int 49), (2, .int 1)]) (st' := [.int 49]) (w' := (wd_1570 z)) (cs' := 0) (ss' := 0) ?_ (fun _ _ => rfl)
  refine go_cl (k := 2) (st' := [.int 1]) (cs' := 0) (ss' := 0) rfl rfl rfl rfl rfl rfl rfl (ro_2518 z) ?_
  refine go_seg 8 (pc' := 24) (ls' := [(0, .ref 90), (1, .int 49), (2, .int 1)]) (st' := [.int 1, .int 0]) (w' := (wd_1570 z)) (cs' := 0) (ss' := 0) ?_ (fun _ _ => rfl)
  refine go_seg 8 (pc' := 42) (ls' := [(3, .int 1), (0, .ref 90), (1, .int 49), (2, .int 1)]) (st' := [.ref 90]) (w' := (wd_1570 z)) (cs' := 0) (ss' := 0) ?_ (fun _ _ => rfl)
  refine go_seg 8 (pc' := 58) (ls' := [(3, .int 1), (0, .ref 90), (1, .int 49), (2, .int 1)]) (st' := [.int 1, .int 123, .ref 91]) (w' := (wd_1570 z)) (cs' := 0) (ss' := 0) ?_ (fun _ _ => rfl)
  exact go_end 3 (fun _ _ => rfl)
theorem lf_2_2521 (a0 : Int32) (a2 : Int32) (a3 : Int32) (a4 : Int32) (a5 : Int32) (h0 : ¬ a2.toInt = 0) : ∃ w', pq_Go 20 pm_law 278 [(3, .int 0), (2, .ref 90), (1, .ref 1), (0, .ref 0)] [] (fw (sz a0 49 a2 a3 a4 a5)) 109 12668 (some (.int 1), w') := by
  refine ⟨(wd_1571 (sz a0 49 a2 a3 a4 a5)), ?_⟩
  refine go_seg 8 (pc' := 286) (ls' := [(3, .int 0), (2, .ref 90), (1, .ref 1), (0, .ref 0)]) (st' := [.int 0, .ref 0, .int 49, .ref 1]) (w' := (fw (sz a0 49 a2 a3 a4 a5))) (cs' := 109) (ss' := 12668) ?_ (fun _ _ => rfl)
  refine go_seg 3 (pc' := 289) (ls' := [(3, .int 0), (2, .ref 90), (1, .ref 1), (0, .ref 0)]) (st' := [.int a2, .int 49, .ref 1]) (w' := (fw (sz a0 49 a2 a3 a4 a5))) (cs' := 109) (ss' := 12668) ?_ (fun _ _ => rfl)
  refine go_if false rfl (br_eq_f (b := 0) rfl (by omega)) ?_
  refine go_seg 2 (pc' := 297) (ls' := [(3, .int 0), (2, .ref 90), (1, .ref 1), (0, .ref 0)]) (st' := [.int 1, .int 49, .ref 1]) (w' := (fw (sz a0 49 a2 a3 a4 a5))) (cs' := 109) (ss' := 12668) ?_ (fun _ _ => rfl)
  refine go_cl (k := 20) (st' := [.int 1]) (cs' := 109) (ss' := 12668) rfl rfl rfl rfl rfl rfl rfl (ro_2516 (sz a0 49 a2 a3 a4 a5)) ?_
  refine go_seg 8 (pc' := 308) (ls' := [(3, .int 0), (2, .ref 90), (1, .ref 1), (0, .ref 0)]) (st' := [.int 0, .ref 0, .int 49, .ref 90, .int 1]) (w' := (wd_1570 (sz a0 49 a2 a3 a4 a5))) (cs' := 109) (ss' := 12668) ?_ (fun _ _ => rfl)
  refine go_seg 3 (pc' := 311) (ls' := [(3, .int 0), (2, .ref 90), (1, .ref 1), (0, .ref 0)]) (st' := [.int a2, .int 49, .ref 90, .int 1]) (w' := (wd_1570 (sz a0 49 a2 a3 a4 a5))) (cs' := 109) (ss' := 12668) ?_ (fun _ _ => rfl)
  refine go_if false rfl (br_eq_f (b := 0) rfl (by omega)) ?_
  refine go_seg 2 (pc' := 319) (ls' := [(3, .int 0), (2, .ref 90), (1, .ref 1), (0, .ref 0)]) (st' := [.int 1, .int 49, .ref 90, .int 1]) (w' := (wd_1570 (sz a0 49 a2 a3 a4 a5))) (cs' := 109) (ss' := 12668) ?_ (fun _ _ => rfl)
  refine go_cl (k := 20) (st' := [.int 1, .int 1]) (cs' := 109) (ss' := 12668) rfl rfl rfl rfl rfl rfl rfl (ro_2519 (sz a0 49 a2 a3 a4 a5)) ?_
  refine go_cmp true rfl (br_self _) ?_
  exact law_tail (f := sc a0 49 a2 a3 a4 a5) rfl
def wd_1572 (z : pq_C) : pq_W := ((fw z).set 4 (.inl (.boolean, 64, .inl (upd (fun _ => 0) 50 1))))
theorem ro_2523 (z : pq_C) : pq_Ru 2 22 [.ref 1, .int 50, .int 1] (fw z) (some (.int 1), (wd_1572 z)) := by
  refine ru_of (k := 1) (M := pm_22) rfl rfl ?_
  refine go_seg 1 (pc' := 1) (ls' := [(0, .ref 1), (1, .int 50), (2, .int 1)]) (st' := [.int 50]) (w' := (fw z)) (cs' := 0) (ss' := 0) ?_ (fun _ _ => rfl)
  refine go_cl (k := 1) (st' := [.int 1]) (cs' := 0) (ss' := 0) rfl rfl rfl rfl rfl rfl rfl (ro_1593 z) ?_
  refine go_seg 8 (pc' := 24) (ls' := [(3, .int 0), (0, .ref 1), (1, .int 50), (2, .int 1)]) (st' := [.ref 1]) (w' := (fw z)) (cs' := 0) (ss' := 0) ?_ (fun _ _ => rfl)
  refine go_seg 8 (pc' := 42) (ls' := [(3, .int 0), (0, .ref 1), (1, .int 50), (2, .int 1)]) (st' := []) (w' := (wd_1572 z)) (cs' := 0) (ss' := 0) ?_ (fun _ _ => rfl)
  exact go_end 2 (fun _ _ => rfl)
theorem ro_2524 (z : pq_C) : pq_Ru 1 161 [.long 50, .long 0, .long 63] (wd_1572 z) (some (.int 1), (wd_1572 z)) := by
  refine ru_of (k := 0) (M := pm_161) rfl rfl ?_
  refine go_seg 8 (pc' := 13) (ls' := [(0, .long 50), (2, .long 0), (4, .long 63)]) (st' := []) (w' := (wd_1572 z)) (cs' := 0) (ss' := 0) ?_ (fun _ _ => rfl)
  exact go_end 3 (fun _ _ => rfl)
theorem ro_2525 (z : pq_C) : pq_Ru 2 160 [.int 50] (wd_1572 z) (some (.int 1), (wd_1572 z)) := by
  refine ru_of (k := 1) (M := pm_160) rfl rfl ?_
  refine go_seg 4 (pc' := 6) (ls' := [(0, .int 50)]) (st' := [.long 63, .long 0, .long 50]) (w' := (wd_1572 z)) (cs' := 0) (ss' := 0) ?_ (fun _ _ => rfl)
  refine go_cl (k := 1) (st' := [.int 1]) (cs' := 0) (ss' := 0) rfl rfl rfl rfl rfl rfl rfl (ro_2524 z) ?_
  exact go_end 1 (fun _ _ => rfl)
def wd_1573 (z : pq_C) : pq_W := ((wd_1572 z).set 91 (.inl (.int, 2858, .inl (upd (upd (upd (upd (upd (upd (upd (upd (upd (upd (upd (upd (upd (upd (upd (upd (upd (upd (upd (upd (upd (upd (upd (upd (upd (upd (upd (upd (upd (upd (upd (upd (upd (upd (upd (upd (upd (upd (upd (upd (upd (upd (upd (upd (upd (upd (upd (upd (upd (upd (upd (upd (upd (upd (upd (upd (upd (upd (upd (upd (upd (upd (upd (upd (upd (upd (upd (upd (upd (upd (upd (upd (upd (upd (upd (upd (upd (upd (upd (upd (upd (upd (fun _ => 0) 1 10) 10 (-1)) 11 (-1)) 12 (-1)) 13 (-1)) 14 (-1)) 15 (-1)) 16 (-1)) 17 (-1)) 18 (-1)) 19 (-1)) 20 (-1)) 21 (-1)) 22 (-1)) 23 (-1)) 24 (-1)) 25 (-1)) 26 (-1)) 27 (-1)) 28 (-1)) 29 (-1)) 30 (-1)) 31 (-1)) 32 (-1)) 33 (-1)) 34 (-1)) 35 (-1)) 36 (-1)) 37 (-1)) 38 (-1)) 39 (-1)) 40 (-1)) 41 (-1)) 42 (-1)) 43 (-1)) 44 (-1)) 45 (-1)) 46 (-1)) 47 (-1)) 48 (-1)) 49 (-1)) 50 (-1)) 51 (-1)) 52 (-1)) 53 (-1)) 54 (-1)) 55 (-1)) 56 (-1)) 57 (-1)) 58 (-1)) 59 (-1)) 60 (-1)) 61 (-1)) 62 (-1)) 63 (-1)) 64 (-1)) 65 (-1)) 66 (-1)) 67 (-1)) 68 (-1)) 69 (-1)) 70 (-1)) 71 (-1)) 72 (-1)) 73 (-1)) 139 1000) 140 100) 145 1000) 146 100) 151 1000) 152 100) 157 1000) 158 100) 163 1000) 164 100) 169 1000) 170 100) 175 1000) 176 100) 181 1000) 182 100) 124 1))))
theorem ro_2526 (z : pq_C) : pq_Ru 3 165 [.ref 90, .int 50, .int 1] (wd_1572 z) (some (.int 1), (wd_1573 z)) := by
  refine ru_of (k := 2) (M := pm_165) rfl rfl ?_
  refine go_seg 1 (pc' := 1) (ls' := [(0, .ref 90), (1, .int 50), (2, .int 1)]) (st' := [.int 50]) (w' := (wd_1572 z)) (cs' := 0) (ss' := 0) ?_ (fun _ _ => rfl)
  refine go_cl (k := 2) (st' := [.int 1]) (cs' := 0) (ss' := 0) rfl rfl rfl rfl rfl rfl rfl (ro_2525 z) ?_
  refine go_seg 8 (pc' := 24) (ls' := [(0, .ref 90), (1, .int 50), (2, .int 1)]) (st' := [.int 1, .int 0]) (w' := (wd_1572 z)) (cs' := 0) (ss' := 0) ?_ (fun _ _ => rfl)
  refine go_seg 8 (pc' := 42) (ls' := [(3, .int 1), (0, .ref 90), (1, .int 50), (2, .int 1)]) (st' := [.ref 90]) (w' := (wd_1572 z)) (cs' := 0) (ss' := 0) ?_ (fun _ _ => rfl)
  refine go_seg 8 (pc' := 58) (ls' := [(3, .int 1), (0, .ref 90), (1, .int 50), (2, .int 1)]) (st' := [.int 1, .int 124, .ref 91]) (w' := (wd_1572 z)) (cs' := 0) (ss' := 0) ?_ (fun _ _ => rfl)
  exact go_end 3 (fun _ _ => rfl)
theorem lf_2_2528 (a0 : Int32) (a2 : Int32) (a3 : Int32) (a4 : Int32) (a5 : Int32) (h0 : ¬ a2.toInt = 0) : ∃ w', pq_Go 20 pm_law 278 [(3, .int 0), (2, .ref 90), (1, .ref 1), (0, .ref 0)] [] (fw (sz a0 50 a2 a3 a4 a5)) 109 12668 (some (.int 1), w') := by
  refine ⟨(wd_1573 (sz a0 50 a2 a3 a4 a5)), ?_⟩
  refine go_seg 8 (pc' := 286) (ls' := [(3, .int 0), (2, .ref 90), (1, .ref 1), (0, .ref 0)]) (st' := [.int 0, .ref 0, .int 50, .ref 1]) (w' := (fw (sz a0 50 a2 a3 a4 a5))) (cs' := 109) (ss' := 12668) ?_ (fun _ _ => rfl)
  refine go_seg 3 (pc' := 289) (ls' := [(3, .int 0), (2, .ref 90), (1, .ref 1), (0, .ref 0)]) (st' := [.int a2, .int 50, .ref 1]) (w' := (fw (sz a0 50 a2 a3 a4 a5))) (cs' := 109) (ss' := 12668) ?_ (fun _ _ => rfl)
  refine go_if false rfl (br_eq_f (b := 0) rfl (by omega)) ?_
  refine go_seg 2 (pc' := 297) (ls' := [(3, .int 0), (2, .ref 90), (1, .ref 1), (0, .ref 0)]) (st' := [.int 1, .int 50, .ref 1]) (w' := (fw (sz a0 50 a2 a3 a4 a5))) (cs' := 109) (ss' := 12668) ?_ (fun _ _ => rfl)
  refine go_cl (k := 20) (st' := [.int 1]) (cs' := 109) (ss' := 12668) rfl rfl rfl rfl rfl rfl rfl (ro_2523 (sz a0 50 a2 a3 a4 a5)) ?_
  refine go_seg 8 (pc' := 308) (ls' := [(3, .int 0), (2, .ref 90), (1, .ref 1), (0, .ref 0)]) (st' := [.int 0, .ref 0, .int 50, .ref 90, .int 1]) (w' := (wd_1572 (sz a0 50 a2 a3 a4 a5))) (cs' := 109) (ss' := 12668) ?_ (fun _ _ => rfl)
  refine go_seg 3 (pc' := 311) (ls' := [(3, .int 0), (2, .ref 90), (1, .ref 1), (0, .ref 0)]) (st' := [.int a2, .int 50, .ref 90, .int 1]) (w' := (wd_1572 (sz a0 50 a2 a3 a4 a5))) (cs' := 109) (ss' := 12668) ?_ (fun _ _ => rfl)
  refine go_if false rfl (br_eq_f (b := 0) rfl (by omega)) ?_
  refine go_seg 2 (pc' := 319) (ls' := [(3, .int 0), (2, .ref 90), (1, .ref 1), (0, .ref 0)]) (st' := [.int 1, .int 50, .ref 90, .int 1]) (w' := (wd_1572 (sz a0 50 a2 a3 a4 a5))) (cs' := 109) (ss' := 12668) ?_ (fun _ _ => rfl)
  refine go_cl (k := 20) (st' := [.int 1, .int 1]) (cs' := 109) (ss' := 12668) rfl rfl rfl rfl rfl rfl rfl (ro_2526 (sz a0 50 a2 a3 a4 a5)) ?_
  refine go_cmp true rfl (br_self _) ?_
  exact law_tail (f := sc a0 50 a2 a3 a4 a5) rfl
def wd_1574 (z : pq_C) : pq_W := ((fw z).set 4 (.inl (.boolean, 64, .inl (upd (fun _ => 0) 51 1))))
theorem ro_2530 (z : pq_C) : pq_Ru 2 22 [.ref 1, .int 51, .int 1] (fw z) (some (.int 1), (wd_1574 z)) := by
  refine ru_of (k := 1) (M := pm_22) rfl rfl ?_
  refine go_seg 1 (pc' := 1) (ls' := [(0, .ref 1), (1, .int 51), (2, .int 1)]) (st' := [.int 51]) (w' := (fw z)) (cs' := 0) (ss' := 0) ?_ (fun _ _ => rfl)
  refine go_cl (k := 1) (st' := [.int 1]) (cs' := 0) (ss' := 0) rfl rfl rfl rfl rfl rfl rfl (ro_1601 z) ?_
  refine go_seg 8 (pc' := 24) (ls' := [(3, .int 0), (0, .ref 1), (1, .int 51), (2, .int 1)]) (st' := [.ref 1]) (w' := (fw z)) (cs' := 0) (ss' := 0) ?_ (fun _ _ => rfl)
  refine go_seg 8 (pc' := 42) (ls' := [(3, .int 0), (0, .ref 1), (1, .int 51), (2, .int 1)]) (st' := []) (w' := (wd_1574 z)) (cs' := 0) (ss' := 0) ?_ (fun _ _ => rfl)
  exact go_end 2 (fun _ _ => rfl)
theorem ro_2531 (z : pq_C) : pq_Ru 1 161 [.long 51, .long 0, .long 63] (wd_1574 z) (some (.int 1), (wd_1574 z)) := by
  refine ru_of (k := 0) (M := pm_161) rfl rfl ?_
  refine go_seg 8 (pc' := 13) (ls' := [(0, .long 51), (2, .long 0), (4, .long 63)]) (st' := []) (w' := (wd_1574 z)) (cs' := 0) (ss' := 0) ?_ (fun _ _ => rfl)
  exact go_end 3 (fun _ _ => rfl)
theorem ro_2532 (z : pq_C) : pq_Ru 2 160 [.int 51] (wd_1574 z) (some (.int 1), (wd_1574 z)) := by
  refine ru_of (k := 1) (M := pm_160) rfl rfl ?_
  refine go_seg 4 (pc' := 6) (ls' := [(0, .int 51)]) (st' := [.long 63, .long 0, .long 51]) (w' := (wd_1574 z)) (cs' := 0) (ss' := 0) ?_ (fun _ _ => rfl)
  refine go_cl (k := 1) (st' := [.int 1]) (cs' := 0) (ss' := 0) rfl rfl rfl rfl rfl rfl rfl (ro_2531 z) ?_
  exact go_end 1 (fun _ _ => rfl)
def wd_1575 (z : pq_C) : pq_W := ((wd_1574 z).set 91 (.inl (.int, 2858, .inl (upd (upd (upd (upd (upd (upd (upd (upd (upd (upd (upd (upd (upd (upd (upd (upd (upd (upd (upd (upd (upd (upd (upd (upd (upd (upd (upd (upd (upd (upd (upd (upd (upd (upd (upd (upd (upd (upd (upd (upd (upd (upd (upd (upd (upd (upd (upd (upd (upd (upd (upd (upd (upd (upd (upd (upd (upd (upd (upd (upd (upd (upd (upd (upd (upd (upd (upd (upd (upd (upd (upd (upd (upd (upd (upd (upd (upd (upd (upd (upd (upd (upd (fun _ => 0) 1 10) 10 (-1)) 11 (-1)) 12 (-1)) 13 (-1)) 14 (-1)) 15 (-1)) 16 (-1)) 17 (-1)) 18 (-1)) 19 (-1)) 20 (-1)) 21 (-1)) 22 (-1)) 23 (-1)) 24 (-1)) 25 (-1)) 26 (-1)) 27 (-1)) 28 (-1)) 29 (-1)) 30 (-1)) 31 (-1)) 32 (-1)) 33 (-1)) 34 (-1)) 35 (-1)) 36 (-1)) 37 (-1)) 38 (-1)) 39 (-1)) 40 (-1)) 41 (-1)) 42 (-1)) 43 (-1)) 44 (-1)) 45 (-1)) 46 (-1)) 47 (-1)) 48 (-1)) 49 (-1)) 50 (-1)) 51 (-1)) 52 (-1)) 53 (-1)) 54 (-1)) 55 (-1)) 56 (-1)) 57 (-1)) 58 (-1)) 59 (-1)) 60 (-1)) 61 (-1)) 62 (-1)) 63 (-1)) 64 (-1)) 65 (-1)) 66 (-1)) 67 (-1)) 68 (-1)) 69 (-1)) 70 (-1)) 71 (-1)) 72 (-1)) 73 (-1)) 139 1000) 140 100) 145 1000) 146 100) 151 1000) 152 100) 157 1000) 158 100) 163 1000) 164 100) 169 1000) 170 100) 175 1000) 176 100) 181 1000) 182 100) 125 1))))
theorem ro_2533 (z : pq_C) : pq_Ru 3 165 [.ref 90, .int 51, .int 1] (wd_1574 z) (some (.int 1), (wd_1575 z)) := by
  refine ru_of (k := 2) (M := pm_165) rfl rfl ?_
  refine go_seg 1 (pc' := 1) (ls' := [(0, .ref 90), (1, .int 51), (2, .int 1)]) (st' := [.int 51]) (w' := (wd_1574 z)) (cs' := 0) (ss' := 0) ?_ (fun _ _ => rfl)
  refine go_cl (k := 2) (st' := [.int 1]) (cs' := 0) (ss' := 0) rfl rfl rfl rfl rfl rfl rfl (ro_2532 z) ?_
  refine go_seg 8 (pc' := 24) (ls' := [(0, .ref 90), (1, .int 51), (2, .int 1)]) (st' := [.int 1, .int 0]) (w' := (wd_1574 z)) (cs' := 0) (ss' := 0) ?_ (fun _ _ => rfl)
  refine go_seg 8 (pc' := 42) (ls' := [(3, .int 1), (0, .ref 90), (1, .int 51), (2, .int 1)]) (st' := [.ref 90]) (w' := (wd_1574 z)) (cs' := 0) (ss' := 0) ?_ (fun _ _ => rfl)
  refine go_seg 8 (pc' := 58) (ls' := [(3, .int 1), (0, .ref 90), (1, .int 51), (2, .int 1)]) (st' := [.int 1, .int 125, .ref 91]) (w' := (wd_1574 z)) (cs' := 0) (ss' := 0) ?_ (fun _ _ => rfl)
  exact go_end 3 (fun _ _ => rfl)
theorem lf_2_2535 (a0 : Int32) (a2 : Int32) (a3 : Int32) (a4 : Int32) (a5 : Int32) (h0 : ¬ a2.toInt = 0) : ∃ w', pq_Go 20 pm_law 278 [(3, .int 0), (2, .ref 90), (1, .ref 1), (0, .ref 0)] [] (fw (sz a0 51 a2 a3 a4 a5)) 109 12668 (some (.int 1), w') := by
  refine ⟨(wd_1575 (sz a0 51 a2 a3 a4 a5)), ?_⟩
  refine go_seg 8 (pc' := 286) (ls' := [(3, .int 0), (2, .ref 90), (1, .ref 1), (0, .ref 0)]) (st' := [.int 0, .ref 0, .int 51, .ref 1]) (w' := (fw (sz a0 51 a2 a3 a4 a5))) (cs' := 109) (ss' := 12668) ?_ (fun _ _ => rfl)
  refine go_seg 3 (pc' := 289) (ls' := [(3, .int 0), (2, .ref 90), (1, .ref 1), (0, .ref 0)]) (st' := [.int a2, .int 51, .ref 1]) (w' := (fw (sz a0 51 a2 a3 a4 a5))) (cs' := 109) (ss' := 12668) ?_ (fun _ _ => rfl)
  refine go_if false rfl (br_eq_f (b := 0) rfl (by omega)) ?_
  refine go_seg 2 (pc' := 297) (ls' := [(3, .int 0), (2, .ref 90), (1, .ref 1), (0, .ref 0)]) (st' := [.int 1, .int 51, .ref 1]) (w' := (fw (sz a0 51 a2 a3 a4 a5))) (cs' := 109) (ss' := 12668) ?_ (fun _ _ => rfl)
  refine go_cl (k := 20) (st' := [.int 1]) (cs' := 109) (ss' := 12668) rfl rfl rfl rfl rfl rfl rfl (ro_2530 (sz a0 51 a2 a3 a4 a5)) ?_
  refine go_seg 8 (pc' := 308) (ls' := [(3, .int 0), (2, .ref 90), (1, .ref 1), (0, .ref 0)]) (st' := [.int 0, .ref 0, .int 51, .ref 90, .int 1]) (w' := (wd_1574 (sz a0 51 a2 a3 a4 a5))) (cs' := 109) (ss' := 12668) ?_ (fun _ _ => rfl)
  refine go_seg 3 (pc' := 311) (ls' := [(3, .int 0), (2, .ref 90), (1, .ref 1), (0, .ref 0)]) (st' := [.int a2, .int 51, .ref 90, .int 1]) (w' := (wd_1574 (sz a0 51 a2 a3 a4 a5))) (cs' := 109) (ss' := 12668) ?_ (fun _ _ => rfl)
  refine go_if false rfl (br_eq_f (b := 0) rfl (by omega)) ?_
  refine go_seg 2 (pc' := 319) (ls' := [(3, .int 0), (2, .ref 90), (1, .ref 1), (0, .ref 0)]) (st' := [.int 1, .int 51, .ref 90, .int 1]) (w' := (wd_1574 (sz a0 51 a2 a3 a4 a5))) (cs' := 109) (ss' := 12668) ?_ (fun _ _ => rfl)
  refine go_cl (k := 20) (st' := [.int 1, .int 1]) (cs' := 109) (ss' := 12668) rfl rfl rfl rfl rfl rfl rfl (ro_2533 (sz a0 51 a2 a3 a4 a5)) ?_
  refine go_cmp true rfl (br_self _) ?_
  exact law_tail (f := sc a0 51 a2 a3 a4 a5) rfl
def wd_1576 (z : pq_C) : pq_W := ((fw z).set 4 (.inl (.boolean, 64, .inl (upd (fun _ => 0) 52 1))))
theorem ro_2537 (z : pq_C) : pq_Ru 2 22 [.ref 1, .int 52, .int 1] (fw z) (some (.int 1), (wd_1576 z)) := by
  refine ru_of (k := 1) (M := pm_22) rfl rfl ?_
  refine go_seg 1 (pc' := 1) (ls' := [(0, .ref 1), (1, .int 52), (2, .int 1)]) (st' := [.int 52]) (w' := (fw z)) (cs' := 0) (ss' := 0) ?_ (fun _ _ => rfl)
  refine go_cl (k := 1) (st' := [.int 1]) (cs' := 0) (ss' := 0) rfl rfl rfl rfl rfl rfl rfl (ro_1609 z) ?_
  refine go_seg 8 (pc' := 24) (ls' := [(3, .int 0), (0, .ref 1), (1, .int 52), (2, .int 1)]) (st' := [.ref 1]) (w' := (fw z)) (cs' := 0) (ss' := 0) ?_ (fun _ _ => rfl)
  refine go_seg 8 (pc' := 42) (ls' := [(3, .int 0), (0, .ref 1), (1, .int 52), (2, .int 1)]) (st' := []) (w' := (wd_1576 z)) (cs' := 0) (ss' := 0) ?_ (fun _ _ => rfl)
  exact go_end 2 (fun _ _ => rfl)
theorem ro_2538 (z : pq_C) : pq_Ru 1 161 [.long 52, .long 0, .long 63] (wd_1576 z) (some (.int 1), (wd_1576 z)) := by
  refine ru_of (k := 0) (M := pm_161) rfl rfl ?_
  refine go_seg 8 (pc' := 13) (ls' := [(0, .long 52), (2, .long 0), (4, .long 63)]) (st' := []) (w' := (wd_1576 z)) (cs' := 0) (ss' := 0) ?_ (fun _ _ => rfl)
  exact go_end 3 (fun _ _ => rfl)
theorem ro_2539 (z : pq_C) : pq_Ru 2 160 [.int 52] (wd_1576 z) (some (.int 1), (wd_1576 z)) := by
  refine ru_of (k := 1) (M := pm_160) rfl rfl ?_
  refine go_seg 4 (pc' := 6) (ls' := [(0, .int 52)]) (st' := [.long 63, .long 0, .long 52]) (w' := (wd_1576 z)) (cs' := 0) (ss' := 0) ?_ (fun _ _ => rfl)
  refine go_cl (k := 1) (st' := [.int 1]) (cs' := 0) (ss' := 0) rfl rfl rfl rfl rfl rfl rfl (ro_2538 z) ?_
  exact go_end 1 (fun _ _ => rfl)
def wd_1577 (z : pq_C) : pq_W := ((wd_1576 z).set 91 (.inl (.int, 2858, .inl (upd (upd (upd (upd (upd (upd (upd (upd (upd (upd (upd (upd (upd (upd (upd (upd (upd (upd (upd (upd (upd (upd (upd (upd (upd (upd (upd (upd (upd (upd (upd (upd (upd (upd (upd (upd (upd (upd (upd (upd (upd (upd (upd (upd (upd (upd (upd (upd (upd (upd (upd (upd (upd (upd (upd (upd (upd (upd (upd (upd (upd (upd (upd (upd (upd (upd (upd (upd (upd (upd (upd (upd (upd (upd (upd (upd (upd (upd (upd (upd (upd (upd (fun _ => 0) 1 10) 10 (-1)) 11 (-1)) 12 (-1)) 13 (-1)) 14 (-1)) 15 (-1)) 16 (-1)) 17 (-1)) 18 (-1)) 19 (-1)) 20 (-1)) 21 (-1)) 22 (-1)) 23 (-1)) 24 (-1)) 25 (-1)) 26 (-1)) 27 (-1)) 28 (-1)) 29 (-1)) 30 (-1)) 31 (-1)) 32 (-1)) 33 (-1)) 34 (-1)) 35 (-1)) 36 (-1)) 37 (-1)) 38 (-1)) 39 (-1)) 40 (-1)) 41 (-1)) 42 (-1)) 43 (-1)) 44 (-1)) 45 (-1)) 46 (-1)) 47 (-1)) 48 (-1)) 49 (-1)) 50 (-1)) 51 (-1)) 52 (-1)) 53 (-1)) 54 (-1)) 55 (-1)) 56 (-1)) 57 (-1)) 58 (-1)) 59 (-1)) 60 (-1)) 61 (-1)) 62 (-1)) 63 (-1)) 64 (-1)) 65 (-1)) 66 (-1)) 67 (-1)) 68 (-1)) 69 (-1)) 70 (-1)) 71 (-1)) 72 (-1)) 73 (-1)) 139 1000) 140 100) 145 1000) 146 100) 151 1000) 152 100) 157 1000) 158 100) 163 1000) 164 100) 169 1000) 170 100) 175 1000) 176 100) 181 1000) 182 100) 126 1))))
theorem ro_2540 (z : pq_C) : pq_Ru 3 165 [.ref 90, .int 52, .int 1] (wd_1576 z) (some (.int 1), (wd_1577 z)) := by
  refine ru_of (k := 2) (M := pm_165) rfl rfl ?_
  refine go_seg 1 (pc' := 1) (ls' := [(0, .ref 90), (1, .int 52), (2, .int 1)]) (st' := [.int 52]) (w' := (wd_1576 z)) (cs' := 0) (ss' := 0) ?_ (fun _ _ => rfl)
  refine go_cl (k := 2) (st' := [.int 1]) (cs' := 0) (ss' := 0) rfl rfl rfl rfl rfl rfl rfl (ro_2539 z) ?_
  refine go_seg 8 (pc' := 24) (ls' := [(0, .ref 90), (1, .int 52), (2, .int 1)]) (st' := [.int 1, .int 0]) (w' := (wd_1576 z)) (cs' := 0) (ss' := 0) ?_ (fun _ _ => rfl)
  refine go_seg 8 (pc' := 42) (ls' := [(3, .int 1), (0, .ref 90), (1, .int 52), (2, .int 1)]) (st' := [.ref 90]) (w' := (wd_1576 z)) (cs' := 0) (ss' := 0) ?_ (fun _ _ => rfl)
  refine go_seg 8 (pc' := 58) (ls' := [(3, .int 1), (0, .ref 90), (1, .int 52), (2, .int 1)]) (st' := [.int 1, .int 126, .ref 91]) (w' := (wd_1576 z)) (cs' := 0) (ss' := 0) ?_ (fun _ _ => rfl)
  exact go_end 3 (fun _ _ => rfl)
theorem lf_2_2542 (a0 : Int32) (a2 : Int32) (a3 : Int32) (a4 : Int32) (a5 : Int32) (h0 : ¬ a2.toInt = 0) : ∃ w', pq_Go 20 pm_law 278 [(3, .int 0), (2, .ref 90), (1, .ref 1), (0, .ref 0)] [] (fw (sz a0 52 a2 a3 a4 a5)) 109 12668 (some (.int 1), w') := by
  refine ⟨(wd_1577 (sz a0 52 a2 a3 a4 a5)), ?_⟩
  refine go_seg 8 (pc' := 286) (ls' := [(3, .int 0), (2, .ref 90), (1, .ref 1), (0, .ref 0)]) (st' := [.int 0, .ref 0, .int 52, .ref 1]) (w' := (fw (sz a0 52 a2 a3 a4 a5))) (cs' := 109) (ss' := 12668) ?_ (fun _ _ => rfl)
  refine go_seg 3 (pc' := 289) (ls' := [(3, .int 0), (2, .ref 90), (1, .ref 1), (0, .ref 0)]) (st' := [.int a2, .int 52, .ref 1]) (w' := (fw (sz a0 52 a2 a3 a4 a5))) (cs' := 109) (ss' := 12668) ?_ (fun _ _ => rfl)
  refine go_if false rfl (br_eq_f (b := 0) rfl (by omega)) ?_
  refine go_seg 2 (pc' := 297) (ls' := [(3, .int 0), (2, .ref 90), (1, .ref 1), (0, .ref 0)]) (st' := [.int 1, .int 52, .ref 1]) (w' := (fw (sz a0 52 a2 a3 a4 a5))) (cs' := 109) (ss' := 12668) ?_ (fun _ _ => rfl)
  refine go_cl (k := 20) (st' := [.int 1]) (cs' := 109) (ss' := 12668) rfl rfl rfl rfl rfl rfl rfl (ro_2537 (sz a0 52 a2 a3 a4 a5)) ?_
  refine go_seg 8 (pc' := 308) (ls' := [(3, .int 0), (2, .ref 90), (1, .ref 1), (0, .ref 0)]) (st' := [.int 0, .ref 0, .int 52, .ref 90, .int 1]) (w' := (wd_1576 (sz a0 52 a2 a3 a4 a5))) (cs' := 109) (ss' := 12668) ?_ (fun _ _ => rfl)
  refine go_seg 3 (pc' := 311) (ls' := [(3, .int 0), (2, .ref 90), (1, .ref 1), (0, .ref 0)]) (st' := [.int a2, .int 52, .ref 90, .int 1]) (w' := (wd_1576 (sz a0 52 a2 a3 a4 a5))) (cs' := 109) (ss' := 12668) ?_ (fun _ _ => rfl)
  refine go_if false rfl (br_eq_f (b := 0) rfl (by omega)) ?_
  refine go_seg 2 (pc' := 319) (ls' := [(3, .int 0), (2, .ref 90), (1, .ref 1), (0, .ref 0)]) (st' := [.int 1, .int 52, .ref 90, .int 1]) (w' := (wd_1576 (sz a0 52 a2 a3 a4 a5))) (cs' := 109) (ss' := 12668) ?_ (fun _ _ => rfl)
  refine go_cl (k := 20) (st' := [.int 1, .int 1]) (cs' := 109) (ss' := 12668) rfl rfl rfl rfl rfl rfl rfl (ro_2540 (sz a0 52 a2 a3 a4 a5)) ?_
  refine go_cmp true rfl (br_self _) ?_
  exact law_tail (f := sc a0 52 a2 a3 a4 a5) rfl
def wd_1578 (z : pq_C) : pq_W := ((fw z).set 4 (.inl (.boolean, 64, .inl (upd (fun _ => 0) 53 1))))
theorem ro_2544 (z : pq_C) : pq_Ru 2 22 [.ref 1, .int 53, .int 1] (fw z) (some (.int 1), (wd_1578 z)) := by
  refine ru_of (k := 1) (M := pm_22) rfl rfl ?_
  refine go_seg 1 (pc' := 1) (ls' := [(0, .ref 1), (1, .int 53), (2, .int 1)]) (st' := [.int 53]) (w' := (fw z)) (cs' := 0) (ss' := 0) ?_ (fun _ _ => rfl)
  refine go_cl (k := 1) (st' := [.int 1]) (cs' := 0) (ss' := 0) rfl rfl rfl rfl rfl rfl rfl (ro_1617 z) ?_
  refine go_seg 8 (pc' := 24) (ls' := [(3, .int 0), (0, .ref 1), (1, .int 53), (2, .int 1)]) (st' := [.ref 1]) (w' := (fw z)) (cs' := 0) (ss' := 0) ?_ (fun _ _ => rfl)
  refine go_seg 8 (pc' := 42) (ls' := [(3, .int 0), (0, .ref 1), (1, .int 53), (2, .int 1)]) (st' := []) (w' := (wd_1578 z)) (cs' := 0) (ss' := 0) ?_ (fun _ _ => rfl)
  exact go_end 2 (fun _ _ => rfl)
theorem ro_2545 (z : pq_C) : pq_Ru 1 161 [.long 53, .long 0, .long 63] (wd_1578 z) (some (.int 1), (wd_1578 z)) := by
  refine ru_of (k := 0) (M := pm_161) rfl rfl ?_
  refine go_seg 8 (pc' := 13) (ls' := [(0, .long 53), (2, .long 0), (4, .long 63)]) (st' := []) (w' := (wd_1578 z)) (cs' := 0) (ss' := 0) ?_ (fun _ _ => rfl)
  exact go_end 3 (fun _ _ => rfl)
theorem ro_2546 (z : pq_C) : pq_Ru 2 160 [.int 53] (wd_1578 z) (some (.int 1), (wd_1578 z)) := by
  refine ru_of (k := 1) (M := pm_160) rfl rfl ?_
  refine go_seg 4 (pc' := 6) (ls' := [(0, .int 53)]) (st' := [.long 63, .long 0, .long 53]) (w' := (wd_1578 z)) (cs' := 0) (ss' := 0) ?_ (fun _ _ => rfl)
  refine go_cl (k := 1) (st' := [.int 1]) (cs' := 0) (ss' := 0) rfl rfl rfl rfl rfl rfl rfl (ro_2545 z) ?_
  exact go_end 1 (fun _ _ => rfl)
def wd_1579 (z : pq_C) : pq_W := ((wd_1578 z).set 91 (.inl (.int, 2858, .inl (upd (upd (upd (upd (upd (upd (upd (upd (upd (upd (upd (upd (upd (upd (upd (upd (upd (upd (upd (upd (upd (upd (upd (upd (upd (upd (upd (upd (upd (upd (upd (upd (upd (upd (upd (upd (upd (upd (upd (upd (upd (upd (upd (upd (upd (upd (upd (upd (upd (upd (upd (upd (upd (upd (upd (upd (upd (upd (upd (upd (upd (upd (upd (upd (upd (upd (upd (upd (upd (upd (upd (upd (upd (upd (upd (upd (upd (upd (upd (upd (upd (upd (fun _ => 0) 1 10) 10 (-1)) 11 (-1)) 12 (-1)) 13 (-1)) 14 (-1)) 15 (-1)) 16 (-1)) 17 (-1)) 18 (-1)) 19 (-1)) 20 (-1)) 21 (-1)) 22 (-1)) 23 (-1)) 24 (-1)) 25 (-1)) 26 (-1)) 27 (-1)) 28 (-1)) 29 (-1)) 30 (-1)) 31 (-1)) 32 (-1)) 33 (-1)) 34 (-1)) 35 (-1)) 36 (-1)) 37 (-1)) 38 (-1)) 39 (-1)) 40 (-1)) 41 (-1)) 42 (-1)) 43 (-1)) 44 (-1)) 45 (-1)) 46 (-1)) 47 (-1)) 48 (-1)) 49 (-1)) 50 (-1)) 51 (-1)) 52 (-1)) 53 (-1)) 54 (-1)) 55 (-1)) 56 (-1)) 57 (-1)) 58 (-1)) 59 (-1)) 60 (-1)) 61 (-1)) 62 (-1)) 63 (-1)) 64 (-1)) 65 (-1)) 66 (-1)) 67 (-1)) 68 (-1)) 69 (-1)) 70 (-1)) 71 (-1)) 72 (-1)) 73 (-1)) 139 1000) 140 100) 145 1000) 146 100) 151 1000) 152 100) 157 1000) 158 100) 163 1000) 164 100) 169 1000) 170 100) 175 1000) 176 100) 181 1000) 182 100) 127 1))))
theorem ro_2547 (z : pq_C) : pq_Ru 3 165 [.ref 90, .int 53, .int 1] (wd_1578 z) (some (.int 1), (wd_1579 z)) := by
  refine ru_of (k := 2) (M := pm_165) rfl rfl ?_
  refine go_seg 1 (pc' := 1) (ls' := [(0, .ref 90), (1, .int 53), (2, .int 1)]) (st' := [.int 53]) (w' := (wd_1578 z)) (cs' := 0) (ss' := 0) ?_ (fun _ _ => rfl)
  refine go_cl (k := 2) (st' := [.int 1]) (cs' := 0) (ss' := 0) rfl rfl rfl rfl rfl rfl rfl (ro_2546 z) ?_
  refine go_seg 8 (pc' := 24) (ls' := [(0, .ref 90), (1, .int 53), (2, .int 1)]) (st' := [.int 1, .int 0]) (w' := (wd_1578 z)) (cs' := 0) (ss' := 0) ?_ (fun _ _ => rfl)
  refine go_seg 8 (pc' := 42) (ls' := [(3, .int 1), (0, .ref 90), (1, .int 53), (2, .int 1)]) (st' := [.ref 90]) (w' := (wd_1578 z)) (cs' := 0) (ss' := 0) ?_ (fun _ _ => rfl)
  refine go_seg 8 (pc' := 58) (ls' := [(3, .int 1), (0, .ref 90), (1, .int 53), (2, .int 1)]) (st' := [.int 1, .int 127, .ref 91]) (w' := (wd_1578 z)) (cs' := 0) (ss' := 0) ?_ (fun _ _ => rfl)
  exact go_end 3 (fun _ _ => rfl)
theorem lf_2_2549 (a0 : Int32) (a2 : Int32) (a3 : Int32) (a4 : Int32) (a5 : Int32) (h0 : ¬ a2.toInt = 0) : ∃ w', pq_Go 20 pm_law 278 [(3, .int 0), (2, .ref 90), (1, .ref 1), (0, .ref 0)] [] (fw (sz a0 53 a2 a3 a4 a5)) 109 12668 (some (.int 1), w') := by
  refine ⟨(wd_1579 (sz a0 53 a2 a3 a4 a5)), ?_⟩
  refine go_seg 8 (pc' := 286) (ls' := [(3, .int 0), (2, .ref 90), (1, .ref 1), (0, .ref 0)]) (st' := [.int 0, .ref 0, .int 53, .ref 1]) (w' := (fw (sz a0 53 a2 a3 a4 a5))) (cs' := 109) (ss' := 12668) ?_ (fun _ _ => rfl)
  refine go_seg 3 (pc' := 289) (ls' := [(3, .int 0), (2, .ref 90), (1, .ref 1), (0, .ref 0)]) (st' := [.int a2, .int 53, .ref 1]) (w' := (fw (sz a0 53 a2 a3 a4 a5))) (cs' := 109) (ss' := 12668) ?_ (fun _ _ => rfl)
  refine go_if false rfl (br_eq_f (b := 0) rfl (by omega)) ?_
  refine go_seg 2 (pc' := 297) (ls' := [(3, .int 0), (2, .ref 90), (1, .ref 1), (0, .ref 0)]) (st' := [.int 1, .int 53, .ref 1]) (w' := (fw (sz a0 53 a2 a3 a4 a5))) (cs' := 109) (ss' := 12668) ?_ (fun _ _ => rfl)
  refine go_cl (k := 20) (st' := [.int 1]) (cs' := 109) (ss' := 12668) rfl rfl rfl rfl rfl rfl rfl (ro_2544 (sz a0 53 a2 a3 a4 a5)) ?_
  refine go_seg 8 (pc' := 308) (ls' := [(3, .int 0), (2, .ref 90), (1, .ref 1), (0, .ref 0)]) (st' := [.int 0, .ref 0, .int 53, .ref 90, .int 1]) (w' := (wd_1578 (sz a0 53 a2 a3 a4 a5))) (cs' := 109) (ss' := 12668) ?_ (fun _ _ => rfl)
  refine go_seg 3 (pc' := 311) (ls' := [(3, .int 0), (2, .ref 90), (1, .ref 1), (0, .ref 0)]) (st' := [.int a2, .int 53, .ref 90, .int 1]) (w' := (wd_1578 (sz a0 53 a2 a3 a4 a5))) (cs' := 109) (ss' := 12668) ?_ (fun _ _ => rfl)
  refine go_if false rfl (br_eq_f (b := 0) rfl (by omega)) ?_
  refine go_seg 2 (pc' := 319) (ls' := [(3, .int 0), (2, .ref 90), (1, .ref 1), (0, .ref 0)]) (st' := [.int 1, .int 53, .ref 90, .int 1]) (w' := (wd_1578 (sz a0 53 a2 a3 a4 a5))) (cs' := 109) (ss' := 12668) ?_ (fun _ _ => rfl)
  refine go_cl (k := 20) (st' := [.int 1, .int 1]) (cs' := 109) (ss' := 12668) rfl rfl rfl rfl rfl rfl rfl (ro_2547 (sz a0 53 a2 a3 a4 a5)) ?_
  refine go_cmp true rfl (br_self _) ?_
  exact law_tail (f := sc a0 53 a2 a3 a4 a5) rfl
def wd_1580 (z : pq_C) : pq_W := ((fw z).set 4 (.inl (.boolean, 64, .inl (upd (fun _ => 0) 54 1))))
theorem ro_2551 (z : pq_C) : pq_Ru 2 22 [.ref 1, .int 54, .int 1] (fw z) (some (.int 1), (wd_1580 z)) := by
  refine ru_of (k := 1) (M := pm_22) rfl rfl ?_
  refine go_seg 1 (pc' := 1) (ls' := [(0, .ref 1), (1, .int 54), (2, .int 1)]) (st' := [.int 54]) (w' := (fw z)) (cs' := 0) (ss' := 0) ?_ (fun _ _ => rfl)
  refine go_cl (k := 1) (st' := [.int 1]) (cs' := 0) (ss' := 0) rfl rfl rfl rfl rfl rfl rfl (ro_1625 z) ?_
  refine go_seg 8 (pc' := 24) (ls' := [(3, .int 0), (0, .ref 1), (1, .int 54), (2, .int 1)]) (st' := [.ref 1]) (w' := (fw z)) (cs' := 0) (ss' := 0) ?_ (fun _ _ => rfl)
  refine go_seg 8 (pc' := 42) (ls' := [(3, .int 0), (0, .ref 1), (1, .int 54), (2, .int 1)]) (st' := []) (w' := (wd_1580 z)) (cs' := 0) (ss' := 0) ?_ (fun _ _ => rfl)
  exact go_end 2 (fun _ _ => rfl)
theorem ro_2552 (z : pq_C) : pq_Ru 1 161 [.long 54, .long 0, .long 63] (wd_1580 z) (some (.int 1), (wd_1580 z)) := by
  refine ru_of (k := 0) (M := pm_161) rfl rfl ?_
  refine go_seg 8 (pc' := 13) (ls' := [(0, .long 54), (2, .long 0), (4, .long 63)]) (st' := []) (w' := (wd_1580 z)) (cs' := 0) (ss' := 0) ?_ (fun _ _ => rfl)
  exact go_end 3 (fun _ _ => rfl)
theorem ro_2553 (z : pq_C) : pq_Ru 2 160 [.int 54] (wd_1580 z) (some (.int 1), (wd_1580 z)) := by
  refine ru_of (k := 1) (M := pm_160) rfl rfl ?_
  refine go_seg 4 (pc' := 6) (ls' := [(0, .int 54)]) (st' := [.long 63, .long 0, .long 54]) (w' := (wd_1580 z)) (cs' := 0) (ss' := 0) ?_ (fun _ _ => rfl)
  refine go_cl (k := 1) (st' := [.int 1]) (cs' := 0) (ss' := 0) rfl rfl rfl rfl rfl rfl rfl (ro_2552 z) ?_
  exact go_end 1 (fun _ _ => rfl)
def wd_1581 (z : pq_C) : pq_W := ((wd_1580 z).set 91 (.inl (.int, 2858, .inl (upd (upd (upd (upd (upd (upd (upd (upd (upd (upd (upd (upd (upd (upd (upd (upd (upd (upd (upd (upd (upd (upd (upd (upd (upd (upd (upd (upd (upd (upd (upd (upd (upd (upd (upd (upd (upd (upd (upd (upd (upd (upd (upd (upd (upd (upd (upd (upd (upd (upd (upd (upd (upd (upd (upd (upd (upd (upd (upd (upd (upd (upd (upd (upd (upd (upd (upd (upd (upd (upd (upd (upd (upd (upd (upd (upd (upd (upd (upd (upd (upd (upd (fun _ => 0) 1 10) 10 (-1)) 11 (-1)) 12 (-1)) 13 (-1)) 14 (-1)) 15 (-1)) 16 (-1)) 17 (-1)) 18 (-1)) 19 (-1)) 20 (-1)) 21 (-1)) 22 (-1)) 23 (-1)) 24 (-1)) 25 (-1)) 26 (-1)) 27 (-1)) 28 (-1)) 29 (-1)) 30 (-1)) 31 (-1)) 32 (-1)) 33 (-1)) 34 (-1)) 35 (-1)) 36 (-1)) 37 (-1)) 38 (-1)) 39 (-1)) 40 (-1)) 41 (-1)) 42 (-1)) 43 (-1)) 44 (-1)) 45 (-1)) 46 (-1)) 47 (-1)) 48 (-1)) 49 (-1)) 50 (-1)) 51 (-1)) 52 (-1)) 53 (-1)) 54 (-1)) 55 (-1)) 56 (-1)) 57 (-1)) 58 (-1)) 59 (-1)) 60 (-1)) 61 (-1)) 62 (-1)) 63 (-1)) 64 (-1)) 65 (-1)) 66 (-1)) 67 (-1)) 68 (-1)) 69 (-1)) 70 (-1)) 71 (-1)) 72 (-1)) 73 (-1)) 139 1000) 140 100) 145 1000) 146 100) 151 1000) 152 100) 157 1000) 158 100) 163 1000) 164 100) 169 1000) 170 100) 175 1000) 176 100) 181 1000) 182 100) 128 1))))
theorem ro_2554 (z : pq_C) : pq_Ru 3 165 [.ref 90, .int 54, .int 1] (wd_1580 z) (some (.int 1), (wd_1581 z)) := by
  refine ru_of (k := 2) (M := pm_165) rfl rfl ?_
  refine go_seg 1 (pc' := 1) (ls' := [(0, .ref 90), (1, .int 54), (2, .int 1)]) (st' := [.int 54]) (w' := (wd_1580 z)) (cs' := 0) (ss' := 0) ?_ (fun _ _ => rfl)
  refine go_cl (k := 2) (st' := [.int 1]) (cs' := 0) (ss' := 0) rfl rfl rfl rfl rfl rfl rfl (ro_2553 z) ?_
  refine go_seg 8 (pc' := 24) (ls' := [(0, .ref 90), (1, .int 54), (2, .int 1)]) (st' := [.int 1, .int 0]) (w' := (wd_1580 z)) (cs' := 0) (ss' := 0) ?_ (fun _ _ => rfl)
  refine go_seg 8 (pc' := 42) (ls' := [(3, .int 1), (0, .ref 90), (1, .int 54), (2, .int 1)]) (st' := [.ref 90]) (w' := (wd_1580 z)) (cs' := 0) (ss' := 0) ?_ (fun _ _ => rfl)
  refine go_seg 8 (pc' := 58) (ls' := [(3, .int 1), (0, .ref 90), (1, .int 54), (2, .int 1)]) (st' := [.int 1, .int 128, .ref 91]) (w' := (wd_1580 z)) (cs' := 0) (ss' := 0) ?_ (fun _ _ => rfl)
  exact go_end 3 (fun _ _ => rfl)
theorem lf_2_2556 (a0 : Int32) (a2 : Int32) (a3 : Int32) (a4 : Int32) (a5 : Int32) (h0 : ¬ a2.toInt = 0) : ∃ w', pq_Go 20 pm_law 278 [(3, .int 0), (2, .ref 90), (1, .ref 1), (0, .ref 0)] [] (fw (sz a0 54 a2 a3 a4 a5)) 109 12668 (some (.int 1), w') := by
  refine ⟨(wd_1581 (sz a0 54 a2 a3 a4 a5)), ?_⟩
  refine go_seg 8 (pc' := 286) (ls' := [(3, .int 0), (2, .ref 90), (1, .ref 1), (0, .ref 0)]) (st' := [.int 0, .ref 0, .int 54, .ref 1]) (w' := (fw (sz a0 54 a2 a3 a4 a5))) (cs' := 109) (ss' := 12668) ?_ (fun _ _ => rfl)
  refine go_seg 3 (pc' := 289) (ls' := [(3, .int 0), (2, .ref 90), (1, .ref 1), (0, .ref 0)]) (st' := [.int a2, .int 54, .ref 1]) (w' := (fw (sz a0 54 a2 a3 a4 a5))) (cs' := 109) (ss' := 12668) ?_ (fun _ _ => rfl)
  refine go_if false rfl (br_eq_f (b := 0) rfl (by omega)) ?_
  refine go_seg 2 (pc' := 297) (ls' := [(3, .int 0), (2, .ref 90), (1, .ref 1), (0, .ref 0)]) (st' := [.int 1, .int 54, .ref 1]) (w' := (fw (sz a0 54 a2 a3 a4 a5))) (cs' := 109) (ss' := 12668) ?_ (fun _ _ => rfl)
  refine go_cl (k := 20) (st' := [.int 1]) (cs' := 109) (ss' := 12668) rfl rfl rfl rfl rfl rfl rfl (ro_2551 (sz a0 54 a2 a3 a4 a5)) ?_
  refine go_seg 8 (pc' := 308) (ls' := [(3, .int 0), (2, .ref 90), (1, .ref 1), (0, .ref 0)]) (st' := [.int 0, .ref 0, .int 54, .ref 90, .int 1]) (w' := (wd_1580 (sz a0 54 a2 a3 a4 a5))) (cs' := 109) (ss' := 12668) ?_ (fun _ _ => rfl)
  refine go_seg 3 (pc' := 311) (ls' := [(3, .int 0), (2, .ref 90), (1, .ref 1), (0, .ref 0)]) (st' := [.int a2, .int 54, .ref 90, .int 1]) (w' := (wd_1580 (sz a0 54 a2 a3 a4 a5))) (cs' := 109) (ss' := 12668) ?_ (fun _ _ => rfl)
  refine go_if false rfl (br_eq_f (b := 0) rfl (by omega)) ?_
  refine go_seg 2 (pc' := 319) (ls' := [(3, .int 0), (2, .ref 90), (1, .ref 1), (0, .ref 0)]) (st' := [.int 1, .int 54, .ref 90, .int 1]) (w' := (wd_1580 (sz a0 54 a2 a3 a4 a5))) (cs' := 109) (ss' := 12668) ?_ (fun _ _ => rfl)
  refine go_cl (k := 20) (st' := [.int 1, .int 1]) (cs' := 109) (ss' := 12668) rfl rfl rfl rfl rfl rfl rfl (ro_2554 (sz a0 54 a2 a3 a4 a5)) ?_
  refine go_cmp true rfl (br_self _) ?_
  exact law_tail (f := sc a0 54 a2 a3 a4 a5) rfl
def wd_1582 (z : pq_C) : pq_W := ((fw z).set 4 (.inl (.boolean, 64, .inl (upd (fun _ => 0) 55 1))))
theorem ro_2558 (z : pq_C) : pq_Ru 2 22 [.ref 1, .int 55, .int 1] (fw z) (some (.int 1), (wd_1582 z)) := by
  refine ru_of (k := 1) (M := pm_22) rfl rfl ?_
  refine go_seg 1 (pc' := 1) (ls' := [(0, .ref 1), (1, .int 55), (2, .int 1)]) (st' := [.int 55]) (w' := (fw z)) (cs' := 0) (ss' := 0) ?_ (fun _ _ => rfl)
  refine go_cl (k := 1) (st' := [.int 1]) (cs' := 0) (ss' := 0) rfl rfl rfl rfl rfl rfl rfl (ro_1633 z) ?_
  refine go_seg 8 (pc' := 24) (ls' := [(3, .int 0), (0, .ref 1), (1, .int 55), (2, .int 1)]) (st' := [.ref 1]) (w' := (fw z)) (cs' := 0) (ss' := 0) ?_ (fun _ _ => rfl)
  refine go_seg 8 (pc' := 42) (ls' := [(3, .int 0), (0, .ref 1), (1, .int 55), (2, .int 1)]) (st' := []) (w' := (wd_1582 z)) (cs' := 0) (ss' := 0) ?_ (fun _ _ => rfl)
  exact go_end 2 (fun _ _ => rfl)
theorem ro_2559 (z : pq_C) : pq_Ru 1 161 [.long 55, .long 0, .long 63] (wd_1582 z) (some (.int 1), (wd_1582 z)) := by
  refine ru_of (k := 0) (M := pm_161) rfl rfl ?_
  refine go_seg 8 (pc' := 13) (ls' := [(0, .long 55), (2, .long 0), (4, .long 63)]) (st' := []) (w' := (wd_1582 z)) (cs' := 0) (ss' := 0) ?_ (fun _ _ => rfl)
  exact go_end 3 (fun _ _ => rfl)
theorem ro_2560 (z : pq_C) : pq_Ru 2 160 [.int 55] (wd_1582 z) (some (.int 1), (wd_1582 z)) := by
  refine ru_of (k := 1) (M := pm_160) rfl rfl ?_
  refine go_seg 4 (pc' := 6) (ls' := [(0, .int 55)]) (st' := [.long 63, .long 0, .long 55]) (w' := (wd_1582 z)) (cs' := 0) (ss' := 0) ?_ (fun _ _ => rfl)
  refine go_cl (k := 1) (st' := [.int 1]) (cs' := 0) (ss' := 0) rfl rfl rfl rfl rfl rfl rfl (ro_2559 z) ?_
  exact go_end 1 (fun _ _ => rfl)
def wd_1583 (z : pq_C) : pq_W := ((wd_1582 z).set 91 (.inl (.int, 2858, .inl (upd (upd (upd (upd (upd (upd (upd (upd (upd (upd (upd (upd (upd (upd (upd (upd (upd (upd (upd (upd (upd (upd (upd (upd (upd (upd (upd (upd (upd (upd (upd (upd (upd (upd (upd (upd (upd (upd (upd (upd (upd (upd (upd (upd (upd (upd (upd (upd (upd (upd (upd (upd (upd (upd (upd (upd (upd (upd (upd (upd (upd (upd (upd (upd (upd (upd (upd (upd (upd (upd (upd (upd (upd (upd (upd (upd (upd (upd (upd (upd (upd (upd (fun _ => 0) 1 10) 10 (-1)) 11 (-1)) 12 (-1)) 13 (-1)) 14 (-1)) 15 (-1)) 16 (-1)) 17 (-1)) 18 (-1)) 19 (-1)) 20 (-1)) 21 (-1)) 22 (-1)) 23 (-1)) 24 (-1)) 25 (-1)) 26 (-1)) 27 (-1)) 28 (-1)) 29 (-1)) 30 (-1)) 31 (-1)) 32 (-1)) 33 (-1)) 34 (-1)) 35 (-1)) 36 (-1)) 37 (-1)) 38 (-1)) 39 (-1)) 40 (-1)) 41 (-1)) 42 (-1)) 43 (-1)) 44 (-1)) 45 (-1)) 46 (-1)) 47 (-1)) 48 (-1)) 49 (-1)) 50 (-1)) 51 (-1)) 52 (-1)) 53 (-1)) 54 (-1)) 55 (-1)) 56 (-1)) 57 (-1)) 58 (-1)) 59 (-1)) 60 (-1)) 61 (-1)) 62 (-1)) 63 (-1)) 64 (-1)) 65 (-1)) 66 (-1)) 67 (-1)) 68 (-1)) 69 (-1)) 70 (-1)) 71 (-1)) 72 (-1)) 73 (-1)) 139 1000) 140 100) 145 1000) 146 100) 151 1000) 152 100) 157 1000) 158 100) 163 1000) 164 100) 169 1000) 170 100) 175 1000) 176 100) 181 1000) 182 100) 129 1))))
theorem ro_2561 (z : pq_C) : pq_Ru 3 165 [.ref 90, .int 55, .int 1] (wd_1582 z) (some (.int 1), (wd_1583 z)) := by
  refine ru_of (k := 2) (M := pm_165) rfl rfl ?_
  refine go_seg 1 (pc' := 1) (ls' := [(0, .ref 90), (1, .int 55), (2, .int 1)]) (st' := [.int 55]) (w' := (wd_1582 z)) (cs' := 0) (ss' := 0) ?_ (fun _ _ => rfl)
  refine go_cl (k := 2) (st' := [.int 1]) (cs' := 0) (ss' := 0) rfl rfl rfl rfl rfl rfl rfl (ro_2560 z) ?_
  refine go_seg 8 (pc' := 24) (ls' := [(0, .ref 90), (1, .int 55), (2, .int 1)]) (st' := [.int 1, .int 0]) (w' := (wd_1582 z)) (cs' := 0) (ss' := 0) ?_ (fun _ _ => rfl)
  refine go_seg 8 (pc' := 42) (ls' := [(3, .int 1), (0, .ref 90), (1, .int 55), (2, .int 1)]) (st' := [.ref 90]) (w' := (wd_1582 z)) (cs' := 0) (ss' := 0) ?_ (fun _ _ => rfl)
  refine go_seg 8 (pc' := 58) (ls' := [(3, .int 1), (0, .ref 90), (1, .int 55), (2, .int 1)]) (st' := [.int 1, .int 129, .ref 91]) (w' := (wd_1582 z)) (cs' := 0) (ss' := 0) ?_ (fun _ _ => rfl)
  exact go_end 3 (fun _ _ => rfl)
theorem lf_2_2563 (a0 : Int32) (a2 : Int32) (a3 : Int32) (a4 : Int32) (a5 : Int32) (h0 : ¬ a2.toInt = 0) : ∃ w', pq_Go 20 pm_law 278 [(3, .int 0), (2, .ref 90), (1, .ref 1), (0, .ref 0)] [] (fw (sz a0 55 a2 a3 a4 a5)) 109 12668 (some (.int 1), w') := by
  refine ⟨(wd_1583 (sz a0 55 a2 a3 a4 a5)), ?_⟩
  refine go_seg 8 (pc' := 286) (ls' := [(3, .int 0), (2, .ref 90), (1, .ref 1), (0, .ref 0)]) (st' := [.int 0, .ref 0, .int 55, .ref 1]) (w' := (fw (sz a0 55 a2 a3 a4 a5))) (cs' := 109) (ss' := 12668) ?_ (fun _ _ => rfl)
  refine go_seg 3 (pc' := 289) (ls' := [(3, .int 0), (2, .ref 90), (1, .ref 1), (0, .ref 0)]) (st' := [.int a2, .int 55, .ref 1]) (w' := (fw (sz a0 55 a2 a3 a4 a5))) (cs' := 109) (ss' := 12668) ?_ (fun _ _ => rfl)
  refine go_if false rfl (br_eq_f (b := 0) rfl (by omega)) ?_
  refine go_seg 2 (pc' := 297) (ls' := [(3, .int 0), (2, .ref 90), (1, .ref 1), (0, .ref 0)]) (st' := [.int 1, .int 55, .ref 1]) (w' := (fw (sz a0 55 a2 a3 a4 a5))) (cs' := 109) (ss' := 12668) ?_ (fun _ _ => rfl)
  refine go_cl (k := 20) (st' := [.int 1]) (cs' := 109) (ss' := 12668) rfl rfl rfl rfl rfl rfl rfl (ro_2558 (sz a0 55 a2 a3 a4 a5)) ?_
  refine go_seg 8 (pc' := 308) (ls' := [(3, .int 0), (2, .ref 90), (1, .ref 1), (0, .ref 0)]) (st' := [.int 0, .ref 0, .int 55, .ref 90, .int 1]) (w' := (wd_1582 (sz a0 55 a2 a3 a4 a5))) (cs' := 109) (ss' := 12668) ?_ (fun _ _ => rfl)
  refine go_seg 3 (pc' := 311) (ls' := [(3, .int 0), (2, .ref 90), (1, .ref 1), (0, .ref 0)]) (st' := [.int a2, .int 55, .ref 90, .int 1]) (w' := (wd_1582 (sz a0 55 a2 a3 a4 a5))) (cs' := 109) (ss' := 12668) ?_ (fun _ _ => rfl)
  refine go_if false rfl (br_eq_f (b := 0) rfl (by omega)) ?_
  refine go_seg 2 (pc' := 319) (ls' := [(3, .int 0), (2, .ref 90), (1, .ref 1), (0, .ref 0)]) (st' := [.int 1, .int 55, .ref 90, .int 1]) (w' := (wd_1582 (sz a0 55 a2 a3 a4 a5))) (cs' := 109) (ss' := 12668) ?_ (fun _ _ => rfl)
  refine go_cl (k := 20) (st' := [.int 1, .int 1]) (cs' := 109) (ss' := 12668) rfl rfl rfl rfl rfl rfl rfl (ro_2561 (sz a0 55 a2 a3 a4 a5)) ?_
  refine go_cmp true rfl (br_self _) ?_
  exact law_tail (f := sc a0 55 a2 a3 a4 a5) rfl
def wd_1584 (z : pq_C) : pq_W := ((fw z).set 4 (.inl (.boolean, 64, .inl (upd (fun _ => 0) 56 1))))
theorem ro_2565 (z : pq_C) : pq_Ru 2 22 [.ref 1, .int 56, .int 1] (fw z) (some (.int 1), (wd_1584 z)) := by
  refine ru_of (k := 1) (M := pm_22) rfl rfl ?_
  refine go_seg 1 (pc' := 1) (ls' := [(0, .ref 1), (1, .int 56), (2, .int 1)]) (st' := [.int 56]) (w' := (fw z)) (cs' := 0) (ss' := 0) ?_ (fun _ _ => rfl)
  refine go_cl (k := 1) (st' := [.int 1]) (cs' := 0) (ss' := 0) rfl rfl rfl rfl rfl rfl rfl (ro_1641 z) ?_
  refine go_seg 8 (pc' := 24) (ls' := [(3, .int 0), (0, .ref 1), (1, .int 56), (2, .int 1)]) (st' := [.ref 1]) (w' := (fw z)) (cs' := 0) (ss' := 0) ?_ (fun _ _ => rfl)
  refine go_seg 8 (pc' := 42) (ls' := [(3, .int 0), (0, .ref 1), (1, .int 56), (2, .int 1)]) (st' := []) (w' := (wd_1584 z)) (cs' := 0) (ss' := 0) ?_ (fun _ _ => rfl)
  exact go_end 2 (fun _ _ => rfl)
theorem ro_2566 (z : pq_C) : pq_Ru 1 161 [.long 56, .long 0, .long 63] (wd_1584 z) (some (.int 1), (wd_1584 z)) := by
  refine ru_of (k := 0) (M := pm_161) rfl rfl ?_
  refine go_seg 8 (pc' := 13) (ls' := [(0, .long 56), (2, .long 0), (4, .long 63)]) (st' := []) (w' := (wd_1584 z)) (cs' := 0) (ss' := 0) ?_ (fun _ _ => rfl)
  exact go_end 3 (fun _ _ => rfl)
theorem ro_2567 (z : pq_C) : pq_Ru 2 160 [.int 56] (wd_1584 z) (some (.int 1), (wd_1584 z)) := by
  refine ru_of (k := 1) (M := pm_160) rfl rfl ?_
  refine go_seg 4 (pc' := 6) (ls' := [(0, .int 56)]) (st' := [.long 63, .long 0, .long 56]) (w' := (wd_1584 z)) (cs' := 0) (ss' := 0) ?_ (fun _ _ => rfl)
  refine go_cl (k := 1) (st' := [.int 1]) (cs' := 0) (ss' := 0) rfl rfl rfl rfl rfl rfl rfl (ro_2566 z) ?_
  exact go_end 1 (fun _ _ => rfl)
def wd_1585 (z : pq_C) : pq_W := ((wd_1584 z).set 91 (.inl (.int, 2858, .inl (upd (upd (upd (upd (upd (upd (upd (upd (upd (upd (upd (upd (upd (upd (upd (upd (upd (upd (upd (upd (upd (upd (upd (upd (upd (upd (upd (upd (upd (upd (upd (upd (upd (upd (upd (upd (upd (upd (upd (upd (upd (upd (upd (upd (upd (upd (upd (upd (upd (upd (upd (upd (upd (upd (upd (upd (upd (upd (upd (upd (upd (upd (upd (upd (upd (upd (upd (upd (upd (upd (upd (upd (upd (upd (upd (upd (upd (upd (upd (upd (upd (upd (fun _ => 0) 1 10) 10 (-1)) 11 (-1)) 12 (-1)) 13 (-1)) 14 (-1)) 15 (-1)) 16 (-1)) 17 (-1)) 18 (-1)) 19 (-1)) 20 (-1)) 21 (-1)) 22 (-1)) 23 (-1)) 24 (-1)) 25 (-1)) 26 (-1)) 27 (-1)) 28 (-1)) 29 (-1)) 30 (-1)) 31 (-1)) 32 (-1)) 33 (-1)) 34 (-1)) 35 (-1)) 36 (-1)) 37 (-1)) 38 (-1)) 39 (-1)) 40 (-1)) 41 (-1)) 42 (-1)) 43 (-1)) 44 (-1)) 45 (-1)) 46 (-1)) 47 (-1)) 48 (-1)) 49 (-1)) 50 (-1)) 51 (-1)) 52 (-1)) 53 (-1)) 54 (-1)) 55 (-1)) 56 (-1)) 57 (-1)) 58 (-1)) 59 (-1)) 60 (-1)) 61 (-1)) 62 (-1)) 63 (-1)) 64 (-1)) 65 (-1)) 66 (-1)) 67 (-1)) 68 (-1)) 69 (-1)) 70 (-1)) 71 (-1)) 72 (-1)) 73 (-1)) 139 1000) 140 100) 145 1000) 146 100) 151 1000) 152 100) 157 1000) 158 100) 163 1000) 164 100) 169 1000) 170 100) 175 1000) 176 100) 181 1000) 182 100) 130 1))))
theorem ro_2568 (z : pq_C) : pq_Ru 3 165 [.ref 90, .int 56, .int 1] (wd_1584 z) (some (.int 1), (wd_1585 z)) := by
  refine ru_of (k := 2) (M := pm_165) rfl rfl ?_
  refine go_seg 1 (pc' := 1) (ls' := [(0, .ref 90), (1, .int 56), (2, .int 1)]) (st' := [.int 56]) (w' := (wd_1584 z)) (cs' := 0) (ss' := 0) ?_ (fun _ _ => rfl)
  refine go_cl (k := 2) (st' := [.int 1]) (cs' := 0) (ss' := 0) rfl rfl rfl rfl rfl rfl rfl (ro_2567 z) ?_
  refine go_seg 8 (pc' := 24) (ls' := [(0, .ref 90), (1, .int 56), (2, .int 1)]) (st' := [.int 1, .int 0]) (w' := (wd_1584 z)) (cs' := 0) (ss' := 0) ?_ (fun _ _ => rfl)
  refine go_seg 8 (pc' := 42) (ls' := [(3, .int 1), (0, .ref 90), (1, .int 56), (2, .int 1)]) (st' := [.ref 90]) (w' := (wd_1584 z)) (cs' := 0) (ss' := 0) ?_ (fun _ _ => rfl)
  refine go_seg 8 (pc' := 58) (ls' := [(3, .int 1), (0, .ref 90), (1, .int 56), (2, .int 1)]) (st' := [.int 1, .int 130, .ref 91]) (w' := (wd_1584 z)) (cs' := 0) (ss' := 0) ?_ (fun _ _ => rfl)
  exact go_end 3 (fun _ _ => rfl)
theorem lf_2_2570 (a0 : Int32) (a2 : Int32) (a3 : Int32) (a4 : Int32) (a5 : Int32) (h0 : ¬ a2.toInt = 0) : ∃ w', pq_Go 20 pm_law 278 [(3, .int 0), (2, .ref 90), (1, .ref 1), (0, .ref 0)] [] (fw (sz a0 56 a2 a3 a4 a5)) 109 12668 (some (.int 1), w') := by
  refine ⟨(wd_1585 (sz a0 56 a2 a3 a4 a5)), ?_⟩
  refine go_seg 8 (pc' := 286) (ls' := [(3, .int 0), (2, .ref 90), (1, .ref 1), (0, .ref 0)]) (st' := [.int 0, .ref 0, .int 56, .ref 1]) (w' := (fw (sz a0 56 a2 a3 a4 a5))) (cs' := 109) (ss' := 12668) ?_ (fun _ _ => rfl)
  refine go_seg 3 (pc' := 289) (ls' := [(3, .int 0), (2, .ref 90), (1, .ref 1), (0, .ref 0)]) (st' := [.int a2, .int 56, .ref 1]) (w' := (fw (sz a0 56 a2 a3 a4 a5))) (cs' := 109) (ss' := 12668) ?_ (fun _ _ => rfl)
  refine go_if false rfl (br_eq_f (b := 0) rfl (by omega)) ?_
  refine go_seg 2 (pc' := 297) (ls' := [(3, .int 0), (2, .ref 90), (1, .ref 1), (0, .ref 0)]) (st' := [.int 1, .int 56, .ref 1]) (w' := (fw (sz a0 56 a2 a3 a4 a5))) (cs' := 109) (ss' := 12668) ?_ (fun _ _ => rfl)
  refine go_cl (k := 20) (st' := [.int 1]) (cs' := 109) (ss' := 12668) rfl rfl rfl rfl rfl rfl rfl (ro_2565 (sz a0 56 a2 a3 a4 a5)) ?_
  refine go_seg 8 (pc' := 308) (ls' := [(3, .int 0), (2, .ref 90), (1, .ref 1), (0, .ref 0)]) (st' := [.int 0, .ref 0, .int 56, .ref 90, .int 1]) (w' := (wd_1584 (sz a0 56 a2 a3 a4 a5))) (cs' := 109) (ss' := 12668) ?_ (fun _ _ => rfl)
  refine go_seg 3 (pc' := 311) (ls' := [(3, .int 0), (2, .ref 90), (1, .ref 1), (0, .ref 0)]) (st' := [.int a2, .int 56, .ref 90, .int 1]) (w' := (wd_1584 (sz a0 56 a2 a3 a4 a5))) (cs' := 109) (ss' := 12668) ?_ (fun _ _ => rfl)
  refine go_if false rfl (br_eq_f (b := 0) rfl (by omega)) ?_
  refine go_seg 2 (pc' := 319) (ls' := [(3, .int 0), (2, .ref 90), (1, .ref 1), (0, .ref 0)]) (st' := [.int 1, .int 56, .ref 90, .int 1]) (w' := (wd_1584 (sz a0 56 a2 a3 a4 a5))) (cs' := 109) (ss' := 12668) ?_ (fun _ _ => rfl)
  refine go_cl (k := 20) (st' := [.int 1, .int 1]) (cs' := 109) (ss' := 12668) rfl rfl rfl rfl rfl rfl rfl (ro_2568 (sz a0 56 a2 a3 a4 a5)) ?_
  refine go_cmp true rfl (br_self _) ?_
  exact law_tail (f := sc a0 56 a2 a3 a4 a5) rfl
def wd_1586 (z : pq_C) : pq_W := ((fw z).set 4 (.inl (.boolean, 64, .inl (upd (fun _ => 0) 57 1))))
theorem ro_2572 (z : pq_C) : pq_Ru 2 22 [.ref 1, .int 57, .int 1] (fw z) (some (.int 1), (wd_1586 z)) := by
  refine ru_of (k := 1) (M := pm_22) rfl rfl ?_
  refine go_seg 1 (pc' := 1) (ls' := [(0, .ref 1), (1, .int 57), (2, .int 1)]) (st' := [.int 57]) (w' := (fw z)) (cs' := 0) (ss' := 0) ?_ (fun _ _ => rfl)
  refine go_cl (k := 1) (st' := [.int 1]) (cs' := 0) (ss' := 0) rfl rfl rfl rfl rfl rfl rfl (ro_1649 z) ?_
  refine go_seg 8 (pc' := 24) (ls' := [(3, .int 0), (0, .ref 1), (1, .int 57), (2, .int 1)]) (st' := [.ref 1]) (w' := (fw z)) (cs' := 0) (ss' := 0) ?_ (fun _ _ => rfl)
  refine go_seg 8 (pc' := 42) (ls' := [(3, .int 0), (0, .ref 1), (1, .int 57), (2, .int 1)]) (st' := []) (w' := (wd_1586 z)) (cs' := 0) (ss' := 0) ?_ (fun _ _ => rfl)
  exact go_end 2 (fun _ _ => rfl)
theorem ro_2573 (z : pq_C) : pq_Ru 1 161 [.long 57, .long 0, .long 63] (wd_1586 z) (some (.int 1), (wd_1586 z)) := by
  refine ru_of (k := 0) (M := pm_161) rfl rfl ?_
  refine go_seg 8 (pc' := 13) (ls' := [(0, .long 57), (2, .long 0), (4, .long 63)]) (st' := []) (w' := (wd_1586 z)) (cs' := 0) (ss' := 0) ?_ (fun _ _ => rfl)
  exact go_end 3 (fun _ _ => rfl)
theorem ro_2574 (z : pq_C) : pq_Ru 2 160 [.int 57] (wd_1586 z) (some (.int 1), (wd_1586 z)) := by
  refine ru_of (k := 1) (M := pm_160) rfl rfl ?_
  refine go_seg 4 (pc' := 6) (ls' := [(0, .int 57)]) (st' := [.long 63, .long 0, .long 57]) (w' := (wd_1586 z)) (cs' := 0) (ss' := 0) ?_ (fun _ _ => rfl)
  refine go_cl (k := 1) (st' := [.int 1]) (cs' := 0) (ss' := 0) rfl rfl rfl rfl rfl rfl rfl (ro_2573 z) ?_
  exact go_end 1 (fun _ _ => rfl)
def wd_1587 (z : pq_C) : pq_W := ((wd_1586 z).set 91 (.inl (.int, 2858, .inl (upd (upd (upd (upd (upd (upd (upd (upd (upd (upd (upd (upd (upd (upd (upd (upd (upd (upd (upd (upd (upd (upd (upd (upd (upd (upd (upd (upd (upd (upd (upd (upd (upd (upd (upd (upd (upd (upd (upd (upd (upd (upd (upd (upd (upd (upd (upd (upd (upd (upd (upd (upd (upd (upd (upd (upd (upd (upd (upd (upd (upd (upd (upd (upd (upd (upd (upd (upd (upd (upd (upd (upd (upd (upd (upd (upd (upd (upd (upd (upd (upd (upd (fun _ => 0) 1 10) 10 (-1)) 11 (-1)) 12 (-1)) 13 (-1)) 14 (-1)) 15 (-1)) 16 (-1)) 17 (-1)) 18 (-1)) 19 (-1)) 20 (-1)) 21 (-1)) 22 (-1)) 23 (-1)) 24 (-1)) 25 (-1)) 26 (-1)) 27 (-1)) 28 (-1)) 29 (-1)) 30 (-1)) 31 (-1)) 32 (-1)) 33 (-1)) 34 (-1)) 35 (-1)) 36 (-1)) 37 (-1)) 38 (-1)) 39 (-1)) 40 (-1)) 41 (-1)) 42 (-1)) 43 (-1)) 44 (-1)) 45 (-1)) 46 (-1)) 47 (-1)) 48 (-1)) 49 (-1)) 50 (-1)) 51 (-1)) 52 (-1)) 53 (-1)) 54 (-1)) 55 (-1)) 56 (-1)) 57 (-1)) 58 (-1)) 59 (-1)) 60 (-1)) 61 (-1)) 62 (-1)) 63 (-1)) 64 (-1)) 65 (-1)) 66 (-1)) 67 (-1)) 68 (-1)) 69 (-1)) 70 (-1)) 71 (-1)) 72 (-1)) 73 (-1)) 139 1000) 140 100) 145 1000) 146 100) 151 1000) 152 100) 157 1000) 158 100) 163 1000) 164 100) 169 1000) 170 100) 175 1000) 176 100) 181 1000) 182 100) 131 1))))
theorem ro_2575 (z : pq_C) : pq_Ru 3 165 [.ref 90, .int 57, .int 1] (wd_1586 z) (some (.int 1), (wd_1587 z)) := by
  refine ru_of (k := 2) (M := pm_165) rfl rfl ?_
  refine go_seg 1 (pc' := 1) (ls' := [(0, .ref 90), (1, .int 57), (2, .int 1)]) (st' := [.int 57]) (w' := (wd_1586 z)) (cs' := 0) (ss' := 0) ?_ (fun _ _ => rfl)
  refine go_cl (k := 2) (st' := [.int 1]) (cs' := 0) (ss' := 0) rfl rfl rfl rfl rfl rfl rfl (ro_2574 z) ?_
  refine go_seg 8 (pc' := 24) (ls' := [(0, .ref 90), (1, .int 57), (2, .int 1)]) (st' := [.int 1, .int 0]) (w' := (wd_1586 z)) (cs' := 0) (ss' := 0) ?_ (fun _ _ => rfl)
  refine go_seg 8 (pc' := 42) (ls' := [(3, .int 1), (0, .ref 90), (1, .int 57), (2, .int 1)]) (st' := [.ref 90]) (w' := (wd_1586 z)) (cs' := 0) (ss' := 0) ?_ (fun _ _ => rfl)
  refine go_seg 8 (pc' := 58) (ls' := [(3, .int 1), (0, .ref 90), (1, .int 57), (2, .int 1)]) (st' := [.int 1, .int 131, .ref 91]) (w' := (wd_1586 z)) (cs' := 0) (ss' := 0) ?_ (fun _ _ => rfl)
  exact go_end 3 (fun _ _ => rfl)
theorem lf_2_2577 (a0 : Int32) (a2 : Int32) (a3 : Int32) (a4 : Int32) (a5 : Int32) (h0 : ¬ a2.toInt = 0) : ∃ w', pq_Go 20 pm_law 278 [(3, .int 0), (2, .ref 90), (1, .ref 1), (0, .ref 0)] [] (fw (sz a0 57 a2 a3 a4 a5)) 109 12668 (some (.int 1), w') := by
  refine ⟨(wd_1587 (sz a0 57 a2 a3 a4 a5)), ?_⟩
  refine go_seg 8 (pc' := 286) (ls' := [(3, .int 0), (2, .ref 90), (1, .ref 1), (0, .ref 0)]) (st' := [.int 0, .ref 0, .int 57, .ref 1]) (w' := (fw (sz a0 57 a2 a3 a4 a5))) (cs' := 109) (ss' := 12668) ?_ (fun _ _ => rfl)
  refine go_seg 3 (pc' := 289) (ls' := [(3, .int 0), (2, .ref 90), (1, .ref 1), (0, .ref 0)]) (st' := [.int a2, .int 57, .ref 1]) (w' := (fw (sz a0 57 a2 a3 a4 a5))) (cs' := 109) (ss' := 12668) ?_ (fun _ _ => rfl)
  refine go_if false rfl (br_eq_f (b := 0) rfl (by omega)) ?_
  refine go_seg 2 (pc' := 297) (ls' := [(3, .int 0), (2, .ref 90), (1, .ref 1), (0, .ref 0)]) (st' := [.int 1, .int 57, .ref 1]) (w' := (fw (sz a0 57 a2 a3 a4 a5))) (cs' := 109) (ss' := 12668) ?_ (fun _ _ => rfl)
  refine go_cl (k := 20) (st' := [.int 1]) (cs' := 109) (ss' := 12668) rfl rfl rfl rfl rfl rfl rfl (ro_2572 (sz a0 57 a2 a3 a4 a5)) ?_
  refine go_seg 8 (pc' := 308) (ls' := [(3, .int 0), (2, .ref 90), (1, .ref 1), (0, .ref 0)]) (st' := [.int 0, .ref 0, .int 57, .ref 90, .int 1]) (w' := (wd_1586 (sz a0 57 a2 a3 a4 a5))) (cs' := 109) (ss' := 12668) ?_ (fun _ _ => rfl)
  refine go_seg 3 (pc' := 311) (ls' := [(3, .int 0), (2, .ref 90), (1, .ref 1), (0, .ref 0)]) (st' := [.int a2, .int 57, .ref 90, .int 1]) (w' := (wd_1586 (sz a0 57 a2 a3 a4 a5))) (cs' := 109) (ss' := 12668) ?_ (fun _ _ => rfl)
  refine go_if false rfl (br_eq_f (b := 0) rfl (by omega)) ?_
  refine go_seg 2 (pc' := 319) (ls' := [(3, .int 0), (2, .ref 90), (1, .ref 1), (0, .ref 0)]) (st' := [.int 1, .int 57, .ref 90, .int 1]) (w' := (wd_1586 (sz a0 57 a2 a3 a4 a5))) (cs' := 109) (ss' := 12668) ?_ (fun _ _ => rfl)
  refine go_cl (k := 20) (st' := [.int 1, .int 1]) (cs' := 109) (ss' := 12668) rfl rfl rfl rfl rfl rfl rfl (ro_2575 (sz a0 57 a2 a3 a4 a5)) ?_
  refine go_cmp true rfl (br_self _) ?_
  exact law_tail (f := sc a0 57 a2 a3 a4 a5) rfl
def wd_1588 (z : pq_C) : pq_W := ((fw z).set 4 (.inl (.boolean, 64, .inl (upd (fun _ => 0) 58 1))))
theorem ro_2579 (z : pq_C) : pq_Ru 2 22 [.ref 1, .int 58, .int 1] (fw z) (some (.int 1), (wd_1588 z)) := by
  refine ru_of (k := 1) (M := pm_22) rfl rfl ?_
  refine go_seg 1 (pc' := 1) (ls' := [(0, .ref 1), (1, .int 58), (2, .int 1)]) (st' := [.int 58]) (w' := (fw z)) (cs' := 0) (ss' := 0) ?_ (fun _ _ => rfl)
  refine go_cl (k := 1) (st' := [.int 1]) (cs' := 0) (ss' := 0) rfl rfl rfl rfl rfl rfl rfl (ro_1657 z) ?_
  refine go_seg 8 (pc' := 24) (ls' := [(3, .int 0), (0, .ref 1), (1, .int 58), (2, .int 1)]) (st' := [.ref 1]) (w' := (fw z)) (cs' := 0) (ss' := 0) ?_ (fun _ _ => rfl)
  refine go_seg 8 (pc' := 42) (ls' := [(3, .int 0), (0, .ref 1), (1, .int 58), (2, .int 1)]) (st' := []) (w' := (wd_1588 z)) (cs' := 0) (ss' := 0) ?_ (fun _ _ => rfl)
  exact go_end 2 (fun _ _ => rfl)
theorem ro_2580 (z : pq_C) : pq_Ru 1 161 [.long 58, .long 0, .long 63] (wd_1588 z) (some (.int 1), (wd_1588 z)) := by
  refine ru_of (k := 0) (M := pm_161) rfl rfl ?_
  refine go_seg 8 (pc' := 13) (ls' := [(0, .long 58), (2, .long 0), (4, .long 63)]) (st' := []) (w' := (wd_1588 z)) (cs' := 0) (ss' := 0) ?_ (fun _ _ => rfl)
  exact go_end 3 (fun _ _ => rfl)
theorem ro_2581 (z : pq_C) : pq_Ru 2 160 [.int 58] (wd_1588 z) (some (.int 1), (wd_1588 z)) := by
  refine ru_of (k := 1) (M := pm_160) rfl rfl ?_
  refine go_seg 4 (pc' := 6) (ls' := [(0, .int 58)]) (st' := [.long 63, .long 0, .long 58]) (w' := (wd_1588 z)) (cs' := 0) (ss' := 0) ?_ (fun _ _ => rfl)
  refine go_cl (k := 1) (st' := [.int 1]) (cs' := 0) (ss' := 0) rfl rfl rfl rfl rfl rfl rfl (ro_2580 z) ?_
  exact go_end 1 (fun _ _ => rfl)
def wd_1589 (z : pq_C) : pq_W := ((wd_1588 z).set 91 (.inl (.int, 2858, .inl (upd (upd (upd (upd (upd (upd (upd (upd (upd (upd (upd (upd (upd (upd (upd (upd (upd (upd (upd (upd (upd (upd (upd (upd (upd (upd (upd (upd (upd (upd (upd (upd (upd (upd (upd (upd (upd (upd (upd (upd (upd (upd (upd (upd (upd (upd (upd (upd (upd (upd (upd (upd (upd (upd (upd (upd (upd (upd (upd (upd (upd (upd (upd (upd (upd (upd (upd (upd (upd (upd (upd (upd (upd (upd (upd (upd (upd (upd (upd (upd (upd (upd (fun _ => 0) 1 10) 10 (-1)) 11 (-1)) 12 (-1)) 13 (-1)) 14 (-1)) 15 (-1)) 16 (-1)) 17 (-1)) 18 (-1)) 19 (-1)) 20 (-1)) 21 (-1)) 22 (-1)) 23 (-1)) 24 (-1)) 25 (-1)) 26 (-1)) 27 (-1)) 28 (-1)) 29 (-1)) 30 (-1)) 31 (-1)) 32 (-1)) 33 (-1)) 34 (-1)) 35 (-1)) 36 (-1)) 37 (-1)) 38 (-1)) 39 (-1)) 40 (-1)) 41 (-1)) 42 (-1)) 43 (-1)) 44 (-1)) 45 (-1)) 46 (-1)) 47 (-1)) 48 (-1)) 49 (-1)) 50 (-1)) 51 (-1)) 52 (-1)) 53 (-1)) 54 (-1)) 55 (-1)) 56 (-1)) 57 (-1)) 58 (-1)) 59 (-1)) 60 (-1)) 61 (-1)) 62 (-1)) 63 (-1)) 64 (-1)) 65 (-1)) 66 (-1)) 67 (-1)) 68 (-1)) 69 (-1)) 70 (-1)) 71 (-1)) 72 (-1)) 73 (-1)) 139 1000) 140 100) 145 1000) 146 100) 151 1000) 152 100) 157 1000) 158 100) 163 1000) 164 100) 169 1000) 170 100) 175 1000) 176 100) 181 1000) 182 100) 132 1))))
theorem ro_2582 (z : pq_C) : pq_Ru 3 165 [.ref 90, .int 58, .int 1] (wd_1588 z) (some (.int 1), (wd_1589 z)) := by
  refine ru_of (k := 2) (M := pm_165) rfl rfl ?_
  refine go_seg 1 (pc' := 1) (ls' := [(0, .ref 90), (1, .int 58), (2, .int 1)]) (st' := [.int 58]) (w' := (wd_1588 z)) (cs' := 0) (ss' := 0) ?_ (fun _ _ => rfl)
  refine go_cl (k := 2) (st' := [.int 1]) (cs' := 0) (ss' := 0) rfl rfl rfl rfl rfl rfl rfl (ro_2581 z) ?_
  refine go_seg 8 (pc' := 24) (ls' := [(0, .ref 90), (1, .int 58), (2, .int 1)]) (st' := [.int 1, .int 0]) (w' := (wd_1588 z)) (cs' := 0) (ss' := 0) ?_ (fun _ _ => rfl)
  refine go_seg 8 (pc' := 42) (ls' := [(3, .int 1), (0, .ref 90), (1, .int 58), (2, .int 1)]) (st' := [.ref 90]) (w' := (wd_1588 z)) (cs' := 0) (ss' := 0) ?_ (fun _ _ => rfl)
  refine go_seg 8 (pc' := 58) (ls' := [(3, .int 1), (0, .ref 90), (1, .int 58), (2, .int 1)]) (st' := [.int 1, .int 132, .ref 91]) (w' := (wd_1588 z)) (cs' := 0) (ss' := 0) ?_ (fun _ _ => rfl)
  exact go_end 3 (fun _ _ => rfl)
theorem lf_2_2584 (a0 : Int32) (a2 : Int32) (a3 : Int32) (a4 : Int32) (a5 : Int32) (h0 : ¬ a2.toInt = 0) : ∃ w', pq_Go 20 pm_law 278 [(3, .int 0), (2, .ref 90), (1, .ref 1), (0, .ref 0)] [] (fw (sz a0 58 a2 a3 a4 a5)) 109 12668 (some (.int 1), w') := by
  refine ⟨(wd_1589 (sz a0 58 a2 a3 a4 a5)), ?_⟩
  refine go_seg 8 (pc' := 286) (ls' := [(3, .int 0), (2, .ref 90), (1, .ref 1), (0, .ref 0)]) (st' := [.int 0, .ref 0, .int 58, .ref 1]) (w' := (fw (sz a0 58 a2 a3 a4 a5))) (cs' := 109) (ss' := 12668) ?_ (fun _ _ => rfl)
  refine go_seg 3 (pc' := 289) (ls' := [(3, .int 0), (2, .ref 90), (1, .ref 1), (0, .ref 0)]) (st' := [.int a2, .int 58, .ref 1]) (w' := (fw (sz a0 58 a2 a3 a4 a5))) (cs' := 109) (ss' := 12668) ?_ (fun _ _ => rfl)
  refine go_if false rfl (br_eq_f (b := 0) rfl (by omega)) ?_
  refine go_seg 2 (pc' := 297) (ls' := [(3, .int 0), (2, .ref 90), (1, .ref 1), (0, .ref 0)]) (st' := [.int 1, .int 58, .ref 1]) (w' := (fw (sz a0 58 a2 a3 a4 a5))) (cs' := 109) (ss' := 12668) ?_ (fun _ _ => rfl)
  refine go_cl (k := 20) (st' := [.int 1]) (cs' := 109) (ss' := 12668) rfl rfl rfl rfl rfl rfl rfl (ro_2579 (sz a0 58 a2 a3 a4 a5)) ?_
  refine go_seg 8 (pc' := 308) (ls' := [(3, .int 0), (2, .ref 90), (1, .ref 1), (0, .ref 0)]) (st' := [.int 0, .ref 0, .int 58, .ref 90, .int 1]) (w' := (wd_1588 (sz a0 58 a2 a3 a4 a5))) (cs' := 109) (ss' := 12668) ?_ (fun _ _ => rfl)
  refine go_seg 3 (pc' := 311) (ls' := [(3, .int 0), (2, .ref 90), (1, .ref 1), (0, .ref 0)]) (st' := [.int a2, .int 58, .ref 90, .int 1]) (w' := (wd_1588 (sz a0 58 a2 a3 a4 a5))) (cs' := 109) (ss' := 12668) ?_ (fun _ _ => rfl)
  refine go_if false rfl (br_eq_f (b := 0) rfl (by omega)) ?_
  refine go_seg 2 (pc' := 319) (ls' := [(3, .int 0), (2, .ref 90), (1, .ref 1), (0, .ref 0)]) (st' := [.int 1, .int 58, .ref 90, .int 1]) (w' := (wd_1588 (sz a0 58 a2 a3 a4 a5))) (cs' := 109) (ss' := 12668) ?_ (fun _ _ => rfl)
  refine go_cl (k := 20) (st' := [.int 1, .int 1]) (cs' := 109) (ss' := 12668) rfl rfl rfl rfl rfl rfl rfl (ro_2582 (sz a0 58 a2 a3 a4 a5)) ?_
  refine go_cmp true rfl (br_self _) ?_
  exact law_tail (f := sc a0 58 a2 a3 a4 a5) rfl
def wd_1590 (z : pq_C) : pq_W := ((fw z).set 4 (.inl (.boolean, 64, .inl (upd (fun _ => 0) 59 1))))
theorem ro_2586 (z : pq_C) : pq_Ru 2 22 [.ref 1, .int 59, .int 1] (fw z) (some (.int 1), (wd_1590 z)) := by
  refine ru_of (k := 1) (M := pm_22) rfl rfl ?_
  refine go_seg 1 (pc' := 1) (ls' := [(0, .ref 1), (1, .int 59), (2, .int 1)]) (st' := [.int 59]) (w' := (fw z)) (cs' := 0) (ss' := 0) ?_ (fun _ _ => rfl)
  refine go_cl (k := 1) (st' := [.int 1]) (cs' := 0) (ss' := 0) rfl rfl rfl rfl rfl rfl rfl (ro_1665 z) ?_
  refine go_seg 8 (pc' := 24) (ls' := [(3, .int 0), (0, .ref 1), (1, .int 59), (2, .int 1)]) (st' := [.ref 1]) (w' := (fw z)) (cs' := 0) (ss' := 0) ?_ (fun _ _ => rfl)
  refine go_seg 8 (pc' := 42) (ls' := [(3, .int 0), (0, .ref 1), (1, .int 59), (2, .int 1)]) (st' := []) (w' := (wd_1590 z)) (cs' := 0) (ss' := 0) ?_ (fun _ _ => rfl)
  exact go_end 2 (fun _ _ => rfl)
theorem ro_2587 (z : pq_C) : pq_Ru 1 161 [.long 59, .long 0, .long 63] (wd_1590 z) (some (.int 1), (wd_1590 z)) := by
  refine ru_of (k := 0) (M := pm_161) rfl rfl ?_
  refine go_seg 8 (pc' := 13) (ls' := [(0, .long 59), (2, .long 0), (4, .long 63)]) (st' := []) (w' := (wd_1590 z)) (cs' := 0) (ss' := 0) ?_ (fun _ _ => rfl)
  exact go_end 3 (fun _ _ => rfl)
theorem ro_2588 (z : pq_C) : pq_Ru 2 160 [.int 59] (wd_1590 z) (some (.int 1), (wd_1590 z)) := by
  refine ru_of (k := 1) (M := pm_160) rfl rfl ?_
  refine go_seg 4 (pc' := 6) (ls' := [(0, .int 59)]) (st' := [.long 63, .long 0, .long 59]) (w' := (wd_1590 z)) (cs' := 0) (ss' := 0) ?_ (fun _ _ => rfl)
  refine go_cl (k := 1) (st' := [.int 1]) (cs' := 0) (ss' := 0) rfl rfl rfl rfl rfl rfl rfl (ro_2587 z) ?_
  exact go_end 1 (fun _ _ => rfl)
def wd_1591 (z : pq_C) : pq_W := ((wd_1590 z).set 91 (.inl (.int, 2858, .inl (upd (upd (upd (upd (upd (upd (upd (upd (upd (upd (upd (upd (upd (upd (upd (upd (upd (upd (upd (upd (upd (upd (upd (upd (upd (upd (upd (upd (upd (upd (upd (upd (upd (upd (upd (upd (upd (upd (upd (upd (upd (upd (upd (upd (upd (upd (upd (upd (upd (upd (upd (upd (upd (upd (upd (upd (upd (upd (upd (upd (upd (upd (upd (upd (upd (upd (upd (upd (upd (upd (upd (upd (upd (upd (upd (upd (upd (upd (upd (upd (upd (upd (fun _ => 0) 1 10) 10 (-1)) 11 (-1)) 12 (-1)) 13 (-1)) 14 (-1)) 15 (-1)) 16 (-1)) 17 (-1)) 18 (-1)) 19 (-1)) 20 (-1)) 21 (-1)) 22 (-1)) 23 (-1)) 24 (-1)) 25 (-1)) 26 (-1)) 27 (-1)) 28 (-1)) 29 (-1)) 30 (-1)) 31 (-1)) 32 (-1)) 33 (-1)) 34 (-1)) 35 (-1)) 36 (-1)) 37 (-1)) 38 (-1)) 39 (-1)) 40 (-1)) 41 (-1)) 42 (-1)) 43 (-1)) 44 (-1)) 45 (-1)) 46 (-1)) 47 (-1)) 48 (-1)) 49 (-1)) 50 (-1)) 51 (-1)) 52 (-1)) 53 (-1)) 54 (-1)) 55 (-1)) 56 (-1)) 57 (-1)) 58 (-1)) 59 (-1)) 60 (-1)) 61 (-1)) 62 (-1)) 63 (-1)) 64 (-1)) 65 (-1)) 66 (-1)) 67 (-1)) 68 (-1)) 69 (-1)) 70 (-1)) 71 (-1)) 72 (-1)) 73 (-1)) 139 1000) 140 100) 145 1000) 146 100) 151 1000) 152 100) 157 1000) 158 100) 163 1000) 164 100) 169 1000) 170 100) 175 1000) 176 100) 181 1000) 182 100) 133 1))))
theorem ro_2589 (z : pq_C) : pq_Ru 3 165 [.ref 90, .int 59, .int 1] (wd_1590 z) (some (.int 1), (wd_1591 z)) := by
  refine ru_of (k := 2) (M := pm_165) rfl rfl ?_
  refine go_seg 1 (pc' := 1) (ls' := [(0, .ref 90), (1, .int 59), (2, .int 1)]) (st' := [.int 59]) (w' := (wd_1590 z)) (cs' := 0) (ss' := 0) ?_ (fun _ _ => rfl)
  refine go_cl (k := 2) (st' := [.int 1]) (cs' := 0) (ss' := 0) rfl rfl rfl rfl rfl rfl rfl (ro_2588 z) ?_
  refine go_seg 8 (pc' := 24) (ls' := [(0, .ref 90), (1, .int 59), (2, .int 1)]) (st' := [.int 1, .int 0]) (w' := (wd_1590 z)) (cs' := 0) (ss' := 0) ?_ (fun _ _ => rfl)
  refine go_seg 8 (pc' := 42) (ls' := [(3, .int 1), (0, .ref 90), (1, .int 59), (2, .int 1)]) (st' := [.ref 90]) (w' := (wd_1590 z)) (cs' := 0) (ss' := 0) ?_ (fun _ _ => rfl)
  refine go_seg 8 (pc' := 58) (ls' := [(3, .int 1), (0, .ref 90), (1, .int 59), (2, .int 1)]) (st' := [.int 1, .int 133, .ref 91]) (w' := (wd_1590 z)) (cs' := 0) (ss' := 0) ?_ (fun _ _ => rfl)
  exact go_end 3 (fun _ _ => rfl)
theorem lf_2_2591 (a0 : Int32) (a2 : Int32) (a3 : Int32) (a4 : Int32) (a5 : Int32) (h0 : ¬ a2.toInt = 0) : ∃ w', pq_Go 20 pm_law 278 [(3, .int 0), (2, .ref 90), (1, .ref 1), (0, .ref 0)] [] (fw (sz a0 59 a2 a3 a4 a5)) 109 12668 (some (.int 1), w') := by
  refine ⟨(wd_1591 (sz a0 59 a2 a3 a4 a5)), ?_⟩
  refine go_seg 8 (pc' := 286) (ls' := [(3, .int 0), (2, .ref 90), (1, .ref 1), (0, .ref 0)]) (st' := [.int 0, .ref 0, .int 59, .ref 1]) (w' := (fw (sz a0 59 a2 a3 a4 a5))) (cs' := 109) (ss' := 12668) ?_ (fun _ _ => rfl)
  refine go_seg 3 (pc' := 289) (ls' := [(3, .int 0), (2, .ref 90), (1, .ref 1), (0, .ref 0)]) (st' := [.int a2, .int 59, .ref 1]) (w' := (fw (sz a0 59 a2 a3 a4 a5))) (cs' := 109) (ss' := 12668) ?_ (fun _ _ => rfl)
  refine go_if false rfl (br_eq_f (b := 0) rfl (by omega)) ?_
  refine go_seg 2 (pc' := 297) (ls' := [(3, .int 0), (2, .ref 90), (1, .ref 1), (0, .ref 0)]) (st' := [.int 1, .int 59, .ref 1]) (w' := (fw (sz a0 59 a2 a3 a4 a5))) (cs' := 109) (ss' := 12668) ?_ (fun _ _ => rfl)
  refine go_cl (k := 20) (st' := [.int 1]) (cs' := 109) (ss' := 12668) rfl rfl rfl rfl rfl rfl rfl (ro_2586 (sz a0 59 a2 a3 a4 a5)) ?_
  refine go_seg 8 (pc' := 308) (ls' := [(3, .int 0), (2, .ref 90), (1, .ref 1), (0, .ref 0)]) (st' := [.int 0, .ref 0, .int 59, .ref 90, .int 1]) (w' := (wd_1590 (sz a0 59 a2 a3 a4 a5))) (cs' := 109) (ss' := 12668) ?_ (fun _ _ => rfl)
  refine go_seg 3 (pc' := 311) (ls' := [(3, .int 0), (2, .ref 90), (1, .ref 1), (0, .ref 0)]) (st' := [.int a2, .int 59, .ref 90, .int 1]) (w' := (wd_1590 (sz a0 59 a2 a3 a4 a5))) (cs' := 109) (ss' := 12668) ?_ (fun _ _ => rfl)
  refine go_if false rfl (br_eq_f (b := 0) rfl (by omega)) ?_
  refine go_seg 2 (pc' := 319) (ls' := [(3, .int 0), (2, .ref 90), (1, .ref 1), (0, .ref 0)]) (st' := [.int 1, .int 59, .ref 90, .int 1]) (w' := (wd_1590 (sz a0 59 a2 a3 a4 a5))) (cs' := 109) (ss' := 12668) ?_ (fun _ _ => rfl)
  refine go_cl (k := 20) (st' := [.int 1, .int 1]) (cs' := 109) (ss' := 12668) rfl rfl rfl rfl rfl rfl rfl (ro_2589 (sz a0 59 a2 a3 a4 a5)) ?_
  refine go_cmp true rfl (br_self _) ?_
  exact law_tail (f := sc a0 59 a2 a3 a4 a5) rfl
def wd_1592 (z : pq_C) : pq_W := ((fw z).set 4 (.inl (.boolean, 64, .inl (upd (fun _ => 0) 60 1))))
theorem ro_2593 (z : pq_C) : pq_Ru 2 22 [.ref 1, .int 60, .int 1] (fw z) (some (.int 1), (wd_1592 z)) := by
  refine ru_of (k := 1) (M := pm_22) rfl rfl ?_
  refine go_seg 1 (pc' := 1) (ls' := [(0, .ref 1), (1, .int 60), (2, .int 1)]) (st' := [.int 60]) (w' := (fw z)) (cs' := 0) (ss' := 0) ?_ (fun _ _ => rfl)
  refine go_cl (k := 1) (st' := [.int 1]) (cs' := 0) (ss' := 0) rfl rfl rfl rfl rfl rfl rfl (ro_1673 z) ?_
  refine go_seg 8 (pc' := 24) (ls' := [(3, .int 0), (0, .ref 1), (1, .int 60), (2, .int 1)]) (st' := [.ref 1]) (w' := (fw z)) (cs' := 0) (ss' := 0) ?_ (fun _ _ => rfl)
  refine go_seg 8 (pc' := 42) (ls' := [(3, .int 0), (0, .ref 1), (1, .int 60), (2, .int 1)]) (st' := []) (w' := (wd_1592 z)) (cs' := 0) (ss' := 0) ?_ (fun _ _ => rfl)
  exact go_end 2 (fun _ _ => rfl)
theorem ro_2594 (z : pq_C) : pq_Ru 1 161 [.long 60, .long 0, .long 63] (wd_1592 z) (some (.int 1), (wd_1592 z)) := by
  refine ru_of (k := 0) (M := pm_161) rfl rfl ?_
  refine go_seg 8 (pc' := 13) (ls' := [(0, .long 60), (2, .long 0), (4, .long 63)]) (st' := []) (w' := (wd_1592 z)) (cs' := 0) (ss' := 0) ?_ (fun _ _ => rfl)
  exact go_end 3 (fun _ _ => rfl)
theorem ro_2595 (z : pq_C) : pq_Ru 2 160 [.int 60] (wd_1592 z) (some (.int 1), (wd_1592 z)) := by
  refine ru_of (k := 1) (M := pm_160) rfl rfl ?_
  refine go_seg 4 (pc' := 6) (ls' := [(0, .int 60)]) (st' := [.long 63, .long 0, .long 60]) (w' := (wd_1592 z)) (cs' := 0) (ss' := 0) ?_ (fun _ _ => rfl)
  refine go_cl (k := 1) (st' := [.int 1]) (cs' := 0) (ss' := 0) rfl rfl rfl rfl rfl rfl rfl (ro_2594 z) ?_
  exact go_end 1 (fun _ _ => rfl)
def wd_1593 (z : pq_C) : pq_W := ((wd_1592 z).set 91 (.inl (.int, 2858, .inl (upd (upd (upd (upd (upd (upd (upd (upd (upd (upd (upd (upd (upd (upd (upd (upd (upd (upd (upd (upd (upd (upd (upd (upd (upd (upd (upd (upd (upd (upd (upd (upd (upd (upd (upd (upd (upd (upd (upd (upd (upd (upd (upd (upd (upd (upd (upd (upd (upd (upd (upd (upd (upd (upd (upd (upd (upd (upd (upd (upd (upd (upd (upd (upd (upd (upd (upd (upd (upd (upd (upd (upd (upd (upd (upd (upd (upd (upd (upd (upd (upd (upd (fun _ => 0) 1 10) 10 (-1)) 11 (-1)) 12 (-1)) 13 (-1)) 14 (-1)) 15 (-1)) 16 (-1)) 17 (-1)) 18 (-1)) 19 (-1)) 20 (-1)) 21 (-1)) 22 (-1)) 23 (-1)) 24 (-1)) 25 (-1)) 26 (-1)) 27 (-1)) 28 (-1)) 29 (-1)) 30 (-1)) 31 (-1)) 32 (-1)) 33 (-1)) 34 (-1)) 35 (-1)) 36 (-1)) 37 (-1)) 38 (-1)) 39 (-1)) 40 (-1)) 41 (-1)) 42 (-1)) 43 (-1)) 44 (-1)) 45 (-1)) 46 (-1)) 47 (-1)) 48 (-1)) 49 (-1)) 50 (-1)) 51 (-1)) 52 (-1)) 53 (-1)) 54 (-1)) 55 (-1)) 56 (-1)) 57 (-1)) 58 (-1)) 59 (-1)) 60 (-1)) 61 (-1)) 62 (-1)) 63 (-1)) 64 (-1)) 65 (-1)) 66 (-1)) 67 (-1)) 68 (-1)) 69 (-1)) 70 (-1)) 71 (-1)) 72 (-1)) 73 (-1)) 139 1000) 140 100) 145 1000) 146 100) 151 1000) 152 100) 157 1000) 158 100) 163 1000) 164 100) 169 1000) 170 100) 175 1000) 176 100) 181 1000) 182 100) 134 1))))
theorem ro_2596 (z : pq_C) : pq_Ru 3 165 [.ref 90, .int 60, .int 1] (wd_1592 z) (some (.int 1), (wd_1593 z)) := by
  refine ru_of (k := 2) (M := pm_165) rfl rfl ?_
  refine go_seg 1 (pc' := 1) (ls' := [(0, .ref 90), (1, .int 60), (2, .int 1)]) (st' := [.int 60]) (w' := (wd_1592 z)) (cs' := 0) (ss' := 0) ?_ (fun _ _ => rfl)
  refine go_cl (k := 2) (st' := [.int 1]) (cs' := 0) (ss' := 0) rfl rfl rfl rfl rfl rfl rfl (ro_2595 z) ?_
  refine go_seg 8 (pc' := 24) (ls' := [(0, .ref 90), (1, .int 60), (2, .int 1)]) (st' := [.int 1, .int 0]) (w' := (wd_1592 z)) (cs' := 0) (ss' := 0) ?_ (fun _ _ => rfl)
  refine go_seg 8 (pc' := 42) (ls' := [(3, .int 1), (0, .ref 90), (1, .int 60), (2, .int 1)]) (st' := [.ref 90]) (w' := (wd_1592 z)) (cs' := 0) (ss' := 0) ?_ (fun _ _ => rfl)
  refine go_seg 8 (pc' := 58) (ls' := [(3, .int 1), (0, .ref 90), (1, .int 60), (2, .int 1)]) (st' := [.int 1, .int 134, .ref 91]) (w' := (wd_1592 z)) (cs' := 0) (ss' := 0) ?_ (fun _ _ => rfl)
  exact go_end 3 (fun _ _ => rfl)
theorem lf_2_2598 (a0 : Int32) (a2 : Int32) (a3 : Int32) (a4 : Int32) (a5 : Int32) (h0 : ¬ a2.toInt = 0) : ∃ w', pq_Go 20 pm_law 278 [(3, .int 0), (2, .ref 90), (1, .ref 1), (0, .ref 0)] [] (fw (sz a0 60 a2 a3 a4 a5)) 109 12668 (some (.int 1), w') := by
  refine ⟨(wd_1593 (sz a0 60 a2 a3 a4 a5)), ?_⟩
  refine go_seg 8 (pc' := 286) (ls' := [(3, .int 0), (2, .ref 90), (1, .ref 1), (0, .ref 0)]) (st' := [.int 0, .ref 0, .int 60, .ref 1]) (w' := (fw (sz a0 60 a2 a3 a4 a5))) (cs' := 109) (ss' := 12668) ?_ (fun _ _ => rfl)
  refine go_seg 3 (pc' := 289) (ls' := [(3, .int 0), (2, .ref 90), (1, .ref 1), (0, .ref 0)]) (st' := [.int a2, .int 60, .ref 1]) (w' := (fw (sz a0 60 a2 a3 a4 a5))) (cs' := 109) (ss' := 12668) ?_ (fun _ _ => rfl)
  refine go_if false rfl (br_eq_f (b := 0) rfl (by omega)) ?_
  refine go_seg 2 (pc' := 297) (ls' := [(3, .int 0), (2, .ref 90), (1, .ref 1), (0, .ref 0)]) (st' := [.int 1, .int 60, .ref 1]) (w' := (fw (sz a0 60 a2 a3 a4 a5))) (cs' := 109) (ss' := 12668) ?_ (fun _ _ => rfl)
  refine go_cl (k := 20) (st' := [.int 1]) (cs' := 109) (ss' := 12668) rfl rfl rfl rfl rfl rfl rfl (ro_2593 (sz a0 60 a2 a3 a4 a5)) ?_
  refine go_seg 8 (pc' := 308) (ls' := [(3, .int 0), (2, .ref 90), (1, .ref 1), (0, .ref 0)]) (st' := [.int 0, .ref 0, .int 60, .ref 90, .int 1]) (w' := (wd_1592 (sz a0 60 a2 a3 a4 a5))) (cs' := 109) (ss' := 12668) ?_ (fun _ _ => rfl)
  refine go_seg 3 (pc' := 311) (ls' := [(3, .int 0), (2, .ref 90), (1, .ref 1), (0, .ref 0)]) (st' := [.int a2, .int 60, .ref 90, .int 1]) (w' := (wd_1592 (sz a0 60 a2 a3 a4 a5))) (cs' := 109) (ss' := 12668) ?_ (fun _ _ => rfl)
  refine go_if false rfl (br_eq_f (b := 0) rfl (by omega)) ?_
  refine go_seg 2 (pc' := 319) (ls' := [(3, .int 0), (2, .ref 90), (1, .ref 1), (0, .ref 0)]) (st' := [.int 1, .int 60, .ref 90, .int 1]) (w' := (wd_1592 (sz a0 60 a2 a3 a4 a5))) (cs' := 109) (ss' := 12668) ?_ (fun _ _ => rfl)
  refine go_cl (k := 20) (st' := [.int 1, .int 1]) (cs' := 109) (ss' := 12668) rfl rfl rfl rfl rfl rfl rfl (ro_2596 (sz a0 60 a2 a3 a4 a5)) ?_
  refine go_cmp true rfl (br_self _) ?_
  exact law_tail (f := sc a0 60 a2 a3 a4 a5) rfl
def wd_1594 (z : pq_C) : pq_W := ((fw z).set 4 (.inl (.boolean, 64, .inl (upd (fun _ => 0) 61 1))))
theorem ro_2600 (z : pq_C) : pq_Ru 2 22 [.ref 1, .int 61, .int 1] (fw z) (some (.int 1), (wd_1594 z)) := by
  refine ru_of (k := 1) (M := pm_22) rfl rfl ?_
  refine go_seg 1 (pc' := 1) (ls' := [(0, .ref 1), (1, .int 61), (2, .int 1)]) (st' := [.int 61]) (w' := (fw z)) (cs' := 0) (ss' := 0) ?_ (fun _ _ => rfl)
  refine go_cl (k := 1) (st' := [.int 1]) (cs' := 0) (ss' := 0) rfl rfl rfl rfl rfl rfl rfl (ro_1681 z) ?_
  refine go_seg 8 (pc' := 24) (ls' := [(3, .int 0), (0, .ref 1), (1, .int 61), (2, .int 1)]) (st' := [.ref 1]) (w' := (fw z)) (cs' := 0) (ss' := 0) ?_ (fun _ _ => rfl)
  refine go_seg 8 (pc' := 42) (ls' := [(3, .int 0), (0, .ref 1), (1, .int 61), (2, .int 1)]) (st' := []) (w' := (wd_1594 z)) (cs' := 0) (ss' := 0) ?_ (fun _ _ => rfl)
  exact go_end 2 (fun _ _ => rfl)
theorem ro_2601 (z : pq_C) : pq_Ru 1 161 [.long 61, .long 0, .long 63] (wd_1594 z) (some (.int 1), (wd_1594 z)) := by
  refine ru_of (k := 0) (M := pm_161) rfl rfl ?_
  refine go_seg 8 (pc' := 13) (ls' := [(0, .long 61), (2, .long 0), (4, .long 63)]) (st' := []) (w' := (wd_1594 z)) (cs' := 0) (ss' := 0) ?_ (fun _ _ => rfl)
  exact go_end 3 (fun _ _ => rfl)
theorem ro_2602 (z : pq_C) : pq_Ru 2 160 [.int 61] (wd_1594 z) (some (.int 1), (wd_1594 z)) := by
  refine ru_of (k := 1) (M := pm_160) rfl rfl ?_
  refine go_seg 4 (pc' := 6) (ls' := [(0, .int 61)]) (st' := [.long 63, .long 0, .long 61]) (w' := (wd_1594 z)) (cs' := 0) (ss' := 0) ?_ (fun _ _ => rfl)
  refine go_cl (k := 1) (st' := [.int 1]) (cs' := 0) (ss' := 0) rfl rfl rfl rfl rfl rfl rfl (ro_2601 z) ?_
  exact go_end 1 (fun _ _ => rfl)
def wd_1595 (z : pq_C) : pq_W := ((wd_1594 z).set 91 (.inl (.int, 2858, .inl (upd (upd (upd (upd (upd (upd (upd (upd (upd (upd (upd (upd (upd (upd (upd (upd (upd (upd (upd (upd (upd (upd (upd (upd (upd (upd (upd (upd (upd (upd (upd (upd (upd (upd (upd (upd (upd (upd (upd (upd (upd (upd (upd (upd (upd (upd (upd (upd (upd (upd (upd (upd (upd (upd (upd (upd (upd (upd (upd (upd (upd (upd (upd (upd (upd (upd (upd (upd (upd (upd (upd (upd (upd (upd (upd (upd (upd (upd (upd (upd (upd (upd (fun _ => 0) 1 10) 10 (-1)) 11 (-1)) 12 (-1)) 13 (-1)) 14 (-1)) 15 (-1)) 16 (-1)) 17 (-1)) 18 (-1)) 19 (-1)) 20 (-1)) 21 (-1)) 22 (-1)) 23 (-1)) 24 (-1)) 25 (-1)) 26 (-1)) 27 (-1)) 28 (-1)) 29 (-1)) 30 (-1)) 31 (-1)) 32 (-1)) 33 (-1)) 34 (-1)) 35 (-1)) 36 (-1)) 37 (-1)) 38 (-1)) 39 (-1)) 40 (-1)) 41 (-1)) 42 (-1)) 43 (-1)) 44 (-1)) 45 (-1)) 46 (-1)) 47 (-1)) 48 (-1)) 49 (-1)) 50 (-1)) 51 (-1)) 52 (-1)) 53 (-1)) 54 (-1)) 55 (-1)) 56 (-1)) 57 (-1)) 58 (-1)) 59 (-1)) 60 (-1)) 61 (-1)) 62 (-1)) 63 (-1)) 64 (-1)) 65 (-1)) 66 (-1)) 67 (-1)) 68 (-1)) 69 (-1)) 70 (-1)) 71 (-1)) 72 (-1)) 73 (-1)) 139 1000) 140 100) 145 1000) 146 100) 151 1000) 152 100) 157 1000) 158 100) 163 1000) 164 100) 169 1000) 170 100) 175 1000) 176 100) 181 1000) 182 100) 135 1))))
theorem ro_2603 (z : pq_C) : pq_Ru 3 165 [.ref 90, .int 61, .int 1] (wd_1594 z) (some (.int 1), (wd_1595 z)) := by
  refine ru_of (k := 2) (M := pm_165) rfl rfl ?_
  refine go_seg 1 (pc' := 1) (ls' := [(0, .ref 90), (1, .int 61), (2, .int 1)]) (st' := [.int 61]) (w' := (wd_1594 z)) (cs' := 0) (ss' := 0) ?_ (fun _ _ => rfl)
  refine go_cl (k := 2) (st' := [.int 1]) (cs' := 0) (ss' := 0) rfl rfl rfl rfl rfl rfl rfl (ro_2602 z) ?_
  refine go_seg 8 (pc' := 24) (ls' := [(0, .ref 90), (1, .int 61), (2, .int 1)]) (st' := [.int 1, .int 0]) (w' := (wd_1594 z)) (cs' := 0) (ss' := 0) ?_ (fun _ _ => rfl)
  refine go_seg 8 (pc' := 42) (ls' := [(3, .int 1), (0, .ref 90), (1, .int 61), (2, .int 1)]) (st' := [.ref 90]) (w' := (wd_1594 z)) (cs' := 0) (ss' := 0) ?_ (fun _ _ => rfl)
  refine go_seg 8 (pc' := 58) (ls' := [(3, .int 1), (0, .ref 90), (1, .int 61), (2, .int 1)]) (st' := [.int 1, .int 135, .ref 91]) (w' := (wd_1594 z)) (cs' := 0) (ss' := 0) ?_ (fun _ _ => rfl)
  exact go_end 3 (fun _ _ => rfl)
theorem lf_2_2605 (a0 : Int32) (a2 : Int32) (a3 : Int32) (a4 : Int32) (a5 : Int32) (h0 : ¬ a2.toInt = 0) : ∃ w', pq_Go 20 pm_law 278 [(3, .int 0), (2, .ref 90), (1, .ref 1), (0, .ref 0)] [] (fw (sz a0 61 a2 a3 a4 a5)) 109 12668 (some (.int 1), w') := by
  refine ⟨(wd_1595 (sz a0 61 a2 a3 a4 a5)), ?_⟩
  refine go_seg 8 (pc' := 286) (ls' := [(3, .int 0), (2, .ref 90), (1, .ref 1), (0, .ref 0)]) (st' := [.int 0, .ref 0, .int 61, .ref 1]) (w' := (fw (sz a0 61 a2 a3 a4 a5))) (cs' := 109) (ss' := 12668) ?_ (fun _ _ => rfl)
  refine go_seg 3 (pc' := 289) (ls' := [(3, .int 0), (2, .ref 90), (1, .ref 1), (0, .ref 0)]) (st' := [.int a2, .int 61, .ref 1]) (w' := (fw (sz a0 61 a2 a3 a4 a5))) (cs' := 109) (ss' := 12668) ?_ (fun _ _ => rfl)
  refine go_if false rfl (br_eq_f (b := 0) rfl (by omega)) ?_
  refine go_seg 2 (pc' := 297) (ls' := [(3, .int 0), (2, .ref 90), (1, .ref 1), (0, .ref 0)]) (st' := [.int 1, .int 61, .ref 1]) (w' := (fw (sz a0 61 a2 a3 a4 a5))) (cs' := 109) (ss' := 12668) ?_ (fun _ _ => rfl)
  refine go_cl (k := 20) (st' := [.int 1]) (cs' := 109) (ss' := 12668) rfl rfl rfl rfl rfl rfl rfl (ro_2600 (sz a0 61 a2 a3 a4 a5)) ?_
  refine go_seg 8 (pc' := 308) (ls' := [(3, .int 0), (2, .ref 90), (1, .ref 1), (0, .ref 0)]) (st' := [.int 0, .ref 0, .int 61, .ref 90, .int 1]) (w' := (wd_1594 (sz a0 61 a2 a3 a4 a5))) (cs' := 109) (ss' := 12668) ?_ (fun _ _ => rfl)
  refine go_seg 3 (pc' := 311) (ls' := [(3, .int 0), (2, .ref 90), (1, .ref 1), (0, .ref 0)]) (st' := [.int a2, .int 61, .ref 90, .int 1]) (w' := (wd_1594 (sz a0 61 a2 a3 a4 a5))) (cs' := 109) (ss' := 12668) ?_ (fun _ _ => rfl)
  refine go_if false rfl (br_eq_f (b := 0) rfl (by omega)) ?_
  refine go_seg 2 (pc' := 319) (ls' := [(3, .int 0), (2, .ref 90), (1, .ref 1), (0, .ref 0)]) (st' := [.int 1, .int 61, .ref 90, .int 1]) (w' := (wd_1594 (sz a0 61 a2 a3 a4 a5))) (cs' := 109) (ss' := 12668) ?_ (fun _ _ => rfl)
  refine go_cl (k := 20) (st' := [.int 1, .int 1]) (cs' := 109) (ss' := 12668) rfl rfl rfl rfl rfl rfl rfl (ro_2603 (sz a0 61 a2 a3 a4 a5)) ?_
  refine go_cmp true rfl (br_self _) ?_
  exact law_tail (f := sc a0 61 a2 a3 a4 a5) rfl
def wd_1596 (z : pq_C) : pq_W := ((fw z).set 4 (.inl (.boolean, 64, .inl (upd (fun _ => 0) 62 1))))
theorem ro_2607 (z : pq_C) : pq_Ru 2 22 [.ref 1, .int 62, .int 1] (fw z) (some (.int 1), (wd_1596 z)) := by
  refine ru_of (k := 1) (M := pm_22) rfl rfl ?_
  refine go_seg 1 (pc' := 1) (ls' := [(0, .ref 1), (1, .int 62), (2, .int 1)]) (st' := [.int 62]) (w' := (fw z)) (cs' := 0) (ss' := 0) ?_ (fun _ _ => rfl)
  refine go_cl (k := 1) (st' := [.int 1]) (cs' := 0) (ss' := 0) rfl rfl rfl rfl rfl rfl rfl (ro_1689 z) ?_
  refine go_seg 8 (pc' := 24) (ls' := [(3, .int 0), (0, .ref 1), (1, .int 62), (2, .int 1)]) (st' := [.ref 1]) (w' := (fw z)) (cs' := 0) (ss' := 0) ?_ (fun _ _ => rfl)
  refine go_seg 8 (pc' := 42) (ls' := [(3, .int 0), (0, .ref 1), (1, .int 62), (2, .int 1)]) (st' := []) (w' := (wd_1596 z)) (cs' := 0) (ss' := 0) ?_ (fun _ _ => rfl)
  exact go_end 2 (fun _ _ => rfl)
theorem ro_2608 (z : pq_C) : pq_Ru 1 161 [.long 62, .long 0, .long 63] (wd_1596 z) (some (.int 1), (wd_1596 z)) := by
  refine ru_of (k := 0) (M := pm_161) rfl rfl ?_
  refine go_seg 8 (pc' := 13) (ls' := [(0, .long 62), (2, .long 0), (4, .long 63)]) (st' := []) (w' := (wd_1596 z)) (cs' := 0) (ss' := 0) ?_ (fun _ _ => rfl)
  exact go_end 3 (fun _ _ => rfl)
theorem ro_2609 (z : pq_C) : pq_Ru 2 160 [.int 62] (wd_1596 z) (some (.int 1), (wd_1596 z)) := by
  refine ru_of (k := 1) (M := pm_160) rfl rfl ?_
  refine go_seg 4 (pc' := 6) (ls' := [(0, .int 62)]) (st' := [.long 63, .long 0, .long 62]) (w' := (wd_1596 z)) (cs' := 0) (ss' := 0) ?_ (fun _ _ => rfl)
  refine go_cl (k := 1) (st' := [.int 1]) (cs' := 0) (ss' := 0) rfl rfl rfl rfl rfl rfl rfl (ro_2608 z) ?_
  exact go_end 1 (fun _ _ => rfl)
def wd_1597 (z : pq_C) : pq_W := ((wd_1596 z).set 91 (.inl (.int, 2858, .inl (upd (upd (upd (upd (upd (upd (upd (upd (upd (upd (upd (upd (upd (upd (upd (upd (upd (upd (upd (upd (upd (upd (upd (upd (upd (upd (upd (upd (upd (upd (upd (upd (upd (upd (upd (upd (upd (upd (upd (upd (upd (upd (upd (upd (upd (upd (upd (upd (upd (upd (upd (upd (upd (upd (upd (upd (upd (upd (upd (upd (upd (upd (upd (upd (upd (upd (upd (upd (upd (upd (upd (upd (upd (upd (upd (upd (upd (upd (upd (upd (upd (upd (fun _ => 0) 1 10) 10 (-1)) 11 (-1)) 12 (-1)) 13 (-1)) 14 (-1)) 15 (-1)) 16 (-1)) 17 (-1)) 18 (-1)) 19 (-1)) 20 (-1)) 21 (-1)) 22 (-1)) 23 (-1)) 24 (-1)) 25 (-1)) 26 (-1)) 27 (-1)) 28 (-1)) 29 (-1)) 30 (-1)) 31 (-1)) 32 (-1)) 33 (-1)) 34 (-1)) 35 (-1)) 36 (-1)) 37 (-1)) 38 (-1)) 39 (-1)) 40 (-1)) 41 (-1)) 42 (-1)) 43 (-1)) 44 (-1)) 45 (-1)) 46 (-1)) 47 (-1)) 48 (-1)) 49 (-1)) 50 (-1)) 51 (-1)) 52 (-1)) 53 (-1)) 54 (-1)) 55 (-1)) 56 (-1)) 57 (-1)) 58 (-1)) 59 (-1)) 60 (-1)) 61 (-1)) 62 (-1)) 63 (-1)) 64 (-1)) 65 (-1)) 66 (-1)) 67 (-1)) 68 (-1)) 69 (-1)) 70 (-1)) 71 (-1)) 72 (-1)) 73 (-1)) 139 1000) 140 100) 145 1000) 146 100) 151 1000) 152 100) 157 1000) 158 100) 163 1000) 164 100) 169 1000) 170 100) 175 1000) 176 100) 181 1000) 182 100) 136 1))))
theorem ro_2610 (z : pq_C) : pq_Ru 3 165 [.ref 90, .int 62, .int 1] (wd_1596 z) (some (.int 1), (wd_1597 z)) := by
  refine ru_of (k := 2) (M := pm_165) rfl rfl ?_
  refine go_seg 1 (pc' := 1) (ls' := [(0, .ref 90), (1, .int 62), (2, .int 1)]) (st' := [.int 62]) (w' := (wd_1596 z)) (cs' := 0) (ss' := 0) ?_ (fun _ _ => rfl)
  refine go_cl (k := 2) (st' := [.int 1]) (cs' := 0) (ss' := 0) rfl rfl rfl rfl rfl rfl rfl (ro_2609 z) ?_
  refine go_seg 8 (pc' := 24) (ls' := [(0, .ref 90), (1, .int 62), (2, .int 1)]) (st' := [.int 1, .int 0]) (w' := (wd_1596 z)) (cs' := 0) (ss' := 0) ?_ (fun _ _ => rfl)
  refine go_seg 8 (pc' := 42) (ls' := [(3, .int 1), (0, .ref 90), (1, .int 62), (2, .int 1)]) (st' := [.ref 90]) (w' := (wd_1596 z)) (cs' := 0) (ss' := 0) ?_ (fun _ _ => rfl)
  refine go_seg 8 (pc' := 58) (ls' := [(3, .int 1), (0, .ref 90), (1, .int 62), (2, .int 1)]) (st' := [.int 1, .int 136, .ref 91]) (w' := (wd_1596 z)) (cs' := 0) (ss' := 0) ?_ (fun _ _ => rfl)
  exact go_end 3 (fun _ _ => rfl)
theorem lf_2_2612 (a0 : Int32) (a2 : Int32) (a3 : Int32) (a4 : Int32) (a5 : Int32) (h0 : ¬ a2.toInt = 0) : ∃ w', pq_Go 20 pm_law 278 [(3, .int 0), (2, .ref 90), (1, .ref 1), (0, .ref 0)] [] (fw (sz a0 62 a2 a3 a4 a5)) 109 12668 (some (.int 1), w') := by
  refine ⟨(wd_1597 (sz a0 62 a2 a3 a4 a5)), ?_⟩
  refine go_seg 8 (pc' := 286) (ls' := [(3, .int 0), (2, .ref 90), (1, .ref 1), (0, .ref 0)]) (st' := [.int 0, .ref 0, .int 62, .ref 1]) (w' := (fw (sz a0 62 a2 a3 a4 a5))) (cs' := 109) (ss' := 12668) ?_ (fun _ _ => rfl)
  refine go_seg 3 (pc' := 289) (ls' := [(3, .int 0), (2, .ref 90), (1, .ref 1), (0, .ref 0)]) (st' := [.int a2, .int 62, .ref 1]) (w' := (fw (sz a0 62 a2 a3 a4 a5))) (cs' := 109) (ss' := 12668) ?_ (fun _ _ => rfl)
  refine go_if false rfl (br_eq_f (b := 0) rfl (by omega)) ?_
  refine go_seg 2 (pc' := 297) (ls' := [(3, .int 0), (2, .ref 90), (1, .ref 1), (0, .ref 0)]) (st' := [.int 1, .int 62, .ref 1]) (w' := (fw (sz a0 62 a2 a3 a4 a5))) (cs' := 109) (ss' := 12668) ?_ (fun _ _ => rfl)
  refine go_cl (k := 20) (st' := [.int 1]) (cs' := 109) (ss' := 12668) rfl rfl rfl rfl rfl rfl rfl (ro_2607 (sz a0 62 a2 a3 a4 a5)) ?_
  refine go_seg 8 (pc' := 308) (ls' := [(3, .int 0), (2, .ref 90), (1, .ref 1), (0, .ref 0)]) (st' := [.int 0, .ref 0, .int 62, .ref 90, .int 1]) (w' := (wd_1596 (sz a0 62 a2 a3 a4 a5))) (cs' := 109) (ss' := 12668) ?_ (fun _ _ => rfl)
  refine go_seg 3 (pc' := 311) (ls' := [(3, .int 0), (2, .ref 90), (1, .ref 1), (0, .ref 0)]) (st' := [.int a2, .int 62, .ref 90, .int 1]) (w' := (wd_1596 (sz a0 62 a2 a3 a4 a5))) (cs' := 109) (ss' := 12668) ?_ (fun _ _ => rfl)
  refine go_if false rfl (br_eq_f (b := 0) rfl (by omega)) ?_
  refine go_seg 2 (pc' := 319) (ls' := [(3, .int 0), (2, .ref 90), (1, .ref 1), (0, .ref 0)]) (st' := [.int 1, .int 62, .ref 90, .int 1]) (w' := (wd_1596 (sz a0 62 a2 a3 a4 a5))) (cs' := 109) (ss' := 12668) ?_ (fun _ _ => rfl)
  refine go_cl (k := 20) (st' := [.int 1, .int 1]) (cs' := 109) (ss' := 12668) rfl rfl rfl rfl rfl rfl rfl (ro_2610 (sz a0 62 a2 a3 a4 a5)) ?_
  refine go_cmp true rfl (br_self _) ?_
  exact law_tail (f := sc a0 62 a2 a3 a4 a5) rfl
def wd_1598 (z : pq_C) : pq_W := ((fw z).set 4 (.inl (.boolean, 64, .inl (upd (fun _ => 0) 63 1))))
theorem ro_2614 (z : pq_C) : pq_Ru 2 22 [.ref 1, .int 63, .int 1] (fw z) (some (.int 1), (wd_1598 z)) := by
  refine ru_of (k := 1) (M := pm_22) rfl rfl ?_
  refine go_seg 1 (pc' := 1) (ls' := [(0, .ref 1), (1, .int 63), (2, .int 1)]) (st' := [.int 63]) (w' := (fw z)) (cs' := 0) (ss' := 0) ?_ (fun _ _ => rfl)
  refine go_cl (k := 1) (st' := [.int 1]) (cs' := 0) (ss' := 0) rfl rfl rfl rfl rfl rfl rfl (ro_1697 z) ?_
  refine go_seg 8 (pc' := 24) (ls' := [(3, .int 0), (0, .ref 1), (1, .int 63), (2, .int 1)]) (st' := [.ref 1]) (w' := (fw z)) (cs' := 0) (ss' := 0) ?_ (fun _ _ => rfl)
  refine go_seg 8 (pc' := 42) (ls' := [(3, .int 0), (0, .ref 1), (1, .int 63), (2, .int 1)]) (st' := []) (w' := (wd_1598 z)) (cs' := 0) (ss' := 0) ?_ (fun _ _ => rfl)
  exact go_end 2 (fun _ _ => rfl)
theorem ro_2615 (z : pq_C) : pq_Ru 1 161 [.long 63, .long 0, .long 63] (wd_1598 z) (some (.int 1), (wd_1598 z)) := by
  refine ru_of (k := 0) (M := pm_161) rfl rfl ?_
  refine go_seg 8 (pc' := 13) (ls' := [(0, .long 63), (2, .long 0), (4, .long 63)]) (st' := []) (w' := (wd_1598 z)) (cs' := 0) (ss' := 0) ?_ (fun _ _ => rfl)
  exact go_end 3 (fun _ _ => rfl)
theorem ro_2616 (z : pq_C) : pq_Ru 2 160 [.int 63] (wd_1598 z) (some (.int 1), (wd_1598 z)) := by
  refine ru_of (k := 1) (M := pm_160) rfl rfl ?_
  refine go_seg 4 (pc' := 6) (ls' := [(0, .int 63)]) (st' := [.long 63, .long 0, .long 63]) (w' := (wd_1598 z)) (cs' := 0) (ss' := 0) ?_ (fun _ _ => rfl)
  refine go_cl (k := 1) (st' := [.int 1]) (cs' := 0) (ss' := 0) rfl rfl rfl rfl rfl rfl rfl (ro_2615 z) ?_
  exact go_end 1 (fun _ _ => rfl)
def wd_1599 (z : pq_C) : pq_W := ((wd_1598 z).set 91 (.inl (.int, 2858, .inl (upd (upd (upd (upd (upd (upd (upd (upd (upd (upd (upd (upd (upd (upd (upd (upd (upd (upd (upd (upd (upd (upd (upd (upd (upd (upd (upd (upd (upd (upd (upd (upd (upd (upd (upd (upd (upd (upd (upd (upd (upd (upd (upd (upd (upd (upd (upd (upd (upd (upd (upd (upd (upd (upd (upd (upd (upd (upd (upd (upd (upd (upd (upd (upd (upd (upd (upd (upd (upd (upd (upd (upd (upd (upd (upd (upd (upd (upd (upd (upd (upd (upd (fun _ => 0) 1 10) 10 (-1)) 11 (-1)) 12 (-1)) 13 (-1)) 14 (-1)) 15 (-1)) 16 (-1)) 17 (-1)) 18 (-1)) 19 (-1)) 20 (-1)) 21 (-1)) 22 (-1)) 23 (-1)) 24 (-1)) 25 (-1)) 26 (-1)) 27 (-1)) 28 (-1)) 29 (-1)) 30 (-1)) 31 (-1)) 32 (-1)) 33 (-1)) 34 (-1)) 35 (-1)) 36 (-1)) 37 (-1)) 38 (-1)) 39 (-1)) 40 (-1)) 41 (-1)) 42 (-1)) 43 (-1)) 44 (-1)) 45 (-1)) 46 (-1)) 47 (-1)) 48 (-1)) 49 (-1)) 50 (-1)) 51 (-1)) 52 (-1)) 53 (-1)) 54 (-1)) 55 (-1)) 56 (-1)) 57 (-1)) 58 (-1)) 59 (-1)) 60 (-1)) 61 (-1)) 62 (-1)) 63 (-1)) 64 (-1)) 65 (-1)) 66 (-1)) 67 (-1)) 68 (-1)) 69 (-1)) 70 (-1)) 71 (-1)) 72 (-1)) 73 (-1)) 139 1000) 140 100) 145 1000) 146 100) 151 1000) 152 100) 157 1000) 158 100) 163 1000) 164 100) 169 1000) 170 100) 175 1000) 176 100) 181 1000) 182 100) 137 1))))
theorem ro_2617 (z : pq_C) : pq_Ru 3 165 [.ref 90, .int 63, .int 1] (wd_1598 z) (some (.int 1), (wd_1599 z)) := by
  refine ru_of (k := 2) (M := pm_165) rfl rfl ?_
  refine go_seg 1 (pc' := 1) (ls' := [(0, .ref 90), (1, .int 63), (2, .int 1)]) (st' := [.int 63]) (w' := (wd_1598 z)) (cs' := 0) (ss' := 0) ?_ (fun _ _ => rfl)
  refine go_cl (k := 2) (st' := [.int 1]) (cs' := 0) (ss' := 0) rfl rfl rfl rfl rfl rfl rfl (ro_2616 z) ?_
  refine go_seg 8 (pc' := 24) (ls' := [(0, .ref 90), (1, .int 63), (2, .int 1)]) (st' := [.int 1, .int 0]) (w' := (wd_1598 z)) (cs' := 0) (ss' := 0) ?_ (fun _ _ => rfl)
  refine go_seg 8 (pc' := 42) (ls' := [(3, .int 1), (0, .ref 90), (1, .int 63), (2, .int 1)]) (st' := [.ref 90]) (w' := (wd_1598 z)) (cs' := 0) (ss' := 0) ?_ (fun _ _ => rfl)
  refine go_seg 8 (pc' := 58) (ls' := [(3, .int 1), (0, .ref 90), (1, .int 63), (2, .int 1)]) (st' := [.int 1, .int 137, .ref 91]) (w' := (wd_1598 z)) (cs' := 0) (ss' := 0) ?_ (fun _ _ => rfl)
  exact go_end 3 (fun _ _ => rfl)
theorem lf_2_2619 (a0 : Int32) (a2 : Int32) (a3 : Int32) (a4 : Int32) (a5 : Int32) (h0 : ¬ a2.toInt = 0) : ∃ w', pq_Go 20 pm_law 278 [(3, .int 0), (2, .ref 90), (1, .ref 1), (0, .ref 0)] [] (fw (sz a0 63 a2 a3 a4 a5)) 109 12668 (some (.int 1), w') := by
  refine ⟨(wd_1599 (sz a0 63 a2 a3 a4 a5)), ?_⟩
  refine go_seg 8 (pc' := 286) (ls' := [(3, .int 0), (2, .ref 90), (1, .ref 1), (0, .ref 0)]) (st' := [.int 0, .ref 0, .int 63, .ref 1]) (w' := (fw (sz a0 63 a2 a3 a4 a5))) (cs' := 109) (ss' := 12668) ?_ (fun _ _ => rfl)
  refine go_seg 3 (pc' := 289) (ls' := [(3, .int 0), (2, .ref 90), (1, .ref 1), (0, .ref 0)]) (st' := [.int a2, .int 63, .ref 1]) (w' := (fw (sz a0 63 a2 a3 a4 a5))) (cs' := 109) (ss' := 12668) ?_ (fun _ _ => rfl)
  refine go_if false rfl (br_eq_f (b := 0) rfl (by omega)) ?_
  refine go_seg 2 (pc' := 297) (ls' := [(3, .int 0), (2, .ref 90), (1, .ref 1), (0, .ref 0)]) (st' := [.int 1, .int 63, .ref 1]) (w' := (fw (sz a0 63 a2 a3 a4 a5))) (cs' := 109) (ss' := 12668) ?_ (fun _ _ => rfl)
  refine go_cl (k := 20) (st' := [.int 1]) (cs' := 109) (ss' := 12668) rfl rfl rfl rfl rfl rfl rfl (ro_2614 (sz a0 63 a2 a3 a4 a5)) ?_
  refine go_seg 8 (pc' := 308) (ls' := [(3, .int 0), (2, .ref 90), (1, .ref 1), (0, .ref 0)]) (st' := [.int 0, .ref 0, .int 63, .ref 90, .int 1]) (w' := (wd_1598 (sz a0 63 a2 a3 a4 a5))) (cs' := 109) (ss' := 12668) ?_ (fun _ _ => rfl)
  refine go_seg 3 (pc' := 311) (ls' := [(3, .int 0), (2, .ref 90), (1, .ref 1), (0, .ref 0)]) (st' := [.int a2, .int 63, .ref 90, .int 1]) (w' := (wd_1598 (sz a0 63 a2 a3 a4 a5))) (cs' := 109) (ss' := 12668) ?_ (fun _ _ => rfl)
  refine go_if false rfl (br_eq_f (b := 0) rfl (by omega)) ?_
  refine go_seg 2 (pc' := 319) (ls' := [(3, .int 0), (2, .ref 90), (1, .ref 1), (0, .ref 0)]) (st' := [.int 1, .int 63, .ref 90, .int 1]) (w' := (wd_1598 (sz a0 63 a2 a3 a4 a5))) (cs' := 109) (ss' := 12668) ?_ (fun _ _ => rfl)
  refine go_cl (k := 20) (st' := [.int 1, .int 1]) (cs' := 109) (ss' := 12668) rfl rfl rfl rfl rfl rfl rfl (ro_2617 (sz a0 63 a2 a3 a4 a5)) ?_
  refine go_cmp true rfl (br_self _) ?_
  exact law_tail (f := sc a0 63 a2 a3 a4 a5) rfl
theorem ro_2620 (z : pq_C) (a1 : Int32) (h0 : 0 ≤ a1.toInt) (h1 : 64 ≤ a1.toInt) : pq_Ru 3 22 [.ref 1, .int a1, .int 1] (fw z) (some (.int (-1000001)), (wd_1000 z)) := by
  refine ru_of (k := 2) (M := pm_22) rfl rfl ?_
  refine go_seg 1 (pc' := 1) (ls' := [(0, .ref 1), (1, .int a1), (2, .int 1)]) (st' := [.int a1]) (w' := (fw z)) (cs' := 0) (ss' := 0) ?_ (fun _ _ => rfl)
  refine go_cl (k := 2) (st' := [.int 0]) (cs' := 0) (ss' := 0) rfl rfl rfl rfl rfl rfl rfl (ro_1709 z a1 (by omega) (by omega)) ?_
  refine go_seg 3 (pc' := 9) (ls' := [(0, .ref 1), (1, .int a1), (2, .int 1)]) (st' := [.int 1, .ref 1]) (w' := (fw z)) (cs' := 0) (ss' := 0) ?_ (fun _ _ => rfl)
  refine go_cl (k := 2) (st' := [.int (-1000001)]) (cs' := 0) (ss' := 0) rfl rfl rfl rfl rfl rfl rfl (ro_2 z) ?_
  exact go_end 1 (fun _ _ => rfl)
theorem ro_2621 (z : pq_C) (a1 : Int32) (h0 : 0 ≤ a1.toInt) (h1 : 64 ≤ a1.toInt) : pq_Ru 3 165 [.ref 90, .int a1, .int 1] (wd_1000 z) (some (.int (-1000001)), (wd_1001 z)) := by
  refine ru_of (k := 2) (M := pm_165) rfl rfl ?_
  refine go_seg 1 (pc' := 1) (ls' := [(0, .ref 90), (1, .int a1), (2, .int 1)]) (st' := [.int a1]) (w' := (wd_1000 z)) (cs' := 0) (ss' := 0) ?_ (fun _ _ => rfl)
  refine go_cl (k := 2) (st' := [.int 0]) (cs' := 0) (ss' := 0) rfl rfl rfl rfl rfl rfl rfl (ro_1711 z a1 (by omega) (by omega)) ?_
  refine go_seg 3 (pc' := 10) (ls' := [(0, .ref 90), (1, .int a1), (2, .int 1)]) (st' := [.int (-1000001), .ref 90]) (w' := (wd_1000 z)) (cs' := 0) (ss' := 0) ?_ (fun _ _ => rfl)
  refine go_cl (k := 2) (st' := [.int (-1000001)]) (cs' := 0) (ss' := 0) rfl rfl rfl rfl rfl rfl rfl (ro_5 z) ?_
  exact go_end 1 (fun _ _ => rfl)
theorem lf_2_2622 (a0 : Int32) (a1 : Int32) (a2 : Int32) (a3 : Int32) (a4 : Int32) (a5 : Int32) (h0 : ¬ a2.toInt = 0) (h1 : 0 ≤ a1.toInt) (h2 : 64 ≤ a1.toInt) : ∃ w', pq_Go 20 pm_law 278 [(3, .int 0), (2, .ref 90), (1, .ref 1), (0, .ref 0)] [] (fw (sz a0 a1 a2 a3 a4 a5)) 109 12668 (some (.int 1), w') := by
  refine ⟨(wd_1001 (sz a0 a1 a2 a3 a4 a5)), ?_⟩
  refine go_seg 8 (pc' := 286) (ls' := [(3, .int 0), (2, .ref 90), (1, .ref 1), (0, .ref 0)]) (st' := [.int 0, .ref 0, .int a1, .ref 1]) (w' := (fw (sz a0 a1 a2 a3 a4 a5))) (cs' := 109) (ss' := 12668) ?_ (fun _ _ => rfl)
  refine go_seg 3 (pc' := 289) (ls' := [(3, .int 0), (2, .ref 90), (1, .ref 1), (0, .ref 0)]) (st' := [.int a2, .int a1, .ref 1]) (w' := (fw (sz a0 a1 a2 a3 a4 a5))) (cs' := 109) (ss' := 12668) ?_ (fun _ _ => rfl)
  refine go_if false rfl (br_eq_f (b := 0) rfl (by omega)) ?_
  refine go_seg 2 (pc' := 297) (ls' := [(3, .int 0), (2, .ref 90), (1, .ref 1), (0, .ref 0)]) (st' := [.int 1, .int a1, .ref 1]) (w' := (fw (sz a0 a1 a2 a3 a4 a5))) (cs' := 109) (ss' := 12668) ?_ (fun _ _ => rfl)
  refine go_cl (k := 20) (st' := [.int (-1000001)]) (cs' := 109) (ss' := 12668) rfl rfl rfl rfl rfl rfl rfl (ro_2620 (sz a0 a1 a2 a3 a4 a5) a1 (by omega) (by omega)) ?_
  refine go_seg 8 (pc' := 308) (ls' := [(3, .int 0), (2, .ref 90), (1, .ref 1), (0, .ref 0)]) (st' := [.int 0, .ref 0, .int a1, .ref 90, .int (-1000001)]) (w' := (wd_1000 (sz a0 a1 a2 a3 a4 a5))) (cs' := 109) (ss' := 12668) ?_ (fun _ _ => rfl)
  refine go_seg 3 (pc' := 311) (ls' := [(3, .int 0), (2, .ref 90), (1, .ref 1), (0, .ref 0)]) (st' := [.int a2, .int a1, .ref 90, .int (-1000001)]) (w' := (wd_1000 (sz a0 a1 a2 a3 a4 a5))) (cs' := 109) (ss' := 12668) ?_ (fun _ _ => rfl)
  refine go_if false rfl (br_eq_f (b := 0) rfl (by omega)) ?_
  refine go_seg 2 (pc' := 319) (ls' := [(3, .int 0), (2, .ref 90), (1, .ref 1), (0, .ref 0)]) (st' := [.int 1, .int a1, .ref 90, .int (-1000001)]) (w' := (wd_1000 (sz a0 a1 a2 a3 a4 a5))) (cs' := 109) (ss' := 12668) ?_ (fun _ _ => rfl)
  refine go_cl (k := 20) (st' := [.int (-1000001), .int (-1000001)]) (cs' := 109) (ss' := 12668) rfl rfl rfl rfl rfl rfl rfl (ro_2621 (sz a0 a1 a2 a3 a4 a5) a1 (by omega) (by omega)) ?_
  refine go_cmp true rfl (br_self _) ?_
  exact law_tail (f := sc a0 a1 a2 a3 a4 a5) rfl
theorem op_2 (a0 a1 a2 a3 a4 a5 : Int32) : ∃ w', pq_Go 20 pm_law 278 [(3, .int 0), (2, .ref 90), (1, .ref 1), (0, .ref 0)] [] (fw (sz a0 a1 a2 a3 a4 a5)) 109 12668 (some (.int 1), w') := by
  by_cases c0 : a2 = 0
  · subst c0
    by_cases c1 : a1.toInt < 0
    · exact lf_2_1717 a0 a1 a3 a4 a5 (by omega)
    · by_cases c2 : a1.toInt < 64
      · by_cases e3_0 : a1 = 0
        · subst e3_0
          exact lf_2_1724 a0 a3 a4 a5
        replace e3_0 := ne_t (b := 0) rfl e3_0
        by_cases e3_1 : a1 = 1
        · subst e3_1
          exact lf_2_1731 a0 a3 a4 a5
        replace e3_1 := ne_t (b := 1) rfl e3_1
        by_cases e3_2 : a1 = 2
        · subst e3_2
          exact lf_2_1738 a0 a3 a4 a5
        replace e3_2 := ne_t (b := 2) rfl e3_2
        by_cases e3_3 : a1 = 3
        · subst e3_3
          exact lf_2_1745 a0 a3 a4 a5
        replace e3_3 := ne_t (b := 3) rfl e3_3
        by_cases e3_4 : a1 = 4
        · subst e3_4
          exact lf_2_1752 a0 a3 a4 a5
        replace e3_4 := ne_t (b := 4) rfl e3_4
        by_cases e3_5 : a1 = 5
        · subst e3_5
          exact lf_2_1759 a0 a3 a4 a5
        replace e3_5 := ne_t (b := 5) rfl e3_5
        by_cases e3_6 : a1 = 6
        · subst e3_6
          exact lf_2_1766 a0 a3 a4 a5
        replace e3_6 := ne_t (b := 6) rfl e3_6
        by_cases e3_7 : a1 = 7
        · subst e3_7
          exact lf_2_1773 a0 a3 a4 a5
        replace e3_7 := ne_t (b := 7) rfl e3_7
        by_cases e3_8 : a1 = 8
        · subst e3_8
          exact lf_2_1780 a0 a3 a4 a5
        replace e3_8 := ne_t (b := 8) rfl e3_8
        by_cases e3_9 : a1 = 9
        · subst e3_9
          exact lf_2_1787 a0 a3 a4 a5
        replace e3_9 := ne_t (b := 9) rfl e3_9
        by_cases e3_10 : a1 = 10
        · subst e3_10
          exact lf_2_1794 a0 a3 a4 a5
        replace e3_10 := ne_t (b := 10) rfl e3_10
        by_cases e3_11 : a1 = 11
        · subst e3_11
          exact lf_2_1801 a0 a3 a4 a5
        replace e3_11 := ne_t (b := 11) rfl e3_11
        by_cases e3_12 : a1 = 12
        · subst e3_12
          exact lf_2_1808 a0 a3 a4 a5
        replace e3_12 := ne_t (b := 12) rfl e3_12
        by_cases e3_13 : a1 = 13
        · subst e3_13
          exact lf_2_1815 a0 a3 a4 a5
        replace e3_13 := ne_t (b := 13) rfl e3_13
        by_cases e3_14 : a1 = 14
        · subst e3_14
          exact lf_2_1822 a0 a3 a4 a5
        replace e3_14 := ne_t (b := 14) rfl e3_14
        by_cases e3_15 : a1 = 15
        · subst e3_15
          exact lf_2_1829 a0 a3 a4 a5
        replace e3_15 := ne_t (b := 15) rfl e3_15
        by_cases e3_16 : a1 = 16
        · subst e3_16
          exact lf_2_1836 a0 a3 a4 a5
        replace e3_16 := ne_t (b := 16) rfl e3_16
        by_cases e3_17 : a1 = 17
        · subst e3_17
          exact lf_2_1843 a0 a3 a4 a5
        replace e3_17 := ne_t (b := 17) rfl e3_17
        by_cases e3_18 : a1 = 18
        · subst e3_18
          exact lf_2_1850 a0 a3 a4 a5
        replace e3_18 := ne_t (b := 18) rfl e3_18
        by_cases e3_19 : a1 = 19
        · subst e3_19
          exact lf_2_1857 a0 a3 a4 a5
        replace e3_19 := ne_t (b := 19) rfl e3_19
        by_cases e3_20 : a1 = 20
        · subst e3_20
          exact lf_2_1864 a0 a3 a4 a5
        replace e3_20 := ne_t (b := 20) rfl e3_20
        by_cases e3_21 : a1 = 21
        · subst e3_21
          exact lf_2_1871 a0 a3 a4 a5
        replace e3_21 := ne_t (b := 21) rfl e3_21
        by_cases e3_22 : a1 = 22
        · subst e3_22
          exact lf_2_1878 a0 a3 a4 a5
        replace e3_22 := ne_t (b := 22) rfl e3_22
        by_cases e3_23 : a1 = 23
        · subst e3_23
          exact lf_2_1885 a0 a3 a4 a5
        replace e3_23 := ne_t (b := 23) rfl e3_23
        by_cases e3_24 : a1 = 24
        · subst e3_24
          exact lf_2_1892 a0 a3 a4 a5
        replace e3_24 := ne_t (b := 24) rfl e3_24
        by_cases e3_25 : a1 = 25
        · subst e3_25
          exact lf_2_1899 a0 a3 a4 a5
        replace e3_25 := ne_t (b := 25) rfl e3_25
        by_cases e3_26 : a1 = 26
        · subst e3_26
          exact lf_2_1906 a0 a3 a4 a5
        replace e3_26 := ne_t (b := 26) rfl e3_26
        by_cases e3_27 : a1 = 27
        · subst e3_27
          exact lf_2_1913 a0 a3 a4 a5
        replace e3_27 := ne_t (b := 27) rfl e3_27
        by_cases e3_28 : a1 = 28
        · subst e3_28
          exact lf_2_1920 a0 a3 a4 a5
        replace e3_28 := ne_t (b := 28) rfl e3_28
        by_cases e3_29 : a1 = 29
        · subst e3_29
          exact lf_2_1927 a0 a3 a4 a5
        replace e3_29 := ne_t (b := 29) rfl e3_29
        by_cases e3_30 : a1 = 30
        · subst e3_30
          exact lf_2_1934 a0 a3 a4 a5
        replace e3_30 := ne_t (b := 30) rfl e3_30
        by_cases e3_31 : a1 = 31
        · subst e3_31
          exact lf_2_1941 a0 a3 a4 a5
        replace e3_31 := ne_t (b := 31) rfl e3_31
        by_cases e3_32 : a1 = 32
        · subst e3_32
          exact lf_2_1948 a0 a3 a4 a5
        replace e3_32 := ne_t (b := 32) rfl e3_32
        by_cases e3_33 : a1 = 33
        · subst e3_33
          exact lf_2_1955 a0 a3 a4 a5
        replace e3_33 := ne_t (b := 33) rfl e3_33
        by_cases e3_34 : a1 = 34
        · subst e3_34
          exact lf_2_1962 a0 a3 a4 a5
        replace e3_34 := ne_t (b := 34) rfl e3_34
        by_cases e3_35 : a1 = 35
        · subst e3_35
          exact lf_2_1969 a0 a3 a4 a5
        replace e3_35 := ne_t (b := 35) rfl e3_35
        by_cases e3_36 : a1 = 36
        · subst e3_36
          exact lf_2_1976 a0 a3 a4 a5
        replace e3_36 := ne_t (b := 36) rfl e3_36
        by_cases e3_37 : a1 = 37
        · subst e3_37
          exact lf_2_1983 a0 a3 a4 a5
        replace e3_37 := ne_t (b := 37) rfl e3_37
        by_cases e3_38 : a1 = 38
        · subst e3_38
          exact lf_2_1990 a0 a3 a4 a5
        replace e3_38 := ne_t (b := 38) rfl e3_38
        by_cases e3_39 : a1 = 39
        · subst e3_39
          exact lf_2_1997 a0 a3 a4 a5
        replace e3_39 := ne_t (b := 39) rfl e3_39
        by_cases e3_40 : a1 = 40
        · subst e3_40
          exact lf_2_2004 a0 a3 a4 a5
        replace e3_40 := ne_t (b := 40) rfl e3_40
        by_cases e3_41 : a1 = 41
        · subst e3_41
          exact lf_2_2011 a0 a3 a4 a5
        replace e3_41 := ne_t (b := 41) rfl e3_41
        by_cases e3_42 : a1 = 42
        · subst e3_42
          exact lf_2_2018 a0 a3 a4 a5
        replace e3_42 := ne_t (b := 42) rfl e3_42
        by_cases e3_43 : a1 = 43
        · subst e3_43
          exact lf_2_2025 a0 a3 a4 a5
        replace e3_43 := ne_t (b := 43) rfl e3_43
        by_cases e3_44 : a1 = 44
        · subst e3_44
          exact lf_2_2032 a0 a3 a4 a5
        replace e3_44 := ne_t (b := 44) rfl e3_44
        by_cases e3_45 : a1 = 45
        · subst e3_45
          exact lf_2_2039 a0 a3 a4 a5
        replace e3_45 := ne_t (b := 45) rfl e3_45
        by_cases e3_46 : a1 = 46
        · subst e3_46
          exact lf_2_2046 a0 a3 a4 a5
        replace e3_46 := ne_t (b := 46) rfl e3_46
        by_cases e3_47 : a1 = 47
        · subst e3_47
          exact lf_2_2053 a0 a3 a4 a5
        replace e3_47 := ne_t (b := 47) rfl e3_47
        by_cases e3_48 : a1 = 48
        · subst e3_48
          exact lf_2_2060 a0 a3 a4 a5
        replace e3_48 := ne_t (b := 48) rfl e3_48
        by_cases e3_49 : a1 = 49
        · subst e3_49
          exact lf_2_2067 a0 a3 a4 a5
        replace e3_49 := ne_t (b := 49) rfl e3_49
        by_cases e3_50 : a1 = 50
        · subst e3_50
          exact lf_2_2074 a0 a3 a4 a5
        replace e3_50 := ne_t (b := 50) rfl e3_50
        by_cases e3_51 : a1 = 51
        · subst e3_51
          exact lf_2_2081 a0 a3 a4 a5
        replace e3_51 := ne_t (b := 51) rfl e3_51
        by_cases e3_52 : a1 = 52
        · subst e3_52
          exact lf_2_2088 a0 a3 a4 a5
        replace e3_52 := ne_t (b := 52) rfl e3_52
        by_cases e3_53 : a1 = 53
        · subst e3_53
          exact lf_2_2095 a0 a3 a4 a5
        replace e3_53 := ne_t (b := 53) rfl e3_53
        by_cases e3_54 : a1 = 54
        · subst e3_54
          exact lf_2_2102 a0 a3 a4 a5
        replace e3_54 := ne_t (b := 54) rfl e3_54
        by_cases e3_55 : a1 = 55
        · subst e3_55
          exact lf_2_2109 a0 a3 a4 a5
        replace e3_55 := ne_t (b := 55) rfl e3_55
        by_cases e3_56 : a1 = 56
        · subst e3_56
          exact lf_2_2116 a0 a3 a4 a5
        replace e3_56 := ne_t (b := 56) rfl e3_56
        by_cases e3_57 : a1 = 57
        · subst e3_57
          exact lf_2_2123 a0 a3 a4 a5
        replace e3_57 := ne_t (b := 57) rfl e3_57
        by_cases e3_58 : a1 = 58
        · subst e3_58
          exact lf_2_2130 a0 a3 a4 a5
        replace e3_58 := ne_t (b := 58) rfl e3_58
        by_cases e3_59 : a1 = 59
        · subst e3_59
          exact lf_2_2137 a0 a3 a4 a5
        replace e3_59 := ne_t (b := 59) rfl e3_59
        by_cases e3_60 : a1 = 60
        · subst e3_60
          exact lf_2_2144 a0 a3 a4 a5
        replace e3_60 := ne_t (b := 60) rfl e3_60
        by_cases e3_61 : a1 = 61
        · subst e3_61
          exact lf_2_2151 a0 a3 a4 a5
        replace e3_61 := ne_t (b := 61) rfl e3_61
        by_cases e3_62 : a1 = 62
        · subst e3_62
          exact lf_2_2158 a0 a3 a4 a5
        replace e3_62 := ne_t (b := 62) rfl e3_62
        by_cases e3_63 : a1 = 63
        · subst e3_63
          exact lf_2_2165 a0 a3 a4 a5
        replace e3_63 := ne_t (b := 63) rfl e3_63
        exfalso
        omega
      · exact lf_2_2168 a0 a1 a3 a4 a5 (by omega) (by omega)
  · have c0 := ne_t (b := 0) rfl c0
    by_cases c1 : a1.toInt < 0
    · exact lf_2_2171 a0 a1 a2 a3 a4 a5 (by omega) (by omega)
    · by_cases c2 : a1.toInt < 64
      · by_cases e3_0 : a1 = 0
        · subst e3_0
          exact lf_2_2178 a0 a2 a3 a4 a5 (by omega)
        replace e3_0 := ne_t (b := 0) rfl e3_0
        by_cases e3_1 : a1 = 1
        · subst e3_1
          exact lf_2_2185 a0 a2 a3 a4 a5 (by omega)
        replace e3_1 := ne_t (b := 1) rfl e3_1
        by_cases e3_2 : a1 = 2
        · subst e3_2
          exact lf_2_2192 a0 a2 a3 a4 a5 (by omega)
        replace e3_2 := ne_t (b := 2) rfl e3_2
        by_cases e3_3 : a1 = 3
        · subst e3_3
          exact lf_2_2199 a0 a2 a3 a4 a5 (by omega)
        replace e3_3 := ne_t (b := 3) rfl e3_3
        by_cases e3_4 : a1 = 4
        · subst e3_4
          exact lf_2_2206 a0 a2 a3 a4 a5 (by omega)
        replace e3_4 := ne_t (b := 4) rfl e3_4
        by_cases e3_5 : a1 = 5
        · subst e3_5
          exact lf_2_2213 a0 a2 a3 a4 a5 (by omega)
        replace e3_5 := ne_t (b := 5) rfl e3_5
        by_cases e3_6 : a1 = 6
        · subst e3_6
          exact lf_2_2220 a0 a2 a3 a4 a5 (by omega)
        replace e3_6 := ne_t (b := 6) rfl e3_6
        by_cases e3_7 : a1 = 7
        · subst e3_7
          exact lf_2_2227 a0 a2 a3 a4 a5 (by omega)
        replace e3_7 := ne_t (b := 7) rfl e3_7
        by_cases e3_8 : a1 = 8
        · subst e3_8
          exact lf_2_2234 a0 a2 a3 a4 a5 (by omega)
        replace e3_8 := ne_t (b := 8) rfl e3_8
        by_cases e3_9 : a1 = 9
        · subst e3_9
          exact lf_2_2241 a0 a2 a3 a4 a5 (by omega)
        replace e3_9 := ne_t (b := 9) rfl e3_9
        by_cases e3_10 : a1 = 10
        · subst e3_10
          exact lf_2_2248 a0 a2 a3 a4 a5 (by omega)
        replace e3_10 := ne_t (b := 10) rfl e3_10
        by_cases e3_11 : a1 = 11
        · subst e3_11
          exact lf_2_2255 a0 a2 a3 a4 a5 (by omega)
        replace e3_11 := ne_t (b := 11) rfl e3_11
        by_cases e3_12 : a1 = 12
        · subst e3_12
          exact lf_2_2262 a0 a2 a3 a4 a5 (by omega)
        replace e3_12 := ne_t (b := 12) rfl e3_12
        by_cases e3_13 : a1 = 13
        · subst e3_13
          exact lf_2_2269 a0 a2 a3 a4 a5 (by omega)
        replace e3_13 := ne_t (b := 13) rfl e3_13
        by_cases e3_14 : a1 = 14
        · subst e3_14
          exact lf_2_2276 a0 a2 a3 a4 a5 (by omega)
        replace e3_14 := ne_t (b := 14) rfl e3_14
        by_cases e3_15 : a1 = 15
        · subst e3_15
          exact lf_2_2283 a0 a2 a3 a4 a5 (by omega)
        replace e3_15 := ne_t (b := 15) rfl e3_15
        by_cases e3_16 : a1 = 16
        · subst e3_16
          exact lf_2_2290 a0 a2 a3 a4 a5 (by omega)
        replace e3_16 := ne_t (b := 16) rfl e3_16
        by_cases e3_17 : a1 = 17
        · subst e3_17
          exact lf_2_2297 a0 a2 a3 a4 a5 (by omega)
        replace e3_17 := ne_t (b := 17) rfl e3_17
        by_cases e3_18 : a1 = 18
        · subst e3_18
          exact lf_2_2304 a0 a2 a3 a4 a5 (by omega)
        replace e3_18 := ne_t (b := 18) rfl e3_18
        by_cases e3_19 : a1 = 19
        · subst e3_19
          exact lf_2_2311 a0 a2 a3 a4 a5 (by omega)
        replace e3_19 := ne_t (b := 19) rfl e3_19
        by_cases e3_20 : a1 = 20
        · subst e3_20
          exact lf_2_2318 a0 a2 a3 a4 a5 (by omega)
        replace e3_20 := ne_t (b := 20) rfl e3_20
        by_cases e3_21 : a1 = 21
        · subst e3_21
          exact lf_2_2325 a0 a2 a3 a4 a5 (by omega)
        replace e3_21 := ne_t (b := 21) rfl e3_21
        by_cases e3_22 : a1 = 22
        · subst e3_22
          exact lf_2_2332 a0 a2 a3 a4 a5 (by omega)
        replace e3_22 := ne_t (b := 22) rfl e3_22
        by_cases e3_23 : a1 = 23
        · subst e3_23
          exact lf_2_2339 a0 a2 a3 a4 a5 (by omega)
        replace e3_23 := ne_t (b := 23) rfl e3_23
        by_cases e3_24 : a1 = 24
        · subst e3_24
          exact lf_2_2346 a0 a2 a3 a4 a5 (by omega)
        replace e3_24 := ne_t (b := 24) rfl e3_24
        by_cases e3_25 : a1 = 25
        · subst e3_25
          exact lf_2_2353 a0 a2 a3 a4 a5 (by omega)
        replace e3_25 := ne_t (b := 25) rfl e3_25
        by_cases e3_26 : a1 = 26
        · subst e3_26
          exact lf_2_2360 a0 a2 a3 a4 a5 (by omega)
        replace e3_26 := ne_t (b := 26) rfl e3_26
        by_cases e3_27 : a1 = 27
        · subst e3_27
          exact lf_2_2367 a0 a2 a3 a4 a5 (by omega)
        replace e3_27 := ne_t (b := 27) rfl e3_27
        by_cases e3_28 : a1 = 28
        · subst e3_28
          exact lf_2_2374 a0 a2 a3 a4 a5 (by omega)
        replace e3_28 := ne_t (b := 28) rfl e3_28
        by_cases e3_29 : a1 = 29
        · subst e3_29
          exact lf_2_2381 a0 a2 a3 a4 a5 (by omega)
        replace e3_29 := ne_t (b := 29) rfl e3_29
        by_cases e3_30 : a1 = 30
        · subst e3_30
          exact lf_2_2388 a0 a2 a3 a4 a5 (by omega)
        replace e3_30 := ne_t (b := 30) rfl e3_30
        by_cases e3_31 : a1 = 31
        · subst e3_31
          exact lf_2_2395 a0 a2 a3 a4 a5 (by omega)
        replace e3_31 := ne_t (b := 31) rfl e3_31
        by_cases e3_32 : a1 = 32
        · subst e3_32
          exact lf_2_2402 a0 a2 a3 a4 a5 (by omega)
        replace e3_32 := ne_t (b := 32) rfl e3_32
        by_cases e3_33 : a1 = 33
        · subst e3_33
          exact lf_2_2409 a0 a2 a3 a4 a5 (by omega)
        replace e3_33 := ne_t (b := 33) rfl e3_33
        by_cases e3_34 : a1 = 34
        · subst e3_34
          exact lf_2_2416 a0 a2 a3 a4 a5 (by omega)
        replace e3_34 := ne_t (b := 34) rfl e3_34
        by_cases e3_35 : a1 = 35
        · subst e3_35
          exact lf_2_2423 a0 a2 a3 a4 a5 (by omega)
        replace e3_35 := ne_t (b := 35) rfl e3_35
        by_cases e3_36 : a1 = 36
        · subst e3_36
          exact lf_2_2430 a0 a2 a3 a4 a5 (by omega)
        replace e3_36 := ne_t (b := 36) rfl e3_36
        by_cases e3_37 : a1 = 37
        · subst e3_37
          exact lf_2_2437 a0 a2 a3 a4 a5 (by omega)
        replace e3_37 := ne_t (b := 37) rfl e3_37
        by_cases e3_38 : a1 = 38
        · subst e3_38
          exact lf_2_2444 a0 a2 a3 a4 a5 (by omega)
        replace e3_38 := ne_t (b := 38) rfl e3_38
        by_cases e3_39 : a1 = 39
        · subst e3_39
          exact lf_2_2451 a0 a2 a3 a4 a5 (by omega)
        replace e3_39 := ne_t (b := 39) rfl e3_39
        by_cases e3_40 : a1 = 40
        · subst e3_40
          exact lf_2_2458 a0 a2 a3 a4 a5 (by omega)
        replace e3_40 := ne_t (b := 40) rfl e3_40
        by_cases e3_41 : a1 = 41
        · subst e3_41
          exact lf_2_2465 a0 a2 a3 a4 a5 (by omega)
        replace e3_41 := ne_t (b := 41) rfl e3_41
        by_cases e3_42 : a1 = 42
        · subst e3_42
          exact lf_2_2472 a0 a2 a3 a4 a5 (by omega)
        replace e3_42 := ne_t (b := 42) rfl e3_42
        by_cases e3_43 : a1 = 43
        · subst e3_43
          exact lf_2_2479 a0 a2 a3 a4 a5 (by omega)
        replace e3_43 := ne_t (b := 43) rfl e3_43
        by_cases e3_44 : a1 = 44
        · subst e3_44
          exact lf_2_2486 a0 a2 a3 a4 a5 (by omega)
        replace e3_44 := ne_t (b := 44) rfl e3_44
        by_cases e3_45 : a1 = 45
        · subst e3_45
          exact lf_2_2493 a0 a2 a3 a4 a5 (by omega)
        replace e3_45 := ne_t (b := 45) rfl e3_45
        by_cases e3_46 : a1 = 46
        · subst e3_46
          exact lf_2_2500 a0 a2 a3 a4 a5 (by omega)
        replace e3_46 := ne_t (b := 46) rfl e3_46
        by_cases e3_47 : a1 = 47
        · subst e3_47
          exact lf_2_2507 a0 a2 a3 a4 a5 (by omega)
        replace e3_47 := ne_t (b := 47) rfl e3_47
        by_cases e3_48 : a1 = 48
        · subst e3_48
          exact lf_2_2514 a0 a2 a3 a4 a5 (by omega)
        replace e3_48 := ne_t (b := 48) rfl e3_48
        by_cases e3_49 : a1 = 49
        · subst e3_49
          exact lf_2_2521 a0 a2 a3 a4 a5 (by omega)
        replace e3_49 := ne_t (b := 49) rfl e3_49
        by_cases e3_50 : a1 = 50
        · subst e3_50
          exact lf_2_2528 a0 a2 a3 a4 a5 (by omega)
        replace e3_50 := ne_t (b := 50) rfl e3_50
        by_cases e3_51 : a1 = 51
        · subst e3_51
          exact lf_2_2535 a0 a2 a3 a4 a5 (by omega)
        replace e3_51 := ne_t (b := 51) rfl e3_51
        by_cases e3_52 : a1 = 52
        · subst e3_52
          exact lf_2_2542 a0 a2 a3 a4 a5 (by omega)
        replace e3_52 := ne_t (b := 52) rfl e3_52
        by_cases e3_53 : a1 = 53
        · subst e3_53
          exact lf_2_2549 a0 a2 a3 a4 a5 (by omega)
        replace e3_53 := ne_t (b := 53) rfl e3_53
        by_cases e3_54 : a1 = 54
        · subst e3_54
          exact lf_2_2556 a0 a2 a3 a4 a5 (by omega)
        replace e3_54 := ne_t (b := 54) rfl e3_54
        by_cases e3_55 : a1 = 55
        · subst e3_55
          exact lf_2_2563 a0 a2 a3 a4 a5 (by omega)
        replace e3_55 := ne_t (b := 55) rfl e3_55
        by_cases e3_56 : a1 = 56
        · subst e3_56
          exact lf_2_2570 a0 a2 a3 a4 a5 (by omega)
        replace e3_56 := ne_t (b := 56) rfl e3_56
        by_cases e3_57 : a1 = 57
        · subst e3_57
          exact lf_2_2577 a0 a2 a3 a4 a5 (by omega)
        replace e3_57 := ne_t (b := 57) rfl e3_57
        by_cases e3_58 : a1 = 58
        · subst e3_58
          exact lf_2_2584 a0 a2 a3 a4 a5 (by omega)
        replace e3_58 := ne_t (b := 58) rfl e3_58
        by_cases e3_59 : a1 = 59
        · subst e3_59
          exact lf_2_2591 a0 a2 a3 a4 a5 (by omega)
        replace e3_59 := ne_t (b := 59) rfl e3_59
        by_cases e3_60 : a1 = 60
        · subst e3_60
          exact lf_2_2598 a0 a2 a3 a4 a5 (by omega)
        replace e3_60 := ne_t (b := 60) rfl e3_60
        by_cases e3_61 : a1 = 61
        · subst e3_61
          exact lf_2_2605 a0 a2 a3 a4 a5 (by omega)
        replace e3_61 := ne_t (b := 61) rfl e3_61
        by_cases e3_62 : a1 = 62
        · subst e3_62
          exact lf_2_2612 a0 a2 a3 a4 a5 (by omega)
        replace e3_62 := ne_t (b := 62) rfl e3_62
        by_cases e3_63 : a1 = 63
        · subst e3_63
          exact lf_2_2619 a0 a2 a3 a4 a5 (by omega)
        replace e3_63 := ne_t (b := 63) rfl e3_63
        exfalso
        omega
      · exact lf_2_2622 a0 a1 a2 a3 a4 a5 (by omega) (by omega) (by omega)
