theorem ro_1181 (z : pq_C) (a1 : Int32) (h0 : a1.toInt < 0) : pq_Ru 1 13 [.int a1] (fw z) (some (.int 0), (fw z)) := by
  refine ru_of (k := 0) (M := pm_13) rfl rfl ?_
  refine go_seg 1 (pc' := 1) (ls' := [(0, .int a1)]) (st' := [.int a1]) (w' := (fw z)) (cs' := 0) (ss' := 0) ?_ (fun _ _ => rfl)
  refine go_if true rfl (br_lt_t (b := 0) rfl (by omega)) ?_
  exact go_end 2 (fun _ _ => rfl)
theorem ro_1182 (z : pq_C) (a1 : Int32) (a2 : Int32) (h0 : a1.toInt < 0) : pq_Ru 3 12 [.ref 1, .int a1, .int a2] (fw z) (some (.int (-1000001)), (wd_1000 z)) := by
  refine ru_of (k := 2) (M := pm_12) rfl rfl ?_
  refine go_seg 1 (pc' := 1) (ls' := [(0, .ref 1), (1, .int a1), (2, .int a2)]) (st' := [.int a1]) (w' := (fw z)) (cs' := 0) (ss' := 0) ?_ (fun _ _ => rfl)
  refine go_cl (k := 2) (st' := [.int 0]) (cs' := 0) (ss' := 0) rfl rfl rfl rfl rfl rfl rfl (ro_1181 z a1 (by omega)) ?_
  refine go_seg 3 (pc' := 16) (ls' := [(0, .ref 1), (1, .int a1), (2, .int a2)]) (st' := [.int 1, .ref 1]) (w' := (fw z)) (cs' := 0) (ss' := 0) ?_ (fun _ _ => rfl)
  refine go_cl (k := 2) (st' := [.int (-1000001)]) (cs' := 0) (ss' := 0) rfl rfl rfl rfl rfl rfl rfl (ro_2 z) ?_
  exact go_end 1 (fun _ _ => rfl)
theorem ro_1183 (z : pq_C) (a1 : Int32) (h0 : a1.toInt < 0) : pq_Ru 2 160 [.int a1] (wd_1000 z) (some (.int 0), (wd_1000 z)) := by
  refine ru_of (k := 1) (M := pm_160) rfl rfl ?_
  refine go_seg 4 (pc' := 6) (ls' := [(0, .int a1)]) (st' := [.long 63, .long 0, .long a1.toInt64]) (w' := (wd_1000 z)) (cs' := 0) (ss' := 0) ?_ (fun _ _ => rfl)
  refine go_cl (k := 1) (st' := [.int 0]) (cs' := 0) (ss' := 0) rfl rfl rfl rfl rfl rfl rfl (wi_f _ a1 0 63 0 63 rfl rfl (by omega)) ?_
  exact go_end 1 (fun _ _ => rfl)
theorem ro_1184 (z : pq_C) (a1 : Int32) (a2 : Int32) (h0 : a1.toInt < 0) : pq_Ru 3 159 [.ref 90, .int a1, .int a2] (wd_1000 z) (some (.int (-1000001)), (wd_1001 z)) := by
  refine ru_of (k := 2) (M := pm_159) rfl rfl ?_
  refine go_seg 1 (pc' := 1) (ls' := [(0, .ref 90), (1, .int a1), (2, .int a2)]) (st' := [.int a1]) (w' := (wd_1000 z)) (cs' := 0) (ss' := 0) ?_ (fun _ _ => rfl)
  refine go_cl (k := 2) (st' := [.int 0]) (cs' := 0) (ss' := 0) rfl rfl rfl rfl rfl rfl rfl (ro_1183 z a1 (by omega)) ?_
  refine go_seg 3 (pc' := 24) (ls' := [(0, .ref 90), (1, .int a1), (2, .int a2)]) (st' := [.int (-1000001), .ref 90]) (w' := (wd_1000 z)) (cs' := 0) (ss' := 0) ?_ (fun _ _ => rfl)
  refine go_cl (k := 2) (st' := [.int (-1000001)]) (cs' := 0) (ss' := 0) rfl rfl rfl rfl rfl rfl rfl (ro_5 z) ?_
  exact go_end 1 (fun _ _ => rfl)
theorem lf_0_1185 (a0 : Int32) (a1 : Int32) (a2 : Int32) (a3 : Int32) (a4 : Int32) (a5 : Int32) (h0 : a1.toInt < 0) : ∃ w', pq_Go 20 pm_law 212 [(3, .int 0), (2, .ref 90), (1, .ref 1), (0, .ref 0)] [] (fw (sz a0 a1 a2 a3 a4 a5)) 109 12668 (some (.int 1), w') := by
  refine ⟨(wd_1001 (sz a0 a1 a2 a3 a4 a5)), ?_⟩
  refine go_seg 8 (pc' := 220) (ls' := [(3, .int 0), (2, .ref 90), (1, .ref 1), (0, .ref 0)]) (st' := [.int 0, .ref 0, .int a1, .ref 1]) (w' := (fw (sz a0 a1 a2 a3 a4 a5))) (cs' := 109) (ss' := 12668) ?_ (fun _ _ => rfl)
  refine go_seg 3 (pc' := 223) (ls' := [(3, .int 0), (2, .ref 90), (1, .ref 1), (0, .ref 0)]) (st' := [.int a2, .int a1, .ref 1]) (w' := (fw (sz a0 a1 a2 a3 a4 a5))) (cs' := 109) (ss' := 12668) ?_ (fun _ _ => rfl)
  refine go_cl (k := 20) (st' := [.int (-1000001)]) (cs' := 109) (ss' := 12668) rfl rfl rfl rfl rfl rfl rfl (ro_1182 (sz a0 a1 a2 a3 a4 a5) a1 a2 (by omega)) ?_
  refine go_seg 8 (pc' := 234) (ls' := [(3, .int 0), (2, .ref 90), (1, .ref 1), (0, .ref 0)]) (st' := [.int 0, .ref 0, .int a1, .ref 90, .int (-1000001)]) (w' := (wd_1000 (sz a0 a1 a2 a3 a4 a5))) (cs' := 109) (ss' := 12668) ?_ (fun _ _ => rfl)
  refine go_seg 3 (pc' := 237) (ls' := [(3, .int 0), (2, .ref 90), (1, .ref 1), (0, .ref 0)]) (st' := [.int a2, .int a1, .ref 90, .int (-1000001)]) (w' := (wd_1000 (sz a0 a1 a2 a3 a4 a5))) (cs' := 109) (ss' := 12668) ?_ (fun _ _ => rfl)
  refine go_cl (k := 20) (st' := [.int (-1000001), .int (-1000001)]) (cs' := 109) (ss' := 12668) rfl rfl rfl rfl rfl rfl rfl (ro_1184 (sz a0 a1 a2 a3 a4 a5) a1 a2 (by omega)) ?_
  refine go_cmp true rfl (br_self _) ?_
  exact law_tail (f := sc a0 a1 a2 a3 a4 a5) rfl
theorem ro_1186 (z : pq_C) (a1 : Int32) (h0 : 0 ≤ a1.toInt) (h1 : a1.toInt < 64) : pq_Ru 1 13 [.int a1] (fw z) (some (.int 1), (fw z)) := by
  refine ru_of (k := 0) (M := pm_13) rfl rfl ?_
  refine go_seg 1 (pc' := 1) (ls' := [(0, .int a1)]) (st' := [.int a1]) (w' := (fw z)) (cs' := 0) (ss' := 0) ?_ (fun _ _ => rfl)
  refine go_if false rfl (br_lt_f (b := 0) rfl (by omega)) ?_
  refine go_seg 2 (pc' := 7) (ls' := [(0, .int a1)]) (st' := [.int 64, .int a1]) (w' := (fw z)) (cs' := 0) (ss' := 0) ?_ (fun _ _ => rfl)
  refine go_cmp false rfl (br_ge_f (b := 64) rfl (by omega)) ?_
  exact go_end 3 (fun _ _ => rfl)
theorem ro_1187 (z : pq_C) (a2 : Int32) (h0 : a2.toInt < -1) : pq_Ru 1 14 [.int a2] (fw z) (some (.int 0), (fw z)) := by
  refine ru_of (k := 0) (M := pm_14) rfl rfl ?_
  refine go_seg 2 (pc' := 2) (ls' := [(0, .int a2)]) (st' := [.int (-1), .int a2]) (w' := (fw z)) (cs' := 0) (ss' := 0) ?_ (fun _ _ => rfl)
  refine go_cmp true rfl (br_lt_t (b := -1) rfl (by omega)) ?_
  exact go_end 2 (fun _ _ => rfl)
theorem ro_1188 (z : pq_C) (a1 : Int32) (a2 : Int32) (h0 : 0 ≤ a1.toInt) (h1 : a1.toInt < 64) (h2 : a2.toInt < -1) : pq_Ru 3 12 [.ref 1, .int a1, .int a2] (fw z) (some (.int (-1000001)), (wd_1000 z)) := by
  refine ru_of (k := 2) (M := pm_12) rfl rfl ?_
  refine go_seg 1 (pc' := 1) (ls' := [(0, .ref 1), (1, .int a1), (2, .int a2)]) (st' := [.int a1]) (w' := (fw z)) (cs' := 0) (ss' := 0) ?_ (fun _ _ => rfl)
  refine go_cl (k := 2) (st' := [.int 1]) (cs' := 0) (ss' := 0) rfl rfl rfl rfl rfl rfl rfl (ro_1186 z a1 (by omega) (by omega)) ?_
  refine go_seg 2 (pc' := 8) (ls' := [(0, .ref 1), (1, .int a1), (2, .int a2)]) (st' := [.int a2]) (w' := (fw z)) (cs' := 0) (ss' := 0) ?_ (fun _ _ => rfl)
  refine go_cl (k := 2) (st' := [.int 0]) (cs' := 0) (ss' := 0) rfl rfl rfl rfl rfl rfl rfl (ro_1187 z a2 (by omega)) ?_
  refine go_seg 3 (pc' := 16) (ls' := [(0, .ref 1), (1, .int a1), (2, .int a2)]) (st' := [.int 1, .ref 1]) (w' := (fw z)) (cs' := 0) (ss' := 0) ?_ (fun _ _ => rfl)
  refine go_cl (k := 2) (st' := [.int (-1000001)]) (cs' := 0) (ss' := 0) rfl rfl rfl rfl rfl rfl rfl (ro_2 z) ?_
  exact go_end 1 (fun _ _ => rfl)
theorem ro_1189 (z : pq_C) (a1 : Int32) (h0 : 0 ≤ a1.toInt) (h1 : a1.toInt < 64) : pq_Ru 2 160 [.int a1] (wd_1000 z) (some (.int 1), (wd_1000 z)) := by
  refine ru_of (k := 1) (M := pm_160) rfl rfl ?_
  refine go_seg 4 (pc' := 6) (ls' := [(0, .int a1)]) (st' := [.long 63, .long 0, .long a1.toInt64]) (w' := (wd_1000 z)) (cs' := 0) (ss' := 0) ?_ (fun _ _ => rfl)
  refine go_cl (k := 1) (st' := [.int 1]) (cs' := 0) (ss' := 0) rfl rfl rfl rfl rfl rfl rfl (wi_t _ a1 0 63 0 63 rfl rfl (by omega)) ?_
  exact go_end 1 (fun _ _ => rfl)
theorem ro_1190 (z : pq_C) (a1 : Int32) (a2 : Int32) (h0 : 0 ≤ a1.toInt) (h1 : a1.toInt < 64) (h2 : a2.toInt < -1) : pq_Ru 3 159 [.ref 90, .int a1, .int a2] (wd_1000 z) (some (.int (-1000001)), (wd_1001 z)) := by
  refine ru_of (k := 2) (M := pm_159) rfl rfl ?_
  refine go_seg 1 (pc' := 1) (ls' := [(0, .ref 90), (1, .int a1), (2, .int a2)]) (st' := [.int a1]) (w' := (wd_1000 z)) (cs' := 0) (ss' := 0) ?_ (fun _ _ => rfl)
  refine go_cl (k := 2) (st' := [.int 1]) (cs' := 0) (ss' := 0) rfl rfl rfl rfl rfl rfl rfl (ro_1189 z a1 (by omega) (by omega)) ?_
  refine go_seg 5 (pc' := 15) (ls' := [(0, .ref 90), (1, .int a1), (2, .int a2)]) (st' := [.long 7, .long (-1), .long a2.toInt64]) (w' := (wd_1000 z)) (cs' := 0) (ss' := 0) ?_ (fun _ _ => rfl)
  refine go_cl (k := 2) (st' := [.int 0]) (cs' := 0) (ss' := 0) rfl rfl rfl rfl rfl rfl rfl (wi_f _ a2 (-1) 7 (-1) 7 rfl rfl (by omega)) ?_
  refine go_seg 3 (pc' := 24) (ls' := [(0, .ref 90), (1, .int a1), (2, .int a2)]) (st' := [.int (-1000001), .ref 90]) (w' := (wd_1000 z)) (cs' := 0) (ss' := 0) ?_ (fun _ _ => rfl)
  refine go_cl (k := 2) (st' := [.int (-1000001)]) (cs' := 0) (ss' := 0) rfl rfl rfl rfl rfl rfl rfl (ro_5 z) ?_
  exact go_end 1 (fun _ _ => rfl)
theorem lf_0_1191 (a0 : Int32) (a1 : Int32) (a2 : Int32) (a3 : Int32) (a4 : Int32) (a5 : Int32) (h0 : 0 ≤ a1.toInt) (h1 : a1.toInt < 64) (h2 : a2.toInt < -1) : ∃ w', pq_Go 20 pm_law 212 [(3, .int 0), (2, .ref 90), (1, .ref 1), (0, .ref 0)] [] (fw (sz a0 a1 a2 a3 a4 a5)) 109 12668 (some (.int 1), w') := by
  refine ⟨(wd_1001 (sz a0 a1 a2 a3 a4 a5)), ?_⟩
  refine go_seg 8 (pc' := 220) (ls' := [(3, .int 0), (2, .ref 90), (1, .ref 1), (0, .ref 0)]) (st' := [.int 0, .ref 0, .int a1, .ref 1]) (w' := (fw (sz a0 a1 a2 a3 a4 a5))) (cs' := 109) (ss' := 12668) ?_ (fun _ _ => rfl)
  refine go_seg 3 (pc' := 223) (ls' := [(3, .int 0), (2, .ref 90), (1, .ref 1), (0, .ref 0)]) (st' := [.int a2, .int a1, .ref 1]) (w' := (fw (sz a0 a1 a2 a3 a4 a5))) (cs' := 109) (ss' := 12668) ?_ (fun _ _ => rfl)
  refine go_cl (k := 20) (st' := [.int (-1000001)]) (cs' := 109) (ss' := 12668) rfl rfl rfl rfl rfl rfl rfl (ro_1188 (sz a0 a1 a2 a3 a4 a5) a1 a2 (by omega) (by omega) (by omega)) ?_
  refine go_seg 8 (pc' := 234) (ls' := [(3, .int 0), (2, .ref 90), (1, .ref 1), (0, .ref 0)]) (st' := [.int 0, .ref 0, .int a1, .ref 90, .int (-1000001)]) (w' := (wd_1000 (sz a0 a1 a2 a3 a4 a5))) (cs' := 109) (ss' := 12668) ?_ (fun _ _ => rfl)
  refine go_seg 3 (pc' := 237) (ls' := [(3, .int 0), (2, .ref 90), (1, .ref 1), (0, .ref 0)]) (st' := [.int a2, .int a1, .ref 90, .int (-1000001)]) (w' := (wd_1000 (sz a0 a1 a2 a3 a4 a5))) (cs' := 109) (ss' := 12668) ?_ (fun _ _ => rfl)
  refine go_cl (k := 20) (st' := [.int (-1000001), .int (-1000001)]) (cs' := 109) (ss' := 12668) rfl rfl rfl rfl rfl rfl rfl (ro_1190 (sz a0 a1 a2 a3 a4 a5) a1 a2 (by omega) (by omega) (by omega)) ?_
  refine go_cmp true rfl (br_self _) ?_
  exact law_tail (f := sc a0 a1 a2 a3 a4 a5) rfl
theorem ro_1192 (z : pq_C) : pq_Ru 1 13 [.int 0] (fw z) (some (.int 1), (fw z)) := by
  refine ru_of (k := 0) (M := pm_13) rfl rfl ?_
  exact go_end 8 (fun _ _ => rfl)
theorem ro_1193 (z : pq_C) (a2 : Int32) (h0 : -1 ≤ a2.toInt) (h1 : a2.toInt < 8) : pq_Ru 1 14 [.int a2] (fw z) (some (.int 1), (fw z)) := by
  refine ru_of (k := 0) (M := pm_14) rfl rfl ?_
  refine go_seg 2 (pc' := 2) (ls' := [(0, .int a2)]) (st' := [.int (-1), .int a2]) (w' := (fw z)) (cs' := 0) (ss' := 0) ?_ (fun _ _ => rfl)
  refine go_cmp false rfl (br_lt_f (b := -1) rfl (by omega)) ?_
  refine go_seg 2 (pc' := 8) (ls' := [(0, .int a2)]) (st' := [.int 8, .int a2]) (w' := (fw z)) (cs' := 0) (ss' := 0) ?_ (fun _ _ => rfl)
  refine go_cmp false rfl (br_ge_f (b := 8) rfl (by omega)) ?_
  exact go_end 3 (fun _ _ => rfl)
def wd_1216 (z : pq_C) (a2 : Int32) : pq_W := ((fw z).set 3 (.inl (.int, 64, .inl (upd (fl_c 64 (-1) (fun _ => 0)) 0 a2))))
theorem ro_1194 (z : pq_C) (a2 : Int32) (h0 : -1 ≤ a2.toInt) (h1 : a2.toInt < 8) : pq_Ru 2 12 [.ref 1, .int 0, .int a2] (fw z) (some (.int (-1)), (wd_1216 z a2)) := by
  refine ru_of (k := 1) (M := pm_12) rfl rfl ?_
  refine go_seg 1 (pc' := 1) (ls' := [(0, .ref 1), (1, .int 0), (2, .int a2)]) (st' := [.int 0]) (w' := (fw z)) (cs' := 0) (ss' := 0) ?_ (fun _ _ => rfl)
  refine go_cl (k := 1) (st' := [.int 1]) (cs' := 0) (ss' := 0) rfl rfl rfl rfl rfl rfl rfl (ro_1192 z) ?_
  refine go_seg 2 (pc' := 8) (ls' := [(0, .ref 1), (1, .int 0), (2, .int a2)]) (st' := [.int a2]) (w' := (fw z)) (cs' := 0) (ss' := 0) ?_ (fun _ _ => rfl)
  refine go_cl (k := 1) (st' := [.int 1]) (cs' := 0) (ss' := 0) rfl rfl rfl rfl rfl rfl rfl (ro_1193 z a2 (by omega) (by omega)) ?_
  refine go_seg 8 (pc' := 31) (ls' := [(3, .int (-1)), (0, .ref 1), (1, .int 0), (2, .int a2)]) (st' := [.ref 1]) (w' := (fw z)) (cs' := 0) (ss' := 0) ?_ (fun _ _ => rfl)
  exact go_end 7 (fun _ _ => rfl)
theorem ro_1196 (z : pq_C) (a2 : Int32) (h0 : -1 ≤ a2.toInt) (h1 : a2.toInt < 8) : pq_Ru 1 161 [.long 0, .long 0, .long 63] (wd_1216 z a2) (some (.int 1), (wd_1216 z a2)) := by
  refine ru_of (k := 0) (M := pm_161) rfl rfl ?_
  refine go_seg 8 (pc' := 13) (ls' := [(0, .long 0), (2, .long 0), (4, .long 63)]) (st' := []) (w' := (wd_1216 z a2)) (cs' := 0) (ss' := 0) ?_ (fun _ _ => rfl)
  exact go_end 3 (fun _ _ => rfl)
theorem ro_1197 (z : pq_C) (a2 : Int32) (h0 : -1 ≤ a2.toInt) (h1 : a2.toInt < 8) : pq_Ru 2 160 [.int 0] (wd_1216 z a2) (some (.int 1), (wd_1216 z a2)) := by
  refine ru_of (k := 1) (M := pm_160) rfl rfl ?_
  refine go_seg 4 (pc' := 6) (ls' := [(0, .int 0)]) (st' := [.long 63, .long 0, .long 0]) (w' := (wd_1216 z a2)) (cs' := 0) (ss' := 0) ?_ (fun _ _ => rfl)
  refine go_cl (k := 1) (st' := [.int 1]) (cs' := 0) (ss' := 0) rfl rfl rfl rfl rfl rfl rfl (ro_1196 z a2 (by omega) (by omega)) ?_
  exact go_end 1 (fun _ _ => rfl)
def wd_1217 (z : pq_C) (a2 : Int32) : pq_W := ((wd_1216 z a2).set 91 (.inl (.int, 2858, .inl (upd (upd (upd (upd (upd (upd (upd (upd (upd (upd (upd (upd (upd (upd (upd (upd (upd (upd (upd (upd (upd (upd (upd (upd (upd (upd (upd (upd (upd (upd (upd (upd (upd (upd (upd (upd (upd (upd (upd (upd (upd (upd (upd (upd (upd (upd (upd (upd (upd (upd (upd (upd (upd (upd (upd (upd (upd (upd (upd (upd (upd (upd (upd (upd (upd (upd (upd (upd (upd (upd (upd (upd (upd (upd (upd (upd (upd (upd (upd (upd (upd (upd (fun _ => 0) 1 10) 10 (-1)) 11 (-1)) 12 (-1)) 13 (-1)) 14 (-1)) 15 (-1)) 16 (-1)) 17 (-1)) 18 (-1)) 19 (-1)) 20 (-1)) 21 (-1)) 22 (-1)) 23 (-1)) 24 (-1)) 25 (-1)) 26 (-1)) 27 (-1)) 28 (-1)) 29 (-1)) 30 (-1)) 31 (-1)) 32 (-1)) 33 (-1)) 34 (-1)) 35 (-1)) 36 (-1)) 37 (-1)) 38 (-1)) 39 (-1)) 40 (-1)) 41 (-1)) 42 (-1)) 43 (-1)) 44 (-1)) 45 (-1)) 46 (-1)) 47 (-1)) 48 (-1)) 49 (-1)) 50 (-1)) 51 (-1)) 52 (-1)) 53 (-1)) 54 (-1)) 55 (-1)) 56 (-1)) 57 (-1)) 58 (-1)) 59 (-1)) 60 (-1)) 61 (-1)) 62 (-1)) 63 (-1)) 64 (-1)) 65 (-1)) 66 (-1)) 67 (-1)) 68 (-1)) 69 (-1)) 70 (-1)) 71 (-1)) 72 (-1)) 73 (-1)) 139 1000) 140 100) 145 1000) 146 100) 151 1000) 152 100) 157 1000) 158 100) 163 1000) 164 100) 169 1000) 170 100) 175 1000) 176 100) 181 1000) 182 100) 10 a2))))
theorem ro_1199 (z : pq_C) (a2 : Int32) (h0 : -1 ≤ a2.toInt) (h1 : a2.toInt < 8) : pq_Ru 3 159 [.ref 90, .int 0, .int a2] (wd_1216 z a2) (some (.int (-1)), (wd_1217 z a2)) := by
  refine ru_of (k := 2) (M := pm_159) rfl rfl ?_
  refine go_seg 1 (pc' := 1) (ls' := [(0, .ref 90), (1, .int 0), (2, .int a2)]) (st' := [.int 0]) (w' := (wd_1216 z a2)) (cs' := 0) (ss' := 0) ?_ (fun _ _ => rfl)
  refine go_cl (k := 2) (st' := [.int 1]) (cs' := 0) (ss' := 0) rfl rfl rfl rfl rfl rfl rfl (ro_1197 z a2 (by omega) (by omega)) ?_
  refine go_seg 5 (pc' := 15) (ls' := [(0, .ref 90), (1, .int 0), (2, .int a2)]) (st' := [.long 7, .long (-1), .long a2.toInt64]) (w' := (wd_1216 z a2)) (cs' := 0) (ss' := 0) ?_ (fun _ _ => rfl)
  refine go_cl (k := 2) (st' := [.int 1]) (cs' := 0) (ss' := 0) rfl rfl rfl rfl rfl rfl rfl (wi_t _ a2 (-1) 7 (-1) 7 rfl rfl (by omega)) ?_
  refine go_seg 8 (pc' := 38) (ls' := [(3, .int (-1)), (0, .ref 90), (1, .int 0), (2, .int a2)]) (st' := []) (w' := (wd_1216 z a2)) (cs' := 0) (ss' := 0) ?_ (fun _ _ => rfl)
  refine go_seg 8 (pc' := 49) (ls' := [(3, .int (-1)), (0, .ref 90), (1, .int 0), (2, .int a2)]) (st' := [.int (-1)]) (w' := (wd_1217 z a2)) (cs' := 0) (ss' := 0) ?_ (fun _ _ => rfl)
  exact go_end 1 (fun _ _ => rfl)
theorem lf_0_1200 (a0 : Int32) (a2 : Int32) (a3 : Int32) (a4 : Int32) (a5 : Int32) (h0 : -1 ≤ a2.toInt) (h1 : a2.toInt < 8) : ∃ w', pq_Go 20 pm_law 212 [(3, .int 0), (2, .ref 90), (1, .ref 1), (0, .ref 0)] [] (fw (sz a0 0 a2 a3 a4 a5)) 109 12668 (some (.int 1), w') := by
  refine ⟨(wd_1217 (sz a0 0 a2 a3 a4 a5) a2), ?_⟩
  refine go_seg 8 (pc' := 220) (ls' := [(3, .int 0), (2, .ref 90), (1, .ref 1), (0, .ref 0)]) (st' := [.int 0, .ref 0, .int 0, .ref 1]) (w' := (fw (sz a0 0 a2 a3 a4 a5))) (cs' := 109) (ss' := 12668) ?_ (fun _ _ => rfl)
  refine go_seg 3 (pc' := 223) (ls' := [(3, .int 0), (2, .ref 90), (1, .ref 1), (0, .ref 0)]) (st' := [.int a2, .int 0, .ref 1]) (w' := (fw (sz a0 0 a2 a3 a4 a5))) (cs' := 109) (ss' := 12668) ?_ (fun _ _ => rfl)
  refine go_cl (k := 20) (st' := [.int (-1)]) (cs' := 109) (ss' := 12668) rfl rfl rfl rfl rfl rfl rfl (ro_1194 (sz a0 0 a2 a3 a4 a5) a2 (by omega) (by omega)) ?_
  refine go_seg 8 (pc' := 234) (ls' := [(3, .int 0), (2, .ref 90), (1, .ref 1), (0, .ref 0)]) (st' := [.int 0, .ref 0, .int 0, .ref 90, .int (-1)]) (w' := (wd_1216 (sz a0 0 a2 a3 a4 a5) a2)) (cs' := 109) (ss' := 12668) ?_ (fun _ _ => rfl)
  refine go_seg 3 (pc' := 237) (ls' := [(3, .int 0), (2, .ref 90), (1, .ref 1), (0, .ref 0)]) (st' := [.int a2, .int 0, .ref 90, .int (-1)]) (w' := (wd_1216 (sz a0 0 a2 a3 a4 a5) a2)) (cs' := 109) (ss' := 12668) ?_ (fun _ _ => rfl)
  refine go_cl (k := 20) (st' := [.int (-1), .int (-1)]) (cs' := 109) (ss' := 12668) rfl rfl rfl rfl rfl rfl rfl (ro_1199 (sz a0 0 a2 a3 a4 a5) a2 (by omega) (by omega)) ?_
  refine go_cmp true rfl (br_self _) ?_
  exact law_tail (f := sc a0 0 a2 a3 a4 a5) rfl
theorem ro_1201 (z : pq_C) : pq_Ru 1 13 [.int 1] (fw z) (some (.int 1), (fw z)) := by
  refine ru_of (k := 0) (M := pm_13) rfl rfl ?_
  exact go_end 8 (fun _ _ => rfl)
def wd_1218 (z : pq_C) (a2 : Int32) : pq_W := ((fw z).set 3 (.inl (.int, 64, .inl (upd (fl_c 64 (-1) (fun _ => 0)) 1 a2))))
theorem ro_1202 (z : pq_C) (a2 : Int32) (h0 : -1 ≤ a2.toInt) (h1 : a2.toInt < 8) : pq_Ru 2 12 [.ref 1, .int 1, .int a2] (fw z) (some (.int (-1)), (wd_1218 z a2)) := by
  refine ru_of (k := 1) (M := pm_12) rfl rfl ?_
  refine go_seg 1 (pc' := 1) (ls' := [(0, .ref 1), (1, .int 1), (2, .int a2)]) (st' := [.int 1]) (w' := (fw z)) (cs' := 0) (ss' := 0) ?_ (fun _ _ => rfl)
  refine go_cl (k := 1) (st' := [.int 1]) (cs' := 0) (ss' := 0) rfl rfl rfl rfl rfl rfl rfl (ro_1201 z) ?_
  refine go_seg 2 (pc' := 8) (ls' := [(0, .ref 1), (1, .int 1), (2, .int a2)]) (st' := [.int a2]) (w' := (fw z)) (cs' := 0) (ss' := 0) ?_ (fun _ _ => rfl)
  refine go_cl (k := 1) (st' := [.int 1]) (cs' := 0) (ss' := 0) rfl rfl rfl rfl rfl rfl rfl (ro_1193 z a2 (by omega) (by omega)) ?_
  refine go_seg 8 (pc' := 31) (ls' := [(3, .int (-1)), (0, .ref 1), (1, .int 1), (2, .int a2)]) (st' := [.ref 1]) (w' := (fw z)) (cs' := 0) (ss' := 0) ?_ (fun _ _ => rfl)
  exact go_end 7 (fun _ _ => rfl)
theorem ro_1204 (z : pq_C) (a2 : Int32) (h0 : -1 ≤ a2.toInt) (h1 : a2.toInt < 8) : pq_Ru 1 161 [.long 1, .long 0, .long 63] (wd_1218 z a2) (some (.int 1), (wd_1218 z a2)) := by
  refine ru_of (k := 0) (M := pm_161) rfl rfl ?_
  refine go_seg 8 (pc' := 13) (ls' := [(0, .long 1), (2, .long 0), (4, .long 63)]) (st' := []) (w' := (wd_1218 z a2)) (cs' := 0) (ss' := 0) ?_ (fun _ _ => rfl)
  exact go_end 3 (fun _ _ => rfl)
theorem ro_1205 (z : pq_C) (a2 : Int32) (h0 : -1 ≤ a2.toInt) (h1 : a2.toInt < 8) : pq_Ru 2 160 [.int 1] (wd_1218 z a2) (some (.int 1), (wd_1218 z a2)) := by
  refine ru_of (k := 1) (M := pm_160) rfl rfl ?_
  refine go_seg 4 (pc' := 6) (ls' := [(0, .int 1)]) (st' := [.long 63, .long 0, .long 1]) (w' := (wd_1218 z a2)) (cs' := 0) (ss' := 0) ?_ (fun _ _ => rfl)
  refine go_cl (k := 1) (st' := [.int 1]) (cs' := 0) (ss' := 0) rfl rfl rfl rfl rfl rfl rfl (ro_1204 z a2 (by omega) (by omega)) ?_
  exact go_end 1 (fun _ _ => rfl)
def wd_1219 (z : pq_C) (a2 : Int32) : pq_W := ((wd_1218 z a2).set 91 (.inl (.int, 2858, .inl (upd (upd (upd (upd (upd (upd (upd (upd (upd (upd (upd (upd (upd (upd (upd (upd (upd (upd (upd (upd (upd (upd (upd (upd (upd (upd (upd (upd (upd (upd (upd (upd (upd (upd (upd (upd (upd (upd (upd (upd (upd (upd (upd (upd (upd (upd (upd (upd (upd (upd (upd (upd (upd (upd (upd (upd (upd (upd (upd (upd (upd (upd (upd (upd (upd (upd (upd (upd (upd (upd (upd (upd (upd (upd (upd (upd (upd (upd (upd (upd (upd (upd (fun _ => 0) 1 10) 10 (-1)) 11 (-1)) 12 (-1)) 13 (-1)) 14 (-1)) 15 (-1)) 16 (-1)) 17 (-1)) 18 (-1)) 19 (-1)) 20 (-1)) 21 (-1)) 22 (-1)) 23 (-1)) 24 (-1)) 25 (-1)) 26 (-1)) 27 (-1)) 28 (-1)) 29 (-1)) 30 (-1)) 31 (-1)) 32 (-1)) 33 (-1)) 34 (-1)) 35 (-1)) 36 (-1)) 37 (-1)) 38 (-1)) 39 (-1)) 40 (-1)) 41 (-1)) 42 (-1)) 43 (-1)) 44 (-1)) 45 (-1)) 46 (-1)) 47 (-1)) 48 (-1)) 49 (-1)) 50 (-1)) 51 (-1)) 52 (-1)) 53 (-1)) 54 (-1)) 55 (-1)) 56 (-1)) 57 (-1)) 58 (-1)) 59 (-1)) 60 (-1)) 61 (-1)) 62 (-1)) 63 (-1)) 64 (-1)) 65 (-1)) 66 (-1)) 67 (-1)) 68 (-1)) 69 (-1)) 70 (-1)) 71 (-1)) 72 (-1)) 73 (-1)) 139 1000) 140 100) 145 1000) 146 100) 151 1000) 152 100) 157 1000) 158 100) 163 1000) 164 100) 169 1000) 170 100) 175 1000) 176 100) 181 1000) 182 100) 11 a2))))
theorem ro_1207 (z : pq_C) (a2 : Int32) (h0 : -1 ≤ a2.toInt) (h1 : a2.toInt < 8) : pq_Ru 3 159 [.ref 90, .int 1, .int a2] (wd_1218 z a2) (some (.int (-1)), (wd_1219 z a2)) := by
  refine ru_of (k := 2) (M := pm_159) rfl rfl ?_
  refine go_seg 1 (pc' := 1) (ls' := [(0, .ref 90), (1, .int 1), (2, .int a2)]) (st' := [.int 1]) (w' := (wd_1218 z a2)) (cs' := 0) (ss' := 0) ?_ (fun _ _ => rfl)
  refine go_cl (k := 2) (st' := [.int 1]) (cs' := 0) (ss' := 0) rfl rfl rfl rfl rfl rfl rfl (ro_1205 z a2 (by omega) (by omega)) ?_
  refine go_seg 5 (pc' := 15) (ls' := [(0, .ref 90), (1, .int 1), (2, .int a2)]) (st' := [.long 7, .long (-1), .long a2.toInt64]) (w' := (wd_1218 z a2)) (cs' := 0) (ss' := 0) ?_ (fun _ _ => rfl)
  refine go_cl (k := 2) (st' := [.int 1]) (cs' := 0) (ss' := 0) rfl rfl rfl rfl rfl rfl rfl (wi_t _ a2 (-1) 7 (-1) 7 rfl rfl (by omega)) ?_
  refine go_seg 8 (pc' := 38) (ls' := [(3, .int (-1)), (0, .ref 90), (1, .int 1), (2, .int a2)]) (st' := []) (w' := (wd_1218 z a2)) (cs' := 0) (ss' := 0) ?_ (fun _ _ => rfl)
  refine go_seg 8 (pc' := 49) (ls' := [(3, .int (-1)), (0, .ref 90), (1, .int 1), (2, .int a2)]) (st' := [.int (-1)]) (w' := (wd_1219 z a2)) (cs' := 0) (ss' := 0) ?_ (fun _ _ => rfl)
  exact go_end 1 (fun _ _ => rfl)
theorem lf_0_1208 (a0 : Int32) (a2 : Int32) (a3 : Int32) (a4 : Int32) (a5 : Int32) (h0 : -1 ≤ a2.toInt) (h1 : a2.toInt < 8) : ∃ w', pq_Go 20 pm_law 212 [(3, .int 0), (2, .ref 90), (1, .ref 1), (0, .ref 0)] [] (fw (sz a0 1 a2 a3 a4 a5)) 109 12668 (some (.int 1), w') := by
  refine ⟨(wd_1219 (sz a0 1 a2 a3 a4 a5) a2), ?_⟩
  refine go_seg 8 (pc' := 220) (ls' := [(3, .int 0), (2, .ref 90), (1, .ref 1), (0, .ref 0)]) (st' := [.int 0, .ref 0, .int 1, .ref 1]) (w' := (fw (sz a0 1 a2 a3 a4 a5))) (cs' := 109) (ss' := 12668) ?_ (fun _ _ => rfl)
  refine go_seg 3 (pc' := 223) (ls' := [(3, .int 0), (2, .ref 90), (1, .ref 1), (0, .ref 0)]) (st' := [.int a2, .int 1, .ref 1]) (w' := (fw (sz a0 1 a2 a3 a4 a5))) (cs' := 109) (ss' := 12668) ?_ (fun _ _ => rfl)
  refine go_cl (k := 20) (st' := [.int (-1)]) (cs' := 109) (ss' := 12668) rfl rfl rfl rfl rfl rfl rfl (ro_1202 (sz a0 1 a2 a3 a4 a5) a2 (by omega) (by omega)) ?_
  refine go_seg 8 (pc' := 234) (ls' := [(3, .int 0), (2, .ref 90), (1, .ref 1), (0, .ref 0)]) (st' := [.int 0, .ref 0, .int 1, .ref 90, .int (-1)]) (w' := (wd_1218 (sz a0 1 a2 a3 a4 a5) a2)) (cs' := 109) (ss' := 12668) ?_ (fun _ _ => rfl)
  refine go_seg 3 (pc' := 237) (ls' := [(3, .int 0), (2, .ref 90), (1, .ref 1), (0, .ref 0)]) (st' := [.int a2, .int 1, .ref 90, .int (-1)]) (w' := (wd_1218 (sz a0 1 a2 a3 a4 a5) a2)) (cs' := 109) (ss' := 12668) ?_ (fun _ _ => rfl)
  refine go_cl (k := 20) (st' := [.int (-1), .int (-1)]) (cs' := 109) (ss' := 12668) rfl rfl rfl rfl rfl rfl rfl (ro_1207 (sz a0 1 a2 a3 a4 a5) a2 (by omega) (by omega)) ?_
  refine go_cmp true rfl (br_self _) ?_
  exact law_tail (f := sc a0 1 a2 a3 a4 a5) rfl
theorem ro_1209 (z : pq_C) : pq_Ru 1 13 [.int 2] (fw z) (some (.int 1), (fw z)) := by
  refine ru_of (k := 0) (M := pm_13) rfl rfl ?_
  exact go_end 8 (fun _ _ => rfl)
def wd_1220 (z : pq_C) (a2 : Int32) : pq_W := ((fw z).set 3 (.inl (.int, 64, .inl (upd (fl_c 64 (-1) (fun _ => 0)) 2 a2))))
theorem ro_1210 (z : pq_C) (a2 : Int32) (h0 : -1 ≤ a2.toInt) (h1 : a2.toInt < 8) : pq_Ru 2 12 [.ref 1, .int 2, .int a2] (fw z) (some (.int (-1)), (wd_1220 z a2)) := by
  refine ru_of (k := 1) (M := pm_12) rfl rfl ?_
  refine go_seg 1 (pc' := 1) (ls' := [(0, .ref 1), (1, .int 2), (2, .int a2)]) (st' := [.int 2]) (w' := (fw z)) (cs' := 0) (ss' := 0) ?_ (fun _ _ => rfl)
  refine go_cl (k := 1) (st' := [.int 1]) (cs' := 0) (ss' := 0) rfl rfl rfl rfl rfl rfl rfl (ro_1209 z) ?_
  refine go_seg 2 (pc' := 8) (ls' := [(0, .ref 1), (1, .int 2), (2, .int a2)]) (st' := [.int a2]) (w' := (fw z)) (cs' := 0) (ss' := 0) ?_ (fun _ _ => rfl)
  refine go_cl (k := 1) (st' := [.int 1]) (cs' := 0) (ss' := 0) rfl rfl rfl rfl rfl rfl rfl (ro_1193 z a2 (by omega) (by omega)) ?_
  refine go_seg 8 (pc' := 31) (ls' := [(3, .int (-1)), (0, .ref 1), (1, .int 2), (2, .int a2)]) (st' := [.ref 1]) (w' := (fw z)) (cs' := 0) (ss' := 0) ?_ (fun _ _ => rfl)
  exact go_end 7 (fun _ _ => rfl)
theorem ro_1212 (z : pq_C) (a2 : Int32) (h0 : -1 ≤ a2.toInt) (h1 : a2.toInt < 8) : pq_Ru 1 161 [.long 2, .long 0, .long 63] (wd_1220 z a2) (some (.int 1), (wd_1220 z a2)) := by
  refine ru_of (k := 0) (M := pm_161) rfl rfl ?_
  refine go_seg 8 (pc' := 13) (ls' := [(0, .long 2), (2, .long 0), (4, .long 63)]) (st' := []) (w' := (wd_1220 z a2)) (cs' := 0) (ss' := 0) ?_ (fun _ _ => rfl)
  exact go_end 3 (fun _ _ => rfl)
theorem ro_1213 (z : pq_C) (a2 : Int32) (h0 : -1 ≤ a2.toInt) (h1 : a2.toInt < 8) : pq_Ru 2 160 [.int 2] (wd_1220 z a2) (some (.int 1), (wd_1220 z a2)) := by
  refine ru_of (k := 1) (M := pm_160) rfl rfl ?_
  refine go_seg 4 (pc' := 6) (ls' := [(0, .int 2)]) (st' := [.long 63, .long 0, .long 2]) (w' := (wd_1220 z a2)) (cs' := 0) (ss' := 0) ?_ (fun _ _ => rfl)
  refine go_cl (k := 1) (st' := [.int 1]) (cs' := 0) (ss' := 0) rfl rfl rfl rfl rfl rfl rfl (ro_1212 z a2 (by omega) (by omega)) ?_
  exact go_end 1 (fun _ _ => rfl)
def wd_1221 (z : pq_C) (a2 : Int32) : pq_W := ((wd_1220 z a2).set 91 (.inl (.int, 2858, .inl (upd (upd (upd (upd (upd (upd (upd (upd (upd (upd (upd (upd (upd (upd (upd (upd (upd (upd (upd (upd (upd (upd (upd (upd (upd (upd (upd (upd (upd (upd (upd (upd (upd (upd (upd (upd (upd (upd (upd (upd (upd (upd (upd (upd (upd (upd (upd (upd (upd (upd (upd (upd (upd (upd (upd (upd (upd (upd (upd (upd (upd (upd (upd (upd (upd (upd (upd (upd (upd (upd (upd (upd (upd (upd (upd (upd (upd (upd (upd (upd (upd (upd (fun _ => 0) 1 10) 10 (-1)) 11 (-1)) 12 (-1)) 13 (-1)) 14 (-1)) 15 (-1)) 16 (-1)) 17 (-1)) 18 (-1)) 19 (-1)) 20 (-1)) 21 (-1)) 22 (-1)) 23 (-1)) 24 (-1)) 25 (-1)) 26 (-1)) 27 (-1)) 28 (-1)) 29 (-1)) 30 (-1)) 31 (-1)) 32 (-1)) 33 (-1)) 34 (-1)) 35 (-1)) 36 (-1)) 37 (-1)) 38 (-1)) 39 (-1)) 40 (-1)) 41 (-1)) 42 (-1)) 43 (-1)) 44 (-1)) 45 (-1)) 46 (-1)) 47 (-1)) 48 (-1)) 49 (-1)) 50 (-1)) 51 (-1)) 52 (-1)) 53 (-1)) 54 (-1)) 55 (-1)) 56 (-1)) 57 (-1)) 58 (-1)) 59 (-1)) 60 (-1)) 61 (-1)) 62 (-1)) 63 (-1)) 64 (-1)) 65 (-1)) 66 (-1)) 67 (-1)) 68 (-1)) 69 (-1)) 70 (-1)) 71 (-1)) 72 (-1)) 73 (-1)) 139 1000) 140 100) 145 1000) 146 100) 151 1000) 152 100) 157 1000) 158 100) 163 1000) 164 100) 169 1000) 170 100) 175 1000) 176 100) 181 1000) 182 100) 12 a2))))
theorem ro_1215 (z : pq_C) (a2 : Int32) (h0 : -1 ≤ a2.toInt) (h1 : a2.toInt < 8) : pq_Ru 3 159 [.ref 90, .int 2, .int a2] (wd_1220 z a2) (some (.int (-1)), (wd_1221 z a2)) := by
  refine ru_of (k := 2) (M := pm_159) rfl rfl ?_
  refine go_seg 1 (pc' := 1) (ls' := [(0, .ref 90), (1, .int 2), (2, .int a2)]) (st' := [.int 2]) (w' := (wd_1220 z a2)) (cs' := 0) (ss' := 0) ?_ (fun _ _ => rfl)
  refine go_cl (k := 2) (st' := [.int 1]) (cs' := 0) (ss' := 0) rfl rfl rfl rfl rfl rfl rfl (ro_1213 z a2 (by omega) (by omega)) ?_
  refine go_seg 5 (pc' := 15) (ls' := [(0, .ref 90), (1, .int 2), (2, .int a2)]) (st' := [.long 7, .long (-1), .long a2.toInt64]) (w' := (wd_1220 z a2)) (cs' := 0) (ss' := 0) ?_ (fun _ _ => rfl)
  refine go_cl (k := 2) (st' := [.int 1]) (cs' := 0) (ss' := 0) rfl rfl rfl rfl rfl rfl rfl (wi_t _ a2 (-1) 7 (-1) 7 rfl rfl (by omega)) ?_
  refine go_seg 8 (pc' := 38) (ls' := [(3, .int (-1)), (0, .ref 90), (1, .int 2), (2, .int a2)]) (st' := []) (w' := (wd_1220 z a2)) (cs' := 0) (ss' := 0) ?_ (fun _ _ => rfl)
  refine go_seg 8 (pc' := 49) (ls' := [(3, .int (-1)), (0, .ref 90), (1, .int 2), (2, .int a2)]) (st' := [.int (-1)]) (w' := (wd_1221 z a2)) (cs' := 0) (ss' := 0) ?_ (fun _ _ => rfl)
  exact go_end 1 (fun _ _ => rfl)
theorem lf_0_1216 (a0 : Int32) (a2 : Int32) (a3 : Int32) (a4 : Int32) (a5 : Int32) (h0 : -1 ≤ a2.toInt) (h1 : a2.toInt < 8) : ∃ w', pq_Go 20 pm_law 212 [(3, .int 0), (2, .ref 90), (1, .ref 1), (0, .ref 0)] [] (fw (sz a0 2 a2 a3 a4 a5)) 109 12668 (some (.int 1), w') := by
  refine ⟨(wd_1221 (sz a0 2 a2 a3 a4 a5) a2), ?_⟩
  refine go_seg 8 (pc' := 220) (ls' := [(3, .int 0), (2, .ref 90), (1, .ref 1), (0, .ref 0)]) (st' := [.int 0, .ref 0, .int 2, .ref 1]) (w' := (fw (sz a0 2 a2 a3 a4 a5))) (cs' := 109) (ss' := 12668) ?_ (fun _ _ => rfl)
  refine go_seg 3 (pc' := 223) (ls' := [(3, .int 0), (2, .ref 90), (1, .ref 1), (0, .ref 0)]) (st' := [.int a2, .int 2, .ref 1]) (w' := (fw (sz a0 2 a2 a3 a4 a5))) (cs' := 109) (ss' := 12668) ?_ (fun _ _ => rfl)
  refine go_cl (k := 20) (st' := [.int (-1)]) (cs' := 109) (ss' := 12668) rfl rfl rfl rfl rfl rfl rfl (ro_1210 (sz a0 2 a2 a3 a4 a5) a2 (by omega) (by omega)) ?_
  refine go_seg 8 (pc' := 234) (ls' := [(3, .int 0), (2, .ref 90), (1, .ref 1), (0, .ref 0)]) (st' := [.int 0, .ref 0, .int 2, .ref 90, .int (-1)]) (w' := (wd_1220 (sz a0 2 a2 a3 a4 a5) a2)) (cs' := 109) (ss' := 12668) ?_ (fun _ _ => rfl)
  refine go_seg 3 (pc' := 237) (ls' := [(3, .int 0), (2, .ref 90), (1, .ref 1), (0, .ref 0)]) (st' := [.int a2, .int 2, .ref 90, .int (-1)]) (w' := (wd_1220 (sz a0 2 a2 a3 a4 a5) a2)) (cs' := 109) (ss' := 12668) ?_ (fun _ _ => rfl)
  refine go_cl (k := 20) (st' := [.int (-1), .int (-1)]) (cs' := 109) (ss' := 12668) rfl rfl rfl rfl rfl rfl rfl (ro_1215 (sz a0 2 a2 a3 a4 a5) a2 (by omega) (by omega)) ?_
  refine go_cmp true rfl (br_self _) ?_
  exact law_tail (f := sc a0 2 a2 a3 a4 a5) rfl
theorem ro_1217 (z : pq_C) : pq_Ru 1 13 [.int 3] (fw z) (some (.int 1), (fw z)) := by
  refine ru_of (k := 0) (M := pm_13) rfl rfl ?_
  exact go_end 8 (fun _ _ => rfl)
def wd_1222 (z : pq_C) (a2 : Int32) : pq_W := ((fw z).set 3 (.inl (.int, 64, .inl (upd (fl_c 64 (-1) (fun _ => 0)) 3 a2))))
theorem ro_1218 (z : pq_C) (a2 : Int32) (h0 : -1 ≤ a2.toInt) (h1 : a2.toInt < 8) : pq_Ru 2 12 [.ref 1, .int 3, .int a2] (fw z) (some (.int (-1)), (wd_1222 z a2)) := by
  refine ru_of (k := 1) (M := pm_12) rfl rfl ?_
  refine go_seg 1 (pc' := 1) (ls' := [(0, .ref 1), (1, .int 3), (2, .int a2)]) (st' := [.int 3]) (w' := (fw z)) (cs' := 0) (ss' := 0) ?_ (fun _ _ => rfl)
  refine go_cl (k := 1) (st' := [.int 1]) (cs' := 0) (ss' := 0) rfl rfl rfl rfl rfl rfl rfl (ro_1217 z) ?_
  refine go_seg 2 (pc' := 8) (ls' := [(0, .ref 1), (1, .int 3), (2, .int a2)]) (st' := [.int a2]) (w' := (fw z)) (cs' := 0) (ss' := 0) ?_ (fun _ _ => rfl)
  refine go_cl (k := 1) (st' := [.int 1]) (cs' := 0) (ss' := 0) rfl rfl rfl rfl rfl rfl rfl (ro_1193 z a2 (by omega) (by omega)) ?_
  refine go_seg 8 (pc' := 31) (ls' := [(3, .int (-1)), (0, .ref 1), (1, .int 3), (2, .int a2)]) (st' := [.ref 1]) (w' := (fw z)) (cs' := 0) (ss' := 0) ?_ (fun _ _ => rfl)
  exact go_end 7 (fun _ _ => rfl)
theorem ro_1220 (z : pq_C) (a2 : Int32) (h0 : -1 ≤ a2.toInt) (h1 : a2.toInt < 8) : pq_Ru 1 161 [.long 3, .long 0, .long 63] (wd_1222 z a2) (some (.int 1), (wd_1222 z a2)) := by
  refine ru_of (k := 0) (M := pm_161) rfl rfl ?_
  refine go_seg 8 (pc' := 13) (ls' := [(0, .long 3), (2, .long 0), (4, .long 63)]) (st' := []) (w' := (wd_1222 z a2)) (cs' := 0) (ss' := 0) ?_ (fun _ _ => rfl)
  exact go_end 3 (fun _ _ => rfl)
theorem ro_1221 (z : pq_C) (a2 : Int32) (h0 : -1 ≤ a2.toInt) (h1 : a2.toInt < 8) : pq_Ru 2 160 [.int 3] (wd_1222 z a2) (some (.int 1), (wd_1222 z a2)) := by
  refine ru_of (k := 1) (M := pm_160) rfl rfl ?_
  refine go_seg 4 (pc' := 6) (ls' := [(0, .int 3)]) (st' := [.long 63, .long 0, .long 3]) (w' := (wd_1222 z a2)) (cs' := 0) (ss' := 0) ?_ (fun _ _ => rfl)
  refine go_cl (k := 1) (st' := [.int 1]) (cs' := 0) (ss' := 0) rfl rfl rfl rfl rfl rfl rfl (ro_1220 z a2 (by omega) (by omega)) ?_
  exact go_end 1 (fun _ _ => rfl)
def wd_1223 (z : pq_C) (a2 : Int32) : pq_W := ((wd_1222 z a2).set 91 (.inl (.int, 2858, .inl (upd (upd (upd (upd (upd (upd (upd (upd (upd (upd (upd (upd (upd (upd (upd (upd (upd (upd (upd (upd (upd (upd (upd (upd (upd (upd (upd (upd (upd (upd (upd (upd (upd (upd (upd (upd (upd (upd (upd (upd (upd (upd (upd (upd (upd (upd (upd (upd (upd (upd (upd (upd (upd (upd (upd (upd (upd (upd (upd (upd (upd (upd (upd (upd (upd (upd (upd (upd (upd (upd (upd (upd (upd (upd (upd (upd (upd (upd (upd (upd (upd (upd (fun _ => 0) 1 10) 10 (-1)) 11 (-1)) 12 (-1)) 13 (-1)) 14 (-1)) 15 (-1)) 16 (-1)) 17 (-1)) 18 (-1)) 19 (-1)) 20 (-1)) 21 (-1)) 22 (-1)) 23 (-1)) 24 (-1)) 25 (-1)) 26 (-1)) 27 (-1)) 28 (-1)) 29 (-1)) 30 (-1)) 31 (-1)) 32 (-1)) 33 (-1)) 34 (-1)) 35 (-1)) 36 (-1)) 37 (-1)) 38 (-1)) 39 (-1)) 40 (-1)) 41 (-1)) 42 (-1)) 43 (-1)) 44 (-1)) 45 (-1)) 46 (-1)) 47 (-1)) 48 (-1)) 49 (-1)) 50 (-1)) 51 (-1)) 52 (-1)) 53 (-1)) 54 (-1)) 55 (-1)) 56 (-1)) 57 (-1)) 58 (-1)) 59 (-1)) 60 (-1)) 61 (-1)) 62 (-1)) 63 (-1)) 64 (-1)) 65 (-1)) 66 (-1)) 67 (-1)) 68 (-1)) 69 (-1)) 70 (-1)) 71 (-1)) 72 (-1)) 73 (-1)) 139 1000) 140 100) 145 1000) 146 100) 151 1000) 152 100) 157 1000) 158 100) 163 1000) 164 100) 169 1000) 170 100) 175 1000) 176 100) 181 1000) 182 100) 13 a2))))
theorem ro_1223 (z : pq_C) (a2 : Int32) (h0 : -1 ≤ a2.toInt) (h1 : a2.toInt < 8) : pq_Ru 3 159 [.ref 90, .int 3, .int a2] (wd_1222 z a2) (some (.int (-1)), (wd_1223 z a2)) := by
  refine ru_of (k := 2) (M := pm_159) rfl rfl ?_
  refine go_seg 1 (pc' := 1) (ls' := [(0, .ref 90), (1, .int 3), (2, .int a2)]) (st' := [.int 3]) (w' := (wd_1222 z a2)) (cs' := 0) (ss' := 0) ?_ (fun _ _ => rfl)
  refine go_cl (k := 2) (st' := [.int 1]) (cs' := 0) (ss' := 0) rfl rfl rfl rfl rfl rfl rfl (ro_1221 z a2 (by omega) (by omega)) ?_
  refine go_seg 5 (pc' := 15) (ls' := [(0, .ref 90), (1, .int 3), (2, .int a2)]) (st' := [.long 7, .long (-1), .long a2.toInt64]) (w' := (wd_1222 z a2)) (cs' := 0) (ss' := 0) ?_ (fun _ _ => rfl)
  refine go_cl (k := 2) (st' := [.int 1]) (cs' := 0) (ss' := 0) rfl rfl rfl rfl rfl rfl rfl (wi_t _ a2 (-1) 7 (-1) 7 rfl rfl (by omega)) ?_
  refine go_seg 8 (pc' := 38) (ls' := [(3, .int (-1)), (0, .ref 90), (1, .int 3), (2, .int a2)]) (st' := []) (w' := (wd_1222 z a2)) (cs' := 0) (ss' := 0) ?_ (fun _ _ => rfl)
  refine go_seg 8 (pc' := 49) (ls' := [(3, .int (-1)), (0, .ref 90), (1, .int 3), (2, .int a2)]) (st' := [.int (-1)]) (w' := (wd_1223 z a2)) (cs' := 0) (ss' := 0) ?_ (fun _ _ => rfl)
  exact go_end 1 (fun _ _ => rfl)
theorem lf_0_1224 (a0 : Int32) (a2 : Int32) (a3 : Int32) (a4 : Int32) (a5 : Int32) (h0 : -1 ≤ a2.toInt) (h1 : a2.toInt < 8) : ∃ w', pq_Go 20 pm_law 212 [(3, .int 0), (2, .ref 90), (1, .ref 1), (0, .ref 0)] [] (fw (sz a0 3 a2 a3 a4 a5)) 109 12668 (some (.int 1), w') := by
  refine ⟨(wd_1223 (sz a0 3 a2 a3 a4 a5) a2), ?_⟩
  refine go_seg 8 (pc' := 220) (ls' := [(3, .int 0), (2, .ref 90), (1, .ref 1), (0, .ref 0)]) (st' := [.int 0, .ref 0, .int 3, .ref 1]) (w' := (fw (sz a0 3 a2 a3 a4 a5))) (cs' := 109) (ss' := 12668) ?_ (fun _ _ => rfl)
  refine go_seg 3 (pc' := 223) (ls' := [(3, .int 0), (2, .ref 90), (1, .ref 1), (0, .ref 0)]) (st' := [.int a2, .int 3, .ref 1]) (w' := (fw (sz a0 3 a2 a3 a4 a5))) (cs' := 109) (ss' := 12668) ?_ (fun _ _ => rfl)
  refine go_cl (k := 20) (st' := [.int (-1)]) (cs' := 109) (ss' := 12668) rfl rfl rfl rfl rfl rfl rfl (ro_1218 (sz a0 3 a2 a3 a4 a5) a2 (by omega) (by omega)) ?_
  refine go_seg 8 (pc' := 234) (ls' := [(3, .int 0), (2, .ref 90), (1, .ref 1), (0, .ref 0)]) (st' := [.int 0, .ref 0, .int 3, .ref 90, .int (-1)]) (w' := (wd_1222 (sz a0 3 a2 a3 a4 a5) a2)) (cs' := 109) (ss' := 12668) ?_ (fun _ _ => rfl)
  refine go_seg 3 (pc' := 237) (ls' := [(3, .int 0), (2, .ref 90), (1, .ref 1), (0, .ref 0)]) (st' := [.int a2, .int 3, .ref 90, .int (-1)]) (w' := (wd_1222 (sz a0 3 a2 a3 a4 a5) a2)) (cs' := 109) (ss' := 12668) ?_ (fun _ _ => rfl)
  refine go_cl (k := 20) (st' := [.int (-1), .int (-1)]) (cs' := 109) (ss' := 12668) rfl rfl rfl rfl rfl rfl rfl (ro_1223 (sz a0 3 a2 a3 a4 a5) a2 (by omega) (by omega)) ?_
  refine go_cmp true rfl (br_self _) ?_
  exact law_tail (f := sc a0 3 a2 a3 a4 a5) rfl
theorem ro_1225 (z : pq_C) : pq_Ru 1 13 [.int 4] (fw z) (some (.int 1), (fw z)) := by
  refine ru_of (k := 0) (M := pm_13) rfl rfl ?_
  exact go_end 8 (fun _ _ => rfl)
def wd_1224 (z : pq_C) (a2 : Int32) : pq_W := ((fw z).set 3 (.inl (.int, 64, .inl (upd (fl_c 64 (-1) (fun _ => 0)) 4 a2))))
theorem ro_1226 (z : pq_C) (a2 : Int32) (h0 : -1 ≤ a2.toInt) (h1 : a2.toInt < 8) : pq_Ru 2 12 [.ref 1, .int 4, .int a2] (fw z) (some (.int (-1)), (wd_1224 z a2)) := by
  refine ru_of (k := 1) (M := pm_12) rfl rfl ?_
  refine go_seg 1 (pc' := 1) (ls' := [(0, .ref 1), (1, .int 4), (2, .int a2)]) (st' := [.int 4]) (w' := (fw z)) (cs' := 0) (ss' := 0) ?_ (fun _ _ => rfl)
  refine go_cl (k := 1) (st' := [.int 1]) (cs' := 0) (ss' := 0) rfl rfl rfl rfl rfl rfl rfl (ro_1225 z) ?_
  refine go_seg 2 (pc' := 8) (ls' := [(0, .ref 1), (1, .int 4), (2, .int a2)]) (st' := [.int a2]) (w' := (fw z)) (cs' := 0) (ss' := 0) ?_ (fun _ _ => rfl)
  refine go_cl (k := 1) (st' := [.int 1]) (cs' := 0) (ss' := 0) rfl rfl rfl rfl rfl rfl rfl (ro_1193 z a2 (by omega) (by omega)) ?_
  refine go_seg 8 (pc' := 31) (ls' := [(3, .int (-1)), (0, .ref 1), (1, .int 4), (2, .int a2)]) (st' := [.ref 1]) (w' := (fw z)) (cs' := 0) (ss' := 0) ?_ (fun _ _ => rfl)
  exact go_end 7 (fun _ _ => rfl)
theorem ro_1228 (z : pq_C) (a2 : Int32) (h0 : -1 ≤ a2.toInt) (h1 : a2.toInt < 8) : pq_Ru 1 161 [.long 4, .long 0, .long 63] (wd_1224 z a2) (some (.int 1), (wd_1224 z a2)) := by
  refine ru_of (k := 0) (M := pm_161) rfl rfl ?_
  refine go_seg 8 (pc' := 13) (ls' := [(0, .long 4), (2, .long 0), (4, .long 63)]) (st' := []) (w' := (wd_1224 z a2)) (cs' := 0) (ss' := 0) ?_ (fun _ _ => rfl)
  exact go_end 3 (fun _ _ => rfl)
theorem ro_1229 (z : pq_C) (a2 : Int32) (h0 : -1 ≤ a2.toInt) (h1 : a2.toInt < 8) : pq_Ru 2 160 [.int 4] (wd_1224 z a2) (some (.int 1), (wd_1224 z a2)) := by
  refine ru_of (k := 1) (M := pm_160) rfl rfl ?_
  refine go_seg 4 (pc' := 6) (ls' := [(0, .int 4)]) (st' := [.long 63, .long 0, .long 4]) (w' := (wd_1224 z a2)) (cs' := 0) (ss' := 0) ?_ (fun _ _ => rfl)
  refine go_cl (k := 1) (st' := [.int 1]) (cs' := 0) (ss' := 0) rfl rfl rfl rfl rfl rfl rfl (ro_1228 z a2 (by omega) (by omega)) ?_
  exact go_end 1 (fun _ _ => rfl)
def wd_1225 (z : pq_C) (a2 : Int32) : pq_W := ((wd_1224 z a2).set 91 (.inl (.int, 2858, .inl (upd (upd (upd (upd (upd (upd (upd (upd (upd (upd (upd (upd (upd (upd (upd (upd (upd (upd (upd (upd (upd (upd (upd (upd (upd (upd (upd (upd (upd (upd (upd (upd (upd (upd (upd (upd (upd (upd (upd (upd (upd (upd (upd (upd (upd (upd (upd (upd (upd (upd (upd (upd (upd (upd (upd (upd (upd (upd (upd (upd (upd (upd (upd (upd (upd (upd (upd (upd (upd (upd (upd (upd (upd (upd (upd (upd (upd (upd (upd (upd (upd (upd (fun _ => 0) 1 10) 10 (-1)) 11 (-1)) 12 (-1)) 13 (-1)) 14 (-1)) 15 (-1)) 16 (-1)) 17 (-1)) 18 (-1)) 19 (-1)) 20 (-1)) 21 (-1)) 22 (-1)) 23 (-1)) 24 (-1)) 25 (-1)) 26 (-1)) 27 (-1)) 28 (-1)) 29 (-1)) 30 (-1)) 31 (-1)) 32 (-1)) 33 (-1)) 34 (-1)) 35 (-1)) 36 (-1)) 37 (-1)) 38 (-1)) 39 (-1)) 40 (-1)) 41 (-1)) 42 (-1)) 43 (-1)) 44 (-1)) 45 (-1)) 46 (-1)) 47 (-1)) 48 (-1)) 49 (-1)) 50 (-1)) 51 (-1)) 52 (-1)) 53 (-1)) 54 (-1)) 55 (-1)) 56 (-1)) 57 (-1)) 58 (-1)) 59 (-1)) 60 (-1)) 61 (-1)) 62 (-1)) 63 (-1)) 64 (-1)) 65 (-1)) 66 (-1)) 67 (-1)) 68 (-1)) 69 (-1)) 70 (-1)) 71 (-1)) 72 (-1)) 73 (-1)) 139 1000) 140 100) 145 1000) 146 100) 151 1000) 152 100) 157 1000) 158 100) 163 1000) 164 100) 169 1000) 170 100) 175 1000) 176 100) 181 1000) 182 100) 14 a2))))
theorem ro_1231 (z : pq_C) (a2 : Int32) (h0 : -1 ≤ a2.toInt) (h1 : a2.toInt < 8) : pq_Ru 3 159 [.ref 90, .int 4, .int a2] (wd_1224 z a2) (some (.int (-1)), (wd_1225 z a2)) := by
  refine ru_of (k := 2) (M := pm_159) rfl rfl ?_
  refine go_seg 1 (pc' := 1) (ls' := [(0, .ref 90), (1, .int 4), (2, .int a2)]) (st' := [.int 4]) (w' := (wd_1224 z a2)) (cs' := 0) (ss' := 0) ?_ (fun _ _ => rfl)
  refine go_cl (k := 2) (st' := [.int 1]) (cs' := 0) (ss' := 0) rfl rfl rfl rfl rfl rfl rfl (ro_1229 z a2 (by omega) (by omega)) ?_
  refine go_seg 5 (pc' := 15) (ls' := [(0, .ref 90), (1, .int 4), (2, .int a2)]) (st' := [.long 7, .long (-1), .long a2.toInt64]) (w' := (wd_1224 z a2)) (cs' := 0) (ss' := 0) ?_ (fun _ _ => rfl)
  refine go_cl (k := 2) (st' := [.int 1]) (cs' := 0) (ss' := 0) rfl rfl rfl rfl rfl rfl rfl (wi_t _ a2 (-1) 7 (-1) 7 rfl rfl (by omega)) ?_
  refine go_seg 8 (pc' := 38) (ls' := [(3, .int (-1)), (0, .ref 90), (1, .int 4), (2, .int a2)]) (st' := []) (w' := (wd_1224 z a2)) (cs' := 0) (ss' := 0) ?_ (fun _ _ => rfl)
  refine go_seg 8 (pc' := 49) (ls' := [(3, .int (-1)), (0, .ref 90), (1, .int 4), (2, .int a2)]) (st' := [.int (-1)]) (w' := (wd_1225 z a2)) (cs' := 0) (ss' := 0) ?_ (fun _ _ => rfl)
  exact go_end 1 (fun _ _ => rfl)
theorem lf_0_1232 (a0 : Int32) (a2 : Int32) (a3 : Int32) (a4 : Int32) (a5 : Int32) (h0 : -1 ≤ a2.toInt) (h1 : a2.toInt < 8) : ∃ w', pq_Go 20 pm_law 212 [(3, .int 0), (2, .ref 90), (1, .ref 1), (0, .ref 0)] [] (fw (sz a0 4 a2 a3 a4 a5)) 109 12668 (some (.int 1), w') := by
  refine ⟨(wd_1225 (sz a0 4 a2 a3 a4 a5) a2), ?_⟩
  refine go_seg 8 (pc' := 220) (ls' := [(3, .int 0), (2, .ref 90), (1, .ref 1), (0, .ref 0)]) (st' := [.int 0, .ref 0, .int 4, .ref 1]) (w' := (fw (sz a0 4 a2 a3 a4 a5))) (cs' := 109) (ss' := 12668) ?_ (fun _ _ => rfl)
  refine go_seg 3 (pc' := 223) (ls' := [(3, .int 0), (2, .ref 90), (1, .ref 1), (0, .ref 0)]) (st' := [.int a2, .int 4, .ref 1]) (w' := (fw (sz a0 4 a2 a3 a4 a5))) (cs' := 109) (ss' := 12668) ?_ (fun _ _ => rfl)
  refine go_cl (k := 20) (st' := [.int (-1)]) (cs' := 109) (ss' := 12668) rfl rfl rfl rfl rfl rfl rfl (ro_1226 (sz a0 4 a2 a3 a4 a5) a2 (by omega) (by omega)) ?_
  refine go_seg 8 (pc' := 234) (ls' := [(3, .int 0), (2, .ref 90), (1, .ref 1), (0, .ref 0)]) (st' := [.int 0, .ref 0, .int 4, .ref 90, .int (-1)]) (w' := (wd_1224 (sz a0 4 a2 a3 a4 a5) a2)) (cs' := 109) (ss' := 12668) ?_ (fun _ _ => rfl)
  refine go_seg 3 (pc' := 237) (ls' := [(3, .int 0), (2, .ref 90), (1, .ref 1), (0, .ref 0)]) (st' := [.int a2, .int 4, .ref 90, .int (-1)]) (w' := (wd_1224 (sz a0 4 a2 a3 a4 a5) a2)) (cs' := 109) (ss' := 12668) ?_ (fun _ _ => rfl)
  refine go_cl (k := 20) (st' := [.int (-1), .int (-1)]) (cs' := 109) (ss' := 12668) rfl rfl rfl rfl rfl rfl rfl (ro_1231 (sz a0 4 a2 a3 a4 a5) a2 (by omega) (by omega)) ?_
  refine go_cmp true rfl (br_self _) ?_
  exact law_tail (f := sc a0 4 a2 a3 a4 a5) rfl
theorem ro_1233 (z : pq_C) : pq_Ru 1 13 [.int 5] (fw z) (some (.int 1), (fw z)) := by
  refine ru_of (k := 0) (M := pm_13) rfl rfl ?_
  exact go_end 8 (fun _ _ => rfl)
def wd_1226 (z : pq_C) (a2 : Int32) : pq_W := ((fw z).set 3 (.inl (.int, 64, .inl (upd (fl_c 64 (-1) (fun _ => 0)) 5 a2))))
theorem ro_1234 (z : pq_C) (a2 : Int32) (h0 : -1 ≤ a2.toInt) (h1 : a2.toInt < 8) : pq_Ru 2 12 [.ref 1, .int 5, .int a2] (fw z) (some (.int (-1)), (wd_1226 z a2)) := by
  refine ru_of (k := 1) (M := pm_12) rfl rfl ?_
  refine go_seg 1 (pc' := 1) (ls' := [(0, .ref 1), (1, .int 5), (2, .int a2)]) (st' := [.int 5]) (w' := (fw z)) (cs' := 0) (ss' := 0) ?_ (fun _ _ => rfl)
  refine go_cl (k := 1) (st' := [.int 1]) (cs' := 0) (ss' := 0) rfl rfl rfl rfl rfl rfl rfl (ro_1233 z) ?_
  refine go_seg 2 (pc' := 8) (ls' := [(0, .ref 1), (1, .int 5), (2, .int a2)]) (st' := [.int a2]) (w' := (fw z)) (cs' := 0) (ss' := 0) ?_ (fun _ _ => rfl)
  refine go_cl (k := 1) (st' := [.int 1]) (cs' := 0) (ss' := 0) rfl rfl rfl rfl rfl rfl rfl (ro_1193 z a2 (by omega) (by omega)) ?_
  refine go_seg 8 (pc' := 31) (ls' := [(3, .int (-1)), (0, .ref 1), (1, .int 5), (2, .int a2)]) (st' := [.ref 1]) (w' := (fw z)) (cs' := 0) (ss' := 0) ?_ (fun _ _ => rfl)
  exact go_end 7 (fun _ _ => rfl)
theorem ro_1236 (z : pq_C) (a2 : Int32) (h0 : -1 ≤ a2.toInt) (h1 : a2.toInt < 8) : pq_Ru 1 161 [.long 5, .long 0, .long 63] (wd_1226 z a2) (some (.int 1), (wd_1226 z a2)) := by
  refine ru_of (k := 0) (M := pm_161) rfl rfl ?_
  refine go_seg 8 (pc' := 13) (ls' := [(0, .long 5), (2, .long 0), (4, .long 63)]) (st' := []) (w' := (wd_1226 z a2)) (cs' := 0) (ss' := 0) ?_ (fun _ _ => rfl)
  exact go_end 3 (fun _ _ => rfl)
theorem ro_1237 (z : pq_C) (a2 : Int32) (h0 : -1 ≤ a2.toInt) (h1 : a2.toInt < 8) : pq_Ru 2 160 [.int 5] (wd_1226 z a2) (some (.int 1), (wd_1226 z a2)) := by
  refine ru_of (k := 1) (M := pm_160) rfl rfl ?_
  refine go_seg 4 (pc' := 6) (ls' := [(0, .int 5)]) (st' := [.long 63, .long 0, .long 5]) (w' := (wd_1226 z a2)) (cs' := 0) (ss' := 0) ?_ (fun _ _ => rfl)
  refine go_cl (k := 1) (st' := [.int 1]) (cs' := 0) (ss' := 0) rfl rfl rfl rfl rfl rfl rfl (ro_1236 z a2 (by omega) (by omega)) ?_
  exact go_end 1 (fun _ _ => rfl)
def wd_1227 (z : pq_C) (a2 : Int32) : pq_W := ((wd_1226 z a2).set 91 (.inl (.int, 2858, .inl (upd (upd (upd (upd (upd (upd (upd (upd (upd (upd (upd (upd (upd (upd (upd (upd (upd (upd (upd (upd (upd (upd (upd (upd (upd (upd (upd (upd (upd (upd (upd (upd (upd (upd (upd (upd (upd (upd (upd (upd (upd (upd (upd (upd (upd (upd (upd (upd (upd (upd (upd (upd (upd (upd (upd (upd (upd (upd (upd (upd (upd (upd (upd (upd (upd (upd (upd (upd (upd (upd (upd (upd (upd (upd (upd (upd (upd (upd (upd (upd (upd (upd (fun _ => 0) 1 10) 10 (-1)) 11 (-1)) 12 (-1)) 13 (-1)) 14 (-1)) 15 (-1)) 16 (-1)) 17 (-1)) 18 (-1)) 19 (-1)) 20 (-1)) 21 (-1)) 22 (-1)) 23 (-1)) 24 (-1)) 25 (-1)) 26 (-1)) 27 (-1)) 28 (-1)) 29 (-1)) 30 (-1)) 31 (-1)) 32 (-1)) 33 (-1)) 34 (-1)) 35 (-1)) 36 (-1)) 37 (-1)) 38 (-1)) 39 (-1)) 40 (-1)) 41 (-1)) 42 (-1)) 43 (-1)) 44 (-1)) 45 (-1)) 46 (-1)) 47 (-1)) 48 (-1)) 49 (-1)) 50 (-1)) 51 (-1)) 52 (-1)) 53 (-1)) 54 (-1)) 55 (-1)) 56 (-1)) 57 (-1)) 58 (-1)) 59 (-1)) 60 (-1)) 61 (-1)) 62 (-1)) 63 (-1)) 64 (-1)) 65 (-1)) 66 (-1)) 67 (-1)) 68 (-1)) 69 (-1)) 70 (-1)) 71 (-1)) 72 (-1)) 73 (-1)) 139 1000) 140 100) 145 1000) 146 100) 151 1000) 152 100) 157 1000) 158 100) 163 1000) 164 100) 169 1000) 170 100) 175 1000) 176 100) 181 1000) 182 100) 15 a2))))
theorem ro_1239 (z : pq_C) (a2 : Int32) (h0 : -1 ≤ a2.toInt) (h1 : a2.toInt < 8) : pq_Ru 3 159 [.ref 90, .int 5, .int a2] (wd_1226 z a2) (some (.int (-1)), (wd_1227 z a2)) := by
  refine ru_of (k := 2) (M := pm_159) rfl rfl ?_
  refine go_seg 1 (pc' := 1) (ls' := [(0, .ref 90), (1, .int 5), (2, .int a2)]) (st' := [.int 5]) (w' := (wd_1226 z a2)) (cs' := 0) (ss' := 0) ?_ (fun _ _ => rfl)
  refine go_cl (k := 2) (st' := [.int 1]) (cs' := 0) (ss' := 0) rfl rfl rfl rfl rfl rfl rfl (ro_1237 z a2 (by omega) (by omega)) ?_
  refine go_seg 5 (pc' := 15) (ls' := [(0, .ref 90), (1, .int 5), (2, .int a2)]) (st' := [.long 7, .long (-1), .long a2.toInt64]) (w' := (wd_1226 z a2)) (cs' := 0) (ss' := 0) ?_ (fun _ _ => rfl)
  refine go_cl (k := 2) (st' := [.int 1]) (cs' := 0) (ss' := 0) rfl rfl rfl rfl rfl rfl rfl (wi_t _ a2 (-1) 7 (-1) 7 rfl rfl (by omega)) ?_
  refine go_seg 8 (pc' := 38) (ls' := [(3, .int (-1)), (0, .ref 90), (1, .int 5), (2, .int a2)]) (st' := []) (w' := (wd_1226 z a2)) (cs' := 0) (ss' := 0) ?_ (fun _ _ => rfl)
  refine go_seg 8 (pc' := 49) (ls' := [(3, .int (-1)), (0, .ref 90), (1, .int 5), (2, .int a2)]) (st' := [.int (-1)]) (w' := (wd_1227 z a2)) (cs' := 0) (ss' := 0) ?_ (fun _ _ => rfl)
  exact go_end 1 (fun _ _ => rfl)
theorem lf_0_1240 (a0 : Int32) (a2 : Int32) (a3 : Int32) (a4 : Int32) (a5 : Int32) (h0 : -1 ≤ a2.toInt) (h1 : a2.toInt < 8) : ∃ w', pq_Go 20 pm_law 212 [(3, .int 0), (2, .ref 90), (1, .ref 1), (0, .ref 0)] [] (fw (sz a0 5 a2 a3 a4 a5)) 109 12668 (some (.int 1), w') := by
  refine ⟨(wd_1227 (sz a0 5 a2 a3 a4 a5) a2), ?_⟩
  refine go_seg 8 (pc' := 220) (ls' := [(3, .int 0), (2, .ref 90), (1, .ref 1), (0, .ref 0)]) (st' := [.int 0, .ref 0, .int 5, .ref 1]) (w' := (fw (sz a0 5 a2 a3 a4 a5))) (cs' := 109) (ss' := 12668) ?_ (fun _ _ => rfl)
  refine go_seg 3 (pc' := 223) (ls' := [(3, .int 0), (2, .ref 90), (1, .ref 1), (0, .ref 0)]) (st' := [.int a2, .int 5, .ref 1]) (w' := (fw (sz a0 5 a2 a3 a4 a5))) (cs' := 109) (ss' := 12668) ?_ (fun _ _ => rfl)
  refine go_cl (k := 20) (st' := [.int (-1)]) (cs' := 109) (ss' := 12668) rfl rfl rfl rfl rfl rfl rfl (ro_1234 (sz a0 5 a2 a3 a4 a5) a2 (by omega) (by omega)) ?_
  refine go_seg 8 (pc' := 234) (ls' := [(3, .int 0), (2, .ref 90), (1, .ref 1), (0, .ref 0)]) (st' := [.int 0, .ref 0, .int 5, .ref 90, .int (-1)]) (w' := (wd_1226 (sz a0 5 a2 a3 a4 a5) a2)) (cs' := 109) (ss' := 12668) ?_ (fun _ _ => rfl)
  refine go_seg 3 (pc' := 237) (ls' := [(3, .int 0), (2, .ref 90), (1, .ref 1), (0, .ref 0)]) (st' := [.int a2, .int 5, .ref 90, .int (-1)]) (w' := (wd_1226 (sz a0 5 a2 a3 a4 a5) a2)) (cs' := 109) (ss' := 12668) ?_ (fun _ _ => rfl)
  refine go_cl (k := 20) (st' := [.int (-1), .int (-1)]) (cs' := 109) (ss' := 12668) rfl rfl rfl rfl rfl rfl rfl (ro_1239 (sz a0 5 a2 a3 a4 a5) a2 (by omega) (by omega)) ?_
  refine go_cmp true rfl (br_self _) ?_
  exact law_tail (f := sc a0 5 a2 a3 a4 a5) rfl
theorem ro_1241 (z : pq_C) : pq_Ru 1 13 [.int 6] (fw z) (some (.int 1), (fw z)) := by
  refine ru_of (k := 0) (M := pm_13) rfl rfl ?_
  exact go_end 8 (fun _ _ => rfl)
def wd_1228 (z : pq_C) (a2 : Int32) : pq_W := ((fw z).set 3 (.inl (.int, 64, .inl (upd (fl_c 64 (-1) (fun _ => 0)) 6 a2))))
theorem ro_1242 (z : pq_C) (a2 : Int32) (h0 : -1 ≤ a2.toInt) (h1 : a2.toInt < 8) : pq_Ru 2 12 [.ref 1, .int 6, .int a2] (fw z) (some (.int (-1)), (wd_1228 z a2)) := by
  refine ru_of (k := 1) (M := pm_12) rfl rfl ?_
  refine go_seg 1 (pc' := 1) (ls' := [(0, .ref 1), (1, .int 6), (2, .int a2)]) (st' := [.int 6]) (w' := (fw z)) (cs' := 0) (ss' := 0) ?_ (fun _ _ => rfl)
  refine go_cl (k := 1) (st' := [.int 1]) (cs' := 0) (ss' := 0) rfl rfl rfl rfl rfl rfl rfl (ro_1241 z) ?_
  refine go_seg 2 (pc' := 8) (ls' := [(0, .ref 1), (1, .int 6), (2, .int a2)]) (st' := [.int a2]) (w' := (fw z)) (cs' := 0) (ss' := 0) ?_ (fun _ _ => rfl)
  refine go_cl (k := 1) (st' := [.int 1]) (cs' := 0) (ss' := 0) rfl rfl rfl rfl rfl rfl rfl (ro_1193 z a2 (by omega) (by omega)) ?_
  refine go_seg 8 (pc' := 31) (ls' := [(3, .int (-1)), (0, .ref 1), (1, .int 6), (2, .int a2)]) (st' := [.ref 1]) (w' := (fw z)) (cs' := 0) (ss' := 0) ?_ (fun _ _ => rfl)
  exact go_end 7 (fun _ _ => rfl)
theorem ro_1244 (z : pq_C) (a2 : Int32) (h0 : -1 ≤ a2.toInt) (h1 : a2.toInt < 8) : pq_Ru 1 161 [.long 6, .long 0, .long 63] (wd_1228 z a2) (some (.int 1), (wd_1228 z a2)) := by
  refine ru_of (k := 0) (M := pm_161) rfl rfl ?_
  refine go_seg 8 (pc' := 13) (ls' := [(0, .long 6), (2, .long 0), (4, .long 63)]) (st' := []) (w' := (wd_1228 z a2)) (cs' := 0) (ss' := 0) ?_ (fun _ _ => rfl)
  exact go_end 3 (fun _ _ => rfl)
theorem ro_1245 (z : pq_C) (a2 : Int32) (h0 : -1 ≤ a2.toInt) (h1 : a2.toInt < 8) : pq_Ru 2 160 [.int 6] (wd_1228 z a2) (some (.int 1), (wd_1228 z a2)) := by
  refine ru_of (k := 1) (M := pm_160) rfl rfl ?_
  refine go_seg 4 (pc' := 6) (ls' := [(0, .int 6)]) (st' := [.long 63, .long 0, .long 6]) (w' := (wd_1228 z a2)) (cs' := 0) (ss' := 0) ?_ (fun _ _ => rfl)
  refine go_cl (k := 1) (st' := [.int 1]) (cs' := 0) (ss' := 0) rfl rfl rfl rfl rfl rfl rfl (ro_1244 z a2 (by omega) (by omega)) ?_
  exact go_end 1 (fun _ _ => rfl)
def wd_1229 (z : pq_C) (a2 : Int32) : pq_W := ((wd_1228 z a2).set 91 (.inl (.int, 2858, .inl (upd (upd (upd (upd (upd (upd (upd (upd (upd (upd (upd (upd (upd (upd (upd (upd (upd (upd (upd (upd (upd (upd (upd (upd (upd (upd (upd (upd (upd (upd (upd (upd (upd (upd (upd (upd (upd (upd (upd (upd (upd (upd (upd (upd (upd (upd (upd (upd (upd (upd (upd (upd (upd (upd (upd (upd (upd (upd (upd (upd (upd (upd (upd (upd (upd (upd (upd (upd (upd (upd (upd (upd (upd (upd (upd (upd (upd (upd (upd (upd (upd (upd (fun _ => 0) 1 10) 10 (-1)) 11 (-1)) 12 (-1)) 13 (-1)) 14 (-1)) 15 (-1)) 16 (-1)) 17 (-1)) 18 (-1)) 19 (-1)) 20 (-1)) 21 (-1)) 22 (-1)) 23 (-1)) 24 (-1)) 25 (-1)) 26 (-1)) 27 (-1)) 28 (-1)) 29 (-1)) 30 (-1)) 31 (-1)) 32 (-1)) 33 (-1)) 34 (-1)) 35 (-1)) 36 (-1)) 37 (-1)) 38 (-1)) 39 (-1)) 40 (-1)) 41 (-1)) 42 (-1)) 43 (-1)) 44 (-1)) 45 (-1)) 46 (-1)) 47 (-1)) 48 (-1)) 49 (-1)) 50 (-1)) 51 (-1)) 52 (-1)) 53 (-1)) 54 (-1)) 55 (-1)) 56 (-1)) 57 (-1)) 58 (-1)) 59 (-1)) 60 (-1)) 61 (-1)) 62 (-1)) 63 (-1)) 64 (-1)) 65 (-1)) 66 (-1)) 67 (-1)) 68 (-1)) 69 (-1)) 70 (-1)) 71 (-1)) 72 (-1)) 73 (-1)) 139 1000) 140 100) 145 1000) 146 100) 151 1000) 152 100) 157 1000) 158 100) 163 1000) 164 100) 169 1000) 170 100) 175 1000) 176 100) 181 1000) 182 100) 16 a2))))
theorem ro_1247 (z : pq_C) (a2 : Int32) (h0 : -1 ≤ a2.toInt) (h1 : a2.toInt < 8) : pq_Ru 3 159 [.ref 90, .int 6, .int a2] (wd_1228 z a2) (some (.int (-1)), (wd_1229 z a2)) := by
  refine ru_of (k := 2) (M := pm_159) rfl rfl ?_
  refine go_seg 1 (pc' := 1) (ls' := [(0, .ref 90), (1, .int 6), (2, .int a2)]) (st' := [.int 6]) (w' := (wd_1228 z a2)) (cs' := 0) (ss' := 0) ?_ (fun _ _ => rfl)
  refine go_cl (k := 2) (st' := [.int 1]) (cs' := 0) (ss' := 0) rfl rfl rfl rfl rfl rfl rfl (ro_1245 z a2 (by omega) (by omega)) ?_
  refine go_seg 5 (pc' := 15) (ls' := [(0, .ref 90), (1, .int 6), (2, .int a2)]) (st' := [.long 7, .long (-1), .long a2.toInt64]) (w' := (wd_1228 z a2)) (cs' := 0) (ss' := 0) ?_ (fun _ _ => rfl)
  refine go_cl (k := 2) (st' := [.int 1]) (cs' := 0) (ss' := 0) rfl rfl rfl rfl rfl rfl rfl (wi_t _ a2 (-1) 7 (-1) 7 rfl rfl (by omega)) ?_
  refine go_seg 8 (pc' := 38) (ls' := [(3, .int (-1)), (0, .ref 90), (1, .int 6), (2, .int a2)]) (st' := []) (w' := (wd_1228 z a2)) (cs' := 0) (ss' := 0) ?_ (fun _ _ => rfl)
  refine go_seg 8 (pc' := 49) (ls' := [(3, .int (-1)), (0, .ref 90), (1, .int 6), (2, .int a2)]) (st' := [.int (-1)]) (w' := (wd_1229 z a2)) (cs' := 0) (ss' := 0) ?_ (fun _ _ => rfl)
  exact go_end 1 (fun _ _ => rfl)
theorem lf_0_1248 (a0 : Int32) (a2 : Int32) (a3 : Int32) (a4 : Int32) (a5 : Int32) (h0 : -1 ≤ a2.toInt) (h1 : a2.toInt < 8) : ∃ w', pq_Go 20 pm_law 212 [(3, .int 0), (2, .ref 90), (1, .ref 1), (0, .ref 0)] [] (fw (sz a0 6 a2 a3 a4 a5)) 109 12668 (some (.int 1), w') := by
  refine ⟨(wd_1229 (sz a0 6 a2 a3 a4 a5) a2), ?_⟩
  refine go_seg 8 (pc' := 220) (ls' := [(3, .int 0), (2, .ref 90), (1, .ref 1), (0, .ref 0)]) (st' := [.int 0, .ref 0, .int 6, .ref 1]) (w' := (fw (sz a0 6 a2 a3 a4 a5))) (cs' := 109) (ss' := 12668) ?_ (fun _ _ => rfl)
  refine go_seg 3 (pc' := 223) (ls' := [(3, .int 0), (2, .ref 90), (1, .ref 1), (0, .ref 0)]) (st' := [.int a2, .int 6, .ref 1]) (w' := (fw (sz a0 6 a2 a3 a4 a5))) (cs' := 109) (ss' := 12668) ?_ (fun _ _ => rfl)
  refine go_cl (k := 20) (st' := [.int (-1)]) (cs' := 109) (ss' := 12668) rfl rfl rfl rfl rfl rfl rfl (ro_1242 (sz a0 6 a2 a3 a4 a5) a2 (by omega) (by omega)) ?_
  refine go_seg 8 (pc' := 234) (ls' := [(3, .int 0), (2, .ref 90), (1, .ref 1), (0, .ref 0)]) (st' := [.int 0, .ref 0, .int 6, .ref 90, .int (-1)]) (w' := (wd_1228 (sz a0 6 a2 a3 a4 a5) a2)) (cs' := 109) (ss' := 12668) ?_ (fun _ _ => rfl)
  refine go_seg 3 (pc' := 237) (ls' := [(3, .int 0), (2, .ref 90), (1, .ref 1), (0, .ref 0)]) (st' := [.int a2, .int 6, .ref 90, .int (-1)]) (w' := (wd_1228 (sz a0 6 a2 a3 a4 a5) a2)) (cs' := 109) (ss' := 12668) ?_ (fun _ _ => rfl)
  refine go_cl (k := 20) (st' := [.int (-1), .int (-1)]) (cs' := 109) (ss' := 12668) rfl rfl rfl rfl rfl rfl rfl (ro_1247 (sz a0 6 a2 a3 a4 a5) a2 (by omega) (by omega)) ?_
  refine go_cmp true rfl (br_self _) ?_
  exact law_tail (f := sc a0 6 a2 a3 a4 a5) rfl
theorem ro_1249 (z : pq_C) : pq_Ru 1 13 [.int 7] (fw z) (some (.int 1), (fw z)) := by
  refine ru_of (k := 0) (M := pm_13) rfl rfl ?_
  exact go_end 8 (fun _ _ => rfl)
def wd_1230 (z : pq_C) (a2 : Int32) : pq_W := ((fw z).set 3 (.inl (.int, 64, .inl (upd (fl_c 64 (-1) (fun _ => 0)) 7 a2))))
theorem ro_1250 (z : pq_C) (a2 : Int32) (h0 : -1 ≤ a2.toInt) (h1 : a2.toInt < 8) : pq_Ru 2 12 [.ref 1, .int 7, .int a2] (fw z) (some (.int (-1)), (wd_1230 z a2)) := by
  refine ru_of (k := 1) (M := pm_12) rfl rfl ?_
  refine go_seg 1 (pc' := 1) (ls' := [(0, .ref 1), (1, .int 7), (2, .int a2)]) (st' := [.int 7]) (w' := (fw z)) (cs' := 0) (ss' := 0) ?_ (fun _ _ => rfl)
  refine go_cl (k := 1) (st' := [.int 1]) (cs' := 0) (ss' := 0) rfl rfl rfl rfl rfl rfl rfl (ro_1249 z) ?_
  refine go_seg 2 (pc' := 8) (ls' := [(0, .ref 1), (1, .int 7), (2, .int a2)]) (st' := [.int a2]) (w' := (fw z)) (cs' := 0) (ss' := 0) ?_ (fun _ _ => rfl)
  refine go_cl (k := 1) (st' := [.int 1]) (cs' := 0) (ss' := 0) rfl rfl rfl rfl rfl rfl rfl (ro_1193 z a2 (by omega) (by omega)) ?_
  refine go_seg 8 (pc' := 31) (ls' := [(3, .int (-1)), (0, .ref 1), (1, .int 7), (2, .int a2)]) (st' := [.ref 1]) (w' := (fw z)) (cs' := 0) (ss' := 0) ?_ (fun _ _ => rfl)
  exact go_end 7 (fun _ _ => rfl)
theorem ro_1252 (z : pq_C) (a2 : Int32) (h0 : -1 ≤ a2.toInt) (h1 : a2.toInt < 8) : pq_Ru 1 161 [.long 7, .long 0, .long 63] (wd_1230 z a2) (some (.int 1), (wd_1230 z a2)) := by
  refine ru_of (k := 0) (M := pm_161) rfl rfl ?_
  refine go_seg 8 (pc' := 13) (ls' := [(0, .long 7), (2, .long 0), (4, .long 63)]) (st' := []) (w' := (wd_1230 z a2)) (cs' := 0) (ss' := 0) ?_ (fun _ _ => rfl)
  exact go_end 3 (fun _ _ => rfl)
theorem ro_1253 (z : pq_C) (a2 : Int32) (h0 : -1 ≤ a2.toInt) (h1 : a2.toInt < 8) : pq_Ru 2 160 [.int 7] (wd_1230 z a2) (some (.int 1), (wd_1230 z a2)) := by
  refine ru_of (k := 1) (M := pm_160) rfl rfl ?_
  refine go_seg 4 (pc' := 6) (ls' := [(0, .int 7)]) (st' := [.long 63, .long 0, .long 7]) (w' := (wd_1230 z a2)) (cs' := 0) (ss' := 0) ?_ (fun _ _ => rfl)
  refine go_cl (k := 1) (st' := [.int 1]) (cs' := 0) (ss' := 0) rfl rfl rfl rfl rfl rfl rfl (ro_1252 z a2 (by omega) (by omega)) ?_
  exact go_end 1 (fun _ _ => rfl)
def wd_1231 (z : pq_C) (a2 : Int32) : pq_W := ((wd_1230 z a2).set 91 (.inl (.int, 2858, .inl (upd (upd (upd (upd (upd (upd (upd (upd (upd (upd (upd (upd (upd (upd (upd (upd (upd (upd (upd (upd (upd (upd (upd (upd (upd (upd (upd (upd (upd (upd (upd (upd (upd (upd (upd (upd (upd (upd (upd (upd (upd (upd (upd (upd (upd (upd (upd (upd (upd (upd (upd (upd (upd (upd (upd (upd (upd (upd (upd (upd (upd (upd (upd (upd (upd (upd (upd (upd (upd (upd (upd (upd (upd (upd (upd (upd (upd (upd (upd (upd (upd (upd (fun _ => 0) 1 10) 10 (-1)) 11 (-1)) 12 (-1)) 13 (-1)) 14 (-1)) 15 (-1)) 16 (-1)) 17 (-1)) 18 (-1)) 19 (-1)) 20 (-1)) 21 (-1)) 22 (-1)) 23 (-1)) 24 (-1)) 25 (-1)) 26 (-1)) 27 (-1)) 28 (-1)) 29 (-1)) 30 (-1)) 31 (-1)) 32 (-1)) 33 (-1)) 34 (-1)) 35 (-1)) 36 (-1)) 37 (-1)) 38 (-1)) 39 (-1)) 40 (-1)) 41 (-1)) 42 (-1)) 43 (-1)) 44 (-1)) 45 (-1)) 46 (-1)) 47 (-1)) 48 (-1)) 49 (-1)) 50 (-1)) 51 (-1)) 52 (-1)) 53 (-1)) 54 (-1)) 55 (-1)) 56 (-1)) 57 (-1)) 58 (-1)) 59 (-1)) 60 (-1)) 61 (-1)) 62 (-1)) 63 (-1)) 64 (-1)) 65 (-1)) 66 (-1)) 67 (-1)) 68 (-1)) 69 (-1)) 70 (-1)) 71 (-1)) 72 (-1)) 73 (-1)) 139 1000) 140 100) 145 1000) 146 100) 151 1000) 152 100) 157 1000) 158 100) 163 1000) 164 100) 169 1000) 170 100) 175 1000) 176 100) 181 1000) 182 100) 17 a2))))
theorem ro_1255 (z : pq_C) (a2 : Int32) (h0 : -1 ≤ a2.toInt) (h1 : a2.toInt < 8) : pq_Ru 3 159 [.ref 90, .int 7, .int a2] (wd_1230 z a2) (some (.int (-1)), (wd_1231 z a2)) := by
  refine ru_of (k := 2) (M := pm_159) rfl rfl ?_
  refine go_seg 1 (pc' := 1) (ls' := [(0, .ref 90), (1, .int 7), (2, .int a2)]) (st' := [.int 7]) (w' := (wd_1230 z a2)) (cs' := 0) (ss' := 0) ?_ (fun _ _ => rfl)
  refine go_cl (k := 2) (st' := [.int 1]) (cs' := 0) (ss' := 0) rfl rfl rfl rfl rfl rfl rfl (ro_1253 z a2 (by omega) (by omega)) ?_
  refine go_seg 5 (pc' := 15) (ls' := [(0, .ref 90), (1, .int 7), (2, .int a2)]) (st' := [.long 7, .long (-1), .long a2.toInt64]) (w' := (wd_1230 z a2)) (cs' := 0) (ss' := 0) ?_ (fun _ _ => rfl)
  refine go_cl (k := 2) (st' := [.int 1]) (cs' := 0) (ss' := 0) rfl rfl rfl rfl rfl rfl rfl (wi_t _ a2 (-1) 7 (-1) 7 rfl rfl (by omega)) ?_
  refine go_seg 8 (pc' := 38) (ls' := [(3, .int (-1)), (0, .ref 90), (1, .int 7), (2, .int a2)]) (st' := []) (w' := (wd_1230 z a2)) (cs' := 0) (ss' := 0) ?_ (fun _ _ => rfl)
  refine go_seg 8 (pc' := 49) (ls' := [(3, .int (-1)), (0, .ref 90), (1, .int 7), (2, .int a2)]) (st' := [.int (-1)]) (w' := (wd_1231 z a2)) (cs' := 0) (ss' := 0) ?_ (fun _ _ => rfl)
  exact go_end 1 (fun _ _ => rfl)
theorem lf_0_1256 (a0 : Int32) (a2 : Int32) (a3 : Int32) (a4 : Int32) (a5 : Int32) (h0 : -1 ≤ a2.toInt) (h1 : a2.toInt < 8) : ∃ w', pq_Go 20 pm_law 212 [(3, .int 0), (2, .ref 90), (1, .ref 1), (0, .ref 0)] [] (fw (sz a0 7 a2 a3 a4 a5)) 109 12668 (some (.int 1), w') := by
  refine ⟨(wd_1231 (sz a0 7 a2 a3 a4 a5) a2), ?_⟩
  refine go_seg 8 (pc' := 220) (ls' := [(3, .int 0), (2, .ref 90), (1, .ref 1), (0, .ref 0)]) (st' := [.int 0, .ref 0, .int 7, .ref 1]) (w' := (fw (sz a0 7 a2 a3 a4 a5))) (cs' := 109) (ss' := 12668) ?_ (fun _ _ => rfl)
  refine go_seg 3 (pc' := 223) (ls' := [(3, .int 0), (2, .ref 90), (1, .ref 1), (0, .ref 0)]) (st' := [.int a2, .int 7, .ref 1]) (w' := (fw (sz a0 7 a2 a3 a4 a5))) (cs' := 109) (ss' := 12668) ?_ (fun _ _ => rfl)
  refine go_cl (k := 20) (st' := [.int (-1)]) (cs' := 109) (ss' := 12668) rfl rfl rfl rfl rfl rfl rfl (ro_1250 (sz a0 7 a2 a3 a4 a5) a2 (by omega) (by omega)) ?_
  refine go_seg 8 (pc' := 234) (ls' := [(3, .int 0), (2, .ref 90), (1, .ref 1), (0, .ref 0)]) (st' := [.int 0, .ref 0, .int 7, .ref 90, .int (-1)]) (w' := (wd_1230 (sz a0 7 a2 a3 a4 a5) a2)) (cs' := 109) (ss' := 12668) ?_ (fun _ _ => rfl)
  refine go_seg 3 (pc' := 237) (ls' := [(3, .int 0), (2, .ref 90), (1, .ref 1), (0, .ref 0)]) (st' := [.int a2, .int 7, .ref 90, .int (-1)]) (w' := (wd_1230 (sz a0 7 a2 a3 a4 a5) a2)) (cs' := 109) (ss' := 12668) ?_ (fun _ _ => rfl)
  refine go_cl (k := 20) (st' := [.int (-1), .int (-1)]) (cs' := 109) (ss' := 12668) rfl rfl rfl rfl rfl rfl rfl (ro_1255 (sz a0 7 a2 a3 a4 a5) a2 (by omega) (by omega)) ?_
  refine go_cmp true rfl (br_self _) ?_
  exact law_tail (f := sc a0 7 a2 a3 a4 a5) rfl
theorem ro_1257 (z : pq_C) : pq_Ru 1 13 [.int 8] (fw z) (some (.int 1), (fw z)) := by
  refine ru_of (k := 0) (M := pm_13) rfl rfl ?_
  exact go_end 8 (fun _ _ => rfl)
def wd_1232 (z : pq_C) (a2 : Int32) : pq_W := ((fw z).set 3 (.inl (.int, 64, .inl (upd (fl_c 64 (-1) (fun _ => 0)) 8 a2))))
theorem ro_1258 (z : pq_C) (a2 : Int32) (h0 : -1 ≤ a2.toInt) (h1 : a2.toInt < 8) : pq_Ru 2 12 [.ref 1, .int 8, .int a2] (fw z) (some (.int (-1)), (wd_1232 z a2)) := by
  refine ru_of (k := 1) (M := pm_12) rfl rfl ?_
  refine go_seg 1 (pc' := 1) (ls' := [(0, .ref 1), (1, .int 8), (2, .int a2)]) (st' := [.int 8]) (w' := (fw z)) (cs' := 0) (ss' := 0) ?_ (fun _ _ => rfl)
  refine go_cl (k := 1) (st' := [.int 1]) (cs' := 0) (ss' := 0) rfl rfl rfl rfl rfl rfl rfl (ro_1257 z) ?_
  refine go_seg 2 (pc' := 8) (ls' := [(0, .ref 1), (1, .int 8), (2, .int a2)]) (st' := [.int a2]) (w' := (fw z)) (cs' := 0) (ss' := 0) ?_ (fun _ _ => rfl)
  refine go_cl (k := 1) (st' := [.int 1]) (cs' := 0) (ss' := 0) rfl rfl rfl rfl rfl rfl rfl (ro_1193 z a2 (by omega) (by omega)) ?_
  refine go_seg 8 (pc' := 31) (ls' := [(3, .int (-1)), (0, .ref 1), (1, .int 8), (2, .int a2)]) (st' := [.ref 1]) (w' := (fw z)) (cs' := 0) (ss' := 0) ?_ (fun _ _ => rfl)
  exact go_end 7 (fun _ _ => rfl)
theorem ro_1260 (z : pq_C) (a2 : Int32) (h0 : -1 ≤ a2.toInt) (h1 : a2.toInt < 8) : pq_Ru 1 161 [.long 8, .long 0, .long 63] (wd_1232 z a2) (some (.int 1), (wd_1232 z a2)) := by
  refine ru_of (k := 0) (M := pm_161) rfl rfl ?_
  refine go_seg 8 (pc' := 13) (ls' := [(0, .long 8), (2, .long 0), (4, .long 63)]) (st' := []) (w' := (wd_1232 z a2)) (cs' := 0) (ss' := 0) ?_ (fun _ _ => rfl)
  exact go_end 3 (fun _ _ => rfl)
theorem ro_1261 (z : pq_C) (a2 : Int32) (h0 : -1 ≤ a2.toInt) (h1 : a2.toInt < 8) : pq_Ru 2 160 [.int 8] (wd_1232 z a2) (some (.int 1), (wd_1232 z a2)) := by
  refine ru_of (k := 1) (M := pm_160) rfl rfl ?_
  refine go_seg 4 (pc' := 6) (ls' := [(0, .int 8)]) (st' := [.long 63, .long 0, .long 8]) (w' := (wd_1232 z a2)) (cs' := 0) (ss' := 0) ?_ (fun _ _ => rfl)
  refine go_cl (k := 1) (st' := [.int 1]) (cs' := 0) (ss' := 0) rfl rfl rfl rfl rfl rfl rfl (ro_1260 z a2 (by omega) (by omega)) ?_
  exact go_end 1 (fun _ _ => rfl)
def wd_1233 (z : pq_C) (a2 : Int32) : pq_W := ((wd_1232 z a2).set 91 (.inl (.int, 2858, .inl (upd (upd (upd (upd (upd (upd (upd (upd (upd (upd (upd (upd (upd (upd (upd (upd (upd (upd (upd (upd (upd (upd (upd (upd (upd (upd (upd (upd (upd (upd (upd (upd (upd (upd (upd (upd (upd (upd (upd (upd (upd (upd (upd (upd (upd (upd (upd (upd (upd (upd (upd (upd (upd (upd (upd (upd (upd (upd (upd (upd (upd (upd (upd (upd (upd (upd (upd (upd (upd (upd (upd (upd (upd (upd (upd (upd (upd (upd (upd (upd (upd (upd (fun _ => 0) 1 10) 10 (-1)) 11 (-1)) 12 (-1)) 13 (-1)) 14 (-1)) 15 (-1)) 16 (-1)) 17 (-1)) 18 (-1)) 19 (-1)) 20 (-1)) 21 (-1)) 22 (-1)) 23 (-1)) 24 (-1)) 25 (-1)) 26 (-1)) 27 (-1)) 28 (-1)) 29 (-1)) 30 (-1)) 31 (-1)) 32 (-1)) 33 (-1)) 34 (-1)) 35 (-1)) 36 (-1)) 37 (-1)) 38 (-1)) 39 (-1)) 40 (-1)) 41 (-1)) 42 (-1)) 43 (-1)) 44 (-1)) 45 (-1)) 46 (-1)) 47 (-1)) 48 (-1)) 49 (-1)) 50 (-1)) 51 (-1)) 52 (-1)) 53 (-1)) 54 (-1)) 55 (-1)) 56 (-1)) 57 (-1)) 58 (-1)) 59 (-1)) 60 (-1)) 61 (-1)) 62 (-1)) 63 (-1)) 64 (-1)) 65 (-1)) 66 (-1)) 67 (-1)) 68 (-1)) 69 (-1)) 70 (-1)) 71 (-1)) 72 (-1)) 73 (-1)) 139 1000) 140 100) 145 1000) 146 100) 151 1000) 152 100) 157 1000) 158 100) 163 1000) 164 100) 169 1000) 170 100) 175 1000) 176 100) 181 1000) 182 100) 18 a2))))
theorem ro_1263 (z : pq_C) (a2 : Int32) (h0 : -1 ≤ a2.toInt) (h1 : a2.toInt < 8) : pq_Ru 3 159 [.ref 90, .int 8, .int a2] (wd_1232 z a2) (some (.int (-1)), (wd_1233 z a2)) := by
  refine ru_of (k := 2) (M := pm_159) rfl rfl ?_
  refine go_seg 1 (pc' := 1) (ls' := [(0, .ref 90), (1, .int 8), (2, .int a2)]) (st' := [.int 8]) (w' := (wd_1232 z a2)) (cs' := 0) (ss' := 0) ?_ (fun _ _ => rfl)
  refine go_cl (k := 2) (st' := [.int 1]) (cs' := 0) (ss' := 0) rfl rfl rfl rfl rfl rfl rfl (ro_1261 z a2 (by omega) (by omega)) ?_
  refine go_seg 5 (pc' := 15) (ls' := [(0, .ref 90), (1, .int 8), (2, .int a2)]) (st' := [.long 7, .long (-1), .long a2.toInt64]) (w' := (wd_1232 z a2)) (cs' := 0) (ss' := 0) ?_ (fun _ _ => rfl)
  refine go_cl (k := 2) (st' := [.int 1]) (cs' := 0) (ss' := 0) rfl rfl rfl rfl rfl rfl rfl (wi_t _ a2 (-1) 7 (-1) 7 rfl rfl (by omega)) ?_
  refine go_seg 8 (pc' := 38) (ls' := [(3, .int (-1)), (0, .ref 90), (1, .int 8), (2, .int a2)]) (st' := []) (w' := (wd_1232 z a2)) (cs' := 0) (ss' := 0) ?_ (fun _ _ => rfl)
  refine go_seg 8 (pc' := 49) (ls' := [(3, .int (-1)), (0, .ref 90), (1, .int 8), (2, .int a2)]) (st' := [.int (-1)]) (w' := (wd_1233 z a2)) (cs' := 0) (ss' := 0) ?_ (fun _ _ => rfl)
  exact go_end 1 (fun _ _ => rfl)
theorem lf_0_1264 (a0 : Int32) (a2 : Int32) (a3 : Int32) (a4 : Int32) (a5 : Int32) (h0 : -1 ≤ a2.toInt) (h1 : a2.toInt < 8) : ∃ w', pq_Go 20 pm_law 212 [(3, .int 0), (2, .ref 90), (1, .ref 1), (0, .ref 0)] [] (fw (sz a0 8 a2 a3 a4 a5)) 109 12668 (some (.int 1), w') := by
  refine ⟨(wd_1233 (sz a0 8 a2 a3 a4 a5) a2), ?_⟩
  refine go_seg 8 (pc' := 220) (ls' := [(3, .int 0), (2, .ref 90), (1, .ref 1), (0, .ref 0)]) (st' := [.int 0, .ref 0, .int 8, .ref 1]) (w' := (fw (sz a0 8 a2 a3 a4 a5))) (cs' := 109) (ss' := 12668) ?_ (fun _ _ => rfl)
  refine go_seg 3 (pc' := 223) (ls' := [(3, .int 0), (2, .ref 90), (1, .ref 1), (0, .ref 0)]) (st' := [.int a2, .int 8, .ref 1]) (w' := (fw (sz a0 8 a2 a3 a4 a5))) (cs' := 109) (ss' := 12668) ?_ (fun _ _ => rfl)
  refine go_cl (k := 20) (st' := [.int (-1)]) (cs' := 109) (ss' := 12668) rfl rfl rfl rfl rfl rfl rfl (ro_1258 (sz a0 8 a2 a3 a4 a5) a2 (by omega) (by omega)) ?_
  refine go_seg 8 (pc' := 234) (ls' := [(3, .int 0), (2, .ref 90), (1, .ref 1), (0, .ref 0)]) (st' := [.int 0, .ref 0, .int 8, .ref 90, .int (-1)]) (w' := (wd_1232 (sz a0 8 a2 a3 a4 a5) a2)) (cs' := 109) (ss' := 12668) ?_ (fun _ _ => rfl)
  refine go_seg 3 (pc' := 237) (ls' := [(3, .int 0), (2, .ref 90), (1, .ref 1), (0, .ref 0)]) (st' := [.int a2, .int 8, .ref 90, .int (-1)]) (w' := (wd_1232 (sz a0 8 a2 a3 a4 a5) a2)) (cs' := 109) (ss' := 12668) ?_ (fun _ _ => rfl)
  refine go_cl (k := 20) (st' := [.int (-1), .int (-1)]) (cs' := 109) (ss' := 12668) rfl rfl rfl rfl rfl rfl rfl (ro_1263 (sz a0 8 a2 a3 a4 a5) a2 (by omega) (by omega)) ?_
  refine go_cmp true rfl (br_self _) ?_
  exact law_tail (f := sc a0 8 a2 a3 a4 a5) rfl
theorem ro_1265 (z : pq_C) : pq_Ru 1 13 [.int 9] (fw z) (some (.int 1), (fw z)) := by
  refine ru_of (k := 0) (M := pm_13) rfl rfl ?_
  exact go_end 8 (fun _ _ => rfl)
def wd_1234 (z : pq_C) (a2 : Int32) : pq_W := ((fw z).set 3 (.inl (.int, 64, .inl (upd (fl_c 64 (-1) (fun _ => 0)) 9 a2))))
theorem ro_1266 (z : pq_C) (a2 : Int32) (h0 : -1 ≤ a2.toInt) (h1 : a2.toInt < 8) : pq_Ru 2 12 [.ref 1, .int 9, .int a2] (fw z) (some (.int (-1)), (wd_1234 z a2)) := by
  refine ru_of (k := 1) (M := pm_12) rfl rfl ?_
  refine go_seg 1 (pc' := 1) (ls' := [(0, .ref 1), (1, .int 9), (2, .int a2)]) (st' := [.int 9]) (w' := (fw z)) (cs' := 0) (ss' := 0) ?_ (fun _ _ => rfl)
  refine go_cl (k := 1) (st' := [.int 1]) (cs' := 0) (ss' := 0) rfl rfl rfl rfl rfl rfl rfl (ro_1265 z) ?_
  refine go_seg 2 (pc' := 8) (ls' := [(0, .ref 1), (1, .int 9), (2, .int a2)]) (st' := [.int a2]) (w' := (fw z)) (cs' := 0) (ss' := 0) ?_ (fun _ _ => rfl)
  refine go_cl (k := 1) (st' := [.int 1]) (cs' := 0) (ss' := 0) rfl rfl rfl rfl rfl rfl rfl (ro_1193 z a2 (by omega) (by omega)) ?_
  refine go_seg 8 (pc' := 31) (ls' := [(3, .int (-1)), (0, .ref 1), (1, .int 9), (2, .int a2)]) (st' := [.ref 1]) (w' := (fw z)) (cs' := 0) (ss' := 0) ?_ (fun _ _ => rfl)
  exact go_end 7 (fun _ _ => rfl)
theorem ro_1268 (z : pq_C) (a2 : Int32) (h0 : -1 ≤ a2.toInt) (h1 : a2.toInt < 8) : pq_Ru 1 161 [.long 9, .long 0, .long 63] (wd_1234 z a2) (some (.int 1), (wd_1234 z a2)) := by
  refine ru_of (k := 0) (M := pm_161) rfl rfl ?_
  refine go_seg 8 (pc' := 13) (ls' := [(0, .long 9), (2, .long 0), (4, .long 63)]) (st' := []) (w' := (wd_1234 z a2)) (cs' := 0) (ss' := 0) ?_ (fun _ _ => rfl)
  exact go_end 3 (fun _ _ => rfl)
theorem ro_1269 (z : pq_C) (a2 : Int32) (h0 : -1 ≤ a2.toInt) (h1 : a2.toInt < 8) : pq_Ru 2 160 [.int 9] (wd_1234 z a2) (some (.int 1), (wd_1234 z a2)) := by
  refine ru_of (k := 1) (M := pm_160) rfl rfl ?_
  refine go_seg 4 (pc' := 6) (ls' := [(0, .int 9)]) (st' := [.long 63, .long 0, .long 9]) (w' := (wd_1234 z a2)) (cs' := 0) (ss' := 0) ?_ (fun _ _ => rfl)
  refine go_cl (k := 1) (st' := [.int 1]) (cs' := 0) (ss' := 0) rfl rfl rfl rfl rfl rfl rfl (ro_1268 z a2 (by omega) (by omega)) ?_
  exact go_end 1 (fun _ _ => rfl)
def wd_1235 (z : pq_C) (a2 : Int32) : pq_W := ((wd_1234 z a2).set 91 (.inl (.int, 2858, .inl (upd (upd (upd (upd (upd (upd (upd (upd (upd (upd (upd (upd (upd (upd (upd (upd (upd (upd (upd (upd (upd (upd (upd (upd (upd (upd (upd (upd (upd (upd (upd (upd (upd (upd (upd (upd (upd (upd (upd (upd (upd (upd (upd (upd (upd (upd (upd (upd (upd (upd (upd (upd (upd (upd (upd (upd (upd (upd (upd (upd (upd (upd (upd (upd (upd (upd (upd (upd (upd (upd (upd (upd (upd (upd (upd (upd (upd (upd (upd (upd (upd (upd (fun _ => 0) 1 10) 10 (-1)) 11 (-1)) 12 (-1)) 13 (-1)) 14 (-1)) 15 (-1)) 16 (-1)) 17 (-1)) 18 (-1)) 19 (-1)) 20 (-1)) 21 (-1)) 22 (-1)) 23 (-1)) 24 (-1)) 25 (-1)) 26 (-1)) 27 (-1)) 28 (-1)) 29 (-1)) 30 (-1)) 31 (-1)) 32 (-1)) 33 (-1)) 34 (-1)) 35 (-1)) 36 (-1)) 37 (-1)) 38 (-1)) 39 (-1)) 40 (-1)) 41 (-1)) 42 (-1)) 43 (-1)) 44 (-1)) 45 (-1)) 46 (-1)) 47 (-1)) 48 (-1)) 49 (-1)) 50 (-1)) 51 (-1)) 52 (-1)) 53 (-1)) 54 (-1)) 55 (-1)) 56 (-1)) 57 (-1)) 58 (-1)) 59 (-1)) 60 (-1)) 61 (-1)) 62 (-1)) 63 (-1)) 64 (-1)) 65 (-1)) 66 (-1)) 67 (-1)) 68 (-1)) 69 (-1)) 70 (-1)) 71 (-1)) 72 (-1)) 73 (-1)) 139 1000) 140 100) 145 1000) 146 100) 151 1000) 152 100) 157 1000) 158 100) 163 1000) 164 100) 169 1000) 170 100) 175 1000) 176 100) 181 1000) 182 100) 19 a2))))
theorem ro_1271 (z : pq_C) (a2 : Int32) (h0 : -1 ≤ a2.toInt) (h1 : a2.toInt < 8) : pq_Ru 3 159 [.ref 90, .int 9, .int a2] (wd_1234 z a2) (some (.int (-1)), (wd_1235 z a2)) := by
  refine ru_of (k := 2) (M := pm_159) rfl rfl ?_
  refine go_seg 1 (pc' := 1) (ls' := [(0, .ref 90), (1, .int 9), (2, .int a2)]) (st' := [.int 9]) (w' := (wd_1234 z a2)) (cs' := 0) (ss' := 0) ?_ (fun _ _ => rfl)
  refine go_cl (k := 2) (st' := [.int 1]) (cs' := 0) (ss' := 0) rfl rfl rfl rfl rfl rfl rfl (ro_1269 z a2 (by omega) (by omega)) ?_
  refine go_seg 5 (pc' := 15) (ls' := [(0, .ref 90), (1, .int 9), (2, .int a2)]) (st' := [.long 7, .long (-1), .long a2.toInt64]) (w' := (wd_1234 z a2)) (cs' := 0) (ss' := 0) ?_ (fun _ _ => rfl)
  refine go_cl (k := 2) (st' := [.int 1]) (cs' := 0) (ss' := 0) rfl rfl rfl rfl rfl rfl rfl (wi_t _ a2 (-1) 7 (-1) 7 rfl rfl (by omega)) ?_
  refine go_seg 8 (pc' := 38) (ls' := [(3, .int (-1)), (0, .ref 90), (1, .int 9), (2, .int a2)]) (st' := []) (w' := (wd_1234 z a2)) (cs' := 0) (ss' := 0) ?_ (fun _ _ => rfl)
  refine go_seg 8 (pc' := 49) (ls' := [(3, .int (-1)), (0, .ref 90), (1, .int 9), (2, .int a2)]) (st' := [.int (-1)]) (w' := (wd_1235 z a2)) (cs' := 0) (ss' := 0) ?_ (fun _ _ => rfl)
  exact go_end 1 (fun _ _ => rfl)
theorem lf_0_1272 (a0 : Int32) (a2 : Int32) (a3 : Int32) (a4 : Int32) (a5 : Int32) (h0 : -1 ≤ a2.toInt) (h1 : a2.toInt < 8) : ∃ w', pq_Go 20 pm_law 212 [(3, .int 0), (2, .ref 90), (1, .ref 1), (0, .ref 0)] [] (fw (sz a0 9 a2 a3 a4 a5)) 109 12668 (some (.int 1), w') := by
  refine ⟨(wd_1235 (sz a0 9 a2 a3 a4 a5) a2), ?_⟩
  refine go_seg 8 (pc' := 220) (ls' := [(3, .int 0), (2, .ref 90), (1, .ref 1), (0, .ref 0)]) (st' := [.int 0, .ref 0, .int 9, .ref 1]) (w' := (fw (sz a0 9 a2 a3 a4 a5))) (cs' := 109) (ss' := 12668) ?_ (fun _ _ => rfl)
  refine go_seg 3 (pc' := 223) (ls' := [(3, .int 0), (2, .ref 90), (1, .ref 1), (0, .ref 0)]) (st' := [.int a2, .int 9, .ref 1]) (w' := (fw (sz a0 9 a2 a3 a4 a5))) (cs' := 109) (ss' := 12668) ?_ (fun _ _ => rfl)
  refine go_cl (k := 20) (st' := [.int (-1)]) (cs' := 109) (ss' := 12668) rfl rfl rfl rfl rfl rfl rfl (ro_1266 (sz a0 9 a2 a3 a4 a5) a2 (by omega) (by omega)) ?_
  refine go_seg 8 (pc' := 234) (ls' := [(3, .int 0), (2, .ref 90), (1, .ref 1), (0, .ref 0)]) (st' := [.int 0, .ref 0, .int 9, .ref 90, .int (-1)]) (w' := (wd_1234 (sz a0 9 a2 a3 a4 a5) a2)) (cs' := 109) (ss' := 12668) ?_ (fun _ _ => rfl)
  refine go_seg 3 (pc' := 237) (ls' := [(3, .int 0), (2, .ref 90), (1, .ref 1), (0, .ref 0)]) (st' := [.int a2, .int 9, .ref 90, .int (-1)]) (w' := (wd_1234 (sz a0 9 a2 a3 a4 a5) a2)) (cs' := 109) (ss' := 12668) ?_ (fun _ _ => rfl)
  refine go_cl (k := 20) (st' := [.int (-1), .int (-1)]) (cs' := 109) (ss' := 12668) rfl rfl rfl rfl rfl rfl rfl (ro_1271 (sz a0 9 a2 a3 a4 a5) a2 (by omega) (by omega)) ?_
  refine go_cmp true rfl (br_self _) ?_
  exact law_tail (f := sc a0 9 a2 a3 a4 a5) rfl
theorem ro_1273 (z : pq_C) : pq_Ru 1 13 [.int 10] (fw z) (some (.int 1), (fw z)) := by
  refine ru_of (k := 0) (M := pm_13) rfl rfl ?_
  exact go_end 8 (fun _ _ => rfl)
def wd_1236 (z : pq_C) (a2 : Int32) : pq_W := ((fw z).set 3 (.inl (.int, 64, .inl (upd (fl_c 64 (-1) (fun _ => 0)) 10 a2))))
theorem ro_1274 (z : pq_C) (a2 : Int32) (h0 : -1 ≤ a2.toInt) (h1 : a2.toInt < 8) : pq_Ru 2 12 [.ref 1, .int 10, .int a2] (fw z) (some (.int (-1)), (wd_1236 z a2)) := by
  refine ru_of (k := 1) (M := pm_12) rfl rfl ?_
  refine go_seg 1 (pc' := 1) (ls' := [(0, .ref 1), (1, .int 10), (2, .int a2)]) (st' := [.int 10]) (w' := (fw z)) (cs' := 0) (ss' := 0) ?_ (fun _ _ => rfl)
  refine go_cl (k := 1) (st' := [.int 1]) (cs' := 0) (ss' := 0) rfl rfl rfl rfl rfl rfl rfl (ro_1273 z) ?_
  refine go_seg 2 (pc' := 8) (ls' := [(0, .ref 1), (1, .int 10), (2, .int a2)]) (st' := [.int a2]) (w' := (fw z)) (cs' := 0) (ss' := 0) ?_ (fun _ _ => rfl)
  refine go_cl (k := 1) (st' := [.int 1]) (cs' := 0) (ss' := 0) rfl rfl rfl rfl rfl rfl rfl (ro_1193 z a2 (by omega) (by omega)) ?_
  refine go_seg 8 (pc' := 31) (ls' := [(3, .int (-1)), (0, .ref 1), (1, .int 10), (2, .int a2)]) (st' := [.ref 1]) (w' := (fw z)) (cs' := 0) (ss' := 0) ?_ (fun _ _ => rfl)
  exact go_end 7 (fun _ _ => rfl)
theorem ro_1276 (z : pq_C) (a2 : Int32) (h0 : -1 ≤ a2.toInt) (h1 : a2.toInt < 8) : pq_Ru 1 161 [.long 10, .long 0, .long 63] (wd_1236 z a2) (some (.int 1), (wd_1236 z a2)) := by
  refine ru_of (k := 0) (M := pm_161) rfl rfl ?_
  refine go_seg 8 (pc' := 13) (ls' := [(0, .long 10), (2, .long 0), (4, .long 63)]) (st' := []) (w' := (wd_1236 z a2)) (cs' := 0) (ss' := 0) ?_ (fun _ _ => rfl)
  exact go_end 3 (fun _ _ => rfl)
theorem ro_1277 (z : pq_C) (a2 : Int32) (h0 : -1 ≤ a2.toInt) (h1 : a2.toInt < 8) : pq_Ru 2 160 [.int 10] (wd_1236 z a2) (some (.int 1), (wd_1236 z a2)) := by
  refine ru_of (k := 1) (M := pm_160) rfl rfl ?_
  refine go_seg 4 (pc' := 6) (ls' := [(0, .int 10)]) (st' := [.long 63, .long 0, .long 10]) (w' := (wd_1236 z a2)) (cs' := 0) (ss' := 0) ?_ (fun _ _ => rfl)
  refine go_cl (k := 1) (st' := [.int 1]) (cs' := 0) (ss' := 0) rfl rfl rfl rfl rfl rfl rfl (ro_1276 z a2 (by omega) (by omega)) ?_
  exact go_end 1 (fun _ _ => rfl)
def wd_1237 (z : pq_C) (a2 : Int32) : pq_W := ((wd_1236 z a2).set 91 (.inl (.int, 2858, .inl (upd (upd (upd (upd (upd (upd (upd (upd (upd (upd (upd (upd (upd (upd (upd (upd (upd (upd (upd (upd (upd (upd (upd (upd (upd (upd (upd (upd (upd (upd (upd (upd (upd (upd (upd (upd (upd (upd (upd (upd (upd (upd (upd (upd (upd (upd (upd (upd (upd (upd (upd (upd (upd (upd (upd (upd (upd (upd (upd (upd (upd (upd (upd (upd (upd (upd (upd (upd (upd (upd (upd (upd (upd (upd (upd (upd (upd (upd (upd (upd (upd (upd (fun _ => 0) 1 10) 10 (-1)) 11 (-1)) 12 (-1)) 13 (-1)) 14 (-1)) 15 (-1)) 16 (-1)) 17 (-1)) 18 (-1)) 19 (-1)) 20 (-1)) 21 (-1)) 22 (-1)) 23 (-1)) 24 (-1)) 25 (-1)) 26 (-1)) 27 (-1)) 28 (-1)) 29 (-1)) 30 (-1)) 31 (-1)) 32 (-1)) 33 (-1)) 34 (-1)) 35 (-1)) 36 (-1)) 37 (-1)) 38 (-1)) 39 (-1)) 40 (-1)) 41 (-1)) 42 (-1)) 43 (-1)) 44 (-1)) 45 (-1)) 46 (-1)) 47 (-1)) 48 (-1)) 49 (-1)) 50 (-1)) 51 (-1)) 52 (-1)) 53 (-1)) 54 (-1)) 55 (-1)) 56 (-1)) 57 (-1)) 58 (-1)) 59 (-1)) 60 (-1)) 61 (-1)) 62 (-1)) 63 (-1)) 64 (-1)) 65 (-1)) 66 (-1)) 67 (-1)) 68 (-1)) 69 (-1)) 70 (-1)) 71 (-1)) 72 (-1)) 73 (-1)) 139 1000) 140 100) 145 1000) 146 100) 151 1000) 152 100) 157 1000) 158 100) 163 1000) 164 100) 169 1000) 170 100) 175 1000) 176 100) 181 1000) 182 100) 20 a2))))
theorem ro_1279 (z : pq_C) (a2 : Int32) (h0 : -1 ≤ a2.toInt) (h1 : a2.toInt < 8) : pq_Ru 3 159 [.ref 90, .int 10, .int a2] (wd_1236 z a2) (some (.int (-1)), (wd_1237 z a2)) := by
  refine ru_of (k := 2) (M := pm_159) rfl rfl ?_
  refine go_seg 1 (pc' := 1) (ls' := [(0, .ref 90), (1, .int 10), (2, .int a2)]) (st' := [.int 10]) (w' := (wd_1236 z a2)) (cs' := 0) (ss' := 0) ?_ (fun _ _ => rfl)
  refine go_cl (k := 2) (st' := [.int 1]) (cs' := 0) (ss' := 0) rfl rfl rfl rfl rfl rfl rfl (ro_1277 z a2 (by omega) (by omega)) ?_
  refine go_seg 5 (pc' := 15) (ls' := [(0, .ref 90), (1, .int 10), (2, .int a2)]) (st' := [.long 7, .long (-1), .long a2.toInt64]) (w' := (wd_1236 z a2)) (cs' := 0) (ss' := 0) ?_ (fun _ _ => rfl)
  refine go_cl (k := 2) (st' := [.int 1]) (cs' := 0) (ss' := 0) rfl rfl rfl rfl rfl rfl rfl (wi_t _ a2 (-1) 7 (-1) 7 rfl rfl (by omega)) ?_
  refine go_seg 8 (pc' := 38) (ls' := [(3, .int (-1)), (0, .ref 90), (1, .int 10), (2, .int a2)]) (st' := []) (w' := (wd_1236 z a2)) (cs' := 0) (ss' := 0) ?_ (fun _ _ => rfl)
  refine go_seg 8 (pc' := 49) (ls' := [(3, .int (-1)), (0, .ref 90), (1, .int 10), (2, .int a2)]) (st' := [.int (-1)]) (w' := (wd_1237 z a2)) (cs' := 0) (ss' := 0) ?_ (fun _ _ => rfl)
  exact go_end 1 (fun _ _ => rfl)
theorem lf_0_1280 (a0 : Int32) (a2 : Int32) (a3 : Int32) (a4 : Int32) (a5 : Int32) (h0 : -1 ≤ a2.toInt) (h1 : a2.toInt < 8) : ∃ w', pq_Go 20 pm_law 212 [(3, .int 0), (2, .ref 90), (1, .ref 1), (0, .ref 0)] [] (fw (sz a0 10 a2 a3 a4 a5)) 109 12668 (some (.int 1), w') := by
  refine ⟨(wd_1237 (sz a0 10 a2 a3 a4 a5) a2), ?_⟩
  refine go_seg 8 (pc' := 220) (ls' := [(3, .int 0), (2, .ref 90), (1, .ref 1), (0, .ref 0)]) (st' := [.int 0, .ref 0, .int 10, .ref 1]) (w' := (fw (sz a0 10 a2 a3 a4 a5))) (cs' := 109) (ss' := 12668) ?_ (fun _ _ => rfl)
  refine go_seg 3 (pc' := 223) (ls' := [(3, .int 0), (2, .ref 90), (1, .ref 1), (0, .ref 0)]) (st' := [.int a2, .int 10, .ref 1]) (w' := (fw (sz a0 10 a2 a3 a4 a5))) (cs' := 109) (ss' := 12668) ?_ (fun _ _ => rfl)
  refine go_cl (k := 20) (st' := [.int (-1)]) (cs' := 109) (ss' := 12668) rfl rfl rfl rfl rfl rfl rfl (ro_1274 (sz a0 10 a2 a3 a4 a5) a2 (by omega) (by omega)) ?_
  refine go_seg 8 (pc' := 234) (ls' := [(3, .int 0), (2, .ref 90), (1, .ref 1), (0, .ref 0)]) (st' := [.int 0, .ref 0, .int 10, .ref 90, .int (-1)]) (w' := (wd_1236 (sz a0 10 a2 a3 a4 a5) a2)) (cs' := 109) (ss' := 12668) ?_ (fun _ _ => rfl)
  refine go_seg 3 (pc' := 237) (ls' := [(3, .int 0), (2, .ref 90), (1, .ref 1), (0, .ref 0)]) (st' := [.int a2, .int 10, .ref 90, .int (-1)]) (w' := (wd_1236 (sz a0 10 a2 a3 a4 a5) a2)) (cs' := 109) (ss' := 12668) ?_ (fun _ _ => rfl)
  refine go_cl (k := 20) (st' := [.int (-1), .int (-1)]) (cs' := 109) (ss' := 12668) rfl rfl rfl rfl rfl rfl rfl (ro_1279 (sz a0 10 a2 a3 a4 a5) a2 (by omega) (by omega)) ?_
  refine go_cmp true rfl (br_self _) ?_
  exact law_tail (f := sc a0 10 a2 a3 a4 a5) rfl
theorem ro_1281 (z : pq_C) : pq_Ru 1 13 [.int 11] (fw z) (some (.int 1), (fw z)) := by
  refine ru_of (k := 0) (M := pm_13) rfl rfl ?_
  exact go_end 8 (fun _ _ => rfl)
def wd_1238 (z : pq_C) (a2 : Int32) : pq_W := ((fw z).set 3 (.inl (.int, 64, .inl (upd (fl_c 64 (-1) (fun _ => 0)) 11 a2))))
theorem ro_1282 (z : pq_C) (a2 : Int32) (h0 : -1 ≤ a2.toInt) (h1 : a2.toInt < 8) : pq_Ru 2 12 [.ref 1, .int 11, .int a2] (fw z) (some (.int (-1)), (wd_1238 z a2)) := by
  refine ru_of (k := 1) (M := pm_12) rfl rfl ?_
  refine go_seg 1 (pc' := 1) (ls' := [(0, .ref 1), (1, .int 11), (2, .int a2)]) (st' := [.int 11]) (w' := (fw z)) (cs' := 0) (ss' := 0) ?_ (fun _ _ => rfl)
  refine go_cl (k := 1) (st' := [.int 1]) (cs' := 0) (ss' := 0) rfl rfl rfl rfl rfl rfl rfl (ro_1281 z) ?_
  refine go_seg 2 (pc' := 8) (ls' := [(0, .ref 1), (1, .int 11), (2, .int a2)]) (st' := [.int a2]) (w' := (fw z)) (cs' := 0) (ss' := 0) ?_ (fun _ _ => rfl)
  refine go_cl (k := 1) (st' := [.int 1]) (cs' := 0) (ss' := 0) rfl rfl rfl rfl rfl rfl rfl (ro_1193 z a2 (by omega) (by omega)) ?_
  refine go_seg 8 (pc' := 31) (ls' := [(3, .int (-1)), (0, .ref 1), (1, .int 11), (2, .int a2)]) (st' := [.ref 1]) (w' := (fw z)) (cs' := 0) (ss' := 0) ?_ (fun _ _ => rfl)
  exact go_end 7 (fun _ _ => rfl)
theorem ro_1284 (z : pq_C) (a2 : Int32) (h0 : -1 ≤ a2.toInt) (h1 : a2.toInt < 8) : pq_Ru 1 161 [.long 11, .long 0, .long 63] (wd_1238 z a2) (some (.int 1), (wd_1238 z a2)) := by
  refine ru_of (k := 0) (M := pm_161) rfl rfl ?_
  refine go_seg 8 (pc' := 13) (ls' := [(0, .long 11), (2, .long 0), (4, .long 63)]) (st' := []) (w' := (wd_1238 z a2)) (cs' := 0) (ss' := 0) ?_ (fun _ _ => rfl)
  exact go_end 3 (fun _ _ => rfl)
theorem ro_1285 (z : pq_C) (a2 : Int32) (h0 : -1 ≤ a2.toInt) (h1 : a2.toInt < 8) : pq_Ru 2 160 [.int 11] (wd_1238 z a2) (some (.int 1), (wd_1238 z a2)) := by
  refine ru_of (k := 1) (M := pm_160) rfl rfl ?_
  refine go_seg 4 (pc' := 6) (ls' := [(0, .int 11)]) (st' := [.long 63, .long 0, .long 11]) (w' := (wd_1238 z a2)) (cs' := 0) (ss' := 0) ?_ (fun _ _ => rfl)
  refine go_cl (k := 1) (st' := [.int 1]) (cs' := 0) (ss' := 0) rfl rfl rfl rfl rfl rfl rfl (ro_1284 z a2 (by omega) (by omega)) ?_
  exact go_end 1 (fun _ _ => rfl)
def wd_1239 (z : pq_C) (a2 : Int32) : pq_W := ((wd_1238 z a2).set 91 (.inl (.int, 2858, .inl (upd (upd (upd (upd (upd (upd (upd (upd (upd (upd (upd (upd (upd (upd (upd (upd (upd (upd (upd (upd (upd (upd (upd (upd (upd (upd (upd (upd (upd (upd (upd (upd (upd (upd (upd (upd (upd (upd (upd (upd (upd (upd (upd (upd (upd (upd (upd (upd (upd (upd (upd (upd (upd (upd (upd (upd (upd (upd (upd (upd (upd (upd (upd (upd (upd (upd (upd (upd (upd (upd (upd (upd (upd (upd (upd (upd (upd (upd (upd (upd (upd (upd (fun _ => 0) 1 10) 10 (-1)) 11 (-1)) 12 (-1)) 13 (-1)) 14 (-1)) 15 (-1)) 16 (-1)) 17 (-1)) 18 (-1)) 19 (-1)) 20 (-1)) 21 (-1)) 22 (-1)) 23 (-1)) 24 (-1)) 25 (-1)) 26 (-1)) 27 (-1)) 28 (-1)) 29 (-1)) 30 (-1)) 31 (-1)) 32 (-1)) 33 (-1)) 34 (-1)) 35 (-1)) 36 (-1)) 37 (-1)) 38 (-1)) 39 (-1)) 40 (-1)) 41 (-1)) 42 (-1)) 43 (-1)) 44 (-1)) 45 (-1)) 46 (-1)) 47 (-1)) 48 (-1)) 49 (-1)) 50 (-1)) 51 (-1)) 52 (-1)) 53 (-1)) 54 (-1)) 55 (-1)) 56 (-1)) 57 (-1)) 58 (-1)) 59 (-1)) 60 (-1)) 61 (-1)) 62 (-1)) 63 (-1)) 64 (-1)) 65 (-1)) 66 (-1)) 67 (-1)) 68 (-1)) 69 (-1)) 70 (-1)) 71 (-1)) 72 (-1)) 73 (-1)) 139 1000) 140 100) 145 1000) 146 100) 151 1000) 152 100) 157 1000) 158 100) 163 1000) 164 100) 169 1000) 170 100) 175 1000) 176 100) 181 1000) 182 100) 21 a2))))
theorem ro_1287 (z : pq_C) (a2 : Int32) (h0 : -1 ≤ a2.toInt) (h1 : a2.toInt < 8) : pq_Ru 3 159 [.ref 90, .int 11, .int a2] (wd_1238 z a2) (some (.int (-1)), (wd_1239 z a2)) := by
  refine ru_of (k := 2) (M := pm_159) rfl rfl ?_
  refine go_seg 1 (pc' := 1) (ls' := [(0, .ref 90), (1, .int 11), (2, .int a2)]) (st' := [.int 11]) (w' := (wd_1238 z a2)) (cs' := 0) (ss' := 0) ?_ (fun _ _ => rfl)
  refine go_cl (k := 2) (st' := [.int 1]) (cs' := 0) (ss' := 0) rfl rfl rfl rfl rfl rfl rfl (ro_1285 z a2 (by omega) (by omega)) ?_
  refine go_seg 5 (pc' := 15) (ls' := [(0, .ref 90), (1, .int 11), (2, .int a2)]) (st' := [.long 7, .long (-1), .long a2.toInt64]) (w' := (wd_1238 z a2)) (cs' := 0) (ss' := 0) ?_ (fun _ _ => rfl)
  refine go_cl (k := 2) (st' := [.int 1]) (cs' := 0) (ss' := 0) rfl rfl rfl rfl rfl rfl rfl (wi_t _ a2 (-1) 7 (-1) 7 rfl rfl (by omega)) ?_
  refine go_seg 8 (pc' := 38) (ls' := [(3, .int (-1)), (0, .ref 90), (1, .int 11), (2, .int a2)]) (st' := []) (w' := (wd_1238 z a2)) (cs' := 0) (ss' := 0) ?_ (fun _ _ => rfl)
  refine go_seg 8 (pc' := 49) (ls' := [(3, .int (-1)), (0, .ref 90), (1, .int 11), (2, .int a2)]) (st' := [.int (-1)]) (w' := (wd_1239 z a2)) (cs' := 0) (ss' := 0) ?_ (fun _ _ => rfl)
  exact go_end 1 (fun _ _ => rfl)
theorem lf_0_1288 (a0 : Int32) (a2 : Int32) (a3 : Int32) (a4 : Int32) (a5 : Int32) (h0 : -1 ≤ a2.toInt) (h1 : a2.toInt < 8) : ∃ w', pq_Go 20 pm_law 212 [(3, .int 0), (2, .ref 90), (1, .ref 1), (0, .ref 0)] [] (fw (sz a0 11 a2 a3 a4 a5)) 109 12668 (some (.int 1), w') := by
  refine ⟨(wd_1239 (sz a0 11 a2 a3 a4 a5) a2), ?_⟩
  refine go_seg 8 (pc' := 220) (ls' := [(3, .int 0), (2, .ref 90), (1, .ref 1), (0, .ref 0)]) (st' := [.int 0, .ref 0, .int 11, .ref 1]) (w' := (fw (sz a0 11 a2 a3 a4 a5))) (cs' := 109) (ss' := 12668) ?_ (fun _ _ => rfl)
  refine go_seg 3 (pc' := 223) (ls' := [(3, .int 0), (2, .ref 90), (1, .ref 1), (0, .ref 0)]) (st' := [.int a2, .int 11, .ref 1]) (w' := (fw (sz a0 11 a2 a3 a4 a5))) (cs' := 109) (ss' := 12668) ?_ (fun _ _ => rfl)
  refine go_cl (k := 20) (st' := [.int (-1)]) (cs' := 109) (ss' := 12668) rfl rfl rfl rfl rfl rfl rfl (ro_1282 (sz a0 11 a2 a3 a4 a5) a2 (by omega) (by omega)) ?_
  refine go_seg 8 (pc' := 234) (ls' := [(3, .int 0), (2, .ref 90), (1, .ref 1), (0, .ref 0)]) (st' := [.int 0, .ref 0, .int 11, .ref 90, .int (-1)]) (w' := (wd_1238 (sz a0 11 a2 a3 a4 a5) a2)) (cs' := 109) (ss' := 12668) ?_ (fun _ _ => rfl)
  refine go_seg 3 (pc' := 237) (ls' := [(3, .int 0), (2, .ref 90), (1, .ref 1), (0, .ref 0)]) (st' := [.int a2, .int 11, .ref 90, .int (-1)]) (w' := (wd_1238 (sz a0 11 a2 a3 a4 a5) a2)) (cs' := 109) (ss' := 12668) ?_ (fun _ _ => rfl)
  refine go_cl (k := 20) (st' := [.int (-1), .int (-1)]) (cs' := 109) (ss' := 12668) rfl rfl rfl rfl rfl rfl rfl (ro_1287 (sz a0 11 a2 a3 a4 a5) a2 (by omega) (by omega)) ?_
  refine go_cmp true rfl (br_self _) ?_
  exact law_tail (f := sc a0 11 a2 a3 a4 a5) rfl
theorem ro_1289 (z : pq_C) : pq_Ru 1 13 [.int 12] (fw z) (some (.int 1), (fw z)) := by
  refine ru_of (k := 0) (M := pm_13) rfl rfl ?_
  exact go_end 8 (fun _ _ => rfl)
def wd_1240 (z : pq_C) (a2 : Int32) : pq_W := ((fw z).set 3 (.inl (.int, 64, .inl (upd (fl_c 64 (-1) (fun _ => 0)) 12 a2))))
theorem ro_1290 (z : pq_C) (a2 : Int32) (h0 : -1 ≤ a2.toInt) (h1 : a2.toInt < 8) : pq_Ru 2 12 [.ref 1, .int 12, .int a2] (fw z) (some (.int (-1)), (wd_1240 z a2)) := by
  refine ru_of (k := 1) (M := pm_12) rfl rfl ?_
  refine go_seg 1 (pc' := 1) (ls' := [(0, .ref 1), (1, .int 12), (2, .int a2)]) (st' := [.int 12]) (w' := (fw z)) (cs' := 0) (ss' := 0) ?_ (fun _ _ => rfl)
  refine go_cl (k := 1) (st' := [.int 1]) (cs' := 0) (ss' := 0) rfl rfl rfl rfl rfl rfl rfl (ro_1289 z) ?_
  refine go_seg 2 (pc' := 8) (ls' := [(0, .ref 1), (1, .int 12), (2, .int a2)]) (st' := [.int a2]) (w' := (fw z)) (cs' := 0) (ss' := 0) ?_ (fun _ _ => rfl)
  refine go_cl (k := 1) (st' := [.int 1]) (cs' := 0) (ss' := 0) rfl rfl rfl rfl rfl rfl rfl (ro_1193 z a2 (by omega) (by omega)) ?_
  refine go_seg 8 (pc' := 31) (ls' := [(3, .int (-1)), (0, .ref 1), (1, .int 12), (2, .int a2)]) (st' := [.ref 1]) (w' := (fw z)) (cs' := 0) (ss' := 0) ?_ (fun _ _ => rfl)
  exact go_end 7 (fun _ _ => rfl)
theorem ro_1292 (z : pq_C) (a2 : Int32) (h0 : -1 ≤ a2.toInt) (h1 : a2.toInt < 8) : pq_Ru 1 161 [.long 12, .long 0, .long 63] (wd_1240 z a2) (some (.int 1), (wd_1240 z a2)) := by
  refine ru_of (k := 0) (M := pm_161) rfl rfl ?_
  refine go_seg 8 (pc' := 13) (ls' := [(0, .long 12), (2, .long 0), (4, .long 63)]) (st' := []) (w' := (wd_1240 z a2)) (cs' := 0) (ss' := 0) ?_ (fun _ _ => rfl)
  exact go_end 3 (fun _ _ => rfl)
theorem ro_1293 (z : pq_C) (a2 : Int32) (h0 : -1 ≤ a2.toInt) (h1 : a2.toInt < 8) : pq_Ru 2 160 [.int 12] (wd_1240 z a2) (some (.int 1), (wd_1240 z a2)) := by
  refine ru_of (k := 1) (M := pm_160) rfl rfl ?_
  refine go_seg 4 (pc' := 6) (ls' := [(0, .int 12)]) (st' := [.long 63, .long 0, .long 12]) (w' := (wd_1240 z a2)) (cs' := 0) (ss' := 0) ?_ (fun _ _ => rfl)
  refine go_cl (k := 1) (st' := [.int 1]) (cs' := 0) (ss' := 0) rfl rfl rfl rfl rfl rfl rfl (ro_1292 z a2 (by omega) (by omega)) ?_
  exact go_end 1 (fun _ _ => rfl)
def wd_1241 (z : pq_C) (a2 : Int32) : pq_W := ((wd_1240 z a2).set 91 (.inl (.int, 2858, .inl (upd (upd (upd (upd (upd (upd (upd (upd (upd (upd (upd (upd (upd (upd (upd (upd (upd (upd (upd (upd (upd (upd (upd (upd (upd (upd (upd (upd (upd (upd (upd (upd (upd (upd (upd (upd (upd (upd (upd (upd (upd (upd (upd (upd (upd (upd (upd (upd (upd (upd (upd (upd (upd (upd (upd (upd (upd (upd (upd (upd (upd (upd (upd (upd (upd (upd (upd (upd (upd (upd (upd (upd (upd (upd (upd (upd (upd (upd (upd (upd (upd (upd (fun _ => 0) 1 10) 10 (-1)) 11 (-1)) 12 (-1)) 13 (-1)) 14 (-1)) 15 (-1)) 16 (-1)) 17 (-1)) 18 (-1)) 19 (-1)) 20 (-1)) 21 (-1)) 22 (-1)) 23 (-1)) 24 (-1)) 25 (-1)) 26 (-1)) 27 (-1)) 28 (-1)) 29 (-1)) 30 (-1)) 31 (-1)) 32 (-1)) 33 (-1)) 34 (-1)) 35 (-1)) 36 (-1)) 37 (-1)) 38 (-1)) 39 (-1)) 40 (-1)) 41 (-1)) 42 (-1)) 43 (-1)) 44 (-1)) 45 (-1)) 46 (-1)) 47 (-1)) 48 (-1)) 49 (-1)) 50 (-1)) 51 (-1)) 52 (-1)) 53 (-1)) 54 (-1)) 55 (-1)) 56 (-1)) 57 (-1)) 58 (-1)) 59 (-1)) 60 (-1)) 61 (-1)) 62 (-1)) 63 (-1)) 64 (-1)) 65 (-1)) 66 (-1)) 67 (-1)) 68 (-1)) 69 (-1)) 70 (-1)) 71 (-1)) 72 (-1)) 73 (-1)) 139 1000) 140 100) 145 1000) 146 100) 151 1000) 152 100) 157 1000) 158 100) 163 1000) 164 100) 169 1000) 170 100) 175 1000) 176 100) 181 1000) 182 100) 22 a2))))
theorem ro_1295 (z : pq_C) (a2 : Int32) (h0 : -1 ≤ a2.toInt) (h1 : a2.toInt < 8) : pq_Ru 3 159 [.ref 90, .int 12, .int a2] (wd_1240 z a2) (some (.int (-1)), (wd_1241 z a2)) := by
  refine ru_of (k := 2) (M := pm_159) rfl rfl ?_
  refine go_seg 1 (pc' := 1) (ls' := [(0, .ref 90), (1, .int 12), (2, .int a2)]) (st' := [.int 12]) (w' := (wd_1240 z a2)) (cs' := 0) (ss' := 0) ?_ (fun _ _ => rfl)
  refine go_cl (k := 2) (st' := [.int 1]) (cs' := 0) (ss' := 0) rfl rfl rfl rfl rfl rfl rfl (ro_1293 z a2 (by omega) (by omega)) ?_
  refine go_seg 5 (pc' := 15) (ls' := [(0, .ref 90), (1, .int 12), (2, .int a2)]) (st' := [.long 7, .long (-1), .long a2.toInt64]) (w' := (wd_1240 z a2)) (cs' := 0) (ss' := 0) ?_ (fun _ _ => rfl)
  refine go_cl (k := 2) (st' := [.int 1]) (cs' := 0) (ss' := 0) rfl rfl rfl rfl rfl rfl rfl (wi_t _ a2 (-1) 7 (-1) 7 rfl rfl (by omega)) ?_
  refine go_seg 8 (pc' := 38) (ls' := [(3, .int (-1)), (0, .ref 90), (1, .int 12), (2, .int a2)]) (st' := []) (w' := (wd_1240 z a2)) (cs' := 0) (ss' := 0) ?_ (fun _ _ => rfl)
  refine go_seg 8 (pc' := 49) (ls' := [(3, .int (-1)), (0, .ref 90), (1, .int 12), (2, .int a2)]) (st' := [.int (-1)]) (w' := (wd_1241 z a2)) (cs' := 0) (ss' := 0) ?_ (fun _ _ => rfl)
  exact go_end 1 (fun _ _ => rfl)
theorem lf_0_1296 (a0 : Int32) (a2 : Int32) (a3 : Int32) (a4 : Int32) (a5 : Int32) (h0 : -1 ≤ a2.toInt) (h1 : a2.toInt < 8) : ∃ w', pq_Go 20 pm_law 212 [(3, .int 0), (2, .ref 90), (1, .ref 1), (0, .ref 0)] [] (fw (sz a0 12 a2 a3 a4 a5)) 109 12668 (some (.int 1), w') := by
  refine ⟨(wd_1241 (sz a0 12 a2 a3 a4 a5) a2), ?_⟩
  refine go_seg 8 (pc' := 220) (ls' := [(3, .int 0), (2, .ref 90), (1, .ref 1), (0, .ref 0)]) (st' := [.int 0, .ref 0, .int 12, .ref 1]) (w' := (fw (sz a0 12 a2 a3 a4 a5))) (cs' := 109) (ss' := 12668) ?_ (fun _ _ => rfl)
  refine go_seg 3 (pc' := 223) (ls' := [(3, .int 0), (2, .ref 90), (1, .ref 1), (0, .ref 0)]) (st' := [.int a2, .int 12, .ref 1]) (w' := (fw (sz a0 12 a2 a3 a4 a5))) (cs' := 109) (ss' := 12668) ?_ (fun _ _ => rfl)
  refine go_cl (k := 20) (st' := [.int (-1)]) (cs' := 109) (ss' := 12668) rfl rfl rfl rfl rfl rfl rfl (ro_1290 (sz a0 12 a2 a3 a4 a5) a2 (by omega) (by omega)) ?_
  refine go_seg 8 (pc' := 234) (ls' := [(3, .int 0), (2, .ref 90), (1, .ref 1), (0, .ref 0)]) (st' := [.int 0, .ref 0, .int 12, .ref 90, .int (-1)]) (w' := (wd_1240 (sz a0 12 a2 a3 a4 a5) a2)) (cs' := 109) (ss' := 12668) ?_ (fun _ _ => rfl)
  refine go_seg 3 (pc' := 237) (ls' := [(3, .int 0), (2, .ref 90), (1, .ref 1), (0, .ref 0)]) (st' := [.int a2, .int 12, .ref 90, .int (-1)]) (w' := (wd_1240 (sz a0 12 a2 a3 a4 a5) a2)) (cs' := 109) (ss' := 12668) ?_ (fun _ _ => rfl)
  refine go_cl (k := 20) (st' := [.int (-1), .int (-1)]) (cs' := 109) (ss' := 12668) rfl rfl rfl rfl rfl rfl rfl (ro_1295 (sz a0 12 a2 a3 a4 a5) a2 (by omega) (by omega)) ?_
  refine go_cmp true rfl (br_self _) ?_
  exact law_tail (f := sc a0 12 a2 a3 a4 a5) rfl
theorem ro_1297 (z : pq_C) : pq_Ru 1 13 [.int 13] (fw z) (some (.int 1), (fw z)) := by
  refine ru_of (k := 0) (M := pm_13) rfl rfl ?_
  exact go_end 8 (fun _ _ => rfl)
def wd_1242 (z : pq_C) (a2 : Int32) : pq_W := ((fw z).set 3 (.inl (.int, 64, .inl (upd (fl_c 64 (-1) (fun _ => 0)) 13 a2))))
theorem ro_1298 (z : pq_C) (a2 : Int32) (h0 : -1 ≤ a2.toInt) (h1 : a2.toInt < 8) : pq_Ru 2 12 [.ref 1, .int 13, .int a2] (fw z) (some (.int (-1)), (wd_1242 z a2)) := by
  refine ru_of (k := 1) (M := pm_12) rfl rfl ?_
  refine go_seg 1 (pc' := 1) (ls' := [(0, .ref 1), (1, .int 13), (2, .int a2)]) (st' := [.int 13]) (w' := (fw z)) (cs' := 0) (ss' := 0) ?_ (fun _ _ => rfl)
  refine go_cl (k := 1) (st' := [.int 1]) (cs' := 0) (ss' := 0) rfl rfl rfl rfl rfl rfl rfl (ro_1297 z) ?_
  refine go_seg 2 (pc' := 8) (ls' := [(0, .ref 1), (1, .int 13), (2, .int a2)]) (st' := [.int a2]) (w' := (fw z)) (cs' := 0) (ss' := 0) ?_ (fun _ _ => rfl)
  refine go_cl (k := 1) (st' := [.int 1]) (cs' := 0) (ss' := 0) rfl rfl rfl rfl rfl rfl rfl (ro_1193 z a2 (by omega) (by omega)) ?_
  refine go_seg 8 (pc' := 31) (ls' := [(3, .int (-1)), (0, .ref 1), (1, .int 13), (2, .int a2)]) (st' := [.ref 1]) (w' := (fw z)) (cs' := 0) (ss' := 0) ?_ (fun _ _ => rfl)
  exact go_end 7 (fun _ _ => rfl)
theorem ro_1300 (z : pq_C) (a2 : Int32) (h0 : -1 ≤ a2.toInt) (h1 : a2.toInt < 8) : pq_Ru 1 161 [.long 13, .long 0, .long 63] (wd_1242 z a2) (some (.int 1), (wd_1242 z a2)) := by
  refine ru_of (k := 0) (M := pm_161) rfl rfl ?_
  refine go_seg 8 (pc' := 13) (ls' := [(0, .long 13), (2, .long 0), (4, .long 63)]) (st' := []) (w' := (wd_1242 z a2)) (cs' := 0) (ss' := 0) ?_ (fun _ _ => rfl)
  exact go_end 3 (fun _ _ => rfl)
theorem ro_1301 (z : pq_C) (a2 : Int32) (h0 : -1 ≤ a2.toInt) (h1 : a2.toInt < 8) : pq_Ru 2 160 [.int 13] (wd_1242 z a2) (some (.int 1), (wd_1242 z a2)) := by
  refine ru_of (k := 1) (M := pm_160) rfl rfl ?_
  refine go_seg 4 (pc' := 6) (ls' := [(0, .int 13)]) (st' := [.long 63, .long 0, .long 13]) (w' := (wd_1242 z a2)) (cs' := 0) (ss' := 0) ?_ (fun _ _ => rfl)
  refine go_cl (k := 1) (st' := [.int 1]) (cs' := 0) (ss' := 0) rfl rfl rfl rfl rfl rfl rfl (ro_1300 z a2 (by omega) (by omega)) ?_
  exact go_end 1 (fun _ _ => rfl)
def wd_1243 (z : pq_C) (a2 : Int32) : pq_W := ((wd_1242 z a2).set 91 (.inl (.int, 2858, .inl (upd (upd (upd (upd (upd (upd (upd (upd (upd (upd (upd (upd (upd (upd (upd (upd (upd (upd (upd (upd (upd (upd (upd (upd (upd (upd (upd (upd (upd (upd (upd (upd (upd (upd (upd (upd (upd (upd (upd (upd (upd (upd (upd (upd (upd (upd (upd (upd (upd (upd (upd (upd (upd (upd (upd (upd (upd (upd (upd (upd (upd (upd (upd (upd (upd (upd (upd (upd (upd (upd (upd (upd (upd (upd (upd (upd (upd (upd (upd (upd (upd (upd (fun _ => 0) 1 10) 10 (-1)) 11 (-1)) 12 (-1)) 13 (-1)) 14 (-1)) 15 (-1)) 16 (-1)) 17 (-1)) 18 (-1)) 19 (-1)) 20 (-1)) 21 (-1)) 22 (-1)) 23 (-1)) 24 (-1)) 25 (-1)) 26 (-1)) 27 (-1)) 28 (-1)) 29 (-1)) 30 (-1)) 31 (-1)) 32 (-1)) 33 (-1)) 34 (-1)) 35 (-1)) 36 (-1)) 37 (-1)) 38 (-1)) 39 (-1)) 40 (-1)) 41 (-1)) 42 (-1)) 43 (-1)) 44 (-1)) 45 (-1)) 46 (-1)) 47 (-1)) 48 (-1)) 49 (-1)) 50 (-1)) 51 (-1)) 52 (-1)) 53 (-1)) 54 (-1)) 55 (-1)) 56 (-1)) 57 (-1)) 58 (-1)) 59 (-1)) 60 (-1)) 61 (-1)) 62 (-1)) 63 (-1)) 64 (-1)) 65 (-1)) 66 (-1)) 67 (-1)) 68 (-1)) 69 (-1)) 70 (-1)) 71 (-1)) 72 (-1)) 73 (-1)) 139 1000) 140 100) 145 1000) 146 100) 151 1000) 152 100) 157 1000) 158 100) 163 1000) 164 100) 169 1000) 170 100) 175 1000) 176 100) 181 1000) 182 100) 23 a2))))
theorem ro_1303 (z : pq_C) (a2 : Int32) (h0 : -1 ≤ a2.toInt) (h1 : a2.toInt < 8) : pq_Ru 3 159 [.ref 90, .int 13, .int a2] (wd_1242 z a2) (some (.int (-1)), (wd_1243 z a2)) := by
  refine ru_of (k := 2) (M := pm_159) rfl rfl ?_
  refine go_seg 1 (pc' := 1) (ls' := [(0, .ref 90), (1, .int 13), (2, .int a2)]) (st' := [.int 13]) (w' := (wd_1242 z a2)) (cs' := 0) (ss' := 0) ?_ (fun _ _ => rfl)
  refine go_cl (k := 2) (st' := [.int 1]) (cs' := 0) (ss' := 0) rfl rfl rfl rfl rfl rfl rfl (ro_1301 z a2 (by omega) (by omega)) ?_
  refine go_seg 5 (pc' := 15) (ls' := [(0, .ref 90), (1, .int 13), (2, .int a2)]) (st' := [.long 7, .long (-1), .long a2.toInt64]) (w' := (wd_1242 z a2)) (cs' := 0) (ss' := 0) ?_ (fun _ _ => rfl)
  refine go_cl (k := 2) (st' := [.int 1]) (cs' := 0) (ss' := 0) rfl rfl rfl rfl rfl rfl rfl (wi_t _ a2 (-1) 7 (-1) 7 rfl rfl (by omega)) ?_
  refine go_seg 8 (pc' := 38) (ls' := [(3, .int (-1)), (0, .ref 90), (1, .int 13), (2, .int a2)]) (st' := []) (w' := (wd_1242 z a2)) (cs' := 0) (ss' := 0) ?_ (fun _ _ => rfl)
  refine go_seg 8 (pc' := 49) (ls' := [(3, .int (-1)), (0, .ref 90), (1, .int 13), (2, .int a2)]) (st' := [.int (-1)]) (w' := (wd_1243 z a2)) (cs' := 0) (ss' := 0) ?_ (fun _ _ => rfl)
  exact go_end 1 (fun _ _ => rfl)
theorem lf_0_1304 (a0 : Int32) (a2 : Int32) (a3 : Int32) (a4 : Int32) (a5 : Int32) (h0 : -1 ≤ a2.toInt) (h1 : a2.toInt < 8) : ∃ w', pq_Go 20 pm_law 212 [(3, .int 0), (2, .ref 90), (1, .ref 1), (0, .ref 0)] [] (fw (sz a0 13 a2 a3 a4 a5)) 109 12668 (some (.int 1), w') := by
  refine ⟨(wd_1243 (sz a0 13 a2 a3 a4 a5) a2), ?_⟩
  refine go_seg 8 (pc' := 220) (ls' := [(3, .int 0), (2, .ref 90), (1, .ref 1), (0, .ref 0)]) (st' := [.int 0, .ref 0, .int 13, .ref 1]) (w' := (fw (sz a0 13 a2 a3 a4 a5))) (cs' := 109) (ss' := 12668) ?_ (fun _ _ => rfl)
  refine go_seg 3 (pc' := 223) (ls' := [(3, .int 0), (2, .ref 90), (1, .ref 1), (0, .ref 0)]) (st' := [.int a2, .int 13, .ref 1]) (w' := (fw (sz a0 13 a2 a3 a4 a5))) (cs' := 109) (ss' := 12668) ?_ (fun _ _ => rfl)
  refine go_cl (k := 20) (st' := [.int (-1)]) (cs' := 109) (ss' := 12668) rfl rfl rfl rfl rfl rfl rfl (ro_1298 (sz a0 13 a2 a3 a4 a5) a2 (by omega) (by omega)) ?_
  refine go_seg 8 (pc' := 234) (ls' := [(3, .int 0), (2, .ref 90), (1, .ref 1), (0, .ref 0)]) (st' := [.int 0, .ref 0, .int 13, .ref 90, .int (-1)]) (w' := (wd_1242 (sz a0 13 a2 a3 a4 a5) a2)) (cs' := 109) (ss' := 12668) ?_ (fun _ _ => rfl)
  refine go_seg 3 (pc' := 237) (ls' := [(3, .int 0), (2, .ref 90), (1, .ref 1), (0, .ref 0)]) (st' := [.int a2, .int 13, .ref 90, .int (-1)]) (w' := (wd_1242 (sz a0 13 a2 a3 a4 a5) a2)) (cs' := 109) (ss' := 12668) ?_ (fun _ _ => rfl)
  refine go_cl (k := 20) (st' := [.int (-1), .int (-1)]) (cs' := 109) (ss' := 12668) rfl rfl rfl rfl rfl rfl rfl (ro_1303 (sz a0 13 a2 a3 a4 a5) a2 (by omega) (by omega)) ?_
  refine go_cmp true rfl (br_self _) ?_
  exact law_tail (f := sc a0 13 a2 a3 a4 a5) rfl
theorem ro_1305 (z : pq_C) : pq_Ru 1 13 [.int 14] (fw z) (some (.int 1), (fw z)) := by
  refine ru_of (k := 0) (M := pm_13) rfl rfl ?_
  exact go_end 8 (fun _ _ => rfl)
def wd_1244 (z : pq_C) (a2 : Int32) : pq_W := ((fw z).set 3 (.inl (.int, 64, .inl (upd (fl_c 64 (-1) (fun _ => 0)) 14 a2))))
theorem ro_1306 (z : pq_C) (a2 : Int32) (h0 : -1 ≤ a2.toInt) (h1 : a2.toInt < 8) : pq_Ru 2 12 [.ref 1, .int 14, .int a2] (fw z) (some (.int (-1)), (wd_1244 z a2)) := by
  refine ru_of (k := 1) (M := pm_12) rfl rfl ?_
  refine go_seg 1 (pc' := 1) (ls' := [(0, .ref 1), (1, .int 14), (2, .int a2)]) (st' := [.int 14]) (w' := (fw z)) (cs' := 0) (ss' := 0) ?_ (fun _ _ => rfl)
  refine go_cl (k := 1) (st' := [.int 1]) (cs' := 0) (ss' := 0) rfl rfl rfl rfl rfl rfl rfl (ro_1305 z) ?_
  refine go_seg 2 (pc' := 8) (ls' := [(0, .ref 1), (1, .int 14), (2, .int a2)]) (st' := [.int a2]) (w' := (fw z)) (cs' := 0) (ss' := 0) ?_ (fun _ _ => rfl)
  refine go_cl (k := 1) (st' := [.int 1]) (cs' := 0) (ss' := 0) rfl rfl rfl rfl rfl rfl rfl (ro_1193 z a2 (by omega) (by omega)) ?_
  refine go_seg 8 (pc' := 31) (ls' := [(3, .int (-1)), (0, .ref 1), (1, .int 14), (2, .int a2)]) (st' := [.ref 1]) (w' := (fw z)) (cs' := 0) (ss' := 0) ?_ (fun _ _ => rfl)
  exact go_end 7 (fun _ _ => rfl)
theorem ro_1308 (z : pq_C) (a2 : Int32) (h0 : -1 ≤ a2.toInt) (h1 : a2.toInt < 8) : pq_Ru 1 161 [.long 14, .long 0, .long 63] (wd_1244 z a2) (some (.int 1), (wd_1244 z a2)) := by
  refine ru_of (k := 0) (M := pm_161) rfl rfl ?_
  refine go_seg 8 (pc' := 13) (ls' := [(0, .long 14), (2, .long 0), (4, .long 63)]) (st' := []) (w' := (wd_1244 z a2)) (cs' := 0) (ss' := 0) ?_ (fun _ _ => rfl)
  exact go_end 3 (fun _ _ => rfl)
theorem ro_1309 (z : pq_C) (a2 : Int32) (h0 : -1 ≤ a2.toInt) (h1 : a2.toInt < 8) : pq_Ru 2 160 [.int 14] (wd_1244 z a2) (some (.int 1), (wd_1244 z a2)) := by
  refine ru_of (k := 1) (M := pm_160) rfl rfl ?_
  refine go_seg 4 (pc' := 6) (ls' := [(0, .int 14)]) (st' := [.long 63, .long 0, .long 14]) (w' := (wd_1244 z a2)) (cs' := 0) (ss' := 0) ?_ (fun _ _ => rfl)
  refine go_cl (k := 1) (st' := [.int 1]) (cs' := 0) (ss' := 0) rfl rfl rfl rfl rfl rfl rfl (ro_1308 z a2 (by omega) (by omega)) ?_
  exact go_end 1 (fun _ _ => rfl)
def wd_1245 (z : pq_C) (a2 : Int32) : pq_W := ((wd_1244 z a2).set 91 (.inl (.int, 2858, .inl (upd (upd (upd (upd (upd (upd (upd (upd (upd (upd (upd (upd (upd (upd (upd (upd (upd (upd (upd (upd (upd (upd (upd (upd (upd (upd (upd (upd (upd (upd (upd (upd (upd (upd (upd (upd (upd (upd (upd (upd (upd (upd (upd (upd (upd (upd (upd (upd (upd (upd (upd (upd (upd (upd (upd (upd (upd (upd (upd (upd (upd (upd (upd (upd (upd (upd (upd (upd (upd (upd (upd (upd (upd (upd (upd (upd (upd (upd (upd (upd (upd (upd (fun _ => 0) 1 10) 10 (-1)) 11 (-1)) 12 (-1)) 13 (-1)) 14 (-1)) 15 (-1)) 16 (-1)) 17 (-1)) 18 (-1)) 19 (-1)) 20 (-1)) 21 (-1)) 22 (-1)) 23 (-1)) 24 (-1)) 25 (-1)) 26 (-1)) 27 (-1)) 28 (-1)) 29 (-1)) 30 (-1)) 31 (-1)) 32 (-1)) 33 (-1)) 34 (-1)) 35 (-1)) 36 (-1)) 37 (-1)) 38 (-1)) 39 (-1)) 40 (-1)) 41 (-1)) 42 (-1)) 43 (-1)) 44 (-1)) 45 (-1)) 46 (-1)) 47 (-1)) 48 (-1)) 49 (-1)) 50 (-1)) 51 (-1)) 52 (-1)) 53 (-1)) 54 (-1)) 55 (-1)) 56 (-1)) 57 (-1)) 58 (-1)) 59 (-1)) 60 (-1)) 61 (-1)) 62 (-1)) 63 (-1)) 64 (-1)) 65 (-1)) 66 (-1)) 67 (-1)) 68 (-1)) 69 (-1)) 70 (-1)) 71 (-1)) 72 (-1)) 73 (-1)) 139 1000) 140 100) 145 1000) 146 100) 151 1000) 152 100) 157 1000) 158 100) 163 1000) 164 100) 169 1000) 170 100) 175 1000) 176 100) 181 1000) 182 100) 24 a2))))
theorem ro_1311 (z : pq_C) (a2 : Int32) (h0 : -1 ≤ a2.toInt) (h1 : a2.toInt < 8) : pq_Ru 3 159 [.ref 90, .int 14, .int a2] (wd_1244 z a2) (some (.int (-1)), (wd_1245 z a2)) := by
  refine ru_of (k := 2) (M := pm_159) rfl rfl ?_
  refine go_seg 1 (pc' := 1) (ls' := [(0, .ref 90), (1, .int 14), (2, .int a2)]) (st' := [.int 14]) (w' := (wd_1244 z a2)) (cs' := 0) (ss' := 0) ?_ (fun _ _ => rfl)
  refine go_cl (k := 2) (st' := [.int 1]) (cs' := 0) (ss' := 0) rfl rfl rfl rfl rfl rfl rfl (ro_1309 z a2 (by omega) (by omega)) ?_
  refine go_seg 5 (pc' := 15) (ls' := [(0, .ref 90), (1, .int 14), (2, .int a2)]) (st' := [.long 7, .long (-1), .long a2.toInt64]) (w' := (wd_1244 z a2)) (cs' := 0) (ss' := 0) ?_ (fun _ _ => rfl)
  refine go_cl (k := 2) (st' := [.int 1]) (cs' := 0) (ss' := 0) rfl rfl rfl rfl rfl rfl rfl (wi_t _ a2 (-1) 7 (-1) 7 rfl rfl (by omega)) ?_
  refine go_seg 8 (pc' := 38) (ls' := [(3, .int (-1)), (0, .ref 90), (1, .int 14), (2, .int a2)]) (st' := []) (w' := (wd_1244 z a2)) (cs' := 0) (ss' := 0) ?_ (fun _ _ => rfl)
  refine go_seg 8 (pc' := 49) (ls' := [(3, .int (-1)), (0, .ref 90), (1, .int 14), (2, .int a2)]) (st' := [.int (-1)]) (w' := (wd_1245 z a2)) (cs' := 0) (ss' := 0) ?_ (fun _ _ => rfl)
  exact go_end 1 (fun _ _ => rfl)
theorem lf_0_1312 (a0 : Int32) (a2 : Int32) (a3 : Int32) (a4 : Int32) (a5 : Int32) (h0 : -1 ≤ a2.toInt) (h1 : a2.toInt < 8) : ∃ w', pq_Go 20 pm_law 212 [(3, .int 0), (2, .ref 90), (1, .ref 1), (0, .ref 0)] [] (fw (sz a0 14 a2 a3 a4 a5)) 109 12668 (some (.int 1), w') := by
  refine ⟨(wd_1245 (sz a0 14 a2 a3 a4 a5) a2), ?_⟩
  refine go_seg 8 (pc' := 220) (ls' := [(3, .int 0), (2, .ref 90), (1, .ref 1), (0, .ref 0)]) (st' := [.int 0, .ref 0, .int 14, .ref 1]) (w' := (fw (sz a0 14 a2 a3 a4 a5))) (cs' := 109) (ss' := 12668) ?_ (fun _ _ => rfl)
  refine go_seg 3 (pc' := 223) (ls' := [(3, .int 0), (2, .ref 90), (1, .ref 1), (0, .ref 0)]) (st' := [.int a2, .int 14, .ref 1]) (w' := (fw (sz a0 14 a2 a3 a4 a5))) (cs' := 109) (ss' := 12668) ?_ (fun _ _ => rfl)
  refine go_cl (k := 20) (st' := [.int (-1)]) (cs' := 109) (ss' := 12668) rfl rfl rfl rfl rfl rfl rfl (ro_1306 (sz a0 14 a2 a3 a4 a5) a2 (by omega) (by omega)) ?_
  refine go_seg 8 (pc' := 234) (ls' := [(3, .int 0), (2, .ref 90), (1, .ref 1), (0, .ref 0)]) (st' := [.int 0, .ref 0, .int 14, .ref 90, .int (-1)]) (w' := (wd_1244 (sz a0 14 a2 a3 a4 a5) a2)) (cs' := 109) (ss' := 12668) ?_ (fun _ _ => rfl)
  refine go_seg 3 (pc' := 237) (ls' := [(3, .int 0), (2, .ref 90), (1, .ref 1), (0, .ref 0)]) (st' := [.int a2, .int 14, .ref 90, .int (-1)]) (w' := (wd_1244 (sz a0 14 a2 a3 a4 a5) a2)) (cs' := 109) (ss' := 12668) ?_ (fun _ _ => rfl)
  refine go_cl (k := 20) (st' := [.int (-1), .int (-1)]) (cs' := 109) (ss' := 12668) rfl rfl rfl rfl rfl rfl rfl (ro_1311 (sz a0 14 a2 a3 a4 a5) a2 (by omega) (by omega)) ?_
  refine go_cmp true rfl (br_self _) ?_
  exact law_tail (f := sc a0 14 a2 a3 a4 a5) rfl
theorem ro_1313 (z : pq_C) : pq_Ru 1 13 [.int 15] (fw z) (some (.int 1), (fw z)) := by
  refine ru_of (k := 0) (M := pm_13) rfl rfl ?_
  exact go_end 8 (fun _ _ => rfl)
def wd_1246 (z : pq_C) (a2 : Int32) : pq_W := ((fw z).set 3 (.inl (.int, 64, .inl (upd (fl_c 64 (-1) (fun _ => 0)) 15 a2))))
theorem ro_1314 (z : pq_C) (a2 : Int32) (h0 : -1 ≤ a2.toInt) (h1 : a2.toInt < 8) : pq_Ru 2 12 [.ref 1, .int 15, .int a2] (fw z) (some (.int (-1)), (wd_1246 z a2)) := by
  refine ru_of (k := 1) (M := pm_12) rfl rfl ?_
  refine go_seg 1 (pc' := 1) (ls' := [(0, .ref 1), (1, .int 15), (2, .int a2)]) (st' := [.int 15]) (w' := (fw z)) (cs' := 0) (ss' := 0) ?_ (fun _ _ => rfl)
  refine go_cl (k := 1) (st' := [.int 1]) (cs' := 0) (ss' := 0) rfl rfl rfl rfl rfl rfl rfl (ro_1313 z) ?_
  refine go_seg 2 (pc' := 8) (ls' := [(0, .ref 1), (1, .int 15), (2, .int a2)]) (st' := [.int a2]) (w' := (fw z)) (cs' := 0) (ss' := 0) ?_ (fun _ _ => rfl)
  refine go_cl (k := 1) (st' := [.int 1]) (cs' := 0) (ss' := 0) rfl rfl rfl rfl rfl rfl rfl (ro_1193 z a2 (by omega) (by omega)) ?_
  refine go_seg 8 (pc' := 31) (ls' := [(3, .int (-1)), (0, .ref 1), (1, .int 15), (2, .int a2)]) (st' := [.ref 1]) (w' := (fw z)) (cs' := 0) (ss' := 0) ?_ (fun _ _ => rfl)
  exact go_end 7 (fun _ _ => rfl)
theorem ro_1316 (z : pq_C) (a2 : Int32) (h0 : -1 ≤ a2.toInt) (h1 : a2.toInt < 8) : pq_Ru 1 161 [.long 15, .long 0, .long 63] (wd_1246 z a2) (some (.int 1), (wd_1246 z a2)) := by
  refine ru_of (k := 0) (M := pm_161) rfl rfl ?_
  refine go_seg 8 (pc' := 13) (ls' := [(0, .long 15), (2, .long 0), (4, .long 63)]) (st' := []) (w' := (wd_1246 z a2)) (cs' := 0) (ss' := 0) ?_ (fun _ _ => rfl)
  exact go_end 3 (fun _ _ => rfl)
theorem ro_1317 (z : pq_C) (a2 : Int32) (h0 : -1 ≤ a2.toInt) (h1 : a2.toInt < 8) : pq_Ru 2 160 [.int 15] (wd_1246 z a2) (some (.int 1), (wd_1246 z a2)) := by
  refine ru_of (k := 1) (M := pm_160) rfl rfl ?_
  refine go_seg 4 (pc' := 6) (ls' := [(0, .int 15)]) (st' := [.long 63, .long 0, .long 15]) (w' := (wd_1246 z a2)) (cs' := 0) (ss' := 0) ?_ (fun _ _ => rfl)
  refine go_cl (k := 1) (st' := [.int 1]) (cs' := 0) (ss' := 0) rfl rfl rfl rfl rfl rfl rfl (ro_1316 z a2 (by omega) (by omega)) ?_
  exact go_end 1 (fun _ _ => rfl)
def wd_1247 (z : pq_C) (a2 : Int32) : pq_W := ((wd_1246 z a2).set 91 (.inl (.int, 2858, .inl (upd (upd (upd (upd (upd (upd (upd (upd (upd (upd (upd (upd (upd (upd (upd (upd (upd (upd (upd (upd (upd (upd (upd (upd (upd (upd (upd (upd (upd (upd (upd (upd (upd (upd (upd (upd (upd (upd (upd (upd (upd (upd (upd (upd (upd (upd (upd (upd (upd (upd (upd (upd (upd (upd (upd (upd (upd (upd (upd (upd (upd (upd (upd (upd (upd (upd (upd (upd (upd (upd (upd (upd (upd (upd (upd (upd (upd (upd (upd (upd (upd (upd (fun _ => 0) 1 10) 10 (-1)) 11 (-1)) 12 (-1)) 13 (-1)) 14 (-1)) 15 (-1)) 16 (-1)) 17 (-1)) 18 (-1)) 19 (-1)) 20 (-1)) 21 (-1)) 22 (-1)) 23 (-1)) 24 (-1)) 25 (-1)) 26 (-1)) 27 (-1)) 28 (-1)) 29 (-1)) 30 (-1)) 31 (-1)) 32 (-1)) 33 (-1)) 34 (-1)) 35 (-1)) 36 (-1)) 37 (-1)) 38 (-1)) 39 (-1)) 40 (-1)) 41 (-1)) 42 (-1)) 43 (-1)) 44 (-1)) 45 (-1)) 46 (-1)) 47 (-1)) 48 (-1)) 49 (-1)) 50 (-1)) 51 (-1)) 52 (-1)) 53 (-1)) 54 (-1)) 55 (-1)) 56 (-1)) 57 (-1)) 58 (-1)) 59 (-1)) 60 (-1)) 61 (-1)) 62 (-1)) 63 (-1)) 64 (-1)) 65 (-1)) 66 (-1)) 67 (-1)) 68 (-1)) 69 (-1)) 70 (-1)) 71 (-1)) 72 (-1)) 73 (-1)) 139 1000) 140 100) 145 1000) 146 100) 151 1000) 152 100) 157 1000) 158 100) 163 1000) 164 100) 169 1000) 170 100) 175 1000) 176 100) 181 1000) 182 100) 25 a2))))
theorem ro_1319 (z : pq_C) (a2 : Int32) (h0 : -1 ≤ a2.toInt) (h1 : a2.toInt < 8) : pq_Ru 3 159 [.ref 90, .int 15, .int a2] (wd_1246 z a2) (some (.int (-1)), (wd_1247 z a2)) := by
  refine ru_of (k := 2) (M := pm_159) rfl rfl ?_
  refine go_seg 1 (pc' := 1) (ls' := [(0, .ref 90), (1, .int 15), (2, .int a2)]) (st' := [.int 15]) (w' := (wd_1246 z a2)) (cs' := 0) (ss' := 0) ?_ (fun _ _ => rfl)
  refine go_cl (k := 2) (st' := [.int 1]) (cs' := 0) (ss' := 0) rfl rfl rfl rfl rfl rfl rfl (ro_1317 z a2 (by omega) (by omega)) ?_
  refine go_seg 5 (pc' := 15) (ls' := [(0, .ref 90), (1, .int 15), (2, .int a2)]) (st' := [.long 7, .long (-1), .long a2.toInt64]) (w' := (wd_1246 z a2)) (cs' := 0) (ss' := 0) ?_ (fun _ _ => rfl)
  refine go_cl (k := 2) (st' := [.int 1]) (cs' := 0) (ss' := 0) rfl rfl rfl rfl rfl rfl rfl (wi_t _ a2 (-1) 7 (-1) 7 rfl rfl (by omega)) ?_
  refine go_seg 8 (pc' := 38) (ls' := [(3, .int (-1)), (0, .ref 90), (1, .int 15), (2, .int a2)]) (st' := []) (w' := (wd_1246 z a2)) (cs' := 0) (ss' := 0) ?_ (fun _ _ => rfl)
  refine go_seg 8 (pc' := 49) (ls' := [(3, .int (-1)), (0, .ref 90), (1, .int 15), (2, .int a2)]) (st' := [.int (-1)]) (w' := (wd_1247 z a2)) (cs' := 0) (ss' := 0) ?_ (fun _ _ => rfl)
  exact go_end 1 (fun _ _ => rfl)
theorem lf_0_1320 (a0 : Int32) (a2 : Int32) (a3 : Int32) (a4 : Int32) (a5 : Int32) (h0 : -1 ≤ a2.toInt) (h1 : a2.toInt < 8) : ∃ w', pq_Go 20 pm_law 212 [(3, .int 0), (2, .ref 90), (1, .ref 1), (0, .ref 0)] [] (fw (sz a0 15 a2 a3 a4 a5)) 109 12668 (some (.int 1), w') := by
  refine ⟨(wd_1247 (sz a0 15 a2 a3 a4 a5) a2), ?_⟩
  refine go_seg 8 (pc' := 220) (ls' := [(3, .int 0), (2, .ref 90), (1, .ref 1), (0, .ref 0)]) (st' := [.int 0, .ref 0, .int 15, .ref 1]) (w' := (fw (sz a0 15 a2 a3 a4 a5))) (cs' := 109) (ss' := 12668) ?_ (fun _ _ => rfl)
  refine go_seg 3 (pc' := 223) (ls' := [(3, .int 0), (2, .ref 90), (1, .ref 1), (0, .ref 0)]) (st' := [.int a2, .int 15, .ref 1]) (w' := (fw (sz a0 15 a2 a3 a4 a5))) (cs' := 109) (ss' := 12668) ?_ (fun _ _ => rfl)
  refine go_cl (k := 20) (st' := [.int (-1)]) (cs' := 109) (ss' := 12668) rfl rfl rfl rfl rfl rfl rfl (ro_1314 (sz a0 15 a2 a3 a4 a5) a2 (by omega) (by omega)) ?_
  refine go_seg 8 (pc' := 234) (ls' := [(3, .int 0), (2, .ref 90), (1, .ref 1), (0, .ref 0)]) (st' := [.int 0, .ref 0, .int 15, .ref 90, .int (-1)]) (w' := (wd_1246 (sz a0 15 a2 a3 a4 a5) a2)) (cs' := 109) (ss' := 12668) ?_ (fun _ _ => rfl)
  refine go_seg 3 (pc' := 237) (ls' := [(3, .int 0), (2, .ref 90), (1, .ref 1), (0, .ref 0)]) (st' := [.int a2, .int 15, .ref 90, .int (-1)]) (w' := (wd_1246 (sz a0 15 a2 a3 a4 a5) a2)) (cs' := 109) (ss' := 12668) ?_ (fun _ _ => rfl)
  refine go_cl (k := 20) (st' := [.int (-1), .int (-1)]) (cs' := 109) (ss' := 12668) rfl rfl rfl rfl rfl rfl rfl (ro_1319 (sz a0 15 a2 a3 a4 a5) a2 (by omega) (by omega)) ?_
  refine go_cmp true rfl (br_self _) ?_
  exact law_tail (f := sc a0 15 a2 a3 a4 a5) rfl
theorem ro_1321 (z : pq_C) : pq_Ru 1 13 [.int 16] (fw z) (some (.int 1), (fw z)) := by
  refine ru_of (k := 0) (M := pm_13) rfl rfl ?_
  exact go_end 8 (fun _ _ => rfl)
def wd_1248 (z : pq_C) (a2 : Int32) : pq_W := ((fw z).set 3 (.inl (.int, 64, .inl (upd (fl_c 64 (-1) (fun _ => 0)) 16 a2))))
theorem ro_1322 (z : pq_C) (a2 : Int32) (h0 : -1 ≤ a2.toInt) (h1 : a2.toInt < 8) : pq_Ru 2 12 [.ref 1, .int 16, .int a2] (fw z) (some (.int (-1)), (wd_1248 z a2)) := by
  refine ru_of (k := 1) (M := pm_12) rfl rfl ?_
  refine go_seg 1 (pc' := 1) (ls' := [(0, .ref 1), (1, .int 16), (2, .int a2)]) (st' := [.int 16]) (w' := (fw z)) (cs' := 0) (ss' := 0) ?_ (fun _ _ => rfl)
  refine go_cl (k := 1) (st' := [.int 1]) (cs' := 0) (ss' := 0) rfl rfl rfl rfl rfl rfl rfl (ro_1321 z) ?_
  refine go_seg 2 (pc' := 8) (ls' := [(0, .ref 1), (1, .int 16), (2, .int a2)]) (st' := [.int a2]) (w' := (fw z)) (cs' := 0) (ss' := 0) ?_ (fun _ _ => rfl)
  refine go_cl (k := 1) (st' := [.int 1]) (cs' := 0) (ss' := 0) rfl rfl rfl rfl rfl rfl rfl (ro_1193 z a2 (by omega) (by omega)) ?_
  refine go_seg 8 (pc' := 31) (ls' := [(3, .int (-1)), (0, .ref 1), (1, .int 16), (2, .int a2)]) (st' := [.ref 1]) (w' := (fw z)) (cs' := 0) (ss' := 0) ?_ (fun _ _ => rfl)
  exact go_end 7 (fun _ _ => rfl)
theorem ro_1324 (z : pq_C) (a2 : Int32) (h0 : -1 ≤ a2.toInt) (h1 : a2.toInt < 8) : pq_Ru 1 161 [.long 16, .long 0, .long 63] (wd_1248 z a2) (some (.int 1), (wd_1248 z a2)) := by
  refine ru_of (k := 0) (M := pm_161) rfl rfl ?_
  refine go_seg 8 (pc' := 13) (ls' := [(0, .long 16), (2, .long 0), (4, .long 63)]) (st' := []) (w' := (wd_1248 z a2)) (cs' := 0) (ss' := 0) ?_ (fun _ _ => rfl)
  exact go_end 3 (fun _ _ => rfl)
theorem ro_1325 (z : pq_C) (a2 : Int32) (h0 : -1 ≤ a2.toInt) (h1 : a2.toInt < 8) : pq_Ru 2 160 [.int 16] (wd_1248 z a2) (some (.int 1), (wd_1248 z a2)) := by
  refine ru_of (k := 1) (M := pm_160) rfl rfl ?_
  refine go_seg 4 (pc' := 6) (ls' := [(0, .int 16)]) (st' := [.long 63, .long 0, .long 16]) (w' := (wd_1248 z a2)) (cs' := 0) (ss' := 0) ?_ (fun _ _ => rfl)
  refine go_cl (k := 1) (st' := [.int 1]) (cs' := 0) (ss' := 0) rfl rfl rfl rfl rfl rfl rfl (ro_1324 z a2 (by omega) (by omega)) ?_
  exact go_end 1 (fun _ _ => rfl)
def wd_1249 (z : pq_C) (a2 : Int32) : pq_W := ((wd_1248 z a2).set 91 (.inl (.int, 2858, .inl (upd (upd (upd (upd (upd (upd (upd (upd (upd (upd (upd (upd (upd (upd (upd (upd (upd (upd (upd (upd (upd (upd (upd (upd (upd (upd (upd (upd (upd (upd (upd (upd (upd (upd (upd (upd (upd (upd (upd (upd (upd (upd (upd (upd (upd (upd (upd (upd (upd (upd (upd (upd (upd (upd (upd (upd (upd (upd (upd (upd (upd (upd (upd (upd (upd (upd (upd (upd (upd (upd (upd (upd (upd (upd (upd (upd (upd (upd (upd (upd (upd (upd (fun _ => 0) 1 10) 10 (-1)) 11 (-1)) 12 (-1)) 13 (-1)) 14 (-1)) 15 (-1)) 16 (-1)) 17 (-1)) 18 (-1)) 19 (-1)) 20 (-1)) 21 (-1)) 22 (-1)) 23 (-1)) 24 (-1)) 25 (-1)) 26 (-1)) 27 (-1)) 28 (-1)) 29 (-1)) 30 (-1)) 31 (-1)) 32 (-1)) 33 (-1)) 34 (-1)) 35 (-1)) 36 (-1)) 37 (-1)) 38 (-1)) 39 (-1)) 40 (-1)) 41 (-1)) 42 (-1)) 43 (-1)) 44 (-1)) 45 (-1)) 46 (-1)) 47 (-1)) 48 (-1)) 49 (-1)) 50 (-1)) 51 (-1)) 52 (-1)) 53 (-1)) 54 (-1)) 55 (-1)) 56 (-1)) 57 (-1)) 58 (-1)) 59 (-1)) 60 (-1)) 61 (-1)) 62 (-1)) 63 (-1)) 64 (-1)) 65 (-1)) 66 (-1)) 67 (-1)) 68 (-1)) 69 (-1)) 70 (-1)) 71 (-1)) 72 (-1)) 73 (-1)) 139 1000) 140 100) 145 1000) 146 100) 151 1000) 152 100) 157 1000) 158 100) 163 1000) 164 100) 169 1000) 170 100) 175 1000) 176 100) 181 1000) 182 100) 26 a2))))
theorem ro_1327 (z : pq_C) (a2 : Int32) (h0 : -1 ≤ a2.toInt) (h1 : a2.toInt < 8) : pq_Ru 3 159 [.ref 90, .int 16, .int a2] (wd_1248 z a2) (some (.int (-1)), (wd_1249 z a2)) := by
  refine ru_of (k := 2) (M := pm_159) rfl rfl ?_
  refine go_seg 1 (pc' := 1) (ls' := [(0, .ref 90), (1, .int 16), (2, .int a2)]) (st' := [.int 16]) (w' := (wd_1248 z a2)) (cs' := 0) (ss' := 0) ?_ (fun _ _ => rfl)
  refine go_cl (k := 2) (st' := [.int 1]) (cs' := 0) (ss' := 0) rfl rfl rfl rfl rfl rfl rfl (ro_1325 z a2 (by omega) (by omega)) ?_
  refine go_seg 5 (pc' := 15) (ls' := [(0, .ref 90), (1, .int 16), (2, .int a2)]) (st' := [.long 7, .long (-1), .long a2.toInt64]) (w' := (wd_1248 z a2)) (cs' := 0) (ss' := 0) ?_ (fun _ _ => rfl)
  refine go_cl (k := 2) (st' := [.int 1]) (cs' := 0) (ss' := 0) rfl rfl rfl rfl rfl rfl rfl (wi_t _ a2 (-1) 7 (-1) 7 rfl rfl (by omega)) ?_
  refine go_seg 8 (pc' := 38) (ls' := [(3, .int (-1)), (0, .ref 90), (1, .int 16), (2, .int a2)]) (st' := []) (w' := (wd_1248 z a2)) (cs' := 0) (ss' := 0) ?_ (fun _ _ => rfl)
  refine go_seg 8 (pc' := 49) (ls' := [(3, .int (-1)), (0, .ref 90), (1, .int 16), (2, .int a2)]) (st' := [.int (-1)]) (w' := (wd_1249 z a2)) (cs' := 0) (ss' := 0) ?_ (fun _ _ => rfl)
  exact go_end 1 (fun _ _ => rfl)
theorem lf_0_1328 (a0 : Int32) (a2 : Int32) (a3 : Int32) (a4 : Int32) (a5 : Int32) (h0 : -1 ≤ a2.toInt) (h1 : a2.toInt < 8) : ∃ w', pq_Go 20 pm_law 212 [(3, .int 0), (2, .ref 90), (1, .ref 1), (0, .ref 0)] [] (fw (sz a0 16 a2 a3 a4 a5)) 109 12668 (some (.int 1), w') := by
  refine ⟨(wd_1249 (sz a0 16 a2 a3 a4 a5) a2), ?_⟩
  refine go_seg 8 (pc' := 220) (ls' := [(3, .int 0), (2, .ref 90), (1, .ref 1), (0, .ref 0)]) (st' := [.int 0, .ref 0, .int 16, .ref 1]) (w' := (fw (sz a0 16 a2 a3 a4 a5))) (cs' := 109) (ss' := 12668) ?_ (fun _ _ => rfl)
  refine go_seg 3 (pc' := 223) (ls' := [(3, .int 0), (2, .ref 90), (1, .ref 1), (0, .ref 0)]) (st' := [.int a2, .int 16, .ref 1]) (w' := (fw (sz a0 16 a2 a3 a4 a5))) (cs' := 109) (ss' := 12668) ?_ (fun _ _ => rfl)
  refine go_cl (k := 20) (st' := [.int (-1)]) (cs' := 109) (ss' := 12668) rfl rfl rfl rfl rfl rfl rfl (ro_1322 (sz a0 16 a2 a3 a4 a5) a2 (by omega) (by omega)) ?_
  refine go_seg 8 (pc' := 234) (ls' := [(3, .int 0), (2, .ref 90), (1, .ref 1), (0, .ref 0)]) (st' := [.int 0, .ref 0, .int 16, .ref 90, .int (-1)]) (w' := (wd_1248 (sz a0 16 a2 a3 a4 a5) a2)) (cs' := 109) (ss' := 12668) ?_ (fun _ _ => rfl)
  refine go_seg 3 (pc' := 237) (ls' := [(3, .int 0), (2, .ref 90), (1, .ref 1), (0, .ref 0)]) (st' := [.int a2, .int 16, .ref 90, .int (-1)]) (w' := (wd_1248 (sz a0 16 a2 a3 a4 a5) a2)) (cs' := 109) (ss' := 12668) ?_ (fun _ _ => rfl)
  refine go_cl (k := 20) (st' := [.int (-1), .int (-1)]) (cs' := 109) (ss' := 12668) rfl rfl rfl rfl rfl rfl rfl (ro_1327 (sz a0 16 a2 a3 a4 a5) a2 (by omega) (by omega)) ?_
  refine go_cmp true rfl (br_self _) ?_
  exact law_tail (f := sc a0 16 a2 a3 a4 a5) rfl
theorem ro_1329 (z : pq_C) : pq_Ru 1 13 [.int 17] (fw z) (some (.int 1), (fw z)) := by
  refine ru_of (k := 0) (M := pm_13) rfl rfl ?_
  exact go_end 8 (fun _ _ => rfl)
def wd_1250 (z : pq_C) (a2 : Int32) : pq_W := ((fw z).set 3 (.inl (.int, 64, .inl (upd (fl_c 64 (-1) (fun _ => 0)) 17 a2))))
theorem ro_1330 (z : pq_C) (a2 : Int32) (h0 : -1 ≤ a2.toInt) (h1 : a2.toInt < 8) : pq_Ru 2 12 [.ref 1, .int 17, .int a2] (fw z) (some (.int (-1)), (wd_1250 z a2)) := by
  refine ru_of (k := 1) (M := pm_12) rfl rfl ?_
  refine go_seg 1 (pc' := 1) (ls' := [(0, .ref 1), (1, .int 17), (2, .int a2)]) (st' := [.int 17]) (w' := (fw z)) (cs' := 0) (ss' := 0) ?_ (fun _ _ => rfl)
  refine go_cl (k := 1) (st' := [.int 1]) (cs' := 0) (ss' := 0) rfl rfl rfl rfl rfl rfl rfl (ro_1329 z) ?_
  refine go_seg 2 (pc' := 8) (ls' := [(0, .ref 1), (1, .int 17), (2, .int a2)]) (st' := [.int a2]) (w' := (fw z)) (cs' := 0) (ss' := 0) ?_ (fun _ _ => rfl)
  refine go_cl (k := 1) (st' := [.int 1]) (cs' := 0) (ss' := 0) rfl rfl rfl rfl rfl rfl rfl (ro_1193 z a2 (by omega) (by omega)) ?_
  refine go_seg 8 (pc' := 31) (ls' := [(3, .int (-1)), (0, .ref 1), (1, .int 17), (2, .int a2)]) (st' := [.ref 1]) (w' := (fw z)) (cs' := 0) (ss' := 0) ?_ (fun _ _ => rfl)
  exact go_end 7 (fun _ _ => rfl)
theorem ro_1332 (z : pq_C) (a2 : Int32) (h0 : -1 ≤ a2.toInt) (h1 : a2.toInt < 8) : pq_Ru 1 161 [.long 17, .long 0, .long 63] (wd_1250 z a2) (some (.int 1), (wd_1250 z a2)) := by
  refine ru_of (k := 0) (M := pm_161) rfl rfl ?_
  refine go_seg 8 (pc' := 13) (ls' := [(0, .long 17), (2, .long 0), (4, .long 63)]) (st' := []) (w' := (wd_1250 z a2)) (cs' := 0) (ss' := 0) ?_ (fun _ _ => rfl)
  exact go_end 3 (fun _ _ => rfl)
theorem ro_1333 (z : pq_C) (a2 : Int32) (h0 : -1 ≤ a2.toInt) (h1 : a2.toInt < 8) : pq_Ru 2 160 [.int 17] (wd_1250 z a2) (some (.int 1), (wd_1250 z a2)) := by
  refine ru_of (k := 1) (M := pm_160) rfl rfl ?_
  refine go_seg 4 (pc' := 6) (ls' := [(0, .int 17)]) (st' := [.long 63, .long 0, .long 17]) (w' := (wd_1250 z a2)) (cs' := 0) (ss' := 0) ?_ (fun _ _ => rfl)
  refine go_cl (k := 1) (st' := [.int 1]) (cs' := 0) (ss' := 0) rfl rfl rfl rfl rfl rfl rfl (ro_1332 z a2 (by omega) (by omega)) ?_
  exact go_end 1 (fun _ _ => rfl)
def wd_1251 (z : pq_C) (a2 : Int32) : pq_W := ((wd_1250 z a2).set 91 (.inl (.int, 2858, .inl (upd (upd (upd (upd (upd (upd (upd (upd (upd (upd (upd (upd (upd (upd (upd (upd (upd (upd (upd (upd (upd (upd (upd (upd (upd (upd (upd (upd (upd (upd (upd (upd (upd (upd (upd (upd (upd (upd (upd (upd (upd (upd (upd (upd (upd (upd (upd (upd (upd (upd (upd (upd (upd (upd (upd (upd (upd (upd (upd (upd (upd (upd (upd (upd (upd (upd (upd (upd (upd (upd (upd (upd (upd (upd (upd (upd (upd (upd (upd (upd (upd (upd (fun _ => 0) 1 10) 10 (-1)) 11 (-1)) 12 (-1)) 13 (-1)) 14 (-1)) 15 (-1)) 16 (-1)) 17 (-1)) 18 (-1)) 19 (-1)) 20 (-1)) 21 (-1)) 22 (-1)) 23 (-1)) 24 (-1)) 25 (-1)) 26 (-1)) 27 (-1)) 28 (-1)) 29 (-1)) 30 (-1)) 31 (-1)) 32 (-1)) 33 (-1)) 34 (-1)) 35 (-1)) 36 (-1)) 37 (-1)) 38 (-1)) 39 (-1)) 40 (-1)) 41 (-1)) 42 (-1)) 43 (-1)) 44 (-1)) 45 (-1)) 46 (-1)) 47 (-1)) 48 (-1)) 49 (-1)) 50 (-1)) 51 (-1)) 52 (-1)) 53 (-1)) 54 (-1)) 55 (-1)) 56 (-1)) 57 (-1)) 58 (-1)) 59 (-1)) 60 (-1)) 61 (-1)) 62 (-1)) 63 (-1)) 64 (-1)) 65 (-1)) 66 (-1)) 67 (-1)) 68 (-1)) 69 (-1)) 70 (-1)) 71 (-1)) 72 (-1)) 73 (-1)) 139 1000) 140 100) 145 1000) 146 100) 151 1000) 152 100) 157 1000) 158 100) 163 1000) 164 100) 169 1000) 170 100) 175 1000) 176 100) 181 1000) 182 100) 27 a2))))
theorem ro_1335 (z : pq_C) (a2 : Int32) (h0 : -1 ≤ a2.toInt) (h1 : a2.toInt < 8) : pq_Ru 3 159 [.ref 90, .int 17, .int a2] (wd_1250 z a2) (some (.int (-1)), (wd_1251 z a2)) := by
  refine ru_of (k := 2) (M := pm_159) rfl rfl ?_
  refine go_seg 1 (pc' := 1) (ls' := [(0, .ref 90), (1, .int 17), (2, .int a2)]) (st' := [.int 17]) (w' := (wd_1250 z a2)) (cs' := 0) (ss' := 0) ?_ (fun _ _ => rfl)
  refine go_cl (k := 2) (st' := [.int 1]) (cs' := 0) (ss' := 0) rfl rfl rfl rfl rfl rfl rfl (ro_1333 z a2 (by omega) (by omega)) ?_
  refine go_seg 5 (pc' := 15) (ls' := [(0, .ref 90), (1, .int 17), (2, .int a2)]) (st' := [.long 7, .long (-1), .long a2.toInt64]) (w' := (wd_1250 z a2)) (cs' := 0) (ss' := 0) ?_ (fun _ _ => rfl)
  refine go_cl (k := 2) (st' := [.int 1]) (cs' := 0) (ss' := 0) rfl rfl rfl rfl rfl rfl rfl (wi_t _ a2 (-1) 7 (-1) 7 rfl rfl (by omega)) ?_
  refine go_seg 8 (pc' := 38) (ls' := [(3, .int (-1)), (0, .ref 90), (1, .int 17), (2, .int a2)]) (st' := []) (w' := (wd_1250 z a2)) (cs' := 0) (ss' := 0) ?_ (fun _ _ => rfl)
  refine go_seg 8 (pc' := 49) (ls' := [(3, .int (-1)), (0, .ref 90), (1, .int 17), (2, .int a2)]) (st' := [.int (-1)]) (w' := (wd_1251 z a2)) (cs' := 0) (ss' := 0) ?_ (fun _ _ => rfl)
  exact go_end 1 (fun _ _ => rfl)
theorem lf_0_1336 (a0 : Int32) (a2 : Int32) (a3 : Int32) (a4 : Int32) (a5 : Int32) (h0 : -1 ≤ a2.toInt) (h1 : a2.toInt < 8) : ∃ w', pq_Go 20 pm_law 212 [(3, .int 0), (2, .ref 90), (1, .ref 1), (0, .ref 0)] [] (fw (sz a0 17 a2 a3 a4 a5)) 109 12668 (some (.int 1), w') := by
  refine ⟨(wd_1251 (sz a0 17 a2 a3 a4 a5) a2), ?_⟩
  refine go_seg 8 (pc' := 220) (ls' := [(3, .int 0), (2, .ref 90), (1, .ref 1), (0, .ref 0)]) (st' := [.int 0, .ref 0, .int 17, .ref 1]) (w' := (fw (sz a0 17 a2 a3 a4 a5))) (cs' := 109) (ss' := 12668) ?_ (fun _ _ => rfl)
  refine go_seg 3 (pc' := 223) (ls' := [(3, .int 0), (2, .ref 90), (1, .ref 1), (0, .ref 0)]) (st' := [.int a2, .int 17, .ref 1]) (w' := (fw (sz a0 17 a2 a3 a4 a5))) (cs' := 109) (ss' := 12668) ?_ (fun _ _ => rfl)
  refine go_cl (k := 20) (st' := [.int (-1)]) (cs' := 109) (ss' := 12668) rfl rfl rfl rfl rfl rfl rfl (ro_1330 (sz a0 17 a2 a3 a4 a5) a2 (by omega) (by omega)) ?_
  refine go_seg 8 (pc' := 234) (ls' := [(3, .int 0), (2, .ref 90), (1, .ref 1), (0, .ref 0)]) (st' := [.int 0, .ref 0, .int 17, .ref 90, .int (-1)]) (w' := (wd_1250 (sz a0 17 a2 a3 a4 a5) a2)) (cs' := 109) (ss' := 12668) ?_ (fun _ _ => rfl)
  refine go_seg 3 (pc' := 237) (ls' := [(3, .int 0), (2, .ref 90), (1, .ref 1), (0, .ref 0)]) (st' := [.int a2, .int 17, .ref 90, .int (-1)]) (w' := (wd_1250 (sz a0 17 a2 a3 a4 a5) a2)) (cs' := 109) (ss' := 12668) ?_ (fun _ _ => rfl)
  refine go_cl (k := 20) (st' := [.int (-1), .int (-1)]) (cs' := 109) (ss' := 12668) rfl rfl rfl rfl rfl rfl rfl (ro_1335 (sz a0 17 a2 a3 a4 a5) a2 (by omega) (by omega)) ?_
  refine go_cmp true rfl (br_self _) ?_
  exact law_tail (f := sc a0 17 a2 a3 a4 a5) rfl
theorem ro_1337 (z : pq_C) : pq_Ru 1 13 [.int 18] (fw z) (some (.int 1), (fw z)) := by
  refine ru_of (k := 0) (M := pm_13) rfl rfl ?_
  exact go_end 8 (fun _ _ => rfl)
def wd_1252 (z : pq_C) (a2 : Int32) : pq_W := ((fw z).set 3 (.inl (.int, 64, .inl (upd (fl_c 64 (-1) (fun _ => 0)) 18 a2))))
theorem ro_1338 (z : pq_C) (a2 : Int32) (h0 : -1 ≤ a2.toInt) (h1 : a2.toInt < 8) : pq_Ru 2 12 [.ref 1, .int 18, .int a2] (fw z) (some (.int (-1)), (wd_1252 z a2)) := by
  refine ru_of (k := 1) (M := pm_12) rfl rfl ?_
  refine go_seg 1 (pc' := 1) (ls' := [(0, .ref 1), (1, .int 18), (2, .int a2)]) (st' := [.int 18]) (w' := (fw z)) (cs' := 0) (ss' := 0) ?_ (fun _ _ => rfl)
  refine go_cl (k := 1) (st' := [.int 1]) (cs' := 0) (ss' := 0) rfl rfl rfl rfl rfl rfl rfl (ro_1337 z) ?_
  refine go_seg 2 (pc' := 8) (ls' := [(0, .ref 1), (1, .int 18), (2, .int a2)]) (st' := [.int a2]) (w' := (fw z)) (cs' := 0) (ss' := 0) ?_ (fun _ _ => rfl)
  refine go_cl (k := 1) (st' := [.int 1]) (cs' := 0) (ss' := 0) rfl rfl rfl rfl rfl rfl rfl (ro_1193 z a2 (by omega) (by omega)) ?_
  refine go_seg 8 (pc' := 31) (ls' := [(3, .int (-1)), (0, .ref 1), (1, .int 18), (2, .int a2)]) (st' := [.ref 1]) (w' := (fw z)) (cs' := 0) (ss' := 0) ?_ (fun _ _ => rfl)
  exact go_end 7 (fun _ _ => rfl)
theorem ro_1340 (z : pq_C) (a2 : Int32) (h0 : -1 ≤ a2.toInt) (h1 : a2.toInt < 8) : pq_Ru 1 161 [.long 18, .long 0, .long 63] (wd_1252 z a2) (some (.int 1), (wd_1252 z a2)) := by
  refine ru_of (k := 0) (M := pm_161) rfl rfl ?_
  refine go_seg 8 (pc' := 13) (ls' := [(0, .long 18), (2, .long 0), (4, .long 63)]) (st' := []) (w' := (wd_1252 z a2)) (cs' := 0) (ss' := 0) ?_ (fun _ _ => rfl)
  exact go_end 3 (fun _ _ => rfl)
theorem ro_1341 (z : pq_C) (a2 : Int32) (h0 : -1 ≤ a2.toInt) (h1 : a2.toInt < 8) : pq_Ru 2 160 [.int 18] (wd_1252 z a2) (some (.int 1), (wd_1252 z a2)) := by
  refine ru_of (k := 1) (M := pm_160) rfl rfl ?_
  refine go_seg 4 (pc' := 6) (ls' := [(0, .int 18)]) (st' := [.long 63, .long 0, .long 18]) (w' := (wd_1252 z a2)) (cs' := 0) (ss' := 0) ?_ (fun _ _ => rfl)
  refine go_cl (k := 1) (st' := [.int 1]) (cs' := 0) (ss' := 0) rfl rfl rfl rfl rfl rfl rfl (ro_1340 z a2 (by omega) (by omega)) ?_
  exact go_end 1 (fun _ _ => rfl)
def wd_1253 (z : pq_C) (a2 : Int32) : pq_W := ((wd_1252 z a2).set 91 (.inl (.int, 2858, .inl (upd (upd (upd (upd (upd (upd (upd (upd (upd (upd (upd (upd (upd (upd (upd (upd (upd (upd (upd (upd (upd (upd (upd (upd (upd (upd (upd (upd (upd (upd (upd (upd (upd (upd (upd (upd (upd (upd (upd (upd (upd (upd (upd (upd (upd (upd (upd (upd (upd (upd (upd (upd (upd (upd (upd (upd (upd (upd (upd (upd (upd (upd (upd (upd (upd (upd (upd (upd (upd (upd (upd (upd (upd (upd (upd (upd (upd (upd (upd (upd (upd (upd (fun _ => 0) 1 10) 10 (-1)) 11 (-1)) 12 (-1)) 13 (-1)) 14 (-1)) 15 (-1)) 16 (-1)) 17 (-1)) 18 (-1)) 19 (-1)) 20 (-1)) 21 (-1)) 22 (-1)) 23 (-1)) 24 (-1)) 25 (-1)) 26 (-1)) 27 (-1)) 28 (-1)) 29 (-1)) 30 (-1)) 31 (-1)) 32 (-1)) 33 (-1)) 34 (-1)) 35 (-1)) 36 (-1)) 37 (-1)) 38 (-1)) 39 (-1)) 40 (-1)) 41 (-1)) 42 (-1)) 43 (-1)) 44 (-1)) 45 (-1)) 46 (-1)) 47 (-1)) 48 (-1)) 49 (-1)) 50 (-1)) 51 (-1)) 52 (-1)) 53 (-1)) 54 (-1)) 55 (-1)) 56 (-1)) 57 (-1)) 58 (-1)) 59 (-1)) 60 (-1)) 61 (-1)) 62 (-1)) 63 (-1)) 64 (-1)) 65 (-1)) 66 (-1)) 67 (-1)) 68 (-1)) 69 (-1)) 70 (-1)) 71 (-1)) 72 (-1)) 73 (-1)) 139 1000) 140 100) 145 1000) 146 100) 151 1000) 152 100) 157 1000) 158 100) 163 1000) 164 100) 169 1000) 170 100) 175 1000) 176 100) 181 1000) 182 100) 28 a2))))
theorem ro_1343 (z : pq_C) (a2 : Int32) (h0 : -1 ≤ a2.toInt) (h1 : a2.toInt < 8) : pq_Ru 3 159 [.ref 90, .int 18, .int a2] (wd_1252 z a2) (some (.int (-1)), (wd_1253 z a2)) := by
  refine ru_of (k := 2) (M := pm_159) rfl rfl ?_
  refine go_seg 1 (pc' := 1) (ls' := [(0, .ref 90), (1, .int 18), (2, .int a2)]) (st' := [.int 18]) (w' := (wd_1252 z a2)) (cs' := 0) (ss' := 0) ?_ (fun _ _ => rfl)
  refine go_cl (k := 2) (st' := [.int 1]) (cs' := 0) (ss' := 0) rfl rfl rfl rfl rfl rfl rfl (ro_1341 z a2 (by omega) (by omega)) ?_
  refine go_seg 5 (pc' := 15) (ls' := [(0, .ref 90), (1, .int 18), (2, .int a2)]) (st' := [.long 7, .long (-1), .long a2.toInt64]) (w' := (wd_1252 z a2)) (cs' := 0) (ss' := 0) ?_ (fun _ _ => rfl)
  refine go_cl (k := 2) (st' := [.int 1]) (cs' := 0) (ss' := 0) rfl rfl rfl rfl rfl rfl rfl (wi_t _ a2 (-1) 7 (-1) 7 rfl rfl (by omega)) ?_
  refine go_seg 8 (pc' := 38) (ls' := [(3, .int (-1)), (0, .ref 90), (1, .int 18), (2, .int a2)]) (st' := []) (w' := (wd_1252 z a2)) (cs' := 0) (ss' := 0) ?_ (fun _ _ => rfl)
  refine go_seg 8 (pc' := 49) (ls' := [(3, .int (-1)), (0, .ref 90), (1, .int 18), (2, .int a2)]) (st' := [.int (-1)]) (w' := (wd_1253 z a2)) (cs' := 0) (ss' := 0) ?_ (fun _ _ => rfl)
  exact go_end 1 (fun _ _ => rfl)
theorem lf_0_1344 (a0 : Int32) (a2 : Int32) (a3 : Int32) (a4 : Int32) (a5 : Int32) (h0 : -1 ≤ a2.toInt) (h1 : a2.toInt < 8) : ∃ w', pq_Go 20 pm_law 212 [(3, .int 0), (2, .ref 90), (1, .ref 1), (0, .ref 0)] [] (fw (sz a0 18 a2 a3 a4 a5)) 109 12668 (some (.int 1), w') := by
  refine ⟨(wd_1253 (sz a0 18 a2 a3 a4 a5) a2), ?_⟩
  refine go_seg 8 (pc' := 220) (ls' := [(3, .int 0), (2, .ref 90), (1, .ref 1), (0, .ref 0)]) (st' := [.int 0, .ref 0, .int 18, .ref 1]) (w' := (fw (sz a0 18 a2 a3 a4 a5))) (cs' := 109) (ss' := 12668) ?_ (fun _ _ => rfl)
  refine go_seg 3 (pc' := 223) (ls' := [(3, .int 0), (2, .ref 90), (1, .ref 1), (0, .ref 0)]) (st' := [.int a2, .int 18, .ref 1]) (w' := (fw (sz a0 18 a2 a3 a4 a5))) (cs' := 109) (ss' := 12668) ?_ (fun _ _ => rfl)
  refine go_cl (k := 20) (st' := [.int (-1)]) (cs' := 109) (ss' := 12668) rfl rfl rfl rfl rfl rfl rfl (ro_1338 (sz a0 18 a2 a3 a4 a5) a2 (by omega) (by omega)) ?_
  refine go_seg 8 (pc' := 234) (ls' := [(3, .int 0), (2, .ref 90), (1, .ref 1), (0, .ref 0)]) (st' := [.int 0, .ref 0, .int 18, .ref 90, .int (-1)]) (w' := (wd_1252 (sz a0 18 a2 a3 a4 a5) a2)) (cs' := 109) (ss' := 12668) ?_ (fun _ _ => rfl)
  refine go_seg 3 (pc' := 237) (ls' := [(3, .int 0), (2, .ref 90), (1, .ref 1), (0, .ref 0)]) (st' := [.int a2, .int 18, .ref 90, .int (-1)]) (w' := (wd_1252 (sz a0 18 a2 a3 a4 a5) a2)) (cs' := 109) (ss' := 12668) ?_ (fun _ _ => rfl)
  refine go_cl (k := 20) (st' := [.int (-1), .int (-1)]) (cs' := 109) (ss' := 12668) rfl rfl rfl rfl rfl rfl rfl (ro_1343 (sz a0 18 a2 a3 a4 a5) a2 (by omega) (by omega)) ?_
  refine go_cmp true rfl (br_self _) ?_
  exact law_tail (f := sc a0 18 a2 a3 a4 a5) rfl
theorem ro_1345 (z : pq_C) : pq_Ru 1 13 [.int 19] (fw z) (some (.int 1), (fw z)) := by
  refine ru_of (k := 0) (M := pm_13) rfl rfl ?_
  exact go_end 8 (fun _ _ => rfl)
def wd_1254 (z : pq_C) (a2 : Int32) : pq_W := ((fw z).set 3 (.inl (.int, 64, .inl (upd (fl_c 64 (-1) (fun _ => 0)) 19 a2))))
theorem ro_1346 (z : pq_C) (a2 : Int32) (h0 : -1 ≤ a2.toInt) (h1 : a2.toInt < 8) : pq_Ru 2 12 [.ref 1, .int 19, .int a2] (fw z) (some (.int (-1)), (wd_1254 z a2)) := by
  refine ru_of (k := 1) (M := pm_12) rfl rfl ?_
  refine go_seg 1 (pc' := 1) (ls' := [(0, .ref 1), (1, .int 19), (2, .int a2)]) (st' := [.int 19]) (w' := (fw z)) (cs' := 0) (ss' := 0) ?_ (fun _ _ => rfl)
  refine go_cl (k := 1) (st' := [.int 1]) (cs' := 0) (ss' := 0) rfl rfl rfl rfl rfl rfl rfl (ro_1345 z) ?_
  refine go_seg 2 (pc' := 8) (ls' := [(0, .ref 1), (1, .int 19), (2, .int a2)]) (st' := [.int a2]) (w' := (fw z)) (cs' := 0) (ss' := 0) ?_ (fun _ _ => rfl)
  refine go_cl (k := 1) (st' := [.int 1]) (cs' := 0) (ss' := 0) rfl rfl rfl rfl rfl rfl rfl (ro_1193 z a2 (by omega) (by omega)) ?_
  refine go_seg 8 (pc' := 31) (ls' := [(3, .int (-1)), (0, .ref 1), (1, .int 19), (2, .int a2)]) (st' := [.ref 1]) (w' := (fw z)) (cs' := 0) (ss' := 0) ?_ (fun _ _ => rfl)
  exact go_end 7 (fun _ _ => rfl)
theorem ro_1348 (z : pq_C) (a2 : Int32) (h0 : -1 ≤ a2.toInt) (h1 : a2.toInt < 8) : pq_Ru 1 161 [.long 19, .long 0, .long 63] (wd_1254 z a2) (some (.int 1), (wd_1254 z a2)) := by
  refine ru_of (k := 0) (M := pm_161) rfl rfl ?_
  refine go_seg 8 (pc' := 13) (ls' := [(0, .long 19), (2, .long 0), (4, .long 63)]) (st' := []) (w' := (wd_1254 z a2)) (cs' := 0) (ss' := 0) ?_ (fun _ _ => rfl)
  exact go_end 3 (fun _ _ => rfl)
theorem ro_1349 (z : pq_C) (a2 : Int32) (h0 : -1 ≤ a2.toInt) (h1 : a2.toInt < 8) : pq_Ru 2 160 [.int 19] (wd_1254 z a2) (some (.int 1), (wd_1254 z a2)) := by
  refine ru_of (k := 1) (M := pm_160) rfl rfl ?_
  refine go_seg 4 (pc' := 6) (ls' := [(0, .int 19)]) (st' := [.long 63, .long 0, .long 19]) (w' := (wd_1254 z a2)) (cs' := 0) (ss' := 0) ?_ (fun _ _ => rfl)
  refine go_cl (k := 1) (st' := [.int 1]) (cs' := 0) (ss' := 0) rfl rfl rfl rfl rfl rfl rfl (ro_1348 z a2 (by omega) (by omega)) ?_
  exact go_end 1 (fun _ _ => rfl)
def wd_1255 (z : pq_C) (a2 : Int32) : pq_W := ((wd_1254 z a2).set 91 (.inl (.int, 2858, .inl (upd (upd (upd (upd (upd (upd (upd (upd (upd (upd (upd (upd (upd (upd (upd (upd (upd (upd (upd (upd (upd (upd (upd (upd (upd (upd (upd (upd (upd (upd (upd (upd (upd (upd (upd (upd (upd (upd (upd (upd (upd (upd (upd (upd (upd (upd (upd (upd (upd (upd (upd (upd (upd (upd (upd (upd (upd (upd (upd (upd (upd (upd (upd (upd (upd (upd (upd (upd (upd (upd (upd (upd (upd (upd (upd (upd (upd (upd (upd (upd (upd (upd (fun _ => 0) 1 10) 10 (-1)) 11 (-1)) 12 (-1)) 13 (-1)) 14 (-1)) 15 (-1)) 16 (-1)) 17 (-1)) 18 (-1)) 19 (-1)) 20 (-1)) 21 (-1)) 22 (-1)) 23 (-1)) 24 (-1)) 25 (-1)) 26 (-1)) 27 (-1)) 28 (-1)) 29 (-1)) 30 (-1)) 31 (-1)) 32 (-1)) 33 (-1)) 34 (-1)) 35 (-1)) 36 (-1)) 37 (-1)) 38 (-1)) 39 (-1)) 40 (-1)) 41 (-1)) 42 (-1)) 43 (-1)) 44 (-1)) 45 (-1)) 46 (-1)) 47 (-1)) 48 (-1)) 49 (-1)) 50 (-1)) 51 (-1)) 52 (-1)) 53 (-1)) 54 (-1)) 55 (-1)) 56 (-1)) 57 (-1)) 58 (-1)) 59 (-1)) 60 (-1)) 61 (-1)) 62 (-1)) 63 (-1)) 64 (-1)) 65 (-1)) 66 (-1)) 67 (-1)) 68 (-1)) 69 (-1)) 70 (-1)) 71 (-1)) 72 (-1)) 73 (-1)) 139 1000) 140 100) 145 1000) 146 100) 151 1000) 152 100) 157 1000) 158 100) 163 1000) 164 100) 169 1000) 170 100) 175 1000) 176 100) 181 1000) 182 100) 29 a2))))
theorem ro_1351 (z : pq_C) (a2 : Int32) (h0 : -1 ≤ a2.toInt) (h1 : a2.toInt < 8) : pq_Ru 3 159 [.ref 90, .int 19, .int a2] (wd_1254 z a2) (some (.int (-1)), (wd_1255 z a2)) := by
  refine ru_of (k := 2) (M := pm_159) rfl rfl ?_
  refine go_seg 1 (pc' := 1) (ls' := [(0, .ref 90), (1, .int 19), (2, .int a2)]) (st' := [.int 19]) (w' := (wd_1254 z a2)) (cs' := 0) (ss' := 0) ?_ (fun _ _ => rfl)
  refine go_cl (k := 2) (st' := [.int 1]) (cs' := 0) (ss' := 0) rfl rfl rfl rfl rfl rfl rfl (ro_1349 z a2 (by omega) (by omega)) ?_
  refine go_seg 5 (pc' := 15) (ls' := [(0, .ref 90), (1, .int 19), (2, .int a2)]) (st' := [.long 7, .long (-1), .long a2.toInt64]) (w' := (wd_1254 z a2)) (cs' := 0) (ss' := 0) ?_ (fun _ _ => rfl)
  refine go_cl (k := 2) (st' := [.int 1]) (cs' := 0) (ss' := 0) rfl rfl rfl rfl rfl rfl rfl (wi_t _ a2 (-1) 7 (-1) 7 rfl rfl (by omega)) ?_
  refine go_seg 8 (pc' := 38) (ls' := [(3, .int (-1)), (0, .ref 90), (1, .int 19), (2, .int a2)]) (st' := []) (w' := (wd_1254 z a2)) (cs' := 0) (ss' := 0) ?_ (fun _ _ => rfl)
  refine go_seg 8 (pc' := 49) (ls' := [(3, .int (-1)), (0, .ref 90), (1, .int 19), (2, .int a2)]) (st' := [.int (-1)]) (w' := (wd_1255 z a2)) (cs' := 0) (ss' := 0) ?_ (fun _ _ => rfl)
  exact go_end 1 (fun _ _ => rfl)
theorem lf_0_1352 (a0 : Int32) (a2 : Int32) (a3 : Int32) (a4 : Int32) (a5 : Int32) (h0 : -1 ≤ a2.toInt) (h1 : a2.toInt < 8) : ∃ w', pq_Go 20 pm_law 212 [(3, .int 0), (2, .ref 90), (1, .ref 1), (0, .ref 0)] [] (fw (sz a0 19 a2 a3 a4 a5)) 109 12668 (some (.int 1), w') := by
  refine ⟨(wd_1255 (sz a0 19 a2 a3 a4 a5) a2), ?_⟩
  refine go_seg 8 (pc' := 220) (ls' := [(3, .int 0), (2, .ref 90), (1, .ref 1), (0, .ref 0)]) (st' := [.int 0, .ref 0, .int 19, .ref 1]) (w' := (fw (sz a0 19 a2 a3 a4 a5))) (cs' := 109) (ss' := 12668) ?_ (fun _ _ => rfl)
  refine go_seg 3 (pc' := 223) (ls' := [(3, .int 0), (2, .ref 90), (1, .ref 1), (0, .ref 0)]) (st' := [.int a2, .int 19, .ref 1]) (w' := (fw (sz a0 19 a2 a3 a4 a5))) (cs' := 109) (ss' := 12668) ?_ (fun _ _ => rfl)
  refine go_cl (k := 20) (st' := [.int (-1)]) (cs' := 109) (ss' := 12668) rfl rfl rfl rfl rfl rfl rfl (ro_1346 (sz a0 19 a2 a3 a4 a5) a2 (by omega) (by omega)) ?_
  refine go_seg 8 (pc' := 234) (ls' := [(3, .int 0), (2, .ref 90), (1, .ref 1), (0, .ref 0)]) (st' := [.int 0, .ref 0, .int 19, .ref 90, .int (-1)]) (w' := (wd_1254 (sz a0 19 a2 a3 a4 a5) a2)) (cs' := 109) (ss' := 12668) ?_ (fun _ _ => rfl)
  refine go_seg 3 (pc' := 237) (ls' := [(3, .int 0), (2, .ref 90), (1, .ref 1), (0, .ref 0)]) (st' := [.int a2, .int 19, .ref 90, .int (-1)]) (w' := (wd_1254 (sz a0 19 a2 a3 a4 a5) a2)) (cs' := 109) (ss' := 12668) ?_ (fun _ _ => rfl)
  refine go_cl (k := 20) (st' := [.int (-1), .int (-1)]) (cs' := 109) (ss' := 12668) rfl rfl rfl rfl rfl rfl rfl (ro_1351 (sz a0 19 a2 a3 a4 a5) a2 (by omega) (by omega)) ?_
  refine go_cmp true rfl (br_self _) ?_
  exact law_tail (f := sc a0 19 a2 a3 a4 a5) rfl
theorem ro_1353 (z : pq_C) : pq_Ru 1 13 [.int 20] (fw z) (some (.int 1), (fw z)) := by
  refine ru_of (k := 0) (M := pm_13) rfl rfl ?_
  exact go_end 8 (fun _ _ => rfl)
def wd_1256 (z : pq_C) (a2 : Int32) : pq_W := ((fw z).set 3 (.inl (.int, 64, .inl (upd (fl_c 64 (-1) (fun _ => 0)) 20 a2))))
theorem ro_1354 (z : pq_C) (a2 : Int32) (h0 : -1 ≤ a2.toInt) (h1 : a2.toInt < 8) : pq_Ru 2 12 [.ref 1, .int 20, .int a2] (fw z) (some (.int (-1)), (wd_1256 z a2)) := by
  refine ru_of (k := 1) (M := pm_12) rfl rfl ?_
  refine go_seg 1 (pc' := 1) (ls' := [(0, .ref 1), (1, .int 20), (2, .int a2)]) (st' := [.int 20]) (w' := (fw z)) (cs' := 0) (ss' := 0) ?_ (fun _ _ => rfl)
  refine go_cl (k := 1) (st' := [.int 1]) (cs' := 0) (ss' := 0) rfl rfl rfl rfl rfl rfl rfl (ro_1353 z) ?_
  refine go_seg 2 (pc' := 8) (ls' := [(0, .ref 1), (1, .int 20), (2, .int a2)]) (st' := [.int a2]) (w' := (fw z)) (cs' := 0) (ss' := 0) ?_ (fun _ _ => rfl)
  refine go_cl (k := 1) (st' := [.int 1]) (cs' := 0) (ss' := 0) rfl rfl rfl rfl rfl rfl rfl (ro_1193 z a2 (by omega) (by omega)) ?_
  refine go_seg 8 (pc' := 31) (ls' := [(3, .int (-1)), (0, .ref 1), (1, .int 20), (2, .int a2)]) (st' := [.ref 1]) (w' := (fw z)) (cs' := 0) (ss' := 0) ?_ (fun _ _ => rfl)
  exact go_end 7 (fun _ _ => rfl)
theorem ro_1356 (z : pq_C) (a2 : Int32) (h0 : -1 ≤ a2.toInt) (h1 : a2.toInt < 8) : pq_Ru 1 161 [.long 20, .long 0, .long 63] (wd_1256 z a2) (some (.int 1), (wd_1256 z a2)) := by
  refine ru_of (k := 0) (M := pm_161) rfl rfl ?_
  refine go_seg 8 (pc' := 13) (ls' := [(0, .long 20), (2, .long 0), (4, .long 63)]) (st' := []) (w' := (wd_1256 z a2)) (cs' := 0) (ss' := 0) ?_ (fun _ _ => rfl)
  exact go_end 3 (fun _ _ => rfl)
theorem ro_1357 (z : pq_C) (a2 : Int32) (h0 : -1 ≤ a2.toInt) (h1 : a2.toInt < 8) : pq_Ru 2 160 [.int 20] (wd_1256 z a2) (some (.int 1), (wd_1256 z a2)) := by
  refine ru_of (k := 1) (M := pm_160) rfl rfl ?_
  refine go_seg 4 (pc' := 6) (ls' := [(0, .int 20)]) (st' := [.long 63, .long 0, .long 20]) (w' := (wd_1256 z a2)) (cs' := 0) (ss' := 0) ?_ (fun _ _ => rfl)
  refine go_cl (k := 1) (st' := [.int 1]) (cs' := 0) (ss' := 0) rfl rfl rfl rfl rfl rfl rfl (ro_1356 z a2 (by omega) (by omega)) ?_
  exact go_end 1 (fun _ _ => rfl)
def wd_1257 (z : pq_C) (a2 : Int32) : pq_W := ((wd_1256 z a2).set 91 (.inl (.int, 2858, .inl (upd (upd (upd (upd (upd (upd (upd (upd (upd (upd (upd (upd (upd (upd (upd (upd (upd (upd (upd (upd (upd (upd (upd (upd (upd (upd (upd (upd (upd (upd (upd (upd (upd (upd (upd (upd (upd (upd (upd (upd (upd (upd (upd (upd (upd (upd (upd (upd (upd (upd (upd (upd (upd (upd (upd (upd (upd (upd (upd (upd (upd (upd (upd (upd (upd (upd (upd (upd (upd (upd (upd (upd (upd (upd (upd (upd (upd (upd (upd (upd (upd (upd (fun _ => 0) 1 10) 10 (-1)) 11 (-1)) 12 (-1)) 13 (-1)) 14 (-1)) 15 (-1)) 16 (-1)) 17 (-1)) 18 (-1)) 19 (-1)) 20 (-1)) 21 (-1)) 22 (-1)) 23 (-1)) 24 (-1)) 25 (-1)) 26 (-1)) 27 (-1)) 28 (-1)) 29 (-1)) 30 (-1)) 31 (-1)) 32 (-1)) 33 (-1)) 34 (-1)) 35 (-1)) 36 (-1)) 37 (-1)) 38 (-1)) 39 (-1)) 40 (-1)) 41 (-1)) 42 (-1)) 43 (-1)) 44 (-1)) 45 (-1)) 46 (-1)) 47 (-1)) 48 (-1)) 49 (-1)) 50 (-1)) 51 (-1)) 52 (-1)) 53 (-1)) 54 (-1)) 55 (-1)) 56 (-1)) 57 (-1)) 58 (-1)) 59 (-1)) 60 (-1)) 61 (-1)) 62 (-1)) 63 (-1)) 64 (-1)) 65 (-1)) 66 (-1)) 67 (-1)) 68 (-1)) 69 (-1)) 70 (-1)) 71 (-1)) 72 (-1)) 73 (-1)) 139 1000) 140 100) 145 1000) 146 100) 151 1000) 152 100) 157 1000) 158 100) 163 1000) 164 100) 169 1000) 170 100) 175 1000) 176 100) 181 1000) 182 100) 30 a2))))
theorem ro_1359 (z : pq_C) (a2 : Int32) (h0 : -1 ≤ a2.toInt) (h1 : a2.toInt < 8) : pq_Ru 3 159 [.ref 90, .int 20, .int a2] (wd_1256 z a2) (some (.int (-1)), (wd_1257 z a2)) := by
  refine ru_of (k := 2) (M := pm_159) rfl rfl ?_
  refine go_seg 1 (pc' := 1) (ls' := [(0, .ref 90), (1, .int 20), (2, .int a2)]) (st' := [.int 20]) (w' := (wd_1256 z a2)) (cs' := 0) (ss' := 0) ?_ (fun _ _ => rfl)
  refine go_cl (k := 2) (st' := [.int 1]) (cs' := 0) (ss' := 0) rfl rfl rfl rfl rfl rfl rfl (ro_1357 z a2 (by omega) (by omega)) ?_
  refine go_seg 5 (pc' := 15) (ls' := [(0, .ref 90), (1, .int 20), (2, .int a2)]) (st' := [.long 7, .long (-1), .long a2.toInt64]) (w' := (wd_1256 z a2)) (cs' := 0) (ss' := 0) ?_ (fun _ _ => rfl)
  refine go_cl (k := 2) (st' := [.int 1]) (cs' := 0) (ss' := 0) rfl rfl rfl rfl rfl rfl rfl (wi_t _ a2 (-1) 7 (-1) 7 rfl rfl (by omega)) ?_
  refine go_seg 8 (pc' := 38) (ls' := [(3, .int (-1)), (0, .ref 90), (1, .int 20), (2, .int a2)]) (st' := []) (w' := (wd_1256 z a2)) (cs' := 0) (ss' := 0) ?_ (fun _ _ => rfl)
  refine go_seg 8 (pc' := 49) (ls' := [(3, .int (-1)), (0, .ref 90), (1, .int 20), (2, .int a2)]) (st' := [.int (-1)]) (w' := (wd_1257 z a2)) (cs' := 0) (ss' := 0) ?_ (fun _ _ => rfl)
  exact go_end 1 (fun _ _ => rfl)
theorem lf_0_1360 (a0 : Int32) (a2 : Int32) (a3 : Int32) (a4 : Int32) (a5 : Int32) (h0 : -1 ≤ a2.toInt) (h1 : a2.toInt < 8) : ∃ w', pq_Go 20 pm_law 212 [(3, .int 0), (2, .ref 90), (1, .ref 1), (0, .ref 0)] [] (fw (sz a0 20 a2 a3 a4 a5)) 109 12668 (some (.int 1), w') := by
  refine ⟨(wd_1257 (sz a0 20 a2 a3 a4 a5) a2), ?_⟩
  refine go_seg 8 (pc' := 220) (ls' := [(3, .int 0), (2, .ref 90), (1, .ref 1), (0, .ref 0)]) (st' := [.int 0, .ref 0, .int 20, .ref 1]) (w' := (fw (sz a0 20 a2 a3 a4 a5))) (cs' := 109) (ss' := 12668) ?_ (fun _ _ => rfl)
  refine go_seg 3 (pc' := 223) (ls' := [(3, .int 0), (2, .ref 90), (1, .ref 1), (0, .ref 0)]) (st' := [.int a2, .int 20, .ref 1]) (w' := (fw (sz a0 20 a2 a3 a4 a5))) (cs' := 109) (ss' := 12668) ?_ (fun _ _ => rfl)
  refine go_cl (k := 20) (st' := [.int (-1)]) (cs' := 109) (ss' := 12668) rfl rfl rfl rfl rfl rfl rfl (ro_1354 (sz a0 20 a2 a3 a4 a5) a2 (by omega) (by omega)) ?_
  refine go_seg 8 (pc' := 234) (ls' := [(3, .int 0), (2, .ref 90), (1, .ref 1), (0, .ref 0)]) (st' := [.int 0, .ref 0, .int 20, .ref 90, .int (-1)]) (w' := (wd_1256 (sz a0 20 a2 a3 a4 a5) a2)) (cs' := 109) (ss' := 12668) ?_ (fun _ _ => rfl)
  refine go_seg 3 (pc' := 237) (ls' := [(3, .int 0), (2, .ref 90), (1, .ref 1), (0, .ref 0)]) (st' := [.int a2, .int 20, .ref 90, .int (-1)]) (w' := (wd_1256 (sz a0 20 a2 a3 a4 a5) a2)) (cs' := 109) (ss' := 12668) ?_ (fun _ _ => rfl)
  refine go_cl (k := 20) (st' := [.int (-1), .int (-1)]) (cs' := 109) (ss' := 12668) rfl rfl rfl rfl rfl rfl rfl (ro_1359 (sz a0 20 a2 a3 a4 a5) a2 (by omega) (by omega)) ?_
  refine go_cmp true rfl (br_self _) ?_
  exact law_tail (f := sc a0 20 a2 a3 a4 a5) rfl
theorem ro_1361 (z : pq_C) : pq_Ru 1 13 [.int 21] (fw z) (some (.int 1), (fw z)) := by
  refine ru_of (k := 0) (M := pm_13) rfl rfl ?_
  exact go_end 8 (fun _ _ => rfl)
def wd_1258 (z : pq_C) (a2 : Int32) : pq_W := ((fw z).set 3 (.inl (.int, 64, .inl (upd (fl_c 64 (-1) (fun _ => 0)) 21 a2))))
theorem ro_1362 (z : pq_C) (a2 : Int32) (h0 : -1 ≤ a2.toInt) (h1 : a2.toInt < 8) : pq_Ru 2 12 [.ref 1, .int 21, .int a2] (fw z) (some (.int (-1)), (wd_1258 z a2)) := by
  refine ru_of (k := 1) (M := pm_12) rfl rfl ?_
  refine go_seg 1 (pc' := 1) (ls' := [(0, .ref 1), (1, .int 21), (2, .int a2)]) (st' := [.int 21]) (w' := (fw z)) (cs' := 0) (ss' := 0) ?_ (fun _ _ => rfl)
  refine go_cl (k := 1) (st' := [.int 1]) (cs' := 0) (ss' := 0) rfl rfl rfl rfl rfl rfl rfl (ro_1361 z) ?_
  refine go_seg 2 (pc' := 8) (ls' := [(0, .ref 1), (1, .int 21), (2, .int a2)]) (st' := [.int a2]) (w' := (fw z)) (cs' := 0) (ss' := 0) ?_ (fun _ _ => rfl)
  refine go_cl (k := 1) (st' := [.int 1]) (cs' := 0) (ss' := 0) rfl rfl rfl rfl rfl rfl rfl (ro_1193 z a2 (by omega) (by omega)) ?_
  refine go_seg 8 (pc' := 31) (ls' := [(3, .int (-1)), (0, .ref 1), (1, .int 21), (2, .int a2)]) (st' := [.ref 1]) (w' := (fw z)) (cs' := 0) (ss' := 0) ?_ (fun _ _ => rfl)
  exact go_end 7 (fun _ _ => rfl)
theorem ro_1364 (z : pq_C) (a2 : Int32) (h0 : -1 ≤ a2.toInt) (h1 : a2.toInt < 8) : pq_Ru 1 161 [.long 21, .long 0, .long 63] (wd_1258 z a2) (some (.int 1), (wd_1258 z a2)) := by
  refine ru_of (k := 0) (M := pm_161) rfl rfl ?_
  refine go_seg 8 (pc' := 13) (ls' := [(0, .long 21), (2, .long 0), (4, .long 63)]) (st' := []) (w' := (wd_1258 z a2)) (cs' := 0) (ss' := 0) ?_ (fun _ _ => rfl)
  exact go_end 3 (fun _ _ => rfl)
theorem ro_1365 (z : pq_C) (a2 : Int32) (h0 : -1 ≤ a2.toInt) (h1 : a2.toInt < 8) : pq_Ru 2 160 [.int 21] (wd_1258 z a2) (some (.int 1), (wd_1258 z a2)) := by
  refine ru_of (k := 1) (M := pm_160) rfl rfl ?_
  refine go_seg 4 (pc' := 6) (ls' := [(0, .int 21)]) (st' := [.long 63, .long 0, .long 21]) (w' := (wd_1258 z a2)) (cs' := 0) (ss' := 0) ?_ (fun _ _ => rfl)
  refine go_cl (k := 1) (st' := [.int 1]) (cs' := 0) (ss' := 0) rfl rfl rfl rfl rfl rfl rfl (ro_1364 z a2 (by omega) (by omega)) ?_
  exact go_end 1 (fun _ _ => rfl)
def wd_1259 (z : pq_C) (a2 : Int32) : pq_W := ((wd_1258 z a2).set 91 (.inl (.int, 2858, .inl (upd (upd (upd (upd (upd (upd (upd (upd (upd (upd (upd (upd (upd (upd (upd (upd (upd (upd (upd (upd (upd (upd (upd (upd (upd (upd (upd (upd (upd (upd (upd (upd (upd (upd (upd (upd (upd (upd (upd (upd (upd (upd (upd (upd (upd (upd (upd (upd (upd (upd (upd (upd (upd (upd (upd (upd (upd (upd (upd (upd (upd (upd (upd (upd (upd (upd (upd (upd (upd (upd (upd (upd (upd (upd (upd (upd (upd (upd (upd (upd (upd (upd (fun _ => 0) 1 10) 10 (-1)) 11 (-1)) 12 (-1)) 13 (-1)) 14 (-1)) 15 (-1)) 16 (-1)) 17 (-1)) 18 (-1)) 19 (-1)) 20 (-1)) 21 (-1)) 22 (-1)) 23 (-1)) 24 (-1)) 25 (-1)) 26 (-1)) 27 (-1)) 28 (-1)) 29 (-1)) 30 (-1)) 31 (-1)) 32 (-1)) 33 (-1)) 34 (-1)) 35 (-1)) 36 (-1)) 37 (-1)) 38 (-1)) 39 (-1)) 40 (-1)) 41 (-1)) 42 (-1)) 43 (-1)) 44 (-1)) 45 (-1)) 46 (-1)) 47 (-1)) 48 (-1)) 49 (-1)) 50 (-1)) 51 (-1)) 52 (-1)) 53 (-1)) 54 (-1)) 55 (-1)) 56 (-1)) 57 (-1)) 58 (-1)) 59 (-1)) 60 (-1)) 61 (-1)) 62 (-1)) 63 (-1)) 64 (-1)) 65 (-1)) 66 (-1)) 67 (-1)) 68 (-1)) 69 (-1)) 70 (-1)) 71 (-1)) 72 (-1)) 73 (-1)) 139 1000) 140 100) 145 1000) 146 100) 151 1000) 152 100) 157 1000) 158 100) 163 1000) 164 100) 169 1000) 170 100) 175 1000) 176 100) 181 1000) 182 100) 31 a2))))
theorem ro_1367 (z : pq_C) (a2 : Int32) (h0 : -1 ≤ a2.toInt) (h1 : a2.toInt < 8) : pq_Ru 3 159 [.ref 90, .int 21, .int a2] (wd_1258 z a2) (some (.int (-1)), (wd_1259 z a2)) := by
  refine ru_of (k := 2) (M := pm_159) rfl rfl ?_
  refine go_seg 1 (pc' := 1) (ls' := [(0, .ref 90), (1, .int 21), (2, .int a2)]) (st' := [.int 21]) (w' := (wd_1258 z a2)) (cs' := 0) (ss' := 0) ?_ (fun _ _ => rfl)
  refine go_cl (k := 2) (st' := [.int 1]) (cs' := 0) (ss' := 0) rfl rfl rfl rfl rfl rfl rfl (ro_1365 z a2 (by omega) (by omega)) ?_
  refine go_seg 5 (pc' := 15) (ls' := [(0, .ref 90), (1, .int 21), (2, .int a2)]) (st' := [.long 7, .long (-1), .long a2.toInt64]) (w' := (wd_1258 z a2)) (cs' := 0) (ss' := 0) ?_ (fun _ _ => rfl)
  refine go_cl (k := 2) (st' := [.int 1]) (cs' := 0) (ss' := 0) rfl rfl rfl rfl rfl rfl rfl (wi_t _ a2 (-1) 7 (-1) 7 rfl rfl (by omega)) ?_
  refine go_seg 8 (pc' := 38) (ls' := [(3, .int (-1)), (0, .ref 90), (1, .int 21), (2, .int a2)]) (st' := []) (w' := (wd_1258 z a2)) (cs' := 0) (ss' := 0) ?_ (fun _ _ => rfl)
  refine go_seg 8 (pc' := 49) (ls' := [(3, .int (-1)), (0, .ref 90), (1, .int 21), (2, .int a2)]) (st' := [.int (-1)]) (w' := (wd_1259 z a2)) (cs' := 0) (ss' := 0) ?_ (fun _ _ => rfl)
  exact go_end 1 (fun _ _ => rfl)
theorem lf_0_1368 (a0 : Int32) (a2 : Int32) (a3 : Int32) (a4 : Int32) (a5 : Int32) (h0 : -1 ≤ a2.toInt) (h1 : a2.toInt < 8) : ∃ w', pq_Go 20 pm_law 212 [(3, .int 0), (2, .ref 90), (1, .ref 1), (0, .ref 0)] [] (fw (sz a0 21 a2 a3 a4 a5)) 109 12668 (some (.int 1), w') := by
  refine ⟨(wd_1259 (sz a0 21 a2 a3 a4 a5) a2), ?_⟩
  refine go_seg 8 (pc' := 220) (ls' := [(3, .int 0), (2, .ref 90), (1, .ref 1), (0, .ref 0)]) (st' := [.int 0, .ref 0, .int 21, .ref 1]) (w' := (fw (sz a0 21 a2 a3 a4 a5))) (cs' := 109) (ss' := 12668) ?_ (fun _ _ => rfl)
  refine go_seg 3 (pc' := 223) (ls' := [(3, .int 0), (2, .ref 90), (1, .ref 1), (0, .ref 0)]) (st' := [.int a2, .int 21, .ref 1]) (w' := (fw (sz a0 21 a2 a3 a4 a5))) (cs' := 109) (ss' := 12668) ?_ (fun _ _ => rfl)
  refine go_cl (k := 20) (st' := [.int (-1)]) (cs' := 109) (ss' := 12668) rfl rfl rfl rfl rfl rfl rfl (ro_1362 (sz a0 21 a2 a3 a4 a5) a2 (by omega) (by omega)) ?_
  refine go_seg 8 (pc' := 234) (ls' := [(3, .int 0), (2, .ref 90), (1, .ref 1), (0, .ref 0)]) (st' := [.int 0, .ref 0, .int 21, .ref 90, .int (-1)]) (w' := (wd_1258 (sz a0 21 a2 a3 a4 a5) a2)) (cs' := 109) (ss' := 12668) ?_ (fun _ _ => rfl)
  refine go_seg 3 (pc' := 237) (ls' := [(3, .int 0), (2, .ref 90), (1, .ref 1), (0, .ref 0)]) (st' := [.int a2, .int 21, .ref 90, .int (-1)]) (w' := (wd_1258 (sz a0 21 a2 a3 a4 a5) a2)) (cs' := 109) (ss' := 12668) ?_ (fun _ _ => rfl)
  refine go_cl (k := 20) (st' := [.int (-1), .int (-1)]) (cs' := 109) (ss' := 12668) rfl rfl rfl rfl rfl rfl rfl (ro_1367 (sz a0 21 a2 a3 a4 a5) a2 (by omega) (by omega)) ?_
  refine go_cmp true rfl (br_self _) ?_
  exact law_tail (f := sc a0 21 a2 a3 a4 a5) rfl
theorem ro_1369 (z : pq_C) : pq_Ru 1 13 [.int 22] (fw z) (some (.int 1), (fw z)) := by
  refine ru_of (k := 0) (M := pm_13) rfl rfl ?_
  exact go_end 8 (fun _ _ => rfl)
def wd_1260 (z : pq_C) (a2 : Int32) : pq_W := ((fw z).set 3 (.inl (.int, 64, .inl (upd (fl_c 64 (-1) (fun _ => 0)) 22 a2))))
theorem ro_1370 (z : pq_C) (a2 : Int32) (h0 : -1 ≤ a2.toInt) (h1 : a2.toInt < 8) : pq_Ru 2 12 [.ref 1, .int 22, .int a2] (fw z) (some (.int (-1)), (wd_1260 z a2)) := by
  refine ru_of (k := 1) (M := pm_12) rfl rfl ?_
  refine go_seg 1 (pc' := 1) (ls' := [(0, .ref 1), (1, .int 22), (2, .int a2)]) (st' := [.int 22]) (w' := (fw z)) (cs' := 0) (ss' := 0) ?_ (fun _ _ => rfl)
  refine go_cl (k := 1) (st' := [.int 1]) (cs' := 0) (ss' := 0) rfl rfl rfl rfl rfl rfl rfl (ro_1369 z) ?_
  refine go_seg 2 (pc' := 8) (ls' := [(0, .ref 1), (1, .int 22), (2, .int a2)]) (st' := [.int a2]) (w' := (fw z)) (cs' := 0) (ss' := 0) ?_ (fun _ _ => rfl)
  refine go_cl (k := 1) (st' := [.int 1]) (cs' := 0) (ss' := 0) rfl rfl rfl rfl rfl rfl rfl (ro_1193 z a2 (by omega) (by omega)) ?_
  refine go_seg 8 (pc' := 31) (ls' := [(3, .int (-1)), (0, .ref 1), (1, .int 22), (2, .int a2)]) (st' := [.ref 1]) (w' := (fw z)) (cs' := 0) (ss' := 0) ?_ (fun _ _ => rfl)
  exact go_end 7 (fun _ _ => rfl)
theorem ro_1372 (z : pq_C) (a2 : Int32) (h0 : -1 ≤ a2.toInt) (h1 : a2.toInt < 8) : pq_Ru 1 161 [.long 22, .long 0, .long 63] (wd_1260 z a2) (some (.int 1), (wd_1260 z a2)) := by
  refine ru_of (k := 0) (M := pm_161) rfl rfl ?_
  refine go_seg 8 (pc' := 13) (ls' := [(0, .long 22), (2, .long 0), (4, .long 63)]) (st' := []) (w' := (wd_1260 z a2)) (cs' := 0) (ss' := 0) ?_ (fun _ _ => rfl)
  exact go_end 3 (fun _ _ => rfl)
theorem ro_1373 (z : pq_C) (a2 : Int32) (h0 : -1 ≤ a2.toInt) (h1 : a2.toInt < 8) : pq_Ru 2 160 [.int 22] (wd_1260 z a2) (some (.int 1), (wd_1260 z a2)) := by
  refine ru_of (k := 1) (M := pm_160) rfl rfl ?_
  refine go_seg 4 (pc' := 6) (ls' := [(0, .int 22)]) (st' := [.long 63, .long 0, .long 22]) (w' := (wd_1260 z a2)) (cs' := 0) (ss' := 0) ?_ (fun _ _ => rfl)
  refine go_cl (k := 1) (st' := [.int 1]) (cs' := 0) (ss' := 0) rfl rfl rfl rfl rfl rfl rfl (ro_1372 z a2 (by omega) (by omega)) ?_
  exact go_end 1 (fun _ _ => rfl)
def wd_1261 (z : pq_C) (a2 : Int32) : pq_W := ((wd_1260 z a2).set 91 (.inl (.int, 2858, .inl (upd (upd (upd (upd (upd (upd (upd (upd (upd (upd (upd (upd (upd (upd (upd (upd (upd (upd (upd (upd (upd (upd (upd (upd (upd (upd (upd (upd (upd (upd (upd (upd (upd (upd (upd (upd (upd (upd (upd (upd (upd (upd (upd (upd (upd (upd (upd (upd (upd (upd (upd (upd (upd (upd (upd (upd (upd (upd (upd (upd (upd (upd (upd (upd (upd (upd (upd (upd (upd (upd (upd (upd (upd (upd (upd (upd (upd (upd (upd (upd (upd (upd (fun _ => 0) 1 10) 10 (-1)) 11 (-1)) 12 (-1)) 13 (-1)) 14 (-1)) 15 (-1)) 16 (-1)) 17 (-1)) 18 (-1)) 19 (-1)) 20 (-1)) 21 (-1)) 22 (-1)) 23 (-1)) 24 (-1)) 25 (-1)) 26 (-1)) 27 (-1)) 28 (-1)) 29 (-1)) 30 (-1)) 31 (-1)) 32 (-1)) 33 (-1)) 34 (-1)) 35 (-1)) 36 (-1)) 37 (-1)) 38 (-1)) 39 (-1)) 40 (-1)) 41 (-1)) 42 (-1)) 43 (-1)) 44 (-1)) 45 (-1)) 46 (-1)) 47 (-1)) 48 (-1)) 49 (-1)) 50 (-1)) 51 (-1)) 52 (-1)) 53 (-1)) 54 (-1)) 55 (-1)) 56 (-1)) 57 (-1)) 58 (-1)) 59 (-1)) 60 (-1)) 61 (-1)) 62 (-1)) 63 (-1)) 64 (-1)) 65 (-1)) 66 (-1)) 67 (-1)) 68 (-1)) 69 (-1)) 70 (-1)) 71 (-1)) 72 (-1)) 73 (-1)) 139 1000) 140 100) 145 1000) 146 100) 151 1000) 152 100) 157 1000) 158 100) 163 1000) 164 100) 169 1000) 170 100) 175 1000) 176 100) 181 1000) 182 100) 32 a2))))
theorem ro_1375 (z : pq_C) (a2 : Int32) (h0 : -1 ≤ a2.toInt) (h1 : a2.toInt < 8) : pq_Ru 3 159 [.ref 90, .int 22, .int a2] (wd_1260 z a2) (some (.int (-1)), (wd_1261 z a2)) := by
  refine ru_of (k := 2) (M := pm_159) rfl rfl ?_
  refine go_seg 1 (pc' := 1) (ls' := [(0, .ref 90), (1, .int 22), (2, .int a2)]) (st' := [.int 22]) (w' := (wd_1260 z a2)) (cs' := 0) (ss' := 0) ?_ (fun _ _ => rfl)
  refine go_cl (k := 2) (st' := [.int 1]) (cs' := 0) (ss' := 0) rfl rfl rfl rfl rfl rfl rfl (ro_1373 z a2 (by omega) (by omega)) ?_
  refine go_seg 5 (pc' := 15) (ls' := [(0, .ref 90), (1, .int 22), (2, .int a2)]) (st' := [.long 7, .long (-1), .long a2.toInt64]) (w' := (wd_1260 z a2)) (cs' := 0) (ss' := 0) ?_ (fun _ _ => rfl)
  refine go_cl (k := 2) (st' := [.int 1]) (cs' := 0) (ss' := 0) rfl rfl rfl rfl rfl rfl rfl (wi_t _ a2 (-1) 7 (-1) 7 rfl rfl (by omega)) ?_
  refine go_seg 8 (pc' := 38) (ls' := [(3, .int (-1)), (0, .ref 90), (1, .int 22), (2, .int a2)]) (st' := []) (w' := (wd_1260 z a2)) (cs' := 0) (ss' := 0) ?_ (fun _ _ => rfl)
  refine go_seg 8 (pc' := 49) (ls' := [(3, .int (-1)), (0, .ref 90), (1, .int 22), (2, .int a2)]) (st' := [.int (-1)]) (w' := (wd_1261 z a2)) (cs' := 0) (ss' := 0) ?_ (fun _ _ => rfl)
  exact go_end 1 (fun _ _ => rfl)
theorem lf_0_1376 (a0 : Int32) (a2 : Int32) (a3 : Int32) (a4 : Int32) (a5 : Int32) (h0 : -1 ≤ a2.toInt) (h1 : a2.toInt < 8) : ∃ w', pq_Go 20 pm_law 212 [(3, .int 0), (2, .ref 90), (1, .ref 1), (0, .ref 0)] [] (fw (sz a0 22 a2 a3 a4 a5)) 109 12668 (some (.int 1), w') := by
  refine ⟨(wd_1261 (sz a0 22 a2 a3 a4 a5) a2), ?_⟩
  refine go_seg 8 (pc' := 220) (ls' := [(3, .int 0), (2, .ref 90), (1, .ref 1), (0, .ref 0)]) (st' := [.int 0, .ref 0, .int 22, .ref 1]) (w' := (fw (sz a0 22 a2 a3 a4 a5))) (cs' := 109) (ss' := 12668) ?_ (fun _ _ => rfl)
  refine go_seg 3 (pc' := 223) (ls' := [(3, .int 0), (2, .ref 90), (1, .ref 1), (0, .ref 0)]) (st' := [.int a2, .int 22, .ref 1]) (w' := (fw (sz a0 22 a2 a3 a4 a5))) (cs' := 109) (ss' := 12668) ?_ (fun _ _ => rfl)
  refine go_cl (k := 20) (st' := [.int (-1)]) (cs' := 109) (ss' := 12668) rfl rfl rfl rfl rfl rfl rfl (ro_1370 (sz a0 22 a2 a3 a4 a5) a2 (by omega) (by omega)) ?_
  refine go_seg 8 (pc' := 234) (ls' := [(3, .int 0), (2, .ref 90), (1, .ref 1), (0, .ref 0)]) (st' := [.int 0, .ref 0, .int 22, .ref 90, .int (-1)]) (w' := (wd_1260 (sz a0 22 a2 a3 a4 a5) a2)) (cs' := 109) (ss' := 12668) ?_ (fun _ _ => rfl)
  refine go_seg 3 (pc' := 237) (ls' := [(3, .int 0), (2, .ref 90), (1, .ref 1), (0, .ref 0)]) (st' := [.int a2, .int 22, .ref 90, .int (-1)]) (w' := (wd_1260 (sz a0 22 a2 a3 a4 a5) a2)) (cs' := 109) (ss' := 12668) ?_ (fun _ _ => rfl)
  refine go_cl (k := 20) (st' := [.int (-1), .int (-1)]) (cs' := 109) (ss' := 12668) rfl rfl rfl rfl rfl rfl rfl (ro_1375 (sz a0 22 a2 a3 a4 a5) a2 (by omega) (by omega)) ?_
  refine go_cmp true rfl (br_self _) ?_
  exact law_tail (f := sc a0 22 a2 a3 a4 a5) rfl
theorem ro_1377 (z : pq_C) : pq_Ru 1 13 [.int 23] (fw z) (some (.int 1), (fw z)) := by
  refine ru_of (k := 0) (M := pm_13) rfl rfl ?_
  exact go_end 8 (fun _ _ => rfl)
def wd_1262 (z : pq_C) (a2 : Int32) : pq_W := ((fw z).set 3 (.inl (.int, 64, .inl (upd (fl_c 64 (-1) (fun _ => 0)) 23 a2))))
theorem ro_1378 (z : pq_C) (a2 : Int32) (h0 : -1 ≤ a2.toInt) (h1 : a2.toInt < 8) : pq_Ru 2 12 [.ref 1, .int 23, .int a2] (fw z) (some (.int (-1)), (wd_1262 z a2)) := by
  refine ru_of (k := 1) (M := pm_12) rfl rfl ?_
  refine go_seg 1 (pc' := 1) (ls' := [(0, .ref 1), (1, .int 23), (2, .int a2)]) (st' := [.int 23]) (w' := (fw z)) (cs' := 0) (ss' := 0) ?_ (fun _ _ => rfl)
  refine go_cl (k := 1) (st' := [.int 1]) (cs' := 0) (ss' := 0) rfl rfl rfl rfl rfl rfl rfl (ro_1377 z) ?_
  refine go_seg 2 (pc' := 8) (ls' := [(0, .ref 1), (1, .int 23), (2, .int a2)]) (st' := [.int a2]) (w' := (fw z)) (cs' := 0) (ss' := 0) ?_ (fun _ _ => rfl)
  refine go_cl (k := 1) (st' := [.int 1]) (cs' := 0) (ss' := 0) rfl rfl rfl rfl rfl rfl rfl (ro_1193 z a2 (by omega) (by omega)) ?_
  refine go_seg 8 (pc' := 31) (ls' := [(3, .int (-1)), (0, .ref 1), (1, .int 23), (2, .int a2)]) (st' := [.ref 1]) (w' := (fw z)) (cs' := 0) (ss' := 0) ?_ (fun _ _ => rfl)
  exact go_end 7 (fun _ _ => rfl)
theorem ro_1380 (z : pq_C) (a2 : Int32) (h0 : -1 ≤ a2.toInt) (h1 : a2.toInt < 8) : pq_Ru 1 161 [.long 23, .long 0, .long 63] (wd_1262 z a2) (some (.int 1), (wd_1262 z a2)) := by
  refine ru_of (k := 0) (M := pm_161) rfl rfl ?_
  refine go_seg 8 (pc' := 13) (ls' := [(0, .long 23), (2, .long 0), (4, .long 63)]) (st' := []) (w' := (wd_1262 z a2)) (cs' := 0) (ss' := 0) ?_ (fun _ _ => rfl)
  exact go_end 3 (fun _ _ => rfl)
theorem ro_1381 (z : pq_C) (a2 : Int32) (h0 : -1 ≤ a2.toInt) (h1 : a2.toInt < 8) : pq_Ru 2 160 [.int 23] (wd_1262 z a2) (some (.int 1), (wd_1262 z a2)) := by
  refine ru_of (k := 1) (M := pm_160) rfl rfl ?_
  refine go_seg 4 (pc' := 6) (ls' := [(0, .int 23)]) (st' := [.long 63, .long 0, .long 23]) (w' := (wd_1262 z a2)) (cs' := 0) (ss' := 0) ?_ (fun _ _ => rfl)
  refine go_cl (k := 1) (st' := [.int 1]) (cs' := 0) (ss' := 0) rfl rfl rfl rfl rfl rfl rfl (ro_1380 z a2 (by omega) (by omega)) ?_
  exact go_end 1 (fun _ _ => rfl)
def wd_1263 (z : pq_C) (a2 : Int32) : pq_W := ((wd_1262 z a2).set 91 (.inl (.int, 2858, .inl (upd (upd (upd (upd (upd (upd (upd (upd (upd (upd (upd (upd (upd (upd (upd (upd (upd (upd (upd (upd (upd (upd (upd (upd (upd (upd (upd (upd (upd (upd (upd (upd (upd (upd (upd (upd (upd (upd (upd (upd (upd (upd (upd (upd (upd (upd (upd (upd (upd (upd (upd (upd (upd (upd (upd (upd (upd (upd (upd (upd (upd (upd (upd (upd (upd (upd (upd (upd (upd (upd (upd (upd (upd (upd (upd (upd (upd (upd (upd (upd (upd (upd (fun _ => 0) 1 10) 10 (-1)) 11 (-1)) 12 (-1)) 13 (-1)) 14 (-1)) 15 (-1)) 16 (-1)) 17 (-1)) 18 (-1)) 19 (-1)) 20 (-1)) 21 (-1)) 22 (-1)) 23 (-1)) 24 (-1)) 25 (-1)) 26 (-1)) 27 (-1)) 28 (-1)) 29 (-1)) 30 (-1)) 31 (-1)) 32 (-1)) 33 (-1)) 34 (-1)) 35 (-1)) 36 (-1)) 37 (-1)) 38 (-1)) 39 (-1)) 40 (-1)) 41 (-1)) 42 (-1)) 43 (-1)) 44 (-1)) 45 (-1)) 46 (-1)) 47 (-1)) 48 (-1)) 49 (-1)) 50 (-1)) 51 (-1)) 52 (-1)) 53 (-1)) 54 (-1)) 55 (-1)) 56 (-1)) 57 (-1)) 58 (-1)) 59 (-1)) 60 (-1)) 61 (-1)) 62 (-1)) 63 (-1)) 64 (-1)) 65 (-1)) 66 (-1)) 67 (-1)) 68 (-1)) 69 (-1)) 70 (-1)) 71 (-1)) 72 (-1)) 73 (-1)) 139 1000) 140 100) 145 1000) 146 100) 151 1000) 152 100) 157 1000) 158 100) 163 1000) 164 100) 169 1000) 170 100) 175 1000) 176 100) 181 1000) 182 100) 33 a2))))
theorem ro_1383 (z : pq_C) (a2 : Int32) (h0 : -1 ≤ a2.toInt) (h1 : a2.toInt < 8) : pq_Ru 3 159 [.ref 90, .int 23, .int a2] (wd_1262 z a2) (some (.int (-1)), (wd_1263 z a2)) := by
  refine ru_of (k := 2) (M := pm_159) rfl rfl ?_
  refine go_seg 1 (pc' := 1) (ls' := [(0, .ref 90), (1, .int 23), (2, .int a2)]) (st' := [.int 23]) (w' := (wd_1262 z a2)) (cs' := 0) (ss' := 0) ?_ (fun _ _ => rfl)
  refine go_cl (k := 2) (st' := [.int 1]) (cs' := 0) (ss' := 0) rfl rfl rfl rfl rfl rfl rfl (ro_1381 z a2 (by omega) (by omega)) ?_
  refine go_seg 5 (pc' := 15) (ls' := [(0, .ref 90), (1, .int 23), (2, .int a2)]) (st' := [.long 7, .long (-1), .long a2.toInt64]) (w' := (wd_1262 z a2)) (cs' := 0) (ss' := 0) ?_ (fun _ _ => rfl)
  refine go_cl (k := 2) (st' := [.int 1]) (cs' := 0) (ss' := 0) rfl rfl rfl rfl rfl rfl rfl (wi_t _ a2 (-1) 7 (-1) 7 rfl rfl (by omega)) ?_
  refine go_seg 8 (pc' := 38) (ls' := [(3, .int (-1)), (0, .ref 90), (1, .int 23), (2, .int a2)]) (st' := []) (w' := (wd_1262 z a2)) (cs' := 0) (ss' := 0) ?_ (fun _ _ => rfl)
  refine go_seg 8 (pc' := 49) (ls' := [(3, .int (-1)), (0, .ref 90), (1, .int 23), (2, .int a2)]) (st' := [.int (-1)]) (w' := (wd_1263 z a2)) (cs' := 0) (ss' := 0) ?_ (fun _ _ => rfl)
  exact go_end 1 (fun _ _ => rfl)
theorem lf_0_1384 (a0 : Int32) (a2 : Int32) (a3 : Int32) (a4 : Int32) (a5 : Int32) (h0 : -1 ≤ a2.toInt) (h1 : a2.toInt < 8) : ∃ w', pq_Go 20 pm_law 212 [(3, .int 0), (2, .ref 90), (1, .ref 1), (0, .ref 0)] [] (fw (sz a0 23 a2 a3 a4 a5)) 109 12668 (some (.int 1), w') := by
  refine ⟨(wd_1263 (sz a0 23 a2 a3 a4 a5) a2), ?_⟩
  refine go_seg 8 (pc' := 220) (ls' := [(3, .int 0), (2, .ref 90), (1, .ref 1), (0, .ref 0)]) (st' := [.int 0, .ref 0, .int 23, .ref 1]) (w' := (fw (sz a0 23 a2 a3 a4 a5))) (cs' := 109) (ss' := 12668) ?_ (fun _ _ => rfl)
  refine go_seg 3 (pc' := 223) (ls' := [(3, .int 0), (2, .ref 90), (1, .ref 1), (0, .ref 0)]) (st' := [.int a2, .int 23, .ref 1]) (w' := (fw (sz a0 23 a2 a3 a4 a5))) (cs' := 109) (ss' := 12668) ?_ (fun _ _ => rfl)
  refine go_cl (k := 20) (st' := [.int (-1)]) (cs' := 109) (ss' := 12668) rfl rfl rfl rfl rfl rfl rfl (ro_1378 (sz a0 23 a2 a3 a4 a5) a2 (by omega) (by omega)) ?_
  refine go_seg 8 (pc' := 234) (ls' := [(3, .int 0), (2, .ref 90), (1, .ref 1), (0, .ref 0)]) (st' := [.int 0, .ref 0, .int 23, .ref 90, .int (-1)]) (w' := (wd_1262 (sz a0 23 a2 a3 a4 a5) a2)) (cs' := 109) (ss' := 12668) ?_ (fun _ _ => rfl)
  refine go_seg 3 (pc' := 237) (ls' := [(3, .int 0), (2, .ref 90), (1, .ref 1), (0, .ref 0)]) (st' := [.int a2, .int 23, .ref 90, .int (-1)]) (w' := (wd_1262 (sz a0 23 a2 a3 a4 a5) a2)) (cs' := 109) (ss' := 12668) ?_ (fun _ _ => rfl)
  refine go_cl (k := 20) (st' := [.int (-1), .int (-1)]) (cs' := 109) (ss' := 12668) rfl rfl rfl rfl rfl rfl rfl (ro_1383 (sz a0 23 a2 a3 a4 a5) a2 (by omega) (by omega)) ?_
  refine go_cmp true rfl (br_self _) ?_
  exact law_tail (f := sc a0 23 a2 a3 a4 a5) rfl
theorem ro_1385 (z : pq_C) : pq_Ru 1 13 [.int 24] (fw z) (some (.int 1), (fw z)) := by
  refine ru_of (k := 0) (M := pm_13) rfl rfl ?_
  exact go_end 8 (fun _ _ => rfl)
def wd_1264 (z : pq_C) (a2 : Int32) : pq_W := ((fw z).set 3 (.inl (.int, 64, .inl (upd (fl_c 64 (-1) (fun _ => 0)) 24 a2))))
theorem ro_1386 (z : pq_C) (a2 : Int32) (h0 : -1 ≤ a2.toInt) (h1 : a2.toInt < 8) : pq_Ru 2 12 [.ref 1, .int 24, .int a2] (fw z) (some (.int (-1)), (wd_1264 z a2)) := by
  refine ru_of (k := 1) (M := pm_12) rfl rfl ?_
  refine go_seg 1 (pc' := 1) (ls' := [(0, .ref 1), (1, .int 24), (2, .int a2)]) (st' := [.int 24]) (w' := (fw z)) (cs' := 0) (ss' := 0) ?_ (fun _ _ => rfl)
  refine go_cl (k := 1) (st' := [.int 1]) (cs' := 0) (ss' := 0) rfl rfl rfl rfl rfl rfl rfl (ro_1385 z) ?_
  refine go_seg 2 (pc' := 8) (ls' := [(0, .ref 1), (1, .int 24), (2, .int a2)]) (st' := [.int a2]) (w' := (fw z)) (cs' := 0) (ss' := 0) ?_ (fun _ _ => rfl)
  refine go_cl (k := 1) (st' := [.int 1]) (cs' := 0) (ss' := 0) rfl rfl rfl rfl rfl rfl rfl (ro_1193 z a2 (by omega) (by omega)) ?_
  refine go_seg 8 (pc' := 31) (ls' := [(3, .int (-1)), (0, .ref 1), (1, .int 24), (2, .int a2)]) (st' := [.ref 1]) (w' := (fw z)) (cs' := 0) (ss' := 0) ?_ (fun _ _ => rfl)
  exact go_end 7 (fun _ _ => rfl)
theorem ro_1388 (z : pq_C) (a2 : Int32) (h0 : -1 ≤ a2.toInt) (h1 : a2.toInt < 8) : pq_Ru 1 161 [.long 24, .long 0, .long 63] (wd_1264 z a2) (some (.int 1), (wd_1264 z a2)) := by
  refine ru_of (k := 0) (M := pm_161) rfl rfl ?_
  refine go_seg 8 (pc' := 13) (ls' := [(0, .long 24), (2, .long 0), (4, .long 63)]) (st' := []) (w' := (wd_1264 z a2)) (cs' := 0) (ss' := 0) ?_ (fun _ _ => rfl)
  exact go_end 3 (fun _ _ => rfl)
theorem ro_1389 (z : pq_C) (a2 : Int32) (h0 : -1 ≤ a2.toInt) (h1 : a2.toInt < 8) : pq_Ru 2 160 [.int 24] (wd_1264 z a2) (some (.int 1), (wd_1264 z a2)) := by
  refine ru_of (k := 1) (M := pm_160) rfl rfl ?_
  refine go_seg 4 (pc' := 6) (ls' := [(0, .int 24)]) (st' := [.long 63, .long 0, .long 24]) (w' := (wd_1264 z a2)) (cs' := 0) (ss' := 0) ?_ (fun _ _ => rfl)
  refine go_cl (k := 1) (st' := [.int 1]) (cs' := 0) (ss' := 0) rfl rfl rfl rfl rfl rfl rfl (ro_1388 z a2 (by omega) (by omega)) ?_
  exact go_end 1 (fun _ _ => rfl)
def wd_1265 (z : pq_C) (a2 : Int32) : pq_W := ((wd_1264 z a2).set 91 (.inl (.int, 2858, .inl (upd (upd (upd (upd (upd (upd (upd (upd (upd (upd (upd (upd (upd (upd (upd (upd (upd (upd (upd (upd (upd (upd (upd (upd (upd (upd (upd (upd (upd (upd (upd (upd (upd (upd (upd (upd (upd (upd (upd (upd (upd (upd (upd (upd (upd (upd (upd (upd (upd (upd (upd (upd (upd (upd (upd (upd (upd (upd (upd (upd (upd (upd (upd (upd (upd (upd (upd (upd (upd (upd (upd (upd (upd (upd (upd (upd (upd (upd (upd (upd (upd (upd (fun _ => 0) 1 10) 10 (-1)) 11 (-1)) 12 (-1)) 13 (-1)) 14 (-1)) 15 (-1)) 16 (-1)) 17 (-1)) 18 (-1)) 19 (-1)) 20 (-1)) 21 (-1)) 22 (-1)) 23 (-1)) 24 (-1)) 25 (-1)) 26 (-1)) 27 (-1)) 28 (-1)) 29 (-1)) 30 (-1)) 31 (-1)) 32 (-1)) 33 (-1)) 34 (-1)) 35 (-1)) 36 (-1)) 37 (-1)) 38 (-1)) 39 (-1)) 40 (-1)) 41 (-1)) 42 (-1)) 43 (-1)) 44 (-1)) 45 (-1)) 46 (-1)) 47 (-1)) 48 (-1)) 49 (-1)) 50 (-1)) 51 (-1)) 52 (-1)) 53 (-1)) 54 (-1)) 55 (-1)) 56 (-1)) 57 (-1)) 58 (-1)) 59 (-1)) 60 (-1)) 61 (-1)) 62 (-1)) 63 (-1)) 64 (-1)) 65 (-1)) 66 (-1)) 67 (-1)) 68 (-1)) 69 (-1)) 70 (-1)) 71 (-1)) 72 (-1)) 73 (-1)) 139 1000) 140 100) 145 1000) 146 100) 151 1000) 152 100) 157 1000) 158 100) 163 1000) 164 100) 169 1000) 170 100) 175 1000) 176 100) 181 1000) 182 100) 34 a2))))
theorem ro_1391 (z : pq_C) (a2 : Int32) (h0 : -1 ≤ a2.toInt) (h1 : a2.toInt < 8) : pq_Ru 3 159 [.ref 90, .int 24, .int a2] (wd_1264 z a2) (some (.int (-1)), (wd_1265 z a2)) := by
  refine ru_of (k := 2) (M := pm_159) rfl rfl ?_
  refine go_seg 1 (pc' := 1) (ls' := [(0, .ref 90), (1, .int 24), (2, .int a2)]) (st' := [.int 24]) (w' := (wd_1264 z a2)) (cs' := 0) (ss' := 0) ?_ (fun _ _ => rfl)
  refine go_cl (k := 2) (st' := [.int 1]) (cs' := 0) (ss' := 0) rfl rfl rfl rfl rfl rfl rfl (ro_1389 z a2 (by omega) (by omega)) ?_
  refine go_seg 5 (pc' := 15) (ls' := [(0, .ref 90), (1, .int 24), (2, .int a2)]) (st' := [.long 7, .long (-1), .long a2.toInt64]) (w' := (wd_1264 z a2)) (cs' := 0) (ss' := 0) ?_ (fun _ _ => rfl)
  refine go_cl (k := 2) (st' := [.int 1]) (cs' := 0) (ss' := 0) rfl rfl rfl rfl rfl rfl rfl (wi_t _ a2 (-1) 7 (-1) 7 rfl rfl (by omega)) ?_
  refine go_seg 8 (pc' := 38) (ls' := [(3, .int (-1)), (0, .ref 90), (1, .int 24), (2, .int a2)]) (st' := []) (w' := (wd_1264 z a2)) (cs' := 0) (ss' := 0) ?_ (fun _ _ => rfl)
  refine go_seg 8 (pc' := 49) (ls' := [(3, .int (-1)), (0, .ref 90), (1, .int 24), (2, .int a2)]) (st' := [.int (-1)]) (w' := (wd_1265 z a2)) (cs' := 0) (ss' := 0) ?_ (fun _ _ => rfl)
  exact go_end 1 (fun _ _ => rfl)
theorem lf_0_1392 (a0 : Int32) (a2 : Int32) (a3 : Int32) (a4 : Int32) (a5 : Int32) (h0 : -1 ≤ a2.toInt) (h1 : a2.toInt < 8) : ∃ w', pq_Go 20 pm_law 212 [(3, .int 0), (2, .ref 90), (1, .ref 1), (0, .ref 0)] [] (fw (sz a0 24 a2 a3 a4 a5)) 109 12668 (some (.int 1), w') := by
  refine ⟨(wd_1265 (sz a0 24 a2 a3 a4 a5) a2), ?_⟩
  refine go_seg 8 (pc' := 220) (ls' := [(3, .int 0), (2, .ref 90), (1, .ref 1), (0, .ref 0)]) (st' := [.int 0, .ref 0, .int 24, .ref 1]) (w' := (fw (sz a0 24 a2 a3 a4 a5))) (cs' := 109) (ss' := 12668) ?_ (fun _ _ => rfl)
  refine go_seg 3 (pc' := 223) (ls' := [(3, .int 0), (2, .ref 90), (1, .ref 1), (0, .ref 0)]) (st' := [.int a2, .int 24, .ref 1]) (w' := (fw (sz a0 24 a2 a3 a4 a5))) (cs' := 109) (ss' := 12668) ?_ (fun _ _ => rfl)
  refine go_cl (k := 20) (st' := [.int (-1)]) (cs' := 109) (ss' := 12668) rfl rfl rfl rfl rfl rfl rfl (ro_1386 (sz a0 24 a2 a3 a4 a5) a2 (by omega) (by omega)) ?_
  refine go_seg 8 (pc' := 234) (ls' := [(3, .int 0), (2, .ref 90), (1, .ref 1), (0, .ref 0)]) (st' := [.int 0, .ref 0, .int 24, .ref 90, .int (-1)]) (w' := (wd_1264 (sz a0 24 a2 a3 a4 a5) a2)) (cs' := 109) (ss' := 12668) ?_ (fun _ _ => rfl)
  refine go_seg 3 (pc' := 237) (ls' := [(3, .int 0), (2, .ref 90), (1, .ref 1), (0, .ref 0)]) (st' := [.int a2, .int 24, .ref 90, .int (-1)]) (w' := (wd_1264 (sz a0 24 a2 a3 a4 a5) a2)) (cs' := 109) (ss' := 12668) ?_ (fun _ _ => rfl)
  refine go_cl (k := 20) (st' := [.int (-1), .int (-1)]) (cs' := 109) (ss' := 12668) rfl rfl rfl rfl rfl rfl rfl (ro_1391 (sz a0 24 a2 a3 a4 a5) a2 (by omega) (by omega)) ?_
  refine go_cmp true rfl (br_self _) ?_
  exact law_tail (f := sc a0 24 a2 a3 a4 a5) rfl
theorem ro_1393 (z : pq_C) : pq_Ru 1 13 [.int 25] (fw z) (some (.int 1), (fw z)) := by
  refine ru_of (k := 0) (M := pm_13) rfl rfl ?_
  exact go_end 8 (fun _ _ => rfl)
def wd_1266 (z : pq_C) (a2 : Int32) : pq_W := ((fw z).set 3 (.inl (.int, 64, .inl (upd (fl_c 64 (-1) (fun _ => 0)) 25 a2))))
theorem ro_1394 (z : pq_C) (a2 : Int32) (h0 : -1 ≤ a2.toInt) (h1 : a2.toInt < 8) : pq_Ru 2 12 [.ref 1, .int 25, .int a2] (fw z) (some (.int (-1)), (wd_1266 z a2)) := by
  refine ru_of (k := 1) (M := pm_12) rfl rfl ?_
  refine go_seg 1 (pc' := 1) (ls' := [(0, .ref 1), (1, .int 25), (2, .int a2)]) (st' := [.int 25]) (w' := (fw z)) (cs' := 0) (ss' := 0) ?_ (fun _ _ => rfl)
  refine go_cl (k := 1) (st' := [.int 1]) (cs' := 0) (ss' := 0) rfl rfl rfl rfl rfl rfl rfl (ro_1393 z) ?_
  refine go_seg 2 (pc' := 8) (ls' := [(0, .ref 1), (1, .int 25), (2, .int a2)]) (st' := [.int a2]) (w' := (fw z)) (cs' := 0) (ss' := 0) ?_ (fun _ _ => rfl)
  refine go_cl (k := 1) (st' := [.int 1]) (cs' := 0) (ss' := 0) rfl rfl rfl rfl rfl rfl rfl (ro_1193 z a2 (by omega) (by omega)) ?_
  refine go_seg 8 (pc' := 31) (ls' := [(3, .int (-1)), (0, .ref 1), (1, .int 25), (2, .int a2)]) (st' := [.ref 1]) (w' := (fw z)) (cs' := 0) (ss' := 0) ?_ (fun _ _ => rfl)
  exact go_end 7 (fun _ _ => rfl)
theorem ro_1396 (z : pq_C) (a2 : Int32) (h0 : -1 ≤ a2.toInt) (h1 : a2.toInt < 8) : pq_Ru 1 161 [.long 25, .long 0, .long 63] (wd_1266 z a2) (some (.int 1), (wd_1266 z a2)) := by
  refine ru_of (k := 0) (M := pm_161) rfl rfl ?_
  refine go_seg 8 (pc' := 13) (ls' := [(0, .long 25), (2, .long 0), (4, .long 63)]) (st' := []) (w' := (wd_1266 z a2)) (cs' := 0) (ss' := 0) ?_ (fun _ _ => rfl)
  exact go_end 3 (fun _ _ => rfl)
theorem ro_1397 (z : pq_C) (a2 : Int32) (h0 : -1 ≤ a2.toInt) (h1 : a2.toInt < 8) : pq_Ru 2 160 [.int 25] (wd_1266 z a2) (some (.int 1), (wd_1266 z a2)) := by
  refine ru_of (k := 1) (M := pm_160) rfl rfl ?_
  refine go_seg 4 (pc' := 6) (ls' := [(0, .int 25)]) (st' := [.long 63, .long 0, .long 25]) (w' := (wd_1266 z a2)) (cs' := 0) (ss' := 0) ?_ (fun _ _ => rfl)
  refine go_cl (k := 1) (st' := [.int 1]) (cs' := 0) (ss' := 0) rfl rfl rfl rfl rfl rfl rfl (ro_1396 z a2 (by omega) (by omega)) ?_
  exact go_end 1 (fun _ _ => rfl)
def wd_1267 (z : pq_C) (a2 : Int32) : pq_W := ((wd_1266 z a2).set 91 (.inl (.int, 2858, .inl (upd (upd (upd (upd (upd (upd (upd (upd (upd (upd (upd (upd (upd (upd (upd (upd (upd (upd (upd (upd (upd (upd (upd (upd (upd (upd (upd (upd (upd (upd (upd (upd (upd (upd (upd (upd (upd (upd (upd (upd (upd (upd (upd (upd (upd (upd (upd (upd (upd (upd (upd (upd (upd (upd (upd (upd (upd (upd (upd (upd (upd (upd (upd (upd (upd (upd (upd (upd (upd (upd (upd (upd (upd (upd (upd (upd (upd (upd (upd (upd (upd (upd (fun _ => 0) 1 10) 10 (-1)) 11 (-1)) 12 (-1)) 13 (-1)) 14 (-1)) 15 (-1)) 16 (-1)) 17 (-1)) 18 (-1)) 19 (-1)) 20 (-1)) 21 (-1)) 22 (-1)) 23 (-1)) 24 (-1)) 25 (-1)) 26 (-1)) 27 (-1)) 28 (-1)) 29 (-1)) 30 (-1)) 31 (-1)) 32 (-1)) 33 (-1)) 34 (-1)) 35 (-1)) 36 (-1)) 37 (-1)) 38 (-1)) 39 (-1)) 40 (-1)) 41 (-1)) 42 (-1)) 43 (-1)) 44 (-1)) 45 (-1)) 46 (-1)) 47 (-1)) 48 (-1)) 49 (-1)) 50 (-1)) 51 (-1)) 52 (-1)) 53 (-1)) 54 (-1)) 55 (-1)) 56 (-1)) 57 (-1)) 58 (-1)) 59 (-1)) 60 (-1)) 61 (-1)) 62 (-1)) 63 (-1)) 64 (-1)) 65 (-1)) 66 (-1)) 67 (-1)) 68 (-1)) 69 (-1)) 70 (-1)) 71 (-1)) 72 (-1)) 73 (-1)) 139 1000) 140 100) 145 1000) 146 100) 151 1000) 152 100) 157 1000) 158 100) 163 1000) 164 100) 169 1000) 170 100) 175 1000) 176 100) 181 1000) 182 100) 35 a2))))
theorem ro_1399 (z : pq_C) (a2 : Int32) (h0 : -1 ≤ a2.toInt) (h1 : a2.toInt < 8) : pq_Ru 3 159 [.ref 90, .int 25, .int a2] (wd_1266 z a2) (some (.int (-1)), (wd_1267 z a2)) := by
  refine ru_of (k := 2) (M := pm_159) rfl rfl ?_
  refine go_seg 1 (pc' := 1) (ls' := [(0, .ref 90), (1, .int 25), (2, .int a2)]) (st' := [.int 25]) (w' := (wd_1266 z a2)) (cs' := 0) (ss' := 0) ?_ (fun _ _ => rfl)
  refine go_cl (k := 2) (st' := [.int 1]) (cs' := 0) (ss' := 0) rfl rfl rfl rfl rfl rfl rfl (ro_1397 z a2 (by omega) (by omega)) ?_
  refine go_seg 5 (pc' := 15) (ls' := [(0, .ref 90), (1, .int 25), (2, .int a2)]) (st' := [.long 7, .long (-1), .long a2.toInt64]) (w' := (wd_1266 z a2)) (cs' := 0) (ss' := 0) ?_ (fun _ _ => rfl)
  refine go_cl (k := 2) (st' := [.int 1]) (cs' := 0) (ss' := 0) rfl rfl rfl rfl rfl rfl rfl (wi_t _ a2 (-1) 7 (-1) 7 rfl rfl (by omega)) ?_
  refine go_seg 8 (pc' := 38) (ls' := [(3, .int (-1)), (0, .ref 90), (1, .int 25), (2, .int a2)]) (st' := []) (w' := (wd_1266 z a2)) (cs' := 0) (ss' := 0) ?_ (fun _ _ => rfl)
  refine go_seg 8 (pc' := 49) (ls' := [(3, .int (-1)), (0, .ref 90), (1, .int 25), (2, .int a2)]) (st' := [.int (-1)]) (w' := (wd_1267 z a2)) (cs' := 0) (ss' := 0) ?_ (fun _ _ => rfl)
  exact go_end 1 (fun _ _ => rfl)
theorem lf_0_1400 (a0 : Int32) (a2 : Int32) (a3 : Int32) (a4 : Int32) (a5 : Int32) (h0 : -1 ≤ a2.toInt) (h1 : a2.toInt < 8) : ∃ w', pq_Go 20 pm_law 212 [(3, .int 0), (2, .ref 90), (1, .ref 1), (0, .ref 0)] [] (fw (sz a0 25 a2 a3 a4 a5)) 109 12668 (some (.int 1), w') := by
  refine ⟨(wd_1267 (sz a0 25 a2 a3 a4 a5) a2), ?_⟩
  refine go_seg 8 (pc' := 220) (ls' := [(3, .int 0), (2, .ref 90), (1, .ref 1), (0, .ref 0)]) (st' := [.int 0, .ref 0, .int 25, .ref 1]) (w' := (fw (sz a0 25 a2 a3 a4 a5))) (cs' := 109) (ss' := 12668) ?_ (fun _ _ => rfl)
  refine go_seg 3 (pc' := 223) (ls' := [(3, .int 0), (2, .ref 90), (1, .ref 1), (0, .ref 0)]) (st' := [.int a2, .int 25, .ref 1]) (w' := (fw (sz a0 25 a2 a3 a4 a5))) (cs' := 109) (ss' := 12668) ?_ (fun _ _ => rfl)
  refine go_cl (k := 20) (st' := [.int (-1)]) (cs' := 109) (ss' := 12668) rfl rfl rfl rfl rfl rfl rfl (ro_1394 (sz a0 25 a2 a3 a4 a5) a2 (by omega) (by omega)) ?_
  refine go_seg 8 (pc' := 234) (ls' := [(3, .int 0), (2, .ref 90), (1, .ref 1), (0, .ref 0)]) (st' := [.int 0, .ref 0, .int 25, .ref 90, .int (-1)]) (w' := (wd_1266 (sz a0 25 a2 a3 a4 a5) a2)) (cs' := 109) (ss' := 12668) ?_ (fun _ _ => rfl)
  refine go_seg 3 (pc' := 237) (ls' := [(3, .int 0), (2, .ref 90), (1, .ref 1), (0, .ref 0)]) (st' := [.int a2, .int 25, .ref 90, .int (-1)]) (w' := (wd_1266 (sz a0 25 a2 a3 a4 a5) a2)) (cs' := 109) (ss' := 12668) ?_ (fun _ _ => rfl)
  refine go_cl (k := 20) (st' := [.int (-1), .int (-1)]) (cs' := 109) (ss' := 12668) rfl rfl rfl rfl rfl rfl rfl (ro_1399 (sz a0 25 a2 a3 a4 a5) a2 (by omega) (by omega)) ?_
  refine go_cmp true rfl (br_self _) ?_
  exact law_tail (f := sc a0 25 a2 a3 a4 a5) rfl
theorem ro_1401 (z : pq_C) : pq_Ru 1 13 [.int 26] (fw z) (some (.int 1), (fw z)) := by
  refine ru_of (k := 0) (M := pm_13) rfl rfl ?_
  exact go_end 8 (fun _ _ => rfl)
def wd_1268 (z : pq_C) (a2 : Int32) : pq_W := ((fw z).set 3 (.inl (.int, 64, .inl (upd (fl_c 64 (-1) (fun _ => 0)) 26 a2))))
theorem ro_1402 (z : pq_C) (a2 : Int32) (h0 : -1 ≤ a2.toInt) (h1 : a2.toInt < 8) : pq_Ru 2 12 [.ref 1, .int 26, .int a2] (fw z) (some (.int (-1)), (wd_1268 z a2)) := by
  refine ru_of (k := 1) (M := pm_12) rfl rfl ?_
  refine go_seg 1 (pc' := 1) (ls' := [(0, .ref 1), (1, .int 26), (2, .int a2)]) (st' := [.int 26]) (w' := (fw z)) (cs' := 0) (ss' := 0) ?_ (fun _ _ => rfl)
  refine go_cl (k := 1) (st' := [.int 1]) (cs' := 0) (ss' := 0) rfl rfl rfl rfl rfl rfl rfl (ro_1401 z) ?_
  refine go_seg 2 (pc' := 8) (ls' := [(0, .ref 1), (1, .int 26), (2, .int a2)]) (st' := [.int a2]) (w' := (fw z)) (cs' := 0) (ss' := 0) ?_ (fun _ _ => rfl)
  refine go_cl (k := 1) (st' := [.int 1]) (cs' := 0) (ss' := 0) rfl rfl rfl rfl rfl rfl rfl (ro_1193 z a2 (by omega) (by omega)) ?_
  refine go_seg 8 (pc' := 31) (ls' := [(3, .int (-1)), (0, .ref 1), (1, .int 26), (2, .int a2)]) (st' := [.ref 1]) (w' := (fw z)) (cs' := 0) (ss' := 0) ?_ (fun _ _ => rfl)
  exact go_end 7 (fun _ _ => rfl)
theorem ro_1404 (z : pq_C) (a2 : Int32) (h0 : -1 ≤ a2.toInt) (h1 : a2.toInt < 8) : pq_Ru 1 161 [.long 26, .long 0, .long 63] (wd_1268 z a2) (some (.int 1), (wd_1268 z a2)) := by
  refine ru_of (k := 0) (M := pm_161) rfl rfl ?_
  refine go_seg 8 (pc' := 13) (ls' := [(0, .long 26), (2, .long 0), (4, .long 63)]) (st' := []) (w' := (wd_1268 z a2)) (cs' := 0) (ss' := 0) ?_ (fun _ _ => rfl)
  exact go_end 3 (fun _ _ => rfl)
theorem ro_1405 (z : pq_C) (a2 : Int32) (h0 : -1 ≤ a2.toInt) (h1 : a2.toInt < 8) : pq_Ru 2 160 [.int 26] (wd_1268 z a2) (some (.int 1), (wd_1268 z a2)) := by
  refine ru_of (k := 1) (M := pm_160) rfl rfl ?_
  refine go_seg 4 (pc' := 6) (ls' := [(0, .int 26)]) (st' := [.long 63, .long 0, .long 26]) (w' := (wd_1268 z a2)) (cs' := 0) (ss' := 0) ?_ (fun _ _ => rfl)
  refine go_cl (k := 1) (st' := [.int 1]) (cs' := 0) (ss' := 0) rfl rfl rfl rfl rfl rfl rfl (ro_1404 z a2 (by omega) (by omega)) ?_
  exact go_end 1 (fun _ _ => rfl)
def wd_1269 (z : pq_C) (a2 : Int32) : pq_W := ((wd_1268 z a2).set 91 (.inl (.int, 2858, .inl (upd (upd (upd (upd (upd (upd (upd (upd (upd (upd (upd (upd (upd (upd (upd (upd (upd (upd (upd (upd (upd (upd (upd (upd (upd (upd (upd (upd (upd (upd (upd (upd (upd (upd (upd (upd (upd (upd (upd (upd (upd (upd (upd (upd (upd (upd (upd (upd (upd (upd (upd (upd (upd (upd (upd (upd (upd (upd (upd (upd (upd (upd (upd (upd (upd (upd (upd (upd (upd (upd (upd (upd (upd (upd (upd (upd (upd (upd (upd (upd (upd (upd (fun _ => 0) 1 10) 10 (-1)) 11 (-1)) 12 (-1)) 13 (-1)) 14 (-1)) 15 (-1)) 16 (-1)) 17 (-1)) 18 (-1)) 19 (-1)) 20 (-1)) 21 (-1)) 22 (-1)) 23 (-1)) 24 (-1)) 25 (-1)) 26 (-1)) 27 (-1)) 28 (-1)) 29 (-1)) 30 (-1)) 31 (-1)) 32 (-1)) 33 (-1)) 34 (-1)) 35 (-1)) 36 (-1)) 37 (-1)) 38 (-1)) 39 (-1)) 40 (-1)) 41 (-1)) 42 (-1)) 43 (-1)) 44 (-1)) 45 (-1)) 46 (-1)) 47 (-1)) 48 (-1)) 49 (-1)) 50 (-1)) 51 (-1)) 52 (-1)) 53 (-1)) 54 (-1)) 55 (-1)) 56 (-1)) 57 (-1)) 58 (-1)) 59 (-1)) 60 (-1)) 61 (-1)) 62 (-1)) 63 (-1)) 64 (-1)) 65 (-1)) 66 (-1)) 67 (-1)) 68 (-1)) 69 (-1)) 70 (-1)) 71 (-1)) 72 (-1)) 73 (-1)) 139 1000) 140 100) 145 1000) 146 100) 151 1000) 152 100) 157 1000) 158 100) 163 1000) 164 100) 169 1000) 170 100) 175 1000) 176 100) 181 1000) 182 100) 36 a2))))
theorem ro_1407 (z : pq_C) (a2 : Int32) (h0 : -1 ≤ a2.toInt) (h1 : a2.toInt < 8) : pq_Ru 3 159 [.ref 90, .int 26, .int a2] (wd_1268 z a2) (some (.int (-1)), (wd_1269 z a2)) := by
  refine ru_of (k := 2) (M := pm_159) rfl rfl ?_
  refine go_seg 1 (pc' := 1) (ls' := [(0, .ref 90), (1, .int 26), (2, .int a2)]) (st' := [.int 26]) (w' := (wd_1268 z a2)) (cs' := 0) (ss' := 0) ?_ (fun _ _ => rfl)
  refine go_cl (k := 2) (st' := [.int 1]) (cs' := 0) (ss' := 0) rfl rfl rfl rfl rfl rfl rfl (ro_1405 z a2 (by omega) (by omega)) ?_
  refine go_seg 5 (pc' := 15) (ls' := [(0, .ref 90), (1, .int 26), (2, .int a2)]) (st' := [.long 7, .long (-1), .long a2.toInt64]) (w' := (wd_1268 z a2)) (cs' := 0) (ss' := 0) ?_ (fun _ _ => rfl)
  refine go_cl (k := 2) (st' := [.int 1]) (cs' := 0) (ss' := 0) rfl rfl rfl rfl rfl rfl rfl (wi_t _ a2 (-1) 7 (-1) 7 rfl rfl (by omega)) ?_
  refine go_seg 8 (pc' := 38) (ls' := [(3, .int (-1)), (0, .ref 90), (1, .int 26), (2, .int a2)]) (st' := []) (w' := (wd_1268 z a2)) (cs' := 0) (ss' := 0) ?_ (fun _ _ => rfl)
  refine go_seg 8 (pc' := 49) (ls' := [(3, .int (-1)), (0, .ref 90), (1, .int 26), (2, .int a2)]) (st' := [.int (-1)]) (w' := (wd_1269 z a2)) (cs' := 0) (ss' := 0) ?_ (fun _ _ => rfl)
  exact go_end 1 (fun _ _ => rfl)
theorem lf_0_1408 (a0 : Int32) (a2 : Int32) (a3 : Int32) (a4 : Int32) (a5 : Int32) (h0 : -1 ≤ a2.toInt) (h1 : a2.toInt < 8) : ∃ w', pq_Go 20 pm_law 212 [(3, .int 0), (2, .ref 90), (1, .ref 1), (0, .ref 0)] [] (fw (sz a0 26 a2 a3 a4 a5)) 109 12668 (some (.int 1), w') := by
  refine ⟨(wd_1269 (sz a0 26 a2 a3 a4 a5) a2), ?_⟩
  refine go_seg 8 (pc' := 220) (ls' := [(3, .int 0), (2, .ref 90), (1, .ref 1), (0, .ref 0)]) (st' := [.int 0, .ref 0, .int 26, .ref 1]) (w' := (fw (sz a0 26 a2 a3 a4 a5))) (cs' := 109) (ss' := 12668) ?_ (fun _ _ => rfl)
  refine go_seg 3 (pc' := 223) (ls' := [(3, .int 0), (2, .ref 90), (1, .ref 1), (0, .ref 0)]) (st' := [.int a2, .int 26, .ref 1]) (w' := (fw (sz a0 26 a2 a3 a4 a5))) (cs' := 109) (ss' := 12668) ?_ (fun _ _ => rfl)
  refine go_cl (k := 20) (st' := [.int (-1)]) (cs' := 109) (ss' := 12668) rfl rfl rfl rfl rfl rfl rfl (ro_1402 (sz a0 26 a2 a3 a4 a5) a2 (by omega) (by omega)) ?_
  refine go_seg 8 (pc' := 234) (ls' := [(3, .int 0), (2, .ref 90), (1, .ref 1), (0, .ref 0)]) (st' := [.int 0, .ref 0, .int 26, .ref 90, .int (-1)]) (w' := (wd_1268 (sz a0 26 a2 a3 a4 a5) a2)) (cs' := 109) (ss' := 12668) ?_ (fun _ _ => rfl)
  refine go_seg 3 (pc' := 237) (ls' := [(3, .int 0), (2, .ref 90), (1, .ref 1), (0, .ref 0)]) (st' := [.int a2, .int 26, .ref 90, .int (-1)]) (w' := (wd_1268 (sz a0 26 a2 a3 a4 a5) a2)) (cs' := 109) (ss' := 12668) ?_ (fun _ _ => rfl)
  refine go_cl (k := 20) (st' := [.int (-1), .int (-1)]) (cs' := 109) (ss' := 12668) rfl rfl rfl rfl rfl rfl rfl (ro_1407 (sz a0 26 a2 a3 a4 a5) a2 (by omega) (by omega)) ?_
  refine go_cmp true rfl (br_self _) ?_
  exact law_tail (f := sc a0 26 a2 a3 a4 a5) rfl
theorem ro_1409 (z : pq_C) : pq_Ru 1 13 [.int 27] (fw z) (some (.int 1), (fw z)) := by
  refine ru_of (k := 0) (M := pm_13) rfl rfl ?_
  exact go_end 8 (fun _ _ => rfl)
def wd_1270 (z : pq_C) (a2 : Int32) : pq_W := ((fw z).set 3 (.inl (.int, 64, .inl (upd (fl_c 64 (-1) (fun _ => 0)) 27 a2))))
theorem ro_1410 (z : pq_C) (a2 : Int32) (h0 : -1 ≤ a2.toInt) (h1 : a2.toInt < 8) : pq_Ru 2 12 [.ref 1, .int 27, .int a2] (fw z) (some (.int (-1)), (wd_1270 z a2)) := by
  refine ru_of (k := 1) (M := pm_12) rfl rfl ?_
  refine go_seg 1 (pc' := 1) (ls' := [(0, .ref 1), (1, .int 27), (2, .int a2)]) (st' := [.int 27]) (w' := (fw z)) (cs' := 0) (ss' := 0) ?_ (fun _ _ => rfl)
  refine go_cl (k := 1) (st' := [.int 1]) (cs' := 0) (ss' := 0) rfl rfl rfl rfl rfl rfl rfl (ro_1409 z) ?_
  refine go_seg 2 (pc' := 8) (ls' := [(0, .ref 1), (1, .int 27), (2, .int a2)]) (st' := [.int a2]) (w' := (fw z)) (cs' := 0) (ss' := 0) ?_ (fun _ _ => rfl)
  refine go_cl (k := 1) (st' := [.int 1]) (cs' := 0) (ss' := 0) rfl rfl rfl rfl rfl rfl rfl (ro_1193 z a2 (by omega) (by omega)) ?_
  refine go_seg 8 (pc' := 31) (ls' := [(3, .int (-1)), (0, .ref 1), (1, .int 27), (2, .int a2)]) (st' := [.ref 1]) (w' := (fw z)) (cs' := 0) (ss' := 0) ?_ (fun _ _ => rfl)
  exact go_end 7 (fun _ _ => rfl)
theorem ro_1412 (z : pq_C) (a2 : Int32) (h0 : -1 ≤ a2.toInt) (h1 : a2.toInt < 8) : pq_Ru 1 161 [.long 27, .long 0, .long 63] (wd_1270 z a2) (some (.int 1), (wd_1270 z a2)) := by
  refine ru_of (k := 0) (M := pm_161) rfl rfl ?_
  refine go_seg 8 (pc' := 13) (ls' := [(0, .long 27), (2, .long 0), (4, .long 63)]) (st' := []) (w' := (wd_1270 z a2)) (cs' := 0) (ss' := 0) ?_ (fun _ _ => rfl)
  exact go_end 3 (fun _ _ => rfl)
theorem ro_1413 (z : pq_C) (a2 : Int32) (h0 : -1 ≤ a2.toInt) (h1 : a2.toInt < 8) : pq_Ru 2 160 [.int 27] (wd_1270 z a2) (some (.int 1), (wd_1270 z a2)) := by
  refine ru_of (k := 1) (M := pm_160) rfl rfl ?_
  refine go_seg 4 (pc' := 6) (ls' := [(0, .int 27)]) (st' := [.long 63, .long 0, .long 27]) (w' := (wd_1270 z a2)) (cs' := 0) (ss' := 0) ?_ (fun _ _ => rfl)
  refine go_cl (k := 1) (st' := [.int 1]) (cs' := 0) (ss' := 0) rfl rfl rfl rfl rfl rfl rfl (ro_1412 z a2 (by omega) (by omega)) ?_
  exact go_end 1 (fun _ _ => rfl)
def wd_1271 (z : pq_C) (a2 : Int32) : pq_W := ((wd_1270 z a2).set 91 (.inl (.int, 2858, .inl (upd (upd (upd (upd (upd (upd (upd (upd (upd (upd (upd (upd (upd (upd (upd (upd (upd (upd (upd (upd (upd (upd (upd (upd (upd (upd (upd (upd (upd (upd (upd (upd (upd (upd (upd (upd (upd (upd (upd (upd (upd (upd (upd (upd (upd (upd (upd (upd (upd (upd (upd (upd (upd (upd (upd (upd (upd (upd (upd (upd (upd (upd (upd (upd (upd (upd (upd (upd (upd (upd (upd (upd (upd (upd (upd (upd (upd (upd (upd (upd (upd (upd (fun _ => 0) 1 10) 10 (-1)) 11 (-1)) 12 (-1)) 13 (-1)) 14 (-1)) 15 (-1)) 16 (-1)) 17 (-1)) 18 (-1)) 19 (-1)) 20 (-1)) 21 (-1)) 22 (-1)) 23 (-1)) 24 (-1)) 25 (-1)) 26 (-1)) 27 (-1)) 28 (-1)) 29 (-1)) 30 (-1)) 31 (-1)) 32 (-1)) 33 (-1)) 34 (-1)) 35 (-1)) 36 (-1)) 37 (-1)) 38 (-1)) 39 (-1)) 40 (-1)) 41 (-1)) 42 (-1)) 43 (-1)) 44 (-1)) 45 (-1)) 46 (-1)) 47 (-1)) 48 (-1)) 49 (-1)) 50 (-1)) 51 (-1)) 52 (-1)) 53 (-1)) 54 (-1)) 55 (-1)) 56 (-1)) 57 (-1)) 58 (-1)) 59 (-1)) 60 (-1)) 61 (-1)) 62 (-1)) 63 (-1)) 64 (-1)) 65 (-1)) 66 (-1)) 67 (-1)) 68 (-1)) 69 (-1)) 70 (-1)) 71 (-1)) 72 (-1)) 73 (-1)) 139 1000) 140 100) 145 1000) 146 100) 151 1000) 152 100) 157 1000) 158 100) 163 1000) 164 100) 169 1000) 170 100) 175 1000) 176 100) 181 1000) 182 100) 37 a2))))
theorem ro_1415 (z : pq_C) (a2 : Int32) (h0 : -1 ≤ a2.toInt) (h1 : a2.toInt < 8) : pq_Ru 3 159 [.ref 90, .int 27, .int a2] (wd_1270 z a2) (some (.int (-1)), (wd_1271 z a2)) := by
  refine ru_of (k := 2) (M := pm_159) rfl rfl ?_
  refine go_seg 1 (pc' := 1) (ls' := [(0, .ref 90), (1, .int 27), (2, .int a2)]) (st' := [.int 27]) (w' := (wd_1270 z a2)) (cs' := 0) (ss' := 0) ?_ (fun _ _ => rfl)
  refine go_cl (k := 2) (st' := [.int 1]) (cs' := 0) (ss' := 0) rfl rfl rfl rfl rfl rfl rfl (ro_1413 z a2 (by omega) (by omega)) ?_
  refine go_seg 5 (pc' := 15) (ls' := [(0, .ref 90), (1, .int 27), (2, .int a2)]) (st' := [.long 7, .long (-1), .long a2.toInt64]) (w' := (wd_1270 z a2)) (cs' := 0) (ss' := 0) ?_ (fun _ _ => rfl)
  refine go_cl (k := 2) (st' := [.int 1]) (cs' := 0) (ss' := 0) rfl rfl rfl rfl rfl rfl rfl (wi_t _ a2 (-1) 7 (-1) 7 rfl rfl (by omega)) ?_
  refine go_seg 8 (pc' := 38) (ls' := [(3, .int (-1)), (0, .ref 90), (1, .int 27), (2, .int a2)]) (st' := []) (w' := (wd_1270 z a2)) (cs' := 0) (ss' := 0) ?_ (fun _ _ => rfl)
  refine go_seg 8 (pc' := 49) (ls' := [(3, .int (-1)), (0, .ref 90), (1, .int 27), (2, .int a2)]) (st' := [.int (-1)]) (w' := (wd_1271 z a2)) (cs' := 0) (ss' := 0) ?_ (fun _ _ => rfl)
  exact go_end 1 (fun _ _ => rfl)
theorem lf_0_1416 (a0 : Int32) (a2 : Int32) (a3 : Int32) (a4 : Int32) (a5 : Int32) (h0 : -1 ≤ a2.toInt) (h1 : a2.toInt < 8) : ∃ w', pq_Go 20 pm_law 212 [(3, .int 0), (2, .ref 90), (1, .ref 1), (0, .ref 0)] [] (fw (sz a0 27 a2 a3 a4 a5)) 109 12668 (some (.int 1), w') := by
  refine ⟨(wd_1271 (sz a0 27 a2 a3 a4 a5) a2), ?_⟩
  refine go_seg 8 (pc' := 220) (ls' := [(3, .int 0), (2, .ref 90), (1, .ref 1), (0, .ref 0)]) (st' := [.int 0, .ref 0, .int 27, .ref 1]) (w' := (fw (sz a0 27 a2 a3 a4 a5))) (cs' := 109) (ss' := 12668) ?_ (fun _ _ => rfl)
  refine go_seg 3 (pc' := 223) (ls' := [(3, .int 0), (2, .ref 90), (1, .ref 1), (0, .ref 0)]) (st' := [.int a2, .int 27, .ref 1]) (w' := (fw (sz a0 27 a2 a3 a4 a5))) (cs' := 109) (ss' := 12668) ?_ (fun _ _ => rfl)
  refine go_cl (k := 20) (st' := [.int (-1)]) (cs' := 109) (ss' := 12668) rfl rfl rfl rfl rfl rfl rfl (ro_1410 (sz a0 27 a2 a3 a4 a5) a2 (by omega) (by omega)) ?_
  refine go_seg 8 (pc' := 234) (ls' := [(3, .int 0), (2, .ref 90), (1, .ref 1), (0, .ref 0)]) (st' := [.int 0, .ref 0, .int 27, .ref 90, .int (-1)]) (w' := (wd_1270 (sz a0 27 a2 a3 a4 a5) a2)) (cs' := 109) (ss' := 12668) ?_ (fun _ _ => rfl)
  refine go_seg 3 (pc' := 237) (ls' := [(3, .int 0), (2, .ref 90), (1, .ref 1), (0, .ref 0)]) (st' := [.int a2, .int 27, .ref 90, .int (-1)]) (w' := (wd_1270 (sz a0 27 a2 a3 a4 a5) a2)) (cs' := 109) (ss' := 12668) ?_ (fun _ _ => rfl)
  refine go_cl (k := 20) (st' := [.int (-1), .int (-1)]) (cs' := 109) (ss' := 12668) rfl rfl rfl rfl rfl rfl rfl (ro_1415 (sz a0 27 a2 a3 a4 a5) a2 (by omega) (by omega)) ?_
  refine go_cmp true rfl (br_self _) ?_
  exact law_tail (f := sc a0 27 a2 a3 a4 a5) rfl
theorem ro_1417 (z : pq_C) : pq_Ru 1 13 [.int 28] (fw z) (some (.int 1), (fw z)) := by
  refine ru_of (k := 0) (M := pm_13) rfl rfl ?_
  exact go_end 8 (fun _ _ => rfl)
def wd_1272 (z : pq_C) (a2 : Int32) : pq_W := ((fw z).set 3 (.inl (.int, 64, .inl (upd (fl_c 64 (-1) (fun _ => 0)) 28 a2))))
theorem ro_1418 (z : pq_C) (a2 : Int32) (h0 : -1 ≤ a2.toInt) (h1 : a2.toInt < 8) : pq_Ru 2 12 [.ref 1, .int 28, .int a2] (fw z) (some (.int (-1)), (wd_1272 z a2)) := by
  refine ru_of (k := 1) (M := pm_12) rfl rfl ?_
  refine go_seg 1 (pc' := 1) (ls' := [(0, .ref 1), (1, .int 28), (2, .int a2)]) (st' := [.int 28]) (w' := (fw z)) (cs' := 0) (ss' := 0) ?_ (fun _ _ => rfl)
  refine go_cl (k := 1) (st' := [.int 1]) (cs' := 0) (ss' := 0) rfl rfl rfl rfl rfl rfl rfl (ro_1417 z) ?_
  refine go_seg 2 (pc' := 8) (ls' := [(0, .ref 1), (1, .int 28), (2, .int a2)]) (st' := [.int a2]) (w' := (fw z)) (cs' := 0) (ss' := 0) ?_ (fun _ _ => rfl)
  refine go_cl (k := 1) (st' := [.int 1]) (cs' := 0) (ss' := 0) rfl rfl rfl rfl rfl rfl rfl (ro_1193 z a2 (by omega) (by omega)) ?_
  refine go_seg 8 (pc' := 31) (ls' := [(3, .int (-1)), (0, .ref 1), (1, .int 28), (2, .int a2)]) (st' := [.ref 1]) (w' := (fw z)) (cs' := 0) (ss' := 0) ?_ (fun _ _ => rfl)
  exact go_end 7 (fun _ _ => rfl)
theorem ro_1420 (z : pq_C) (a2 : Int32) (h0 : -1 ≤ a2.toInt) (h1 : a2.toInt < 8) : pq_Ru 1 161 [.long 28, .long 0, .long 63] (wd_1272 z a2) (some (.int 1), (wd_1272 z a2)) := by
  refine ru_of (k := 0) (M := pm_161) rfl rfl ?_
  refine go_seg 8 (pc' := 13) (ls' := [(0, .long 28), (2, .long 0), (4, .long 63)]) (st' := []) (w' := (wd_1272 z a2)) (cs' := 0) (ss' := 0) ?_ (fun _ _ => rfl)
  exact go_end 3 (fun _ _ => rfl)
theorem ro_1421 (z : pq_C) (a2 : Int32) (h0 : -1 ≤ a2.toInt) (h1 : a2.toInt < 8) : pq_Ru 2 160 [.int 28] (wd_1272 z a2) (some (.int 1), (wd_1272 z a2)) := by
  refine ru_of (k := 1) (M := pm_160) rfl rfl ?_
  refine go_seg 4 (pc' := 6) (ls' := [(0, .int 28)]) (st' := [.long 63, .long 0, .long 28]) (w' := (wd_1272 z a2)) (cs' := 0) (ss' := 0) ?_ (fun _ _ => rfl)
  refine go_cl (k := 1) (st' := [.int 1]) (cs' := 0) (ss' := 0) rfl rfl rfl rfl rfl rfl rfl (ro_1420 z a2 (by omega) (by omega)) ?_
  exact go_end 1 (fun _ _ => rfl)
def wd_1273 (z : pq_C) (a2 : Int32) : pq_W := ((wd_1272 z a2).set 91 (.inl (.int, 2858, .inl (upd (upd (upd (upd (upd (upd (upd (upd (upd (upd (upd (upd (upd (upd (upd (upd (upd (upd (upd (upd (upd (upd (upd (upd (upd (upd (upd (upd (upd (upd (upd (upd (upd (upd (upd (upd (upd (upd (upd (upd (upd (upd (upd (upd (upd (upd (upd (upd (upd (upd (upd (upd (upd (upd (upd (upd (upd (upd (upd (upd (upd (upd (upd (upd (upd (upd (upd (upd (upd (upd (upd (upd (upd (upd (upd (upd (upd (upd (upd (upd (upd (upd (fun _ => 0) 1 10) 10 (-1)) 11 (-1)) 12 (-1)) 13 (-1)) 14 (-1)) 15 (-1)) 16 (-1)) 17 (-1)) 18 (-1)) 19 (-1)) 20 (-1)) 21 (-1)) 22 (-1)) 23 (-1)) 24 (-1)) 25 (-1)) 26 (-1)) 27 (-1)) 28 (-1)) 29 (-1)) 30 (-1)) 31 (-1)) 32 (-1)) 33 (-1)) 34 (-1)) 35 (-1)) 36 (-1)) 37 (-1)) 38 (-1)) 39 (-1)) 40 (-1)) 41 (-1)) 42 (-1)) 43 (-1)) 44 (-1)) 45 (-1)) 46 (-1)) 47 (-1)) 48 (-1)) 49 (-1)) 50 (-1)) 51 (-1)) 52 (-1)) 53 (-1)) 54 (-1)) 55 (-1)) 56 (-1)) 57 (-1)) 58 (-1)) 59 (-1)) 60 (-1)) 61 (-1)) 62 (-1)) 63 (-1)) 64 (-1)) 65 (-1)) 66 (-1)) 67 (-1)) 68 (-1)) 69 (-1)) 70 (-1)) 71 (-1)) 72 (-1)) 73 (-1)) 139 1000) 140 100) 145 1000) 146 100) 151 1000) 152 100) 157 1000) 158 100) 163 1000) 164 100) 169 1000) 170 100) 175 1000) 176 100) 181 1000) 182 100) 38 a2))))
theorem ro_1423 (z : pq_C) (a2 : Int32) (h0 : -1 ≤ a2.toInt) (h1 : a2.toInt < 8) : pq_Ru 3 159 [.ref 90, .int 28, .int a2] (wd_1272 z a2) (some (.int (-1)), (wd_1273 z a2)) := by
  refine ru_of (k := 2) (M := pm_159) rfl rfl ?_
  refine go_seg 1 (pc' := 1) (ls' := [(0, .ref 90), (1, .int 28), (2, .int a2)]) (st' := [.int 28]) (w' := (wd_1272 z a2)) (cs' := 0) (ss' := 0) ?_ (fun _ _ => rfl)
  refine go_cl (k := 2) (st' := [.int 1]) (cs' := 0) (ss' := 0) rfl rfl rfl rfl rfl rfl rfl (ro_1421 z a2 (by omega) (by omega)) ?_
  refine go_seg 5 (pc' := 15) (ls' := [(0, .ref 90), (1, .int 28), (2, .int a2)]) (st' := [.long 7, .long (-1), .long a2.toInt64]) (w' := (wd_1272 z a2)) (cs' := 0) (ss' := 0) ?_ (fun _ _ => rfl)
  refine go_cl (k := 2) (st' := [.int 1]) (cs' := 0) (ss' := 0) rfl rfl rfl rfl rfl rfl rfl (wi_t _ a2 (-1) 7 (-1) 7 rfl rfl (by omega)) ?_
  refine go_seg 8 (pc' := 38) (ls' := [(3, .int (-1)), (0, .ref 90), (1, .int 28), (2, .int a2)]) (st' := []) (w' := (wd_1272 z a2)) (cs' := 0) (ss' := 0) ?_ (fun _ _ => rfl)
  refine go_seg 8 (pc' := 49) (ls' := [(3, .int (-1)), (0, .ref 90), (1, .int 28), (2, .int a2)]) (st' := [.int (-1)]) (w' := (wd_1273 z a2)) (cs' := 0) (ss' := 0) ?_ (fun _ _ => rfl)
  exact go_end 1 (fun _ _ => rfl)
theorem lf_0_1424 (a0 : Int32) (a2 : Int32) (a3 : Int32) (a4 : Int32) (a5 : Int32) (h0 : -1 ≤ a2.toInt) (h1 : a2.toInt < 8) : ∃ w', pq_Go 20 pm_law 212 [(3, .int 0), (2, .ref 90), (1, .ref 1), (0, .ref 0)] [] (fw (sz a0 28 a2 a3 a4 a5)) 109 12668 (some (.int 1), w') := by
  refine ⟨(wd_1273 (sz a0 28 a2 a3 a4 a5) a2), ?_⟩
  refine go_seg 8 (pc' := 220) (ls' := [(3, .int 0), (2, .ref 90), (1, .ref 1), (0, .ref 0)]) (st' := [.int 0, .ref 0, .int 28, .ref 1]) (w' := (fw (sz a0 28 a2 a3 a4 a5))) (cs' := 109) (ss' := 12668) ?_ (fun _ _ => rfl)
  refine go_seg 3 (pc' := 223) (ls' := [(3, .int 0), (2, .ref 90), (1, .ref 1), (0, .ref 0)]) (st' := [.int a2, .int 28, .ref 1]) (w' := (fw (sz a0 28 a2 a3 a4 a5))) (cs' := 109) (ss' := 12668) ?_ (fun _ _ => rfl)
  refine go_cl (k := 20) (st' := [.int (-1)]) (cs' := 109) (ss' := 12668) rfl rfl rfl rfl rfl rfl rfl (ro_1418 (sz a0 28 a2 a3 a4 a5) a2 (by omega) (by omega)) ?_
  refine go_seg 8 (pc' := 234) (ls' := [(3, .int 0), (2, .ref 90), (1, .ref 1), (0, .ref 0)]) (st' := [.int 0, .ref 0, .int 28, .ref 90, .int (-1)]) (w' := (wd_1272 (sz a0 28 a2 a3 a4 a5) a2)) (cs' := 109) (ss' := 12668) ?_ (fun _ _ => rfl)
  refine go_seg 3 (pc' := 237) (ls' := [(3, .int 0), (2, .ref 90), (1, .ref 1), (0, .ref 0)]) (st' := [.int a2, .int 28, .ref 90, .int (-1)]) (w' := (wd_1272 (sz a0 28 a2 a3 a4 a5) a2)) (cs' := 109) (ss' := 12668) ?_ (fun _ _ => rfl)
  refine go_cl (k := 20) (st' := [.int (-1), .int (-1)]) (cs' := 109) (ss' := 12668) rfl rfl rfl rfl rfl rfl rfl (ro_1423 (sz a0 28 a2 a3 a4 a5) a2 (by omega) (by omega)) ?_
  refine go_cmp true rfl (br_self _) ?_
  exact law_tail (f := sc a0 28 a2 a3 a4 a5) rfl
theorem ro_1425 (z : pq_C) : pq_Ru 1 13 [.int 29] (fw z) (some (.int 1), (fw z)) := by
  refine ru_of (k := 0) (M := pm_13) rfl rfl ?_
  exact go_end 8 (fun _ _ => rfl)
def wd_1274 (z : pq_C) (a2 : Int32) : pq_W := ((fw z).set 3 (.inl (.int, 64, .inl (upd (fl_c 64 (-1) (fun _ => 0)) 29 a2))))
theorem ro_1426 (z : pq_C) (a2 : Int32) (h0 : -1 ≤ a2.toInt) (h1 : a2.toInt < 8) : pq_Ru 2 12 [.ref 1, .int 29, .int a2] (fw z) (some (.int (-1)), (wd_1274 z a2)) := by
  refine ru_of (k := 1) (M := pm_12) rfl rfl ?_
  refine go_seg 1 (pc' := 1) (ls' := [(0, .ref 1), (1, .int 29), (2, .int a2)]) (st' := [.int 29]) (w' := (fw z)) (cs' := 0) (ss' := 0) ?_ (fun _ _ => rfl)
  refine go_cl (k := 1) (st' := [.int 1]) (cs' := 0) (ss' := 0) rfl rfl rfl rfl rfl rfl rfl (ro_1425 z) ?_
  refine go_seg 2 (pc' := 8) (ls' := [(0, .ref 1), (1, .int 29), (2, .int a2)]) (st' := [.int a2]) (w' := (fw z)) (cs' := 0) (ss' := 0) ?_ (fun _ _ => rfl)
  refine go_cl (k := 1) (st' := [.int 1]) (cs' := 0) (ss' := 0) rfl rfl rfl rfl rfl rfl rfl (ro_1193 z a2 (by omega) (by omega)) ?_
  refine go_seg 8 (pc' := 31) (ls' := [(3, .int (-1)), (0, .ref 1), (1, .int 29), (2, .int a2)]) (st' := [.ref 1]) (w' := (fw z)) (cs' := 0) (ss' := 0) ?_ (fun _ _ => rfl)
  exact go_end 7 (fun _ _ => rfl)
theorem ro_1428 (z : pq_C) (a2 : Int32) (h0 : -1 ≤ a2.toInt) (h1 : a2.toInt < 8) : pq_Ru 1 161 [.long 29, .long 0, .long 63] (wd_1274 z a2) (some (.int 1), (wd_1274 z a2)) := by
  refine ru_of (k := 0) (M := pm_161) rfl rfl ?_
  refine go_seg 8 (pc' := 13) (ls' := [(0, .long 29), (2, .long 0), (4, .long 63)]) (st' := []) (w' := (wd_1274 z a2)) (cs' := 0) (ss' := 0) ?_ (fun _ _ => rfl)
  exact go_end 3 (fun _ _ => rfl)
theorem ro_1429 (z : pq_C) (a2 : Int32) (h0 : -1 ≤ a2.toInt) (h1 : a2.toInt < 8) : pq_Ru 2 160 [.int 29] (wd_1274 z a2) (some (.int 1), (wd_1274 z a2)) := by
  refine ru_of (k := 1) (M := pm_160) rfl rfl ?_
  refine go_seg 4 (pc' := 6) (ls' := [(0, .int 29)]) (st' := [.long 63, .long 0, .long 29]) (w' := (wd_1274 z a2)) (cs' := 0) (ss' := 0) ?_ (fun _ _ => rfl)
  refine go_cl (k := 1) (st' := [.int 1]) (cs' := 0) (ss' := 0) rfl rfl rfl rfl rfl rfl rfl (ro_1428 z a2 (by omega) (by omega)) ?_
  exact go_end 1 (fun _ _ => rfl)
def wd_1275 (z : pq_C) (a2 : Int32) : pq_W := ((wd_1274 z a2).set 91 (.inl (.int, 2858, .inl (upd (upd (upd (upd (upd (upd (upd (upd (upd (upd (upd (upd (upd (upd (upd (upd (upd (upd (upd (upd (upd (upd (upd (upd (upd (upd (upd (upd (upd (upd (upd (upd (upd (upd (upd (upd (upd (upd (upd (upd (upd (upd (upd (upd (upd (upd (upd (upd (upd (upd (upd (upd (upd (upd (upd (upd (upd (upd (upd (upd (upd (upd (upd (upd (upd (upd (upd (upd (upd (upd (upd (upd (upd (upd (upd (upd (upd (upd (upd (upd (upd (upd (fun _ => 0) 1 10) 10 (-1)) 11 (-1)) 12 (-1)) 13 (-1)) 14 (-1)) 15 (-1)) 16 (-1)) 17 (-1)) 18 (-1)) 19 (-1)) 20 (-1)) 21 (-1)) 22 (-1)) 23 (-1)) 24 (-1)) 25 (-1)) 26 (-1)) 27 (-1)) 28 (-1)) 29 (-1)) 30 (-1)) 31 (-1)) 32 (-1)) 33 (-1)) 34 (-1)) 35 (-1)) 36 (-1)) 37 (-1)) 38 (-1)) 39 (-1)) 40 (-1)) 41 (-1)) 42 (-1)) 43 (-1)) 44 (-1)) 45 (-1)) 46 (-1)) 47 (-1)) 48 (-1)) 49 (-1)) 50 (-1)) 51 (-1)) 52 (-1)) 53 (-1)) 54 (-1)) 55 (-1)) 56 (-1)) 57 (-1)) 58 (-1)) 59 (-1)) 60 (-1)) 61 (-1)) 62 (-1)) 63 (-1)) 64 (-1)) 65 (-1)) 66 (-1)) 67 (-1)) 68 (-1)) 69 (-1)) 70 (-1)) 71 (-1)) 72 (-1)) 73 (-1)) 139 1000) 140 100) 145 1000) 146 100) 151 1000) 152 100) 157 1000) 158 100) 163 1000) 164 100) 169 1000) 170 100) 175 1000) 176 100) 181 1000) 182 100) 39 a2))))
theorem ro_1431 (z : pq_C) (a2 : Int32) (h0 : -1 ≤ a2.toInt) (h1 : a2.toInt < 8) : pq_Ru 3 159 [.ref 90, .int 29, .int a2] (wd_1274 z a2) (some (.int (-1)), (wd_1275 z a2)) := by
  refine ru_of (k := 2) (M := pm_159) rfl rfl ?_
  refine go_seg 1 (pc' := 1) (ls' := [(0, .ref 90), (1, .int 29), (2, .int a2)]) (st' := [.int 29]) (w' := (wd_1274 z a2)) (cs' := 0) (ss' := 0) ?_ (fun _ _ => rfl)
  refine go_cl (k := 2) (st' := [.int 1]) (cs' := 0) (ss' := 0) rfl rfl rfl rfl rfl rfl rfl (ro_1429 z a2 (by omega) (by omega)) ?_
  refine go_seg 5 (pc' := 15) (ls' := [(0, .ref 90), (1, .int 29), (2, .int a2)]) (st' := [.long 7, .long (-1), .long a2.toInt64]) (w' := (wd_1274 z a2)) (cs' := 0) (ss' := 0) ?_ (fun _ _ => rfl)
  refine go_cl (k := 2) (st' := [.int 1]) (cs' := 0) (ss' := 0) rfl rfl rfl rfl rfl rfl rfl (wi_t _ a2 (-1) 7 (-1) 7 rfl rfl (by omega)) ?_
  refine go_seg 8 (pc' := 38) (ls' := [(3, .int (-1)), (0, .ref 90), (1, .int 29), (2, .int a2)]) (st' := []) (w' := (wd_1274 z a2)) (cs' := 0) (ss' := 0) ?_ (fun _ _ => rfl)
  refine go_seg 8 (pc' := 49) (ls' := [(3, .int (-1)), (0, .ref 90), (1, .int 29), (2, .int a2)]) (st' := [.int (-1)]) (w' := (wd_1275 z a2)) (cs' := 0) (ss' := 0) ?_ (fun _ _ => rfl)
  exact go_end 1 (fun _ _ => rfl)
theorem lf_0_1432 (a0 : Int32) (a2 : Int32) (a3 : Int32) (a4 : Int32) (a5 : Int32) (h0 : -1 ≤ a2.toInt) (h1 : a2.toInt < 8) : ∃ w', pq_Go 20 pm_law 212 [(3, .int 0), (2, .ref 90), (1, .ref 1), (0, .ref 0)] [] (fw (sz a0 29 a2 a3 a4 a5)) 109 12668 (some (.int 1), w') := by
  refine ⟨(wd_1275 (sz a0 29 a2 a3 a4 a5) a2), ?_⟩
  refine go_seg 8 (pc' := 220) (ls' := [(3, .int 0), (2, .ref 90), (1, .ref 1), (0, .ref 0)]) (st' := [.int 0, .ref 0, .int 29, .ref 1]) (w' := (fw (sz a0 29 a2 a3 a4 a5))) (cs' := 109) (ss' := 12668) ?_ (fun _ _ => rfl)
  refine go_seg 3 (pc' := 223) (ls' := [(3, .int 0), (2, .ref 90), (1, .ref 1), (0, .ref 0)]) (st' := [.int a2, .int 29, .ref 1]) (w' := (fw (sz a0 29 a2 a3 a4 a5))) (cs' := 109) (ss' := 12668) ?_ (fun _ _ => rfl)
  refine go_cl (k := 20) (st' := [.int (-1)]) (cs' := 109) (ss' := 12668) rfl rfl rfl rfl rfl rfl rfl (ro_1426 (sz a0 29 a2 a3 a4 a5) a2 (by omega) (by omega)) ?_
  refine go_seg 8 (pc' := 234) (ls' := [(3, .int 0), (2, .ref 90), (1, .ref 1), (0, .ref 0)]) (st' := [.int 0, .ref 0, .int 29, .ref 90, .int (-1)]) (w' := (wd_1274 (sz a0 29 a2 a3 a4 a5) a2)) (cs' := 109) (ss' := 12668) ?_ (fun _ _ => rfl)
  refine go_seg 3 (pc' := 237) (ls' := [(3, .int 0), (2, .ref 90), (1, .ref 1), (0, .ref 0)]) (st' := [.int a2, .int 29, .ref 90, .int (-1)]) (w' := (wd_1274 (sz a0 29 a2 a3 a4 a5) a2)) (cs' := 109) (ss' := 12668) ?_ (fun _ _ => rfl)
  refine go_cl (k := 20) (st' := [.int (-1), .int (-1)]) (cs' := 109) (ss' := 12668) rfl rfl rfl rfl rfl rfl rfl (ro_1431 (sz a0 29 a2 a3 a4 a5) a2 (by omega) (by omega)) ?_
  refine go_cmp true rfl (br_self _) ?_
  exact law_tail (f := sc a0 29 a2 a3 a4 a5) rfl
theorem ro_1433 (z : pq_C) : pq_Ru 1 13 [.int 30] (fw z) (some (.int 1), (fw z)) := by
  refine ru_of (k := 0) (M := pm_13) rfl rfl ?_
  exact go_end 8 (fun _ _ => rfl)
def wd_1276 (z : pq_C) (a2 : Int32) : pq_W := ((fw z).set 3 (.inl (.int, 64, .inl (upd (fl_c 64 (-1) (fun _ => 0)) 30 a2))))
theorem ro_1434 (z : pq_C) (a2 : Int32) (h0 : -1 ≤ a2.toInt) (h1 : a2.toInt < 8) : pq_Ru 2 12 [.ref 1, .int 30, .int a2] (fw z) (some (.int (-1)), (wd_1276 z a2)) := by
  refine ru_of (k := 1) (M := pm_12) rfl rfl ?_
  refine go_seg 1 (pc' := 1) (ls' := [(0, .ref 1), (1, .int 30), (2, .int a2)]) (st' := [.int 30]) (w' := (fw z)) (cs' := 0) (ss' := 0) ?_ (fun _ _ => rfl)
  refine go_cl (k := 1) (st' := [.int 1]) (cs' := 0) (ss' := 0) rfl rfl rfl rfl rfl rfl rfl (ro_1433 z) ?_
  refine go_seg 2 (pc' := 8) (ls' := [(0, .ref 1), (1, .int 30), (2, .int a2)]) (st' := [.int a2]) (w' := (fw z)) (cs' := 0) (ss' := 0) ?_ (fun _ _ => rfl)
  refine go_cl (k := 1) (st' := [.int 1]) (cs' := 0) (ss' := 0) rfl rfl rfl rfl rfl rfl rfl (ro_1193 z a2 (by omega) (by omega)) ?_
  refine go_seg 8 (pc' := 31) (ls' := [(3, .int (-1)), (0, .ref 1), (1, .int 30), (2, .int a2)]) (st' := [.ref 1]) (w' := (fw z)) (cs' := 0) (ss' := 0) ?_ (fun _ _ => rfl)
  exact go_end 7 (fun _ _ => rfl)
theorem ro_1436 (z : pq_C) (a2 : Int32) (h0 : -1 ≤ a2.toInt) (h1 : a2.toInt < 8) : pq_Ru 1 161 [.long 30, .long 0, .long 63] (wd_1276 z a2) (some (.int 1), (wd_1276 z a2)) := by
  refine ru_of (k := 0) (M := pm_161) rfl rfl ?_
  refine go_seg 8 (pc' := 13) (ls' := [(0, .long 30), (2, .long 0), (4, .long 63)]) (st' := []) (w' := (wd_1276 z a2)) (cs' := 0) (ss' := 0) ?_ (fun _ _ => rfl)
  exact go_end 3 (fun _ _ => rfl)
theorem ro_1437 (z : pq_C) (a2 : Int32) (h0 : -1 ≤ a2.toInt) (h1 : a2.toInt < 8) : pq_Ru 2 160 [.int 30] (wd_1276 z a2) (some (.int 1), (wd_1276 z a2)) := by
  refine ru_of (k := 1) (M := pm_160) rfl rfl ?_
  refine go_seg 4 (pc' := 6) (ls' := [(0, .int 30)]) (st' := [.long 63, .long 0, .long 30]) (w' := (wd_1276 z a2)) (cs' := 0) (ss' := 0) ?_ (fun _ _ => rfl)
  refine go_cl (k := 1) (st' := [.int 1]) (cs' := 0) (ss' := 0) rfl rfl rfl rfl rfl rfl rfl (ro_1436 z a2 (by omega) (by omega)) ?_
  exact go_end 1 (fun _ _ => rfl)
def wd_1277 (z : pq_C) (a2 : Int32) : pq_W := ((wd_1276 z a2).set 91 (.inl (.int, 2858, .inl (upd (upd (upd (upd (upd (upd (upd (upd (upd (upd (upd (upd (upd (upd (upd (upd (upd (upd (upd (upd (upd (upd (upd (upd (upd (upd (upd (upd (upd (upd (upd (upd (upd (upd (upd (upd (upd (upd (upd (upd (upd (upd (upd (upd (upd (upd (upd (upd (upd (upd (upd (upd (upd (upd (upd (upd (upd (upd (upd (upd (upd (upd (upd (upd (upd (upd (upd (upd (upd (upd (upd (upd (upd (upd (upd (upd (upd (upd (upd (upd (upd (upd (fun _ => 0) 1 10) 10 (-1)) 11 (-1)) 12 (-1)) 13 (-1)) 14 (-1)) 15 (-1)) 16 (-1)) 17 (-1)) 18 (-1)) 19 (-1)) 20 (-1)) 21 (-1)) 22 (-1)) 23 (-1)) 24 (-1)) 25 (-1)) 26 (-1)) 27 (-1)) 28 (-1)) 29 (-1)) 30 (-1)) 31 (-1)) 32 (-1)) 33 (-1)) 34 (-1)) 35 (-1)) 36 (-1)) 37 (-1)) 38 (-1)) 39 (-1)) 40 (-1)) 41 (-1)) 42 (-1)) 43 (-1)) 44 (-1)) 45 (-1)) 46 (-1)) 47 (-1)) 48 (-1)) 49 (-1)) 50 (-1)) 51 (-1)) 52 (-1)) 53 (-1)) 54 (-1)) 55 (-1)) 56 (-1)) 57 (-1)) 58 (-1)) 59 (-1)) 60 (-1)) 61 (-1)) 62 (-1)) 63 (-1)) 64 (-1)) 65 (-1)) 66 (-1)) 67 (-1)) 68 (-1)) 69 (-1)) 70 (-1)) 71 (-1)) 72 (-1)) 73 (-1)) 139 1000) 140 100) 145 1000) 146 100) 151 1000) 152 100) 157 1000) 158 100) 163 1000) 164 100) 169 1000) 170 100) 175 1000) 176 100) 181 1000) 182 100) 40 a2))))
theorem ro_1439 (z : pq_C) (a2 : Int32) (h0 : -1 ≤ a2.toInt) (h1 : a2.toInt < 8) : pq_Ru 3 159 [.ref 90, .int 30, .int a2] (wd_1276 z a2) (some (.int (-1)), (wd_1277 z a2)) := by
  refine ru_of (k := 2) (M := pm_159) rfl rfl ?_
  refine go_seg 1 (pc' := 1) (ls' := [(0, .ref 90), (1, .int 30), (2, .int a2)]) (st' := [.int 30]) (w' := (wd_1276 z a2)) (cs' := 0) (ss' := 0) ?_ (fun _ _ => rfl)
  refine go_cl (k := 2) (st' := [.int 1]) (cs' := 0) (ss' := 0) rfl rfl rfl rfl rfl rfl rfl (ro_1437 z a2 (by omega) (by omega)) ?_
  refine go_seg 5 (pc' := 15) (ls' := [(0, .ref 90), (1, .int 30), (2, .int a2)]) (st' := [.long 7, .long (-1), .long a2.toInt64]) (w' := (wd_1276 z a2)) (cs' := 0) (ss' := 0) ?_ (fun _ _ => rfl)
  refine go_cl (k := 2) (st' := [.int 1]) (cs' := 0) (ss' := 0) rfl rfl rfl rfl rfl rfl rfl (wi_t _ a2 (-1) 7 (-1) 7 rfl rfl (by omega)) ?_
  refine go_seg 8 (pc' := 38) (ls' := [(3, .int (-1)), (0, .ref 90), (1, .int 30), (2, .int a2)]) (st' := []) (w' := (wd_1276 z a2)) (cs' := 0) (ss' := 0) ?_ (fun _ _ => rfl)
  refine go_seg 8 (pc' := 49) (ls' := [(3, .int (-1)), (0, .ref 90), (1, .int 30), (2, .int a2)]) (st' := [.int (-1)]) (w' := (wd_1277 z a2)) (cs' := 0) (ss' := 0) ?_ (fun _ _ => rfl)
  exact go_end 1 (fun _ _ => rfl)
theorem lf_0_1440 (a0 : Int32) (a2 : Int32) (a3 : Int32) (a4 : Int32) (a5 : Int32) (h0 : -1 ≤ a2.toInt) (h1 : a2.toInt < 8) : ∃ w', pq_Go 20 pm_law 212 [(3, .int 0), (2, .ref 90), (1, .ref 1), (0, .ref 0)] [] (fw (sz a0 30 a2 a3 a4 a5)) 109 12668 (some (.int 1), w') := by
  refine ⟨(wd_1277 (sz a0 30 a2 a3 a4 a5) a2), ?_⟩
  refine go_seg 8 (pc' := 220) (ls' := [(3, .int 0), (2, .ref 90), (1, .ref 1), (0, .ref 0)]) (st' := [.int 0, .ref 0, .int 30, .ref 1]) (w' := (fw (sz a0 30 a2 a3 a4 a5))) (cs' := 109) (ss' := 12668) ?_ (fun _ _ => rfl)
  refine go_seg 3 (pc' := 223) (ls' := [(3, .int 0), (2, .ref 90), (1, .ref 1), (0, .ref 0)]) (st' := [.int a2, .int 30, .ref 1]) (w' := (fw (sz a0 30 a2 a3 a4 a5))) (cs' := 109) (ss' := 12668) ?_ (fun _ _ => rfl)
  refine go_cl (k := 20) (st' := [.int (-1)]) (cs' := 109) (ss' := 12668) rfl rfl rfl rfl rfl rfl rfl (ro_1434 (sz a0 30 a2 a3 a4 a5) a2 (by omega) (by omega)) ?_
  refine go_seg 8 (pc' := 234) (ls' := [(3, .int 0), (2, .ref 90), (1, .ref 1), (0, .ref 0)]) (st' := [.int 0, .ref 0, .int 30, .ref 90, .int (-1)]) (w' := (wd_1276 (sz a0 30 a2 a3 a4 a5) a2)) (cs' := 109) (ss' := 12668) ?_ (fun _ _ => rfl)
  refine go_seg 3 (pc' := 237) (ls' := [(3, .int 0), (2, .ref 90), (1, .ref 1), (0, .ref 0)]) (st' := [.int a2, .int 30, .ref 90, .int (-1)]) (w' := (wd_1276 (sz a0 30 a2 a3 a4 a5) a2)) (cs' := 109) (ss' := 12668) ?_ (fun _ _ => rfl)
  refine go_cl (k := 20) (st' := [.int (-1), .int (-1)]) (cs' := 109) (ss' := 12668) rfl rfl rfl rfl rfl rfl rfl (ro_1439 (sz a0 30 a2 a3 a4 a5) a2 (by omega) (by omega)) ?_
  refine go_cmp true rfl (br_self _) ?_
  exact law_tail (f := sc a0 30 a2 a3 a4 a5) rfl
theorem ro_1441 (z : pq_C) : pq_Ru 1 13 [.int 31] (fw z) (some (.int 1), (fw z)) := by
  refine ru_of (k := 0) (M := pm_13) rfl rfl ?_
  exact go_end 8 (fun _ _ => rfl)
def wd_1278 (z : pq_C) (a2 : Int32) : pq_W := ((fw z).set 3 (.inl (.int, 64, .inl (upd (fl_c 64 (-1) (fun _ => 0)) 31 a2))))
theorem ro_1442 (z : pq_C) (a2 : Int32) (h0 : -1 ≤ a2.toInt) (h1 : a2.toInt < 8) : pq_Ru 2 12 [.ref 1, .int 31, .int a2] (fw z) (some (.int (-1)), (wd_1278 z a2)) := by
  refine ru_of (k := 1) (M := pm_12) rfl rfl ?_
  refine go_seg 1 (pc' := 1) (ls' := [(0, .ref 1), (1, .int 31), (2, .int a2)]) (st' := [.int 31]) (w' := (fw z)) (cs' := 0) (ss' := 0) ?_ (fun _ _ => rfl)
  refine go_cl (k := 1) (st' := [.int 1]) (cs' := 0) (ss' := 0) rfl rfl rfl rfl rfl rfl rfl (ro_1441 z) ?_
  refine go_seg 2 (pc' := 8) (ls' := [(0, .ref 1), (1, .int 31), (2, .int a2)]) (st' := [.int a2]) (w' := (fw z)) (cs' := 0) (ss' := 0) ?_ (fun _ _ => rfl)
  refine go_cl (k := 1) (st' := [.int 1]) (cs' := 0) (ss' := 0) rfl rfl rfl rfl rfl rfl rfl (ro_1193 z a2 (by omega) (by omega)) ?_
  refine go_seg 8 (pc' := 31) (ls' := [(3, .int (-1)), (0, .ref 1), (1, .int 31), (2, .int a2)]) (st' := [.ref 1]) (w' := (fw z)) (cs' := 0) (ss' := 0) ?_ (fun _ _ => rfl)
  exact go_end 7 (fun _ _ => rfl)
theorem ro_1444 (z : pq_C) (a2 : Int32) (h0 : -1 ≤ a2.toInt) (h1 : a2.toInt < 8) : pq_Ru 1 161 [.long 31, .long 0, .long 63] (wd_1278 z a2) (some (.int 1), (wd_1278 z a2)) := by
  refine ru_of (k := 0) (M := pm_161) rfl rfl ?_
  refine go_seg 8 (pc' := 13) (ls' := [(0, .long 31), (2, .long 0), (4, .long 63)]) (st' := []) (w' := (wd_1278 z a2)) (cs' := 0) (ss' := 0) ?_ (fun _ _ => rfl)
  exact go_end 3 (fun _ _ => rfl)
theorem ro_1445 (z : pq_C) (a2 : Int32) (h0 : -1 ≤ a2.toInt) (h1 : a2.toInt < 8) : pq_Ru 2 160 [.int 31] (wd_1278 z a2) (some (.int 1), (wd_1278 z a2)) := by
  refine ru_of (k := 1) (M := pm_160) rfl rfl ?_
  refine go_seg 4 (pc' := 6) (ls' := [(0, .int 31)]) (st' := [.long 63, .long 0, .long 31]) (w' := (wd_1278 z a2)) (cs' := 0) (ss' := 0) ?_ (fun _ _ => rfl)
  refine go_cl (k := 1) (st' := [.int 1]) (cs' := 0) (ss' := 0) rfl rfl rfl rfl rfl rfl rfl (ro_1444 z a2 (by omega) (by omega)) ?_
  exact go_end 1 (fun _ _ => rfl)
def wd_1279 (z : pq_C) (a2 : Int32) : pq_W := ((wd_1278 z a2).set 91 (.inl (.int, 2858, .inl (upd (upd (upd (upd (upd (upd (upd (upd (upd (upd (upd (upd (upd (upd (upd (upd (upd (upd (upd (upd (upd (upd (upd (upd (upd (upd (upd (upd (upd (upd (upd (upd (upd (upd (upd (upd (upd (upd (upd (upd (upd (upd (upd (upd (upd (upd (upd (upd (upd (upd (upd (upd (upd (upd (upd (upd (upd (upd (upd (upd (upd (upd (upd (upd (upd (upd (upd (upd (upd (upd (upd (upd (upd (upd (upd (upd (upd (upd (upd (upd (upd (upd (fun _ => 0) 1 10) 10 (-1)) 11 (-1)) 12 (-1)) 13 (-1)) 14 (-1)) 15 (-1)) 16 (-1)) 17 (-1)) 18 (-1)) 19 (-1)) 20 (-1)) 21 (-1)) 22 (-1)) 23 (-1)) 24 (-1)) 25 (-1)) 26 (-1)) 27 (-1)) 28 (-1)) 29 (-1)) 30 (-1)) 31 (-1)) 32 (-1)) 33 (-1)) 34 (-1)) 35 (-1)) 36 (-1)) 37 (-1)) 38 (-1)) 39 (-1)) 40 (-1)) 41 (-1)) 42 (-1)) 43 (-1)) 44 (-1)) 45 (-1)) 46 (-1)) 47 (-1)) 48 (-1)) 49 (-1)) 50 (-1)) 51 (-1)) 52 (-1)) 53 (-1)) 54 (-1)) 55 (-1)) 56 (-1)) 57 (-1)) 58 (-1)) 59 (-1)) 60 (-1)) 61 (-1)) 62 (-1)) 63 (-1)) 64 (-1)) 65 (-1)) 66 (-1)) 67 (-1)) 68 (-1)) 69 (-1)) 70 (-1)) 71 (-1)) 72 (-1)) 73 (-1)) 139 1000) 140 100) 145 1000) 146 100) 151 1000) 152 100) 157 1000) 158 100) 163 1000) 164 100) 169 1000) 170 100) 175 1000) 176 100) 181 1000) 182 100) 41 a2))))
theorem ro_1447 (z : pq_C) (a2 : Int32) (h0 : -1 ≤ a2.toInt) (h1 : a2.toInt < 8) : pq_Ru 3 159 [.ref 90, .int 31, .int a2] (wd_1278 z a2) (some (.int (-1)), (wd_1279 z a2)) := by
  refine ru_of (k := 2) (M := pm_159) rfl rfl ?_
  refine go_seg 1 (pc' := 1) (ls' := [(0, .ref 90), (1, .int 31), (2, .int a2)]) (st' := [.int 31]) (w' := (wd_1278 z a2)) (cs' := 0) (ss' := 0) ?_ (fun _ _ => rfl)
  refine go_cl (k := 2) (st' := [.int 1]) (cs' := 0) (ss' := 0) rfl rfl rfl rfl rfl rfl rfl (ro_1445 z a2 (by omega) (by omega)) ?_
  refine go_seg 5 (pc' := 15) (ls' := [(0, .ref 90), (1, .int 31), (2, .int a2)]) (st' := [.long 7, .long (-1), .long a2.toInt64]) (w' := (wd_1278 z a2)) (cs' := 0) (ss' := 0) ?_ (fun _ _ => rfl)
  refine go_cl (k := 2) (st' := [.int 1]) (cs' := 0) (ss' := 0) rfl rfl rfl rfl rfl rfl rfl (wi_t _ a2 (-1) 7 (-1) 7 rfl rfl (by omega)) ?_
  refine go_seg 8 (pc' := 38) (ls' := [(3, .int (-1)), (0, .ref 90), (1, .int 31), (2, .int a2)]) (st' := []) (w' := (wd_1278 z a2)) (cs' := 0) (ss' := 0) ?_ (fun _ _ => rfl)
  refine go_seg 8 (pc' := 49) (ls' := [(3, .int (-1)), (0, .ref 90), (1, .int 31), (2, .int a2)]) (st' := [.int (-1)]) (w' := (wd_1279 z a2)) (cs' := 0) (ss' := 0) ?_ (fun _ _ => rfl)
  exact go_end 1 (fun _ _ => rfl)
theorem lf_0_1448 (a0 : Int32) (a2 : Int32) (a3 : Int32) (a4 : Int32) (a5 : Int32) (h0 : -1 ≤ a2.toInt) (h1 : a2.toInt < 8) : ∃ w', pq_Go 20 pm_law 212 [(3, .int 0), (2, .ref 90), (1, .ref 1), (0, .ref 0)] [] (fw (sz a0 31 a2 a3 a4 a5)) 109 12668 (some (.int 1), w') := by
  refine ⟨(wd_1279 (sz a0 31 a2 a3 a4 a5) a2), ?_⟩
  refine go_seg 8 (pc' := 220) (ls' := [(3, .int 0), (2, .ref 90), (1, .ref 1), (0, .ref 0)]) (st' := [.int 0, .ref 0, .int 31, .ref 1]) (w' := (fw (sz a0 31 a2 a3 a4 a5))) (cs' := 109) (ss' := 12668) ?_ (fun _ _ => rfl)
  refine go_seg 3 (pc' := 223) (ls' := [(3, .int 0), (2, .ref 90), (1, .ref 1), (0, .ref 0)]) (st' := [.int a2, .int 31, .ref 1]) (w' := (fw (sz a0 31 a2 a3 a4 a5))) (cs' := 109) (ss' := 12668) ?_ (fun _ _ => rfl)
  refine go_cl (k := 20) (st' := [.int (-1)]) (cs' := 109) (ss' := 12668) rfl rfl rfl rfl rfl rfl rfl (ro_1442 (sz a0 31 a2 a3 a4 a5) a2 (by omega) (by omega)) ?_
  refine go_seg 8 (pc' := 234) (ls' := [(3, .int 0), (2, .ref 90), (1, .ref 1), (0, .ref 0)]) (st' := [.int 0, .ref 0, .int 31, .ref 90, .int (-1)]) (w' := (wd_1278 (sz a0 31 a2 a3 a4 a5) a2)) (cs' := 109) (ss' := 12668) ?_ (fun _ _ => rfl)
  refine go_seg 3 (pc' := 237) (ls' := [(3, .int 0), (2, .ref 90), (1, .ref 1), (0, .ref 0)]) (st' := [.int a2, .int 31, .ref 90, .int (-1)]) (w' := (wd_1278 (sz a0 31 a2 a3 a4 a5) a2)) (cs' := 109) (ss' := 12668) ?_ (fun _ _ => rfl)
  refine go_cl (k := 20) (st' := [.int (-1), .int (-1)]) (cs' := 109) (ss' := 12668) rfl rfl rfl rfl rfl rfl rfl (ro_1447 (sz a0 31 a2 a3 a4 a5) a2 (by omega) (by omega)) ?_
  refine go_cmp true rfl (br_self _) ?_
  exact law_tail (f := sc a0 31 a2 a3 a4 a5) rfl
theorem ro_1449 (z : pq_C) : pq_Ru 1 13 [.int 32] (fw z) (some (.int 1), (fw z)) := by
  refine ru_of (k := 0) (M := pm_13) rfl rfl ?_
  exact go_end 8 (fun _ _ => rfl)
def wd_1280 (z : pq_C) (a2 : Int32) : pq_W := ((fw z).set 3 (.inl (.int, 64, .inl (upd (fl_c 64 (-1) (fun _ => 0)) 32 a2))))
theorem ro_1450 (z : pq_C) (a2 : Int32) (h0 : -1 ≤ a2.toInt) (h1 : a2.toInt < 8) : pq_Ru 2 12 [.ref 1, .int 32, .int a2] (fw z) (some (.int (-1)), (wd_1280 z a2)) := by
  refine ru_of (k := 1) (M := pm_12) rfl rfl ?_
  refine go_seg 1 (pc' := 1) (ls' := [(0, .ref 1), (1, .int 32), (2, .int a2)]) (st' := [.int 32]) (w' := (fw z)) (cs' := 0) (ss' := 0) ?_ (fun _ _ => rfl)
  refine go_cl (k := 1) (st' := [.int 1]) (cs' := 0) (ss' := 0) rfl rfl rfl rfl rfl rfl rfl (ro_1449 z) ?_
  refine go_seg 2 (pc' := 8) (ls' := [(0, .ref 1), (1, .int 32), (2, .int a2)]) (st' := [.int a2]) (w' := (fw z)) (cs' := 0) (ss' := 0) ?_ (fun _ _ => rfl)
  refine go_cl (k := 1) (st' := [.int 1]) (cs' := 0) (ss' := 0) rfl rfl rfl rfl rfl rfl rfl (ro_1193 z a2 (by omega) (by omega)) ?_
  refine go_seg 8 (pc' := 31) (ls' := [(3, .int (-1)), (0, .ref 1), (1, .int 32), (2, .int a2)]) (st' := [.ref 1]) (w' := (fw z)) (cs' := 0) (ss' := 0) ?_ (fun _ _ => rfl)
  exact go_end 7 (fun _ _ => rfl)
theorem ro_1452 (z : pq_C) (a2 : Int32) (h0 : -1 ≤ a2.toInt) (h1 : a2.toInt < 8) : pq_Ru 1 161 [.long 32, .long 0, .long 63] (wd_1280 z a2) (some (.int 1), (wd_1280 z a2)) := by
  refine ru_of (k := 0) (M := pm_161) rfl rfl ?_
  refine go_seg 8 (pc' := 13) (ls' := [(0, .long 32), (2, .long 0), (4, .long 63)]) (st' := []) (w' := (wd_1280 z a2)) (cs' := 0) (ss' := 0) ?_ (fun _ _ => rfl)
  exact go_end 3 (fun _ _ => rfl)
theorem ro_1453 (z : pq_C) (a2 : Int32) (h0 : -1 ≤ a2.toInt) (h1 : a2.toInt < 8) : pq_Ru 2 160 [.int 32] (wd_1280 z a2) (some (.int 1), (wd_1280 z a2)) := by
  refine ru_of (k := 1) (M := pm_160) rfl rfl ?_
  refine go_seg 4 (pc' := 6) (ls' := [(0, .int 32)]) (st' := [.long 63, .long 0, .long 32]) (w' := (wd_1280 z a2)) (cs' := 0) (ss' := 0) ?_ (fun _ _ => rfl)
  refine go_cl (k := 1) (st' := [.int 1]) (cs' := 0) (ss' := 0) rfl rfl rfl rfl rfl rfl rfl (ro_1452 z a2 (by omega) (by omega)) ?_
  exact go_end 1 (fun _ _ => rfl)
def wd_1281 (z : pq_C) (a2 : Int32) : pq_W := ((wd_1280 z a2).set 91 (.inl (.int, 2858, .inl (upd (upd (upd (upd (upd (upd (upd (upd (upd (upd (upd (upd (upd (upd (upd (upd (upd (upd (upd (upd (upd (upd (upd (upd (upd (upd (upd (upd (upd (upd (upd (upd (upd (upd (upd (upd (upd (upd (upd (upd (upd (upd (upd (upd (upd (upd (upd (upd (upd (upd (upd (upd (upd (upd (upd (upd (upd (upd (upd (upd (upd (upd (upd (upd (upd (upd (upd (upd (upd (upd (upd (upd (upd (upd (upd (upd (upd (upd (upd (upd (upd (upd (fun _ => 0) 1 10) 10 (-1)) 11 (-1)) 12 (-1)) 13 (-1)) 14 (-1)) 15 (-1)) 16 (-1)) 17 (-1)) 18 (-1)) 19 (-1)) 20 (-1)) 21 (-1)) 22 (-1)) 23 (-1)) 24 (-1)) 25 (-1)) 26 (-1)) 27 (-1)) 28 (-1)) 29 (-1)) 30 (-1)) 31 (-1)) 32 (-1)) 33 (-1)) 34 (-1)) 35 (-1)) 36 (-1)) 37 (-1)) 38 (-1)) 39 (-1)) 40 (-1)) 41 (-1)) 42 (-1)) 43 (-1)) 44 (-1)) 45 (-1)) 46 (-1)) 47 (-1)) 48 (-1)) 49 (-1)) 50 (-1)) 51 (-1)) 52 (-1)) 53 (-1)) 54 (-1)) 55 (-1)) 56 (-1)) 57 (-1)) 58 (-1)) 59 (-1)) 60 (-1)) 61 (-1)) 62 (-1)) 63 (-1)) 64 (-1)) 65 (-1)) 66 (-1)) 67 (-1)) 68 (-1)) 69 (-1)) 70 (-1)) 71 (-1)) 72 (-1)) 73 (-1)) 139 1000) 140 100) 145 1000) 146 100) 151 1000) 152 100) 157 1000) 158 100) 163 1000) 164 100) 169 1000) 170 100) 175 1000) 176 100) 181 1000) 182 100) 42 a2))))
theorem ro_1455 (z : pq_C) (a2 : Int32) (h0 : -1 ≤ a2.toInt) (h1 : a2.toInt < 8) : pq_Ru 3 159 [.ref 90, .int 32, .int a2] (wd_1280 z a2) (some (.int (-1)), (wd_1281 z a2)) := by
  refine ru_of (k := 2) (M := pm_159) rfl rfl ?_
  refine go_seg 1 (pc' := 1) (ls' := [(0, .ref 90), (1, .int 32), (2, .int a2)]) (st' := [.int 32]) (w' := (wd_1280 z a2)) (cs' := 0) (ss' := 0) ?_ (fun _ _ => rfl)
  refine go_cl (k := 2) (st' := [.int 1]) (cs' := 0) (ss' := 0) rfl rfl rfl rfl rfl rfl rfl (ro_1453 z a2 (by omega) (by omega)) ?_
  refine go_seg 5 (pc' := 15) (ls' := [(0, .ref 90), (1, .int 32), (2, .int a2)]) (st' := [.long 7, .long (-1), .long a2.toInt64]) (w' := (wd_1280 z a2)) (cs' := 0) (ss' := 0) ?_ (fun _ _ => rfl)
  refine go_cl (k := 2) (st' := [.int 1]) (cs' := 0) (ss' := 0) rfl rfl rfl rfl rfl rfl rfl (wi_t _ a2 (-1) 7 (-1) 7 rfl rfl (by omega)) ?_
  refine go_seg 8 (pc' := 38) (ls' := [(3, .int (-1)), (0, .ref 90), (1, .int 32), (2, .int a2)]) (st' := []) (w' := (wd_1280 z a2)) (cs' := 0) (ss' := 0) ?_ (fun _ _ => rfl)
  refine go_seg 8 (pc' := 49) (ls' := [(3, .int (-1)), (0, .ref 90), (1, .int 32), (2, .int a2)]) (st' := [.int (-1)]) (w' := (wd_1281 z a2)) (cs' := 0) (ss' := 0) ?_ (fun _ _ => rfl)
  exact go_end 1 (fun _ _ => rfl)
theorem lf_0_1456 (a0 : Int32) (a2 : Int32) (a3 : Int32) (a4 : Int32) (a5 : Int32) (h0 : -1 ≤ a2.toInt) (h1 : a2.toInt < 8) : ∃ w', pq_Go 20 pm_law 212 [(3, .int 0), (2, .ref 90), (1, .ref 1), (0, .ref 0)] [] (fw (sz a0 32 a2 a3 a4 a5)) 109 12668 (some (.int 1), w') := by
  refine ⟨(wd_1281 (sz a0 32 a2 a3 a4 a5) a2), ?_⟩
  refine go_seg 8 (pc' := 220) (ls' := [(3, .int 0), (2, .ref 90), (1, .ref 1), (0, .ref 0)]) (st' := [.int 0, .ref 0, .int 32, .ref 1]) (w' := (fw (sz a0 32 a2 a3 a4 a5))) (cs' := 109) (ss' := 12668) ?_ (fun _ _ => rfl)
  refine go_seg 3 (pc' := 223) (ls' := [(3, .int 0), (2, .ref 90), (1, .ref 1), (0, .ref 0)]) (st' := [.int a2, .int 32, .ref 1]) (w' := (fw (sz a0 32 a2 a3 a4 a5))) (cs' := 109) (ss' := 12668) ?_ (fun _ _ => rfl)
  refine go_cl (k := 20) (st' := [.int (-1)]) (cs' := 109) (ss' := 12668) rfl rfl rfl rfl rfl rfl rfl (ro_1450 (sz a0 32 a2 a3 a4 a5) a2 (by omega) (by omega)) ?_
  refine go_seg 8 (pc' := 234) (ls' := [(3, .int 0), (2, .ref 90), (1, .ref 1), (0, .ref 0)]) (st' := [.int 0, .ref 0, .int 32, .ref 90, .int (-1)]) (w' := (wd_1280 (sz a0 32 a2 a3 a4 a5) a2)) (cs' := 109) (ss' := 12668) ?_ (fun _ _ => rfl)
  refine go_seg 3 (pc' := 237) (ls' := [(3, .int 0), (2, .ref 90), (1, .ref 1), (0, .ref 0)]) (st' := [.int a2, .int 32, .ref 90, .int (-1)]) (w' := (wd_1280 (sz a0 32 a2 a3 a4 a5) a2)) (cs' := 109) (ss' := 12668) ?_ (fun _ _ => rfl)
  refine go_cl (k := 20) (st' := [.int (-1), .int (-1)]) (cs' := 109) (ss' := 12668) rfl rfl rfl rfl rfl rfl rfl (ro_1455 (sz a0 32 a2 a3 a4 a5) a2 (by omega) (by omega)) ?_
  refine go_cmp true rfl (br_self _) ?_
  exact law_tail (f := sc a0 32 a2 a3 a4 a5) rfl
theorem ro_1457 (z : pq_C) : pq_Ru 1 13 [.int 33] (fw z) (some (.int 1), (fw z)) := by
  refine ru_of (k := 0) (M := pm_13) rfl rfl ?_
  exact go_end 8 (fun _ _ => rfl)
def wd_1282 (z : pq_C) (a2 : Int32) : pq_W := ((fw z).set 3 (.inl (.int, 64, .inl (upd (fl_c 64 (-1) (fun _ => 0)) 33 a2))))
theorem ro_1458 (z : pq_C) (a2 : Int32) (h0 : -1 ≤ a2.toInt) (h1 : a2.toInt < 8) : pq_Ru 2 12 [.ref 1, .int 33, .int a2] (fw z) (some (.int (-1)), (wd_1282 z a2)) := by
  refine ru_of (k := 1) (M := pm_12) rfl rfl ?_
  refine go_seg 1 (pc' := 1) (ls' := [(0, .ref 1), (1, .int 33), (2, .int a2)]) (st' := [.int 33]) (w' := (fw z)) (cs' := 0) (ss' := 0) ?_ (fun _ _ => rfl)
  refine go_cl (k := 1) (st' := [.int 1]) (cs' := 0) (ss' := 0) rfl rfl rfl rfl rfl rfl rfl (ro_1457 z) ?_
  refine go_seg 2 (pc' := 8) (ls' := [(0, .ref 1), (1, .int 33), (2, .int a2)]) (st' := [.int a2]) (w' := (fw z)) (cs' := 0) (ss' := 0) ?_ (fun _ _ => rfl)
  refine go_cl (k := 1) (st' := [.int 1]) (cs' := 0) (ss' := 0) rfl rfl rfl rfl rfl rfl rfl (ro_1193 z a2 (by omega) (by omega)) ?_
  refine go_seg 8 (pc' := 31) (ls' := [(3, .int (-1)), (0, .ref 1), (1, .int 33), (2, .int a2)]) (st' := [.ref 1]) (w' := (fw z)) (cs' := 0) (ss' := 0) ?_ (fun _ _ => rfl)
  exact go_end 7 (fun _ _ => rfl)
theorem ro_1460 (z : pq_C) (a2 : Int32) (h0 : -1 ≤ a2.toInt) (h1 : a2.toInt < 8) : pq_Ru 1 161 [.long 33, .long 0, .long 63] (wd_1282 z a2) (some (.int 1), (wd_1282 z a2)) := by
  refine ru_of (k := 0) (M := pm_161) rfl rfl ?_
  refine go_seg 8 (pc' := 13) (ls' := [(0, .long 33), (2, .long 0), (4, .long 63)]) (st' := []) (w' := (wd_1282 z a2)) (cs' := 0) (ss' := 0) ?_ (fun _ _ => rfl)
  exact go_end 3 (fun _ _ => rfl)
theorem ro_1461 (z : pq_C) (a2 : Int32) (h0 : -1 ≤ a2.toInt) (h1 : a2.toInt < 8) : pq_Ru 2 160 [.int 33] (wd_1282 z a2) (some (.int 1), (wd_1282 z a2)) := by
  refine ru_of (k := 1) (M := pm_160) rfl rfl ?_
  refine go_seg 4 (pc' := 6) (ls' := [(0, .int 33)]) (st' := [.long 63, .long 0, .long 33]) (w' := (wd_1282 z a2)) (cs' := 0) (ss' := 0) ?_ (fun _ _ => rfl)
  refine go_cl (k := 1) (st' := [.int 1]) (cs' := 0) (ss' := 0) rfl rfl rfl rfl rfl rfl rfl (ro_1460 z a2 (by omega) (by omega)) ?_
  exact go_end 1 (fun _ _ => rfl)
def wd_1283 (z : pq_C) (a2 : Int32) : pq_W := ((wd_1282 z a2).set 91 (.inl (.int, 2858, .inl (upd (upd (upd (upd (upd (upd (upd (upd (upd (upd (upd (upd (upd (upd (upd (upd (upd (upd (upd (upd (upd (upd (upd (upd (upd (upd (upd (upd (upd (upd (upd (upd (upd (upd (upd (upd (upd (upd (upd (upd (upd (upd (upd (upd (upd (upd (upd (upd (upd (upd (upd (upd (upd (upd (upd (upd (upd (upd (upd (upd (upd (upd (upd (upd (upd (upd (upd (upd (upd (upd (upd (upd (upd (upd (upd (upd (upd (upd (upd (upd (upd (upd (fun _ => 0) 1 10) 10 (-1)) 11 (-1)) 12 (-1)) 13 (-1)) 14 (-1)) 15 (-1)) 16 (-1)) 17 (-1)) 18 (-1)) 19 (-1)) 20 (-1)) 21 (-1)) 22 (-1)) 23 (-1)) 24 (-1)) 25 (-1)) 26 (-1)) 27 (-1)) 28 (-1)) 29 (-1)) 30 (-1)) 31 (-1)) 32 (-1)) 33 (-1)) 34 (-1)) 35 (-1)) 36 (-1)) 37 (-1)) 38 (-1)) 39 (-1)) 40 (-1)) 41 (-1)) 42 (-1)) 43 (-1)) 44 (-1)) 45 (-1)) 46 (-1)) 47 (-1)) 48 (-1)) 49 (-1)) 50 (-1)) 51 (-1)) 52 (-1)) 53 (-1)) 54 (-1)) 55 (-1)) 56 (-1)) 57 (-1)) 58 (-1)) 59 (-1)) 60 (-1)) 61 (-1)) 62 (-1)) 63 (-1)) 64 (-1)) 65 (-1)) 66 (-1)) 67 (-1)) 68 (-1)) 69 (-1)) 70 (-1)) 71 (-1)) 72 (-1)) 73 (-1)) 139 1000) 140 100) 145 1000) 146 100) 151 1000) 152 100) 157 1000) 158 100) 163 1000) 164 100) 169 1000) 170 100) 175 1000) 176 100) 181 1000) 182 100) 43 a2))))
theorem ro_1463 (z : pq_C) (a2 : Int32) (h0 : -1 ≤ a2.toInt) (h1 : a2.toInt < 8) : pq_Ru 3 159 [.ref 90, .int 33, .int a2] (wd_1282 z a2) (some (.int (-1)), (wd_1283 z a2)) := by
  refine ru_of (k := 2) (M := pm_159) rfl rfl ?_
  refine go_seg 1 (pc' := 1) (ls' := [(0, .ref 90), (1, .int 33), (2, .int a2)]) (st' := [.int 33]) (w' := (wd_1282 z a2)) (cs' := 0) (ss' := 0) ?_ (fun _ _ => rfl)
  refine go_cl (k := 2) (st' := [.int 1]) (cs' := 0) (ss' := 0) rfl rfl rfl rfl rfl rfl rfl (ro_1461 z a2 (by omega) (by omega)) ?_
  refine go_seg 5 (pc' := 15) (ls' := [(0, .ref 90), (1, .int 33), (2, .int a2)]) (st' := [.long 7, .long (-1), .long a2.toInt64]) (w' := (wd_1282 z a2)) (cs' := 0) (ss' := 0) ?_ (fun _ _ => rfl)
  refine go_cl (k := 2) (st' := [.int 1]) (cs' := 0) (ss' := 0) rfl rfl rfl rfl rfl rfl rfl (wi_t _ a2 (-1) 7 (-1) 7 rfl rfl (by omega)) ?_
  refine go_seg 8 (pc' := 38) (ls' := [(3, .int (-1)), (0, .ref 90), (1, .int 33), (2, .int a2)]) (st' := []) (w' := (wd_1282 z a2)) (cs' := 0) (ss' := 0) ?_ (fun _ _ => rfl)
  refine go_seg 8 (pc' := 49) (ls' := [(3, .int (-1)), (0, .ref 90), (1, .int 33), (2, .int a2)]) (st' := [.int (-1)]) (w' := (wd_1283 z a2)) (cs' := 0) (ss' := 0) ?_ (fun _ _ => rfl)
  exact go_end 1 (fun _ _ => rfl)
theorem lf_0_1464 (a0 : Int32) (a2 : Int32) (a3 : Int32) (a4 : Int32) (a5 : Int32) (h0 : -1 ≤ a2.toInt) (h1 : a2.toInt < 8) : ∃ w', pq_Go 20 pm_law 212 [(3, .int 0), (2, .ref 90), (1, .ref 1), (0, .ref 0)] [] (fw (sz a0 33 a2 a3 a4 a5)) 109 12668 (some (.int 1), w') := by
  refine ⟨(wd_1283 (sz a0 33 a2 a3 a4 a5) a2), ?_⟩
  refine go_seg 8 (pc' := 220) (ls' := [(3, .int 0), (2, .ref 90), (1, .ref 1), (0, .ref 0)]) (st' := [.int 0, .ref 0, .int 33, .ref 1]) (w' := (fw (sz a0 33 a2 a3 a4 a5))) (cs' := 109) (ss' := 12668) ?_ (fun _ _ => rfl)
  refine go_seg 3 (pc' := 223) (ls' := [(3, .int 0), (2, .ref 90), (1, .ref 1), (0, .ref 0)]) (st' := [.int a2, .int 33, .ref 1]) (w' := (fw (sz a0 33 a2 a3 a4 a5))) (cs' := 109) (ss' := 12668) ?_ (fun _ _ => rfl)
  refine go_cl (k := 20) (st' := [.int (-1)]) (cs' := 109) (ss' := 12668) rfl rfl rfl rfl rfl rfl rfl (ro_1458 (sz a0 33 a2 a3 a4 a5) a2 (by omega) (by omega)) ?_
  refine go_seg 8 (pc' := 234) (ls' := [(3, .int 0), (2, .ref 90), (1, .ref 1), (0, .ref 0)]) (st' := [.int 0, .ref 0, .int 33, .ref 90, .int (-1)]) (w' := (wd_1282 (sz a0 33 a2 a3 a4 a5) a2)) (cs' := 109) (ss' := 12668) ?_ (fun _ _ => rfl)
  refine go_seg 3 (pc' := 237) (ls' := [(3, .int 0), (2, .ref 90), (1, .ref 1), (0, .ref 0)]) (st' := [.int a2, .int 33, .ref 90, .int (-1)]) (w' := (wd_1282 (sz a0 33 a2 a3 a4 a5) a2)) (cs' := 109) (ss' := 12668) ?_ (fun _ _ => rfl)
  refine go_cl (k := 20) (st' := [.int (-1), .int (-1)]) (cs' := 109) (ss' := 12668) rfl rfl rfl rfl rfl rfl rfl (ro_1463 (sz a0 33 a2 a3 a4 a5) a2 (by omega) (by omega)) ?_
  refine go_cmp true rfl (br_self _) ?_
  exact law_tail (f := sc a0 33 a2 a3 a4 a5) rfl
theorem ro_1465 (z : pq_C) : pq_Ru 1 13 [.int 34] (fw z) (some (.int 1), (fw z)) := by
  refine ru_of (k := 0) (M := pm_13) rfl rfl ?_
  exact go_end 8 (fun _ _ => rfl)
def wd_1284 (z : pq_C) (a2 : Int32) : pq_W := ((fw z).set 3 (.inl (.int, 64, .inl (upd (fl_c 64 (-1) (fun _ => 0)) 34 a2))))
theorem ro_1466 (z : pq_C) (a2 : Int32) (h0 : -1 ≤ a2.toInt) (h1 : a2.toInt < 8) : pq_Ru 2 12 [.ref 1, .int 34, .int a2] (fw z) (some (.int (-1)), (wd_1284 z a2)) := by
  refine ru_of (k := 1) (M := pm_12) rfl rfl ?_
  refine go_seg 1 (pc' := 1) (ls' := [(0, .ref 1), (1, .int 34), (2, .int a2)]) (st' := [.int 34]) (w' := (fw z)) (cs' := 0) (ss' := 0) ?_ (fun _ _ => rfl)
  refine go_cl (k := 1) (st' := [.int 1]) (cs' := 0) (ss' := 0) rfl rfl rfl rfl rfl rfl rfl (ro_1465 z) ?_
  refine go_seg 2 (pc' := 8) (ls' := [(0, .ref 1), (1, .int 34), (2, .int a2)]) (st' := [.int a2]) (w' := (fw z)) (cs' := 0) (ss' := 0) ?_ (fun _ _ => rfl)
  refine go_cl (k := 1) (st' := [.int 1]) (cs' := 0) (ss' := 0) rfl rfl rfl rfl rfl rfl rfl (ro_1193 z a2 (by omega) (by omega)) ?_
  refine go_seg 8 (pc' := 31) (ls' := [(3, .int (-1)), (0, .ref 1), (1, .int 34), (2, .int a2)]) (st' := [.ref 1]) (w' := (fw z)) (cs' := 0) (ss' := 0) ?_ (fun _ _ => rfl)
  exact go_end 7 (fun _ _ => rfl)
theorem ro_1468 (z : pq_C) (a2 : Int32) (h0 : -1 ≤ a2.toInt) (h1 : a2.toInt < 8) : pq_Ru 1 161 [.long 34, .long 0, .long 63] (wd_1284 z a2) (some (.int 1), (wd_1284 z a2)) := by
  refine ru_of (k := 0) (M := pm_161) rfl rfl ?_
  refine go_seg 8 (pc' := 13) (ls' := [(0, .long 34), (2, .long 0), (4, .long 63)]) (st' := []) (w' := (wd_1284 z a2)) (cs' := 0) (ss' := 0) ?_ (fun _ _ => rfl)
  exact go_end 3 (fun _ _ => rfl)
theorem ro_1469 (z : pq_C) (a2 : Int32) (h0 : -1 ≤ a2.toInt) (h1 : a2.toInt < 8) : pq_Ru 2 160 [.int 34] (wd_1284 z a2) (some (.int 1), (wd_1284 z a2)) := by
  refine ru_of (k := 1) (M := pm_160) rfl rfl ?_
  refine go_seg 4 (pc' := 6) (ls' := [(0, .int 34)]) (st' := [.long 63, .long 0, .long 34]) (w' := (wd_1284 z a2)) (cs' := 0) (ss' := 0) ?_ (fun _ _ => rfl)
  refine go_cl (k := 1) (st' := [.int 1]) (cs' := 0) (ss' := 0) rfl rfl rfl rfl rfl rfl rfl (ro_1468 z a2 (by omega) (by omega)) ?_
  exact go_end 1 (fun _ _ => rfl)
def wd_1285 (z : pq_C) (a2 : Int32) : pq_W := ((wd_1284 z a2).set 91 (.inl (.int, 2858, .inl (upd (upd (upd (upd (upd (upd (upd (upd (upd (upd (upd (upd (upd (upd (upd (upd (upd (upd (upd (upd (upd (upd (upd (upd (upd (upd (upd (upd (upd (upd (upd (upd (upd (upd (upd (upd (upd (upd (upd (upd (upd (upd (upd (upd (upd (upd (upd (upd (upd (upd (upd (upd (upd (upd (upd (upd (upd (upd (upd (upd (upd (upd (upd (upd (upd (upd (upd (upd (upd (upd (upd (upd (upd (upd (upd (upd (upd (upd (upd (upd (upd (upd (fun _ => 0) 1 10) 10 (-1)) 11 (-1)) 12 (-1)) 13 (-1)) 14 (-1)) 15 (-1)) 16 (-1)) 17 (-1)) 18 (-1)) 19 (-1)) 20 (-1)) 21 (-1)) 22 (-1)) 23 (-1)) 24 (-1)) 25 (-1)) 26 (-1)) 27 (-1)) 28 (-1)) 29 (-1)) 30 (-1)) 31 (-1)) 32 (-1)) 33 (-1)) 34 (-1)) 35 (-1)) 36 (-1)) 37 (-1)) 38 (-1)) 39 (-1)) 40 (-1)) 41 (-1)) 42 (-1)) 43 (-1)) 44 (-1)) 45 (-1)) 46 (-1)) 47 (-1)) 48 (-1)) 49 (-1)) 50 (-1)) 51 (-1)) 52 (-1)) 53 (-1)) 54 (-1)) 55 (-1)) 56 (-1)) 57 (-1)) 58 (-1)) 59 (-1)) 60 (-1)) 61 (-1)) 62 (-1)) 63 (-1)) 64 (-1)) 65 (-1)) 66 (-1)) 67 (-1)) 68 (-1)) 69 (-1)) 70 (-1)) 71 (-1)) 72 (-1)) 73 (-1)) 139 1000) 140 100) 145 1000) 146 100) 151 1000) 152 100) 157 1000) 158 100) 163 1000) 164 100) 169 1000) 170 100) 175 1000) 176 100) 181 1000) 182 100) 44 a2))))
theorem ro_1471 (z : pq_C) (a2 : Int32) (h0 : -1 ≤ a2.toInt) (h1 : a2.toInt < 8) : pq_Ru 3 159 [.ref 90, .int 34, .int a2] (wd_1284 z a2) (some (.int (-1)), (wd_1285 z a2)) := by
  refine ru_of (k := 2) (M := pm_159) rfl rfl ?_
  refine go_seg 1 (pc' := 1) (ls' := [(0, .ref 90), (1, .int 34), (2, .int a2)]) (st' := [.int 34]) (w' := (wd_1284 z a2)) (cs' := 0) (ss' := 0) ?_ (fun _ _ => rfl)
  refine go_cl (k := 2) (st' := [.int 1]) (cs' := 0) (ss' := 0) rfl rfl rfl rfl rfl rfl rfl (ro_1469 z a2 (by omega) (by omega)) ?_
  refine go_seg 5 (pc' := 15) (ls' := [(0, .ref 90), (1, .int 34), (2, .int a2)]) (st' := [.long 7, .long (-1), .long a2.toInt64]) (w' := (wd_1284 z a2)) (cs' := 0) (ss' := 0) ?_ (fun _ _ => rfl)
  refine go_cl (k := 2) (st' := [.int 1]) (cs' := 0) (ss' := 0) rfl rfl rfl rfl rfl rfl rfl (wi_t _ a2 (-1) 7 (-1) 7 rfl rfl (by omega)) ?_
  refine go_seg 8 (pc' := 38) (ls' := [(3, .int (-1)), (0, .ref 90), (1, .int 34), (2, .int a2)]) (st' := []) (w' := (wd_1284 z a2)) (cs' := 0) (ss' := 0) ?_ (fun _ _ => rfl)
  refine go_seg 8 (pc' := 49) (ls' := [(3, .int (-1)), (0, .ref 90), (1, .int 34), (2, .int a2)]) (st' := [.int (-1)]) (w' := (wd_1285 z a2)) (cs' := 0) (ss' := 0) ?_ (fun _ _ => rfl)
  exact go_end 1 (fun _ _ => rfl)
theorem lf_0_1472 (a0 : Int32) (a2 : Int32) (a3 : Int32) (a4 : Int32) (a5 : Int32) (h0 : -1 ≤ a2.toInt) (h1 : a2.toInt < 8) : ∃ w', pq_Go 20 pm_law 212 [(3, .int 0), (2, .ref 90), (1, .ref 1), (0, .ref 0)] [] (fw (sz a0 34 a2 a3 a4 a5)) 109 12668 (some (.int 1), w') := by
  refine ⟨(wd_1285 (sz a0 34 a2 a3 a4 a5) a2), ?_⟩
  refine go_seg 8 (pc' := 220) (ls' := [(3, .int 0), (2, .ref 90), (1, .ref 1), (0, .ref 0)]) (st' := [.int 0, .ref 0, .int 34, .ref 1]) (w' := (fw (sz a0 34 a2 a3 a4 a5))) (cs' := 109) (ss' := 12668) ?_ (fun _ _ => rfl)
  refine go_seg 3 (pc' := 223) (ls' := [(3, .int 0), (2, .ref 90), (1, .ref 1), (0, .ref 0)]) (st' := [.int a2, .int 34, .ref 1]) (w' := (fw (sz a0 34 a2 a3 a4 a5))) (cs' := 109) (ss' := 12668) ?_ (fun _ _ => rfl)
  refine go_cl (k := 20) (st' := [.int (-1)]) (cs' := 109) (ss' := 12668) rfl rfl rfl rfl rfl rfl rfl (ro_1466 (sz a0 34 a2 a3 a4 a5) a2 (by omega) (by omega)) ?_
  refine go_seg 8 (pc' := 234) (ls' := [(3, .int 0), (2, .ref 90), (1, .ref 1), (0, .ref 0)]) (st' := [.int 0, .ref 0, .int 34, .ref 90, .int (-1)]) (w' := (wd_1284 (sz a0 34 a2 a3 a4 a5) a2)) (cs' := 109) (ss' := 12668) ?_ (fun _ _ => rfl)
  refine go_seg 3 (pc' := 237) (ls' := [(3, .int 0), (2, .ref 90), (1, .ref 1), (0, .ref 0)]) (st' := [.int a2, .int 34, .ref 90, .int (-1)]) (w' := (wd_1284 (sz a0 34 a2 a3 a4 a5) a2)) (cs' := 109) (ss' := 12668) ?_ (fun _ _ => rfl)
  refine go_cl (k := 20) (st' := [.int (-1), .int (-1)]) (cs' := 109) (ss' := 12668) rfl rfl rfl rfl rfl rfl rfl (ro_1471 (sz a0 34 a2 a3 a4 a5) a2 (by omega) (by omega)) ?_
  refine go_cmp true rfl (br_self _) ?_
  exact law_tail (f := sc a0 34 a2 a3 a4 a5) rfl
theorem ro_1473 (z : pq_C) : pq_Ru 1 13 [.int 35] (fw z) (some (.int 1), (fw z)) := by
  refine ru_of (k := 0) (M := pm_13) rfl rfl ?_
  exact go_end 8 (fun _ _ => rfl)
def wd_1286 (z : pq_C) (a2 : Int32) : pq_W := ((fw z).set 3 (.inl (.int, 64, .inl (upd (fl_c 64 (-1) (fun _ => 0)) 35 a2))))
theorem ro_1474 (z : pq_C) (a2 : Int32) (h0 : -1 ≤ a2.toInt) (h1 : a2.toInt < 8) : pq_Ru 2 12 [.ref 1, .int 35, .int a2] (fw z) (some (.int (-1)), (wd_1286 z a2)) := by
  refine ru_of (k := 1) (M := pm_12) rfl rfl ?_
  refine go_seg 1 (pc' := 1) (ls' := [(0, .ref 1), (1, .int 35), (2, .int a2)]) (st' := [.int 35]) (w' := (fw z)) (cs' := 0) (ss' := 0) ?_ (fun _ _ => rfl)
  refine go_cl (k := 1) (st' := [.int 1]) (cs' := 0) (ss' := 0) rfl rfl rfl rfl rfl rfl rfl (ro_1473 z) ?_
  refine go_seg 2 (pc' := 8) (ls' := [(0, .ref 1), (1, .int 35), (2, .int a2)]) (st' := [.int a2]) (w' := (fw z)) (cs' := 0) (ss' := 0) ?_ (fun _ _ => rfl)
  refine go_cl (k := 1) (st' := [.int 1]) (cs' := 0) (ss' := 0) rfl rfl rfl rfl rfl rfl rfl (ro_1193 z a2 (by omega) (by omega)) ?_
  refine go_seg 8 (pc' := 31) (ls' := [(3, .int (-1)), (0, .ref 1), (1, .int 35), (2, .int a2)]) (st' := [.ref 1]) (w' := (fw z)) (cs' := 0) (ss' := 0) ?_ (fun _ _ => rfl)
  exact go_end 7 (fun _ _ => rfl)
theorem ro_1476 (z : pq_C) (a2 : Int32) (h0 : -1 ≤ a2.toInt) (h1 : a2.toInt < 8) : pq_Ru 1 161 [.long 35, .long 0, .long 63] (wd_1286 z a2) (some (.int 1), (wd_1286 z a2)) := by
  refine ru_of (k := 0) (M := pm_161) rfl rfl ?_
  refine go_seg 8 (pc' := 13) (ls' := [(0, .long 35), (2, .long 0), (4, .long 63)]) (st' := []) (w' := (wd_1286 z a2)) (cs' := 0) (ss' := 0) ?_ (fun _ _ => rfl)
  exact go_end 3 (fun _ _ => rfl)
theorem ro_1477 (z : pq_C) (a2 : Int32) (h0 : -1 ≤ a2.toInt) (h1 : a2.toInt < 8) : pq_Ru 2 160 [.int 35] (wd_1286 z a2) (some (.int 1), (wd_1286 z a2)) := by
  refine ru_of (k := 1) (M := pm_160) rfl rfl ?_
  refine go_seg 4 (pc' := 6) (ls' := [(0, .int 35)]) (st' := [.long 63, .long 0, .long 35]) (w' := (wd_1286 z a2)) (cs' := 0) (ss' := 0) ?_ (fun _ _ => rfl)
  refine go_cl (k := 1) (st' := [.int 1]) (cs' := 0) (ss' := 0) rfl rfl rfl rfl rfl rfl rfl (ro_1476 z a2 (by omega) (by omega)) ?_
  exact go_end 1 (fun _ _ => rfl)
def wd_1287 (z : pq_C) (a2 : Int32) : pq_W := ((wd_1286 z a2).set 91 (.inl (.int, 2858, .inl (upd (upd (upd (upd (upd (upd (upd (upd (upd (upd (upd (upd (upd (upd (upd (upd (upd (upd (upd (upd (upd (upd (upd (upd (upd (upd (upd (upd (upd (upd (upd (upd (upd (upd (upd (upd (upd (upd (upd (upd (upd (upd (upd (upd (upd (upd (upd (upd (upd (upd (upd (upd (upd (upd (upd (upd (upd (upd (upd (upd (upd (upd (upd (upd (upd (upd (upd (upd (upd (upd (upd (upd (upd (upd (upd (upd (upd (upd (upd (upd (upd (upd (fun _ => 0) 1 10) 10 (-1)) 11 (-1)) 12 (-1)) 13 (-1)) 14 (-1)) 15 (-1)) 16 (-1)) 17 (-1)) 18 (-1)) 19 (-1)) 20 (-1)) 21 (-1)) 22 (-1)) 23 (-1)) 24 (-1)) 25 (-1)) 26 (-1)) 27 (-1)) 28 (-1)) 29 (-1)) 30 (-1)) 31 (-1)) 32 (-1)) 33 (-1)) 34 (-1)) 35 (-1)) 36 (-1)) 37 (-1)) 38 (-1)) 39 (-1)) 40 (-1)) 41 (-1)) 42 (-1)) 43 (-1)) 44 (-1)) 45 (-1)) 46 (-1)) 47 (-1)) 48 (-1)) 49 (-1)) 50 (-1)) 51 (-1)) 52 (-1)) 53 (-1)) 54 (-1)) 55 (-1)) 56 (-1)) 57 (-1)) 58 (-1)) 59 (-1)) 60 (-1)) 61 (-1)) 62 (-1)) 63 (-1)) 64 (-1)) 65 (-1)) 66 (-1)) 67 (-1)) 68 (-1)) 69 (-1)) 70 (-1)) 71 (-1)) 72 (-1)) 73 (-1)) 139 1000) 140 100) 145 1000) 146 100) 151 1000) 152 100) 157 1000) 158 100) 163 1000) 164 100) 169 1000) 170 100) 175 1000) 176 100) 181 1000) 182 100) 45 a2))))
theorem ro_1479 (z : pq_C) (a2 : Int32) (h0 : -1 ≤ a2.toInt) (h1 : a2.toInt < 8) : pq_Ru 3 159 [.ref 90, .int 35, .int a2] (wd_1286 z a2) (some (.int (-1)), (wd_1287 z a2)) := by
  refine ru_of (k := 2) (M := pm_159) rfl rfl ?_
  refine go_seg 1 (pc' := 1) (ls' := [(0, .ref 90), (1, .int 35), (2, .int a2)]) (st' := [.int 35]) (w' := (wd_1286 z a2)) (cs' := 0) (ss' := 0) ?_ (fun _ _ => rfl)
  refine go_cl (k := 2) (st' := [.int 1]) (cs' := 0) (ss' := 0) rfl rfl rfl rfl rfl rfl rfl (ro_1477 z a2 (by omega) (by omega)) ?_
  refine go_seg 5 (pc' := 15) (ls' := [(0, .ref 90), (1, .int 35), (2, .int a2)]) (st' := [.long 7, .long (-1), .long a2.toInt64]) (w' := (wd_1286 z a2)) (cs' := 0) (ss' := 0) ?_ (fun _ _ => rfl)
  refine go_cl (k := 2) (st' := [.int 1]) (cs' := 0) (ss' := 0) rfl rfl rfl rfl rfl rfl rfl (wi_t _ a2 (-1) 7 (-1) 7 rfl rfl (by omega)) ?_
  refine go_seg 8 (pc' := 38) (ls' := [(3, .int (-1)), (0, .ref 90), (1, .int 35), (2, .int a2)]) (st' := []) (w' := (wd_1286 z a2)) (cs' := 0) (ss' := 0) ?_ (fun _ _ => rfl)
  refine go_seg 8 (pc' := 49) (ls' := [(3, .int (-1)), (0, .ref 90), (1, .int 35), (2, .int a2)]) (st' := [.int (-1)]) (w' := (wd_1287 z a2)) (cs' := 0) (ss' := 0) ?_ (fun _ _ => rfl)
  exact go_end 1 (fun _ _ => rfl)
theorem lf_0_1480 (a0 : Int32) (a2 : Int32) (a3 : Int32) (a4 : Int32) (a5 : Int32) (h0 : -1 ≤ a2.toInt) (h1 : a2.toInt < 8) : ∃ w', pq_Go 20 pm_law 212 [(3, .int 0), (2, .ref 90), (1, .ref 1), (0, .ref 0)] [] (fw (sz a0 35 a2 a3 a4 a5)) 109 12668 (some (.int 1), w') := by
  refine ⟨(wd_1287 (sz a0 35 a2 a3 a4 a5) a2), ?_⟩
  refine go_seg 8 (pc' := 220) (ls' := [(3, .int 0), (2, .ref 90), (1, .ref 1), (0, .ref 0)]) (st' := [.int 0, .ref 0, .int 35, .ref 1]) (w' := (fw (sz a0 35 a2 a3 a4 a5))) (cs' := 109) (ss' := 12668) ?_ (fun _ _ => rfl)
  refine go_seg 3 (pc' := 223) (ls' := [(3, .int 0), (2, .ref 90), (1, .ref 1), (0, .ref 0)]) (st' := [.int a2, .int 35, .ref 1]) (w' := (fw (sz a0 35 a2 a3 a4 a5))) (cs' := 109) (ss' := 12668) ?_ (fun _ _ => rfl)
  refine go_cl (k := 20) (st' := [.int (-1)]) (cs' := 109) (ss' := 12668) rfl rfl rfl rfl rfl rfl rfl (ro_1474 (sz a0 35 a2 a3 a4 a5) a2 (by omega) (by omega)) ?_
  refine go_seg 8 (pc' := 234) (ls' := [(3, .int 0), (2, .ref 90), (1, .ref 1), (0, .ref 0)]) (st' := [.int 0, .ref 0, .int 35, .ref 90, .int (-1)]) (w' := (wd_1286 (sz a0 35 a2 a3 a4 a5) a2)) (cs' := 109) (ss' := 12668) ?_ (fun _ _ => rfl)
  refine go_seg 3 (pc' := 237) (ls' := [(3, .int 0), (2, .ref 90), (1, .ref 1), (0, .ref 0)]) (st' := [.int a2, .int 35, .ref 90, .int (-1)]) (w' := (wd_1286 (sz a0 35 a2 a3 a4 a5) a2)) (cs' := 109) (ss' := 12668) ?_ (fun _ _ => rfl)
  refine go_cl (k := 20) (st' := [.int (-1), .int (-1)]) (cs' := 109) (ss' := 12668) rfl rfl rfl rfl rfl rfl rfl (ro_1479 (sz a0 35 a2 a3 a4 a5) a2 (by omega) (by omega)) ?_
  refine go_cmp true rfl (br_self _) ?_
  exact law_tail (f := sc a0 35 a2 a3 a4 a5) rfl
theorem ro_1481 (z : pq_C) : pq_Ru 1 13 [.int 36] (fw z) (some (.int 1), (fw z)) := by
  refine ru_of (k := 0) (M := pm_13) rfl rfl ?_
  exact go_end 8 (fun _ _ => rfl)
def wd_1288 (z : pq_C) (a2 : Int32) : pq_W := ((fw z).set 3 (.inl (.int, 64, .inl (upd (fl_c 64 (-1) (fun _ => 0)) 36 a2))))
theorem ro_1482 (z : pq_C) (a2 : Int32) (h0 : -1 ≤ a2.toInt) (h1 : a2.toInt < 8) : pq_Ru 2 12 [.ref 1, .int 36, .int a2] (fw z) (some (.int (-1)), (wd_1288 z a2)) := by
  refine ru_of (k := 1) (M := pm_12) rfl rfl ?_
  refine go_seg 1 (pc' := 1) (ls' := [(0, .ref 1), (1, .int 36), (2, .int a2)]) (st' := [.int 36]) (w' := (fw z)) (cs' := 0) (ss' := 0) ?_ (fun _ _ => rfl)
  refine go_cl (k := 1) (st' := [.int 1]) (cs' := 0) (ss' := 0) rfl rfl rfl rfl rfl rfl rfl (ro_1481 z) ?_
  refine go_seg 2 (pc' := 8) (ls' := [(0, .ref 1), (1, .int 36), (2, .int a2)]) (st' := [.int a2]) (w' := (fw z)) (cs' := 0) (ss' := 0) ?_ (fun _ _ => rfl)
  refine go_cl (k := 1) (st' := [.int 1]) (cs' := 0) (ss' := 0) rfl rfl rfl rfl rfl rfl rfl (ro_1193 z a2 (by omega) (by omega)) ?_
  refine go_seg 8 (pc' := 31) (ls' := [(3, .int (-1)), (0, .ref 1), (1, .int 36), (2, .int a2)]) (st' := [.ref 1]) (w' := (fw z)) (cs' := 0) (ss' := 0) ?_ (fun _ _ => rfl)
  exact go_end 7 (fun _ _ => rfl)
theorem ro_1484 (z : pq_C) (a2 : Int32) (h0 : -1 ≤ a2.toInt) (h1 : a2.toInt < 8) : pq_Ru 1 161 [.long 36, .long 0, .long 63] (wd_1288 z a2) (some (.int 1), (wd_1288 z a2)) := by
  refine ru_of (k := 0) (M := pm_161) rfl rfl ?_
  refine go_seg 8 (pc' := 13) (ls' := [(0, .long 36), (2, .long 0), (4, .long 63)]) (st' := []) (w' := (wd_1288 z a2)) (cs' := 0) (ss' := 0) ?_ (fun _ _ => rfl)
  exact go_end 3 (fun _ _ => rfl)
theorem ro_1485 (z : pq_C) (a2 : Int32) (h0 : -1 ≤ a2.toInt) (h1 : a2.toInt < 8) : pq_Ru 2 160 [.int 36] (wd_1288 z a2) (some (.int 1), (wd_1288 z a2)) := by
  refine ru_of (k := 1) (M := pm_160) rfl rfl ?_
  refine go_seg 4 (pc' := 6) (ls' := [(0, .int 36)]) (st' := [.long 63, .long 0, .long 36]) (w' := (wd_1288 z a2)) (cs' := 0) (ss' := 0) ?_ (fun _ _ => rfl)
  refine go_cl (k := 1) (st' := [.int 1]) (cs' := 0) (ss' := 0) rfl rfl rfl rfl rfl rfl rfl (ro_1484 z a2 (by omega) (by omega)) ?_
  exact go_end 1 (fun _ _ => rfl)
def wd_1289 (z : pq_C) (a2 : Int32) : pq_W := ((wd_1288 z a2).set 91 (.inl (.int, 2858, .inl (upd (upd (upd (upd (upd (upd (upd (upd (upd (upd (upd (upd (upd (upd (upd (upd (upd (upd (upd (upd (upd (upd (upd (upd (upd (upd (upd (upd (upd (upd (upd (upd (upd (upd (upd (upd (upd (upd (upd (upd (upd (upd (upd (upd (upd (upd (upd (upd (upd (upd (upd (upd (upd (upd (upd (upd (upd (upd (upd (upd (upd (upd (upd (upd (upd (upd (upd (upd (upd (upd (upd (upd (upd (upd (upd (upd (upd (upd (upd (upd (upd (upd (fun _ => 0) 1 10) 10 (-1)) 11 (-1)) 12 (-1)) 13 (-1)) 14 (-1)) 15 (-1)) 16 (-1)) 17 (-1)) 18 (-1)) 19 (-1)) 20 (-1)) 21 (-1)) 22 (-1)) 23 (-1)) 24 (-1)) 25 (-1)) 26 (-1)) 27 (-1)) 28 (-1)) 29 (-1)) 30 (-1)) 31 (-1)) 32 (-1)) 33 (-1)) 34 (-1)) 35 (-1)) 36 (-1)) 37 (-1)) 38 (-1)) 39 (-1)) 40 (-1)) 41 (-1)) 42 (-1)) 43 (-1)) 44 (-1)) 45 (-1)) 46 (-1)) 47 (-1)) 48 (-1)) 49 (-1)) 50 (-1)) 51 (-1)) 52 (-1)) 53 (-1)) 54 (-1)) 55 (-1)) 56 (-1)) 57 (-1)) 58 (-1)) 59 (-1)) 60 (-1)) 61 (-1)) 62 (-1)) 63 (-1)) 64 (-1)) 65 (-1)) 66 (-1)) 67 (-1)) 68 (-1)) 69 (-1)) 70 (-1)) 71 (-1)) 72 (-1)) 73 (-1)) 139 1000) 140 100) 145 1000) 146 100) 151 1000) 152 100) 157 1000) 158 100) 163 1000) 164 100) 169 1000) 170 100) 175 1000) 176 100) 181 1000) 182 100) 46 a2))))
theorem ro_1487 (z : pq_C) (a2 : Int32) (h0 : -1 ≤ a2.toInt) (h1 : a2.toInt < 8) : pq_Ru 3 159 [.ref 90, .int 36, .int a2] (wd_1288 z a2) (some (.int (-1)), (wd_1289 z a2)) := by
  refine ru_of (k := 2) (M := pm_159) rfl rfl ?_
  refine go_seg 1 (pc' := 1) (ls' := [(0, .ref 90), (1, .int 36), (2, .int a2)]) (st' := [.int 36]) (w' := (wd_1288 z a2)) (cs' := 0) (ss' := 0) ?_ (fun _ _ => rfl)
  refine go_cl (k := 2) (st' := [.int 1]) (cs' := 0) (ss' := 0) rfl rfl rfl rfl rfl rfl rfl (ro_1485 z a2 (by omega) (by omega)) ?_
  refine go_seg 5 (pc' := 15) (ls' := [(0, .ref 90), (1, .int 36), (2, .int a2)]) (st' := [.long 7, .long (-1), .long a2.toInt64]) (w' := (wd_1288 z a2)) (cs' := 0) (ss' := 0) ?_ (fun _ _ => rfl)
  refine go_cl (k := 2) (st' := [.int 1]) (cs' := 0) (ss' := 0) rfl rfl rfl rfl rfl rfl rfl (wi_t _ a2 (-1) 7 (-1) 7 rfl rfl (by omega)) ?_
  refine go_seg 8 (pc' := 38) (ls' := [(3, .int (-1)), (0, .ref 90), (1, .int 36), (2, .int a2)]) (st' := []) (w' := (wd_1288 z a2)) (cs' := 0) (ss' := 0) ?_ (fun _ _ => rfl)
  refine go_seg 8 (pc' := 49) (ls' := [(3, .int (-1)), (0, .ref 90), (1, .int 36), (2, .int a2)]) (st' := [.int (-1)]) (w' := (wd_1289 z a2)) (cs' := 0) (ss' := 0) ?_ (fun _ _ => rfl)
  exact go_end 1 (fun _ _ => rfl)
theorem lf_0_1488 (a0 : Int32) (a2 : Int32) (a3 : Int32) (a4 : Int32) (a5 : Int32) (h0 : -1 ≤ a2.toInt) (h1 : a2.toInt < 8) : ∃ w', pq_Go 20 pm_law 212 [(3, .int 0), (2, .ref 90), (1, .ref 1), (0, .ref 0)] [] (fw (sz a0 36 a2 a3 a4 a5)) 109 12668 (some (.int 1), w') := by
  refine ⟨(wd_1289 (sz a0 36 a2 a3 a4 a5) a2), ?_⟩
  refine go_seg 8 (pc' := 220) (ls' := [(3, .int 0), (2, .ref 90), (1, .ref 1), (0, .ref 0)]) (st' := [.int 0, .ref 0, .int 36, .ref 1]) (w' := (fw (sz a0 36 a2 a3 a4 a5))) (cs' := 109) (ss' := 12668) ?_ (fun _ _ => rfl)
  refine go_seg 3 (pc' := 223) (ls' := [(3, .int 0), (2, .ref 90), (1, .ref 1), (0, .ref 0)]) (st' := [.int a2, .int 36, .ref 1]) (w' := (fw (sz a0 36 a2 a3 a4 a5))) (cs' := 109) (ss' := 12668) ?_ (fun _ _ => rfl)
  refine go_cl (k := 20) (st' := [.int (-1)]) (cs' := 109) (ss' := 12668) rfl rfl rfl rfl rfl rfl rfl (ro_1482 (sz a0 36 a2 a3 a4 a5) a2 (by omega) (by omega)) ?_
  refine go_seg 8 (pc' := 234) (ls' := [(3, .int 0), (2, .ref 90), (1, .ref 1), (0, .ref 0)]) (st' := [.int 0, .ref 0, .int 36, .ref 90, .int (-1)]) (w' := (wd_1288 (sz a0 36 a2 a3 a4 a5) a2)) (cs' := 109) (ss' := 12668) ?_ (fun _ _ => rfl)
  refine go_seg 3 (pc' := 237) (ls' := [(3, .int 0), (2, .ref 90), (1, .ref 1), (0, .ref 0)]) (st' := [.int a2, .int 36, .ref 90, .int (-1)]) (w' := (wd_1288 (sz a0 36 a2 a3 a4 a5) a2)) (cs' := 109) (ss' := 12668) ?_ (fun _ _ => rfl)
  refine go_cl (k := 20) (st' := [.int (-1), .int (-1)]) (cs' := 109) (ss' := 12668) rfl rfl rfl rfl rfl rfl rfl (ro_1487 (sz a0 36 a2 a3 a4 a5) a2 (by omega) (by omega)) ?_
  refine go_cmp true rfl (br_self _) ?_
  exact law_tail (f := sc a0 36 a2 a3 a4 a5) rfl
theorem ro_1489 (z : pq_C) : pq_Ru 1 13 [.int 37] (fw z) (some (.int 1), (fw z)) := by
  refine ru_of (k := 0) (M := pm_13) rfl rfl ?_
  exact go_end 8 (fun _ _ => rfl)
def wd_1290 (z : pq_C) (a2 : Int32) : pq_W := ((fw z).set 3 (.inl (.int, 64, .inl (upd (fl_c 64 (-1) (fun _ => 0)) 37 a2))))
theorem ro_1490 (z : pq_C) (a2 : Int32) (h0 : -1 ≤ a2.toInt) (h1 : a2.toInt < 8) : pq_Ru 2 12 [.ref 1, .int 37, .int a2] (fw z) (some (.int (-1)), (wd_1290 z a2)) := by
  refine ru_of (k := 1) (M := pm_12) rfl rfl ?_
  refine go_seg 1 (pc' := 1) (ls' := [(0, .ref 1), (1, .int 37), (2, .int a2)]) (st' := [.int 37]) (w' := (fw z)) (cs' := 0) (ss' := 0) ?_ (fun _ _ => rfl)
  refine go_cl (k := 1) (st' := [.int 1]) (cs' := 0) (ss' := 0) rfl rfl rfl rfl rfl rfl rfl (ro_1489 z) ?_
  refine go_seg 2 (pc' := 8) (ls' := [(0, .ref 1), (1, .int 37), (2, .int a2)]) (st' := [.int a2]) (w' := (fw z)) (cs' := 0) (ss' := 0) ?_ (fun _ _ => rfl)
  refine go_cl (k := 1) (st' := [.int 1]) (cs' := 0) (ss' := 0) rfl rfl rfl rfl rfl rfl rfl (ro_1193 z a2 (by omega) (by omega)) ?_
  refine go_seg 8 (pc' := 31) (ls' := [(3, .int (-1)), (0, .ref 1), (1, .int 37), (2, .int a2)]) (st' := [.ref 1]) (w' := (fw z)) (cs' := 0) (ss' := 0) ?_ (fun _ _ => rfl)
  exact go_end 7 (fun _ _ => rfl)
theorem ro_1492 (z : pq_C) (a2 : Int32) (h0 : -1 ≤ a2.toInt) (h1 : a2.toInt < 8) : pq_Ru 1 161 [.long 37, .long 0, .long 63] (wd_1290 z a2) (some (.int 1), (wd_1290 z a2)) := by
  refine ru_of (k := 0) (M := pm_161) rfl rfl ?_
  refine go_seg 8 (pc' := 13) (ls' := [(0, .long 37), (2, .long 0), (4, .long 63)]) (st' := []) (w' := (wd_1290 z a2)) (cs' := 0) (ss' := 0) ?_ (fun _ _ => rfl)
  exact go_end 3 (fun _ _ => rfl)
theorem ro_1493 (z : pq_C) (a2 : Int32) (h0 : -1 ≤ a2.toInt) (h1 : a2.toInt < 8) : pq_Ru 2 160 [.int 37] (wd_1290 z a2) (some (.int 1), (wd_1290 z a2)) := by
  refine ru_of (k := 1) (M := pm_160) rfl rfl ?_
  refine go_seg 4 (pc' := 6) (ls' := [(0, .int 37)]) (st' := [.long 63, .long 0, .long 37]) (w' := (wd_1290 z a2)) (cs' := 0) (ss' := 0) ?_ (fun _ _ => rfl)
  refine go_cl (k := 1) (st' := [.int 1]) (cs' := 0) (ss' := 0) rfl rfl rfl rfl rfl rfl rfl (ro_1492 z a2 (by omega) (by omega)) ?_
  exact go_end 1 (fun _ _ => rfl)
def wd_1291 (z : pq_C) (a2 : Int32) : pq_W := ((wd_1290 z a2).set 91 (.inl (.int, 2858, .inl (upd (upd (upd (upd (upd (upd (upd (upd (upd (upd (upd (upd (upd (upd (upd (upd (upd (upd (upd (upd (upd (upd (upd (upd (upd (upd (upd (upd (upd (upd (upd (upd (upd (upd (upd (upd (upd (upd (upd (upd (upd (upd (upd (upd (upd (upd (upd (upd (upd (upd (upd (upd (upd (upd (upd (upd (upd (upd (upd (upd (upd (upd (upd (upd (upd (upd (upd (upd (upd (upd (upd (upd (upd (upd (upd (upd (upd (upd (upd (upd (upd (upd (fun _ => 0) 1 10) 10 (-1)) 11 (-1)) 12 (-1)) 13 (-1)) 14 (-1)) 15 (-1)) 16 (-1)) 17 (-1)) 18 (-1)) 19 (-1)) 20 (-1)) 21 (-1)) 22 (-1)) 23 (-1)) 24 (-1)) 25 (-1)) 26 (-1)) 27 (-1)) 28 (-1)) 29 (-1)) 30 (-1)) 31 (-1)) 32 (-1)) 33 (-1)) 34 (-1)) 35 (-1)) 36 (-1)) 37 (-1)) 38 (-1)) 39 (-1)) 40 (-1)) 41 (-1)) 42 (-1)) 43 (-1)) 44 (-1)) 45 (-1)) 46 (-1)) 47 (-1)) 48 (-1)) 49 (-1)) 50 (-1)) 51 (-1)) 52 (-1)) 53 (-1)) 54 (-1)) 55 (-1)) 56 (-1)) 57 (-1)) 58 (-1)) 59 (-1)) 60 (-1)) 61 (-1)) 62 (-1)) 63 (-1)) 64 (-1)) 65 (-1)) 66 (-1)) 67 (-1)) 68 (-1)) 69 (-1)) 70 (-1)) 71 (-1)) 72 (-1)) 73 (-1)) 139 1000) 140 100) 145 1000) 146 100) 151 1000) 152 100) 157 1000) 158 100) 163 1000) 164 100) 169 1000) 170 100) 175 1000) 176 100) 181 1000) 182 100) 47 a2))))
theorem ro_1495 (z : pq_C) (a2 : Int32) (h0 : -1 ≤ a2.toInt) (h1 : a2.toInt < 8) : pq_Ru 3 159 [.ref 90, .int 37, .int a2] (wd_1290 z a2) (some (.int (-1)), (wd_1291 z a2)) := by
  refine ru_of (k := 2) (M := pm_159) rfl rfl ?_
  refine go_seg 1 (pc' := 1) (ls' := [(0, .ref 90), (1, .int 37), (2, .int a2)]) (st' := [.int 37]) (w' := (wd_1290 z a2)) (cs' := 0) (ss' := 0) ?_ (fun _ _ => rfl)
  refine go_cl (k := 2) (st' := [.int 1]) (cs' := 0) (ss' := 0) rfl rfl rfl rfl rfl rfl rfl (ro_1493 z a2 (by omega) (by omega)) ?_
  refine go_seg 5 (pc' := 15) (ls' := [(0, .ref 90), (1, .int 37), (2, .int a2)]) (st' := [.long 7, .long (-1), .long a2.toInt64]) (w' := (wd_1290 z a2)) (cs' := 0) (ss' := 0) ?_ (fun _ _ => rfl)
  refine go_cl (k := 2) (st' := [.int 1]) (cs' := 0) (ss' := 0) rfl rfl rfl rfl rfl rfl rfl (wi_t _ a2 (-1) 7 (-1) 7 rfl rfl (by omega)) ?_
  refine go_seg 8 (pc' := 38) (ls' := [(3, .int (-1)), (0, .ref 90), (1, .int 37), (2, .int a2)]) (st' := []) (w' := (wd_1290 z a2)) (cs' := 0) (ss' := 0) ?_ (fun _ _ => rfl)
  refine go_seg 8 (pc' := 49) (ls' := [(3, .int (-1)), (0, .ref 90), (1, .int 37), (2, .int a2)]) (st' := [.int (-1)]) (w' := (wd_1291 z a2)) (cs' := 0) (ss' := 0) ?_ (fun _ _ => rfl)
  exact go_end 1 (fun _ _ => rfl)
theorem lf_0_1496 (a0 : Int32) (a2 : Int32) (a3 : Int32) (a4 : Int32) (a5 : Int32) (h0 : -1 ≤ a2.toInt) (h1 : a2.toInt < 8) : ∃ w', pq_Go 20 pm_law 212 [(3, .int 0), (2, .ref 90), (1, .ref 1), (0, .ref 0)] [] (fw (sz a0 37 a2 a3 a4 a5)) 109 12668 (some (.int 1), w') := by
  refine ⟨(wd_1291 (sz a0 37 a2 a3 a4 a5) a2), ?_⟩
  refine go_seg 8 (pc' := 220) (ls' := [(3, .int 0), (2, .ref 90), (1, .ref 1), (0, .ref 0)]) (st' := [.int 0, .ref 0, .int 37, .ref 1]) (w' := (fw (sz a0 37 a2 a3 a4 a5))) (cs' := 109) (ss' := 12668) ?_ (fun _ _ => rfl)
  refine go_seg 3 (pc' := 223) (ls' := [(3, .int 0), (2, .ref 90), (1, .ref 1), (0, .ref 0)]) (st' := [.int a2, .int 37, .ref 1]) (w' := (fw (sz a0 37 a2 a3 a4 a5))) (cs' := 109) (ss' := 12668) ?_ (fun _ _ => rfl)
  refine go_cl (k := 20) (st' := [.int (-1)]) (cs' := 109) (ss' := 12668) rfl rfl rfl rfl rfl rfl rfl (ro_1490 (sz a0 37 a2 a3 a4 a5) a2 (by omega) (by omega)) ?_
  refine go_seg 8 (pc' := 234) (ls' := [(3, .int 0), (2, .ref 90), (1, .ref 1), (0, .ref 0)]) (st' := [.int 0, .ref 0, .int 37, .ref 90, .int (-1)]) (w' := (wd_1290 (sz a0 37 a2 a3 a4 a5) a2)) (cs' := 109) (ss' := 12668) ?_ (fun _ _ => rfl)
  refine go_seg 3 (pc' := 237) (ls' := [(3, .int 0), (2, .ref 90), (1, .ref 1), (0, .ref 0)]) (st' := [.int a2, .int 37, .ref 90, .int (-1)]) (w' := (wd_1290 (sz a0 37 a2 a3 a4 a5) a2)) (cs' := 109) (ss' := 12668) ?_ (fun _ _ => rfl)
  refine go_cl (k := 20) (st' := [.int (-1), .int (-1)]) (cs' := 109) (ss' := 12668) rfl rfl rfl rfl rfl rfl rfl (ro_1495 (sz a0 37 a2 a3 a4 a5) a2 (by omega) (by omega)) ?_
  refine go_cmp true rfl (br_self _) ?_
  exact law_tail (f := sc a0 37 a2 a3 a4 a5) rfl
theorem ro_1497 (z : pq_C) : pq_Ru 1 13 [.int 38] (fw z) (some (.int 1), (fw z)) := by
  refine ru_of (k := 0) (M := pm_13) rfl rfl ?_
  exact go_end 8 (fun _ _ => rfl)
def wd_1292 (z : pq_C) (a2 : Int32) : pq_W := ((fw z).set 3 (.inl (.int, 64, .inl (upd (fl_c 64 (-1) (fun _ => 0)) 38 a2))))
theorem ro_1498 (z : pq_C) (a2 : Int32) (h0 : -1 ≤ a2.toInt) (h1 : a2.toInt < 8) : pq_Ru 2 12 [.ref 1, .int 38, .int a2] (fw z) (some (.int (-1)), (wd_1292 z a2)) := by
  refine ru_of (k := 1) (M := pm_12) rfl rfl ?_
  refine go_seg 1 (pc' := 1) (ls' := [(0, .ref 1), (1, .int 38), (2, .int a2)]) (st' := [.int 38]) (w' := (fw z)) (cs' := 0) (ss' := 0) ?_ (fun _ _ => rfl)
  refine go_cl (k := 1) (st' := [.int 1]) (cs' := 0) (ss' := 0) rfl rfl rfl rfl rfl rfl rfl (ro_1497 z) ?_
  refine go_seg 2 (pc' := 8) (ls' := [(0, .ref 1), (1, .int 38), (2, .int a2)]) (st' := [.int a2]) (w' := (fw z)) (cs' := 0) (ss' := 0) ?_ (fun _ _ => rfl)
  refine go_cl (k := 1) (st' := [.int 1]) (cs' := 0) (ss' := 0) rfl rfl rfl rfl rfl rfl rfl (ro_1193 z a2 (by omega) (by omega)) ?_
  refine go_seg 8 (pc' := 31) (ls' := [(3, .int (-1)), (0, .ref 1), (1, .int 38), (2, .int a2)]) (st' := [.ref 1]) (w' := (fw z)) (cs' := 0) (ss' := 0) ?_ (fun _ _ => rfl)
  exact go_end 7 (fun _ _ => rfl)
theorem ro_1500 (z : pq_C) (a2 : Int32) (h0 : -1 ≤ a2.toInt) (h1 : a2.toInt < 8) : pq_Ru 1 161 [.long 38, .long 0, .long 63] (wd_1292 z a2) (some (.int 1), (wd_1292 z a2)) := by
  refine ru_of (k := 0) (M := pm_161) rfl rfl ?_
  refine go_seg 8 (pc' := 13) (ls' := [(0, .long 38), (2, .long 0), (4, .long 63)]) (st' := []) (w' := (wd_1292 z a2)) (cs' := 0) (ss' := 0) ?_ (fun _ _ => rfl)
  exact go_end 3 (fun _ _ => rfl)
theorem ro_1501 (z : pq_C) (a2 : Int32) (h0 : -1 ≤ a2.toInt) (h1 : a2.toInt < 8) : pq_Ru 2 160 [.int 38] (wd_1292 z a2) (some (.int 1), (wd_1292 z a2)) := by
  refine ru_of (k := 1) (M := pm_160) rfl rfl ?_
  refine go_seg 4 (pc' := 6) (ls' := [(0, .int 38)]) (st' := [.long 63, .long 0, .long 38]) (w' := (wd_1292 z a2)) (cs' := 0) (ss' := 0) ?_ (fun _ _ => rfl)
  refine go_cl (k := 1) (st' := [.int 1]) (cs' := 0) (ss' := 0) rfl rfl rfl rfl rfl rfl rfl (ro_1500 z a2 (by omega) (by omega)) ?_
  exact go_end 1 (fun _ _ => rfl)
def wd_1293 (z : pq_C) (a2 : Int32) : pq_W := ((wd_1292 z a2).set 91 (.inl (.int, 2858, .inl (upd (upd (upd (upd (upd (upd (upd (upd (upd (upd (upd (upd (upd (upd (upd (upd (upd (upd (upd (upd (upd (upd (upd (upd (upd (upd (upd (upd (upd (upd (upd (upd (upd (upd (upd (upd (upd (upd (upd (upd (upd (upd (upd (upd (upd (upd (upd (upd (upd (upd (upd (upd (upd (upd (upd (upd (upd (upd (upd (upd (upd (upd (upd (upd (upd (upd (upd (upd (upd (upd (upd (upd (upd (upd (upd (upd (upd (upd (upd (upd (upd (upd (fun _ => 0) 1 10) 10 (-1)) 11 (-1)) 12 (-1)) 13 (-1)) 14 (-1)) 15 (-1)) 16 (-1)) 17 (-1)) 18 (-1)) 19 (-1)) 20 (-1)) 21 (-1)) 22 (-1)) 23 (-1)) 24 (-1)) 25 (-1)) 26 (-1)) 27 (-1)) 28 (-1)) 29 (-1)) 30 (-1)) 31 (-1)) 32 (-1)) 33 (-1)) 34 (-1)) 35 (-1)) 36 (-1)) 37 (-1)) 38 (-1)) 39 (-1)) 40 (-1)) 41 (-1)) 42 (-1)) 43 (-1)) 44 (-1)) 45 (-1)) 46 (-1)) 47 (-1)) 48 (-1)) 49 (-1)) 50 (-1)) 51 (-1)) 52 (-1)) 53 (-1)) 54 (-1)) 55 (-1)) 56 (-1)) 57 (-1)) 58 (-1)) 59 (-1)) 60 (-1)) 61 (-1)) 62 (-1)) 63 (-1)) 64 (-1)) 65 (-1)) 66 (-1)) 67 (-1)) 68 (-1)) 69 (-1)) 70 (-1)) 71 (-1)) 72 (-1)) 73 (-1)) 139 1000) 140 100) 145 1000) 146 100) 151 1000) 152 100) 157 1000) 158 100) 163 1000) 164 100) 169 1000) 170 100) 175 1000) 176 100) 181 1000) 182 100) 48 a2))))
theorem ro_1503 (z : pq_C) (a2 : Int32) (h0 : -1 ≤ a2.toInt) (h1 : a2.toInt < 8) : pq_Ru 3 159 [.ref 90, .int 38, .int a2] (wd_1292 z a2) (some (.int (-1)), (wd_1293 z a2)) := by
  refine ru_of (k := 2) (M := pm_159) rfl rfl ?_
  refine go_seg 1 (pc' := 1) (ls' := [(0, .ref 90), (1, .int 38), (2, .int a2)]) (st' := [.int 38]) (w' := (wd_1292 z a2)) (cs' := 0) (ss' := 0) ?_ (fun _ _ => rfl)
  refine go_cl (k := 2) (st' := [.int 1]) (cs' := 0) (ss' := 0) rfl rfl rfl rfl rfl rfl rfl (ro_1501 z a2 (by omega) (by omega)) ?_
  refine go_seg 5 (pc' := 15) (ls' := [(0, .ref 90), (1, .int 38), (2, .int a2)]) (st' := [.long 7, .long (-1), .long a2.toInt64]) (w' := (wd_1292 z a2)) (cs' := 0) (ss' := 0) ?_ (fun _ _ => rfl)
  refine go_cl (k := 2) (st' := [.int 1]) (cs' := 0) (ss' := 0) rfl rfl rfl rfl rfl rfl rfl (wi_t _ a2 (-1) 7 (-1) 7 rfl rfl (by omega)) ?_
  refine go_seg 8 (pc' := 38) (ls' := [(3, .int (-1)), (0, .ref 90), (1, .int 38), (2, .int a2)]) (st' := []) (w' := (wd_1292 z a2)) (cs' := 0) (ss' := 0) ?_ (fun _ _ => rfl)
  refine go_seg 8 (pc' := 49) (ls' := [(3, .int (-1)), (0, .ref 90), (1, .int 38), (2, .int a2)]) (st' := [.int (-1)]) (w' := (wd_1293 z a2)) (cs' := 0) (ss' := 0) ?_ (fun _ _ => rfl)
  exact go_end 1 (fun _ _ => rfl)
theorem lf_0_1504 (a0 : Int32) (a2 : Int32) (a3 : Int32) (a4 : Int32) (a5 : Int32) (h0 : -1 ≤ a2.toInt) (h1 : a2.toInt < 8) : ∃ w', pq_Go 20 pm_law 212 [(3, .int 0), (2, .ref 90), (1, .ref 1), (0, .ref 0)] [] (fw (sz a0 38 a2 a3 a4 a5)) 109 12668 (some (.int 1), w') := by
  refine ⟨(wd_1293 (sz a0 38 a2 a3 a4 a5) a2), ?_⟩
  refine go_seg 8 (pc' := 220) (ls' := [(3, .int 0), (2, .ref 90), (1, .ref 1), (0, .ref 0)]) (st' := [.int 0, .ref 0, .int 38, .ref 1]) (w' := (fw (sz a0 38 a2 a3 a4 a5))) (cs' := 109) (ss' := 12668) ?_ (fun _ _ => rfl)
  refine go_seg 3 (pc' := 223) (ls' := [(3, .int 0), (2, .ref 90), (1, .ref 1), (0, .ref 0)]) (st' := [.int a2, .int 38, .ref 1]) (w' := (fw (sz a0 38 a2 a3 a4 a5))) (cs' := 109) (ss' := 12668) ?_ (fun _ _ => rfl)
  refine go_cl (k := 20) (st' := [.int (-1)]) (cs' := 109) (ss' := 12668) rfl rfl rfl rfl rfl rfl rfl (ro_1498 (sz a0 38 a2 a3 a4 a5) a2 (by omega) (by omega)) ?_
  refine go_seg 8 (pc' := 234) (ls' := [(3, .int 0), (2, .ref 90), (1, .ref 1), (0, .ref 0)]) (st' := [.int 0, .ref 0, .int 38, .ref 90, .int (-1)]) (w' := (wd_1292 (sz a0 38 a2 a3 a4 a5) a2)) (cs' := 109) (ss' := 12668) ?_ (fun _ _ => rfl)
  refine go_seg 3 (pc' := 237) (ls' := [(3, .int 0), (2, .ref 90), (1, .ref 1), (0, .ref 0)]) (st' := [.int a2, .int 38, .ref 90, .int (-1)]) (w' := (wd_1292 (sz a0 38 a2 a3 a4 a5) a2)) (cs' := 109) (ss' := 12668) ?_ (fun _ _ => rfl)
  refine go_cl (k := 20) (st' := [.int (-1), .int (-1)]) (cs' := 109) (ss' := 12668) rfl rfl rfl rfl rfl rfl rfl (ro_1503 (sz a0 38 a2 a3 a4 a5) a2 (by omega) (by omega)) ?_
  refine go_cmp true rfl (br_self _) ?_
  exact law_tail (f := sc a0 38 a2 a3 a4 a5) rfl
theorem ro_1505 (z : pq_C) : pq_Ru 1 13 [.int 39] (fw z) (some (.int 1), (fw z)) := by
  refine ru_of (k := 0) (M := pm_13) rfl rfl ?_
  exact go_end 8 (fun _ _ => rfl)
def wd_1294 (z : pq_C) (a2 : Int32) : pq_W := ((fw z).set 3 (.inl (.int, 64, .inl (upd (fl_c 64 (-1) (fun _ => 0)) 39 a2))))
theorem ro_1506 (z : pq_C) (a2 : Int32) (h0 : -1 ≤ a2.toInt) (h1 : a2.toInt < 8) : pq_Ru 2 12 [.ref 1, .int 39, .int a2] (fw z) (some (.int (-1)), (wd_1294 z a2)) := by
  refine ru_of (k := 1) (M := pm_12) rfl rfl ?_
  refine go_seg 1 (pc' := 1) (ls' := [(0, .ref 1), (1, .int 39), (2, .int a2)]) (st' := [.int 39]) (w' := (fw z)) (cs' := 0) (ss' := 0) ?_ (fun _ _ => rfl)
  refine go_cl (k := 1) (st' := [.int 1]) (cs' := 0) (ss' := 0) rfl rfl rfl rfl rfl rfl rfl (ro_1505 z) ?_
  refine go_seg 2 (pc' := 8) (ls' := [(0, .ref 1), (1, .int 39), (2, .int a2)]) (st' := [.int a2]) (w' := (fw z)) (cs' := 0) (ss' := 0) ?_ (fun _ _ => rfl)
  refine go_cl (k := 1) (st' := [.int 1]) (cs' := 0) (ss' := 0) rfl rfl rfl rfl rfl rfl rfl (ro_1193 z a2 (by omega) (by omega)) ?_
  refine go_seg 8 (pc' := 31) (ls' := [(3, .int (-1)), (0, .ref 1), (1, .int 39), (2, .int a2)]) (st' := [.ref 1]) (w' := (fw z)) (cs' := 0) (ss' := 0) ?_ (fun _ _ => rfl)
  exact go_end 7 (fun _ _ => rfl)
theorem ro_1508 (z : pq_C) (a2 : Int32) (h0 : -1 ≤ a2.toInt) (h1 : a2.toInt < 8) : pq_Ru 1 161 [.long 39, .long 0, .long 63] (wd_1294 z a2) (some (.int 1), (wd_1294 z a2)) := by
  refine ru_of (k := 0) (M := pm_161) rfl rfl ?_
  refine go_seg 8 (pc' := 13) (ls' := [(0, .long 39), (2, .long 0), (4, .long 63)]) (st' := []) (w' := (wd_1294 z a2)) (cs' := 0) (ss' := 0) ?_ (fun _ _ => rfl)
  exact go_end 3 (fun _ _ => rfl)
theorem ro_1509 (z : pq_C) (a2 : Int32) (h0 : -1 ≤ a2.toInt) (h1 : a2.toInt < 8) : pq_Ru 2 160 [.int 39] (wd_1294 z a2) (some (.int 1), (wd_1294 z a2)) := by
  refine ru_of (k := 1) (M := pm_160) rfl rfl ?_
  refine go_seg 4 (pc' := 6) (ls' := [(0, .int 39)]) (st' := [.long 63, .long 0, .long 39]) (w' := (wd_1294 z a2)) (cs' := 0) (ss' := 0) ?_ (fun _ _ => rfl)
  refine go_cl (k := 1) (st' := [.int 1]) (cs' := 0) (ss' := 0) rfl rfl rfl rfl rfl rfl rfl (ro_1508 z a2 (by omega) (by omega)) ?_
  exact go_end 1 (fun _ _ => rfl)
def wd_1295 (z : pq_C) (a2 : Int32) : pq_W := ((wd_1294 z a2).set 91 (.inl (.int, 2858, .inl (upd (upd (upd (upd (upd (upd (upd (upd (upd (upd (upd (upd (upd (upd (upd (upd (upd (upd (upd (upd (upd (upd (upd (upd (upd (upd (upd (upd (upd (upd (upd (upd (upd (upd (upd (upd (upd (upd (upd (upd (upd (upd (upd (upd (upd (upd (upd (upd (upd (upd (upd (upd (upd (upd (upd (upd (upd (upd (upd (upd (upd (upd (upd (upd (upd (upd (upd (upd (upd (upd (upd (upd (upd (upd (upd (upd (upd (upd (upd (upd (upd (upd (fun _ => 0) 1 10) 10 (-1)) 11 (-1)) 12 (-1)) 13 (-1)) 14 (-1)) 15 (-1)) 16 (-1)) 17 (-1)) 18 (-1)) 19 (-1)) 20 (-1)) 21 (-1)) 22 (-1)) 23 (-1)) 24 (-1)) 25 (-1)) 26 (-1)) 27 (-1)) 28 (-1)) 29 (-1)) 30 (-1)) 31 (-1)) 32 (-1)) 33 (-1)) 34 (-1)) 35 (-1)) 36 (-1)) 37 (-1)) 38 (-1)) 39 (-1)) 40 (-1)) 41 (-1)) 42 (-1)) 43 (-1)) 44 (-1)) 45 (-1)) 46 (-1)) 47 (-1)) 48 (-1)) 49 (-1)) 50 (-1)) 51 (-1)) 52 (-1)) 53 (-1)) 54 (-1)) 55 (-1)) 56 (-1)) 57 (-1)) 58 (-1)) 59 (-1)) 60 (-1)) 61 (-1)) 62 (-1)) 63 (-1)) 64 (-1)) 65 (-1)) 66 (-1)) 67 (-1)) 68 (-1)) 69 (-1)) 70 (-1)) 71 (-1)) 72 (-1)) 73 (-1)) 139 1000) 140 100) 145 1000) 146 100) 151 1000) 152 100) 157 1000) 158 100) 163 1000) 164 100) 169 1000) 170 100) 175 1000) 176 100) 181 1000) 182 100) 49 a2))))
theorem ro_1511 (z : pq_C) (a2 : Int32) (h0 : -1 ≤ a2.toInt) (h1 : a2.toInt < 8) : pq_Ru 3 159 [.ref 90, .int 39, .int a2] (wd_1294 z a2) (some (.int (-1)), (wd_1295 z a2)) := by
  refine ru_of (k := 2) (M := pm_159) rfl rfl ?_
  refine go_seg 1 (pc' := 1) (ls' := [(0, .ref 90), (1, .int 39), (2, .int a2)]) (st' := [.int 39]) (w' := (wd_1294 z a2)) (cs' := 0) (ss' := 0) ?_ (fun _ _ => rfl)
  refine go_cl (k := 2) (st' := [.int 1]) (cs' := 0) (ss' := 0) rfl rfl rfl rfl rfl rfl rfl (ro_1509 z a2 (by omega) (by omega)) ?_
  refine go_seg 5 (pc' := 15) (ls' := [(0, .ref 90), (1, .int 39), (2, .int a2)]) (st' := [.long 7, .long (-1), .long a2.toInt64]) (w' := (wd_1294 z a2)) (cs' := 0) (ss' := 0) ?_ (fun _ _ => rfl)
  refine go_cl (k := 2) (st' := [.int 1]) (cs' := 0) (ss' := 0) rfl rfl rfl rfl rfl rfl rfl (wi_t _ a2 (-1) 7 (-1) 7 rfl rfl (by omega)) ?_
  refine go_seg 8 (pc' := 38) (ls' := [(3, .int (-1)), (0, .ref 90), (1, .int 39), (2, .int a2)]) (st' := []) (w' := (wd_1294 z a2)) (cs' := 0) (ss' := 0) ?_ (fun _ _ => rfl)
  refine go_seg 8 (pc' := 49) (ls' := [(3, .int (-1)), (0, .ref 90), (1, .int 39), (2, .int a2)]) (st' := [.int (-1)]) (w' := (wd_1295 z a2)) (cs' := 0) (ss' := 0) ?_ (fun _ _ => rfl)
  exact go_end 1 (fun _ _ => rfl)
theorem lf_0_1512 (a0 : Int32) (a2 : Int32) (a3 : Int32) (a4 : Int32) (a5 : Int32) (h0 : -1 ≤ a2.toInt) (h1 : a2.toInt < 8) : ∃ w', pq_Go 20 pm_law 212 [(3, .int 0), (2, .ref 90), (1, .ref 1), (0, .ref 0)] [] (fw (sz a0 39 a2 a3 a4 a5)) 109 12668 (some (.int 1), w') := by
  refine ⟨(wd_1295 (sz a0 39 a2 a3 a4 a5) a2), ?_⟩
  refine go_seg 8 (pc' := 220) (ls' := [(3, .int 0), (2, .ref 90), (1, .ref 1), (0, .ref 0)]) (st' := [.int 0, .ref 0, .int 39, .ref 1]) (w' := (fw (sz a0 39 a2 a3 a4 a5))) (cs' := 109) (ss' := 12668) ?_ (fun _ _ => rfl)
  refine go_seg 3 (pc' := 223) (ls' := [(3, .int 0), (2, .ref 90), (1, .ref 1), (0, .ref 0)]) (st' := [.int a2, .int 39, .ref 1]) (w' := (fw (sz a0 39 a2 a3 a4 a5))) (cs' := 109) (ss' := 12668) ?_ (fun _ _ => rfl)
  refine go_cl (k := 20) (st' := [.int (-1)]) (cs' := 109) (ss' := 12668) rfl rfl rfl rfl rfl rfl rfl (ro_1506 (sz a0 39 a2 a3 a4 a5) a2 (by omega) (by omega)) ?_
  refine go_seg 8 (pc' := 234) (ls' := [(3, .int 0), (2, .ref 90), (1, .ref 1), (0, .ref 0)]) (st' := [.int 0, .ref 0, .int 39, .ref 90, .int (-1)]) (w' := (wd_1294 (sz a0 39 a2 a3 a4 a5) a2)) (cs' := 109) (ss' := 12668) ?_ (fun _ _ => rfl)
  refine go_seg 3 (pc' := 237) (ls' := [(3, .int 0), (2, .ref 90), (1, .ref 1), (0, .ref 0)]) (st' := [.int a2, .int 39, .ref 90, .int (-1)]) (w' := (wd_1294 (sz a0 39 a2 a3 a4 a5) a2)) (cs' := 109) (ss' := 12668) ?_ (fun _ _ => rfl)
  refine go_cl (k := 20) (st' := [.int (-1), .int (-1)]) (cs' := 109) (ss' := 12668) rfl rfl rfl rfl rfl rfl rfl (ro_1511 (sz a0 39 a2 a3 a4 a5) a2 (by omega) (by omega)) ?_
  refine go_cmp true rfl (br_self _) ?_
  exact law_tail (f := sc a0 39 a2 a3 a4 a5) rfl
theorem ro_1513 (z : pq_C) : pq_Ru 1 13 [.int 40] (fw z) (some (.int 1), (fw z)) := by
  refine ru_of (k := 0) (M := pm_13) rfl rfl ?_
  exact go_end 8 (fun _ _ => rfl)
def wd_1296 (z : pq_C) (a2 : Int32) : pq_W := ((fw z).set 3 (.inl (.int, 64, .inl (upd (fl_c 64 (-1) (fun _ => 0)) 40 a2))))
theorem ro_1514 (z : pq_C) (a2 : Int32) (h0 : -1 ≤ a2.toInt) (h1 : a2.toInt < 8) : pq_Ru 2 12 [.ref 1, .int 40, .int a2] (fw z) (some (.int (-1)), (wd_1296 z a2)) := by
  refine ru_of (k := 1) (M := pm_12) rfl rfl ?_
  refine go_seg 1 (pc' := 1) (ls' := [(0, .ref 1), (1, .int 40), (2, .int a2)]) (st' := [.int 40]) (w' := (fw z)) (cs' := 0) (ss' := 0) ?_ (fun _ _ => rfl)
  refine go_cl (k := 1) (st' := [.int 1]) (cs' := 0) (ss' := 0) rfl rfl rfl rfl rfl rfl rfl (ro_1513 z) ?_
  refine go_seg 2 (pc' := 8) (ls' := [(0, .ref 1), (1, .int 40), (2, .int a2)]) (st' := [.int a2]) (w' := (fw z)) (cs' := 0) (ss' := 0) ?_ (fun _ _ => rfl)
  refine go_cl (k := 1) (st' := [.int 1]) (cs' := 0) (ss' := 0) rfl rfl rfl rfl rfl rfl rfl (ro_1193 z a2 (by omega) (by omega)) ?_
  refine go_seg 8 (pc' := 31) (ls' := [(3, .int (-1)), (0, .ref 1), (1, .int 40), (2, .int a2)]) (st' := [.ref 1]) (w' := (fw z)) (cs' := 0) (ss' := 0) ?_ (fun _ _ => rfl)
  exact go_end 7 (fun _ _ => rfl)
theorem ro_1516 (z : pq_C) (a2 : Int32) (h0 : -1 ≤ a2.toInt) (h1 : a2.toInt < 8) : pq_Ru 1 161 [.long 40, .long 0, .long 63] (wd_1296 z a2) (some (.int 1), (wd_1296 z a2)) := by
  refine ru_of (k := 0) (M := pm_161) rfl rfl ?_
  refine go_seg 8 (pc' := 13) (ls' := [(0, .long 40), (2, .long 0), (4, .long 63)]) (st' := []) (w' := (wd_1296 z a2)) (cs' := 0) (ss' := 0) ?_ (fun _ _ => rfl)
  exact go_end 3 (fun _ _ => rfl)
theorem ro_1517 (z : pq_C) (a2 : Int32) (h0 : -1 ≤ a2.toInt) (h1 : a2.toInt < 8) : pq_Ru 2 160 [.int 40] (wd_1296 z a2) (some (.int 1), (wd_1296 z a2)) := by
  refine ru_of (k := 1) (M := pm_160) rfl rfl ?_
  refine go_seg 4 (pc' := 6) (ls' := [(0, .int 40)]) (st' := [.long 63, .long 0, .long 40]) (w' := (wd_1296 z a2)) (cs' := 0) (ss' := 0) ?_ (fun _ _ => rfl)
  refine go_cl (k := 1) (st' := [.int 1]) (cs' := 0) (ss' := 0) rfl rfl rfl rfl rfl rfl rfl (ro_1516 z a2 (by omega) (by omega)) ?_
  exact go_end 1 (fun _ _ => rfl)
def wd_1297 (z : pq_C) (a2 : Int32) : pq_W := ((wd_1296 z a2).set 91 (.inl (.int, 2858, .inl (upd (upd (upd (upd (upd (upd (upd (upd (upd (upd (upd (upd (upd (upd (upd (upd (upd (upd (upd (upd (upd (upd (upd (upd (upd (upd (upd (upd (upd (upd (upd (upd (upd (upd (upd (upd (upd (upd (upd (upd (upd (upd (upd (upd (upd (upd (upd (upd (upd (upd (upd (upd (upd (upd (upd (upd (upd (upd (upd (upd (upd (upd (upd (upd (upd (upd (upd (upd (upd (upd (upd (upd (upd (upd (upd (upd (upd (upd (upd (upd (upd (upd (fun _ => 0) 1 10) 10 (-1)) 11 (-1)) 12 (-1)) 13 (-1)) 14 (-1)) 15 (-1)) 16 (-1)) 17 (-1)) 18 (-1)) 19 (-1)) 20 (-1)) 21 (-1)) 22 (-1)) 23 (-1)) 24 (-1)) 25 (-1)) 26 (-1)) 27 (-1)) 28 (-1)) 29 (-1)) 30 (-1)) 31 (-1)) 32 (-1)) 33 (-1)) 34 (-1)) 35 (-1)) 36 (-1)) 37 (-1)) 38 (-1)) 39 (-1)) 40 (-1)) 41 (-1)) 42 (-1)) 43 (-1)) 44 (-1)) 45 (-1)) 46 (-1)) 47 (-1)) 48 (-1)) 49 (-1)) 50 (-1)) 51 (-1)) 52 (-1)) 53 (-1)) 54 (-1)) 55 (-1)) 56 (-1)) 57 (-1)) 58 (-1)) 59 (-1)) 60 (-1)) 61 (-1)) 62 (-1)) 63 (-1)) 64 (-1)) 65 (-1)) 66 (-1)) 67 (-1)) 68 (-1)) 69 (-1)) 70 (-1)) 71 (-1)) 72 (-1)) 73 (-1)) 139 1000) 140 100) 145 1000) 146 100) 151 1000) 152 100) 157 1000) 158 100) 163 1000) 164 100) 169 1000) 170 100) 175 1000) 176 100) 181 1000) 182 100) 50 a2))))
theorem ro_1519 (z : pq_C) (a2 : Int32) (h0 : -1 ≤ a2.toInt) (h1 : a2.toInt < 8) : pq_Ru 3 159 [.ref 90, .int 40, .int a2] (wd_1296 z a2) (some (.int (-1)), (wd_1297 z a2)) := by
  refine ru_of (k := 2) (M := pm_159) rfl rfl ?_
  refine go_seg 1 (pc' := 1) (ls' := [(0, .ref 90), (1, .int 40), (2, .int a2)]) (st' := [.int 40]) (w' := (wd_1296 z a2)) (cs' := 0) (ss' := 0) ?_ (fun _ _ => rfl)
  refine go_cl (k := 2) (st' := [.int 1]) (cs' := 0) (ss' := 0) rfl rfl rfl rfl rfl rfl rfl (ro_1517 z a2 (by omega) (by omega)) ?_
  refine go_seg 5 (pc' := 15) (ls' := [(0, .ref 90), (1, .int 40), (2, .int a2)]) (st' := [.long 7, .long (-1), .long a2.toInt64]) (w' := (wd_1296 z a2)) (cs' := 0) (ss' := 0) ?_ (fun _ _ => rfl)
  refine go_cl (k := 2) (st' := [.int 1]) (cs' := 0) (ss' := 0) rfl rfl rfl rfl rfl rfl rfl (wi_t _ a2 (-1) 7 (-1) 7 rfl rfl (by omega)) ?_
  refine go_seg 8 (pc' := 38) (ls' := [(3, .int (-1)), (0, .ref 90), (1, .int 40), (2, .int a2)]) (st' := []) (w' := (wd_1296 z a2)) (cs' := 0) (ss' := 0) ?_ (fun _ _ => rfl)
  refine go_seg 8 (pc' := 49) (ls' := [(3, .int (-1)), (0, .ref 90), (1, .int 40), (2, .int a2)]) (st' := [.int (-1)]) (w' := (wd_1297 z a2)) (cs' := 0) (ss' := 0) ?_ (fun _ _ => rfl)
  exact go_end 1 (fun _ _ => rfl)
theorem lf_0_1520 (a0 : Int32) (a2 : Int32) (a3 : Int32) (a4 : Int32) (a5 : Int32) (h0 : -1 ≤ a2.toInt) (h1 : a2.toInt < 8) : ∃ w', pq_Go 20 pm_law 212 [(3, .int 0), (2, .ref 90), (1, .ref 1), (0, .ref 0)] [] (fw (sz a0 40 a2 a3 a4 a5)) 109 12668 (some (.int 1), w') := by
  refine ⟨(wd_1297 (sz a0 40 a2 a3 a4 a5) a2), ?_⟩
  refine go_seg 8 (pc' := 220) (ls' := [(3, .int 0), (2, .ref 90), (1, .ref 1), (0, .ref 0)]) (st' := [.int 0, .ref 0, .int 40, .ref 1]) (w' := (fw (sz a0 40 a2 a3 a4 a5))) (cs' := 109) (ss' := 12668) ?_ (fun _ _ => rfl)
  refine go_seg 3 (pc' := 223) (ls' := [(3, .int 0), (2, .ref 90), (1, .ref 1), (0, .ref 0)]) (st' := [.int a2, .int 40, .ref 1]) (w' := (fw (sz a0 40 a2 a3 a4 a5))) (cs' := 109) (ss' := 12668) ?_ (fun _ _ => rfl)
  refine go_cl (k := 20) (st' := [.int (-1)]) (cs' := 109) (ss' := 12668) rfl rfl rfl rfl rfl rfl rfl (ro_1514 (sz a0 40 a2 a3 a4 a5) a2 (by omega) (by omega)) ?_
  refine go_seg 8 (pc' := 234) (ls' := [(3, .int 0), (2, .ref 90), (1, .ref 1), (0, .ref 0)]) (st' := [.int 0, .ref 0, .int 40, .ref 90, .int (-1)]) (w' := (wd_1296 (sz a0 40 a2 a3 a4 a5) a2)) (cs' := 109) (ss' := 12668) ?_ (fun _ _ => rfl)
  refine go_seg 3 (pc' := 237) (ls' := [(3, .int 0), (2, .ref 90), (1, .ref 1), (0, .ref 0)]) (st' := [.int a2, .int 40, .ref 90, .int (-1)]) (w' := (wd_1296 (sz a0 40 a2 a3 a4 a5) a2)) (cs' := 109) (ss' := 12668) ?_ (fun _ _ => rfl)
  refine go_cl (k := 20) (st' := [.int (-1), .int (-1)]) (cs' := 109) (ss' := 12668) rfl rfl rfl rfl rfl rfl rfl (ro_1519 (sz a0 40 a2 a3 a4 a5) a2 (by omega) (by omega)) ?_
  refine go_cmp true rfl (br_self _) ?_
  exact law_tail (f := sc a0 40 a2 a3 a4 a5) rfl
theorem ro_1521 (z : pq_C) : pq_Ru 1 13 [.int 41] (fw z) (some (.int 1), (fw z)) := by
  refine ru_of (k := 0) (M := pm_13) rfl rfl ?_
  exact go_end 8 (fun _ _ => rfl)
def wd_1298 (z : pq_C) (a2 : Int32) : pq_W := ((fw z).set 3 (.inl (.int, 64, .inl (upd (fl_c 64 (-1) (fun _ => 0)) 41 a2))))
theorem ro_1522 (z : pq_C) (a2 : Int32) (h0 : -1 ≤ a2.toInt) (h1 : a2.toInt < 8) : pq_Ru 2 12 [.ref 1, .int 41, .int a2] (fw z) (some (.int (-1)), (wd_1298 z a2)) := by
  refine ru_of (k := 1) (M := pm_12) rfl rfl ?_
  refine go_seg 1 (pc' := 1) (ls' := [(0, .ref 1), (1, .int 41), (2, .int a2)]) (st' := [.int 41]) (w' := (fw z)) (cs' := 0) (ss' := 0) ?_ (fun _ _ => rfl)
  refine go_cl (k := 1) (st' := [.int 1]) (cs' := 0) (ss' := 0) rfl rfl rfl rfl rfl rfl rfl (ro_1521 z) ?_
  refine go_seg 2 (pc' := 8) (ls' := [(0, .ref 1), (1, .int 41), (2, .int a2)]) (st' := [.int a2]) (w' := (fw z)) (cs' := 0) (ss' := 0) ?_ (fun _ _ => rfl)
  refine go_cl (k := 1) (st' := [.int 1]) (cs' := 0) (ss' := 0) rfl rfl rfl rfl rfl rfl rfl (ro_1193 z a2 (by omega) (by omega)) ?_
  refine go_seg 8 (pc' := 31) (ls' := [(3, .int (-1)), (0, .ref 1), (1, .int 41), (2, .int a2)]) (st' := [.ref 1]) (w' := (fw z)) (cs' := 0) (ss' := 0) ?_ (fun _ _ => rfl)
  exact go_end 7 (fun _ _ => rfl)
theorem ro_1524 (z : pq_C) (a2 : Int32) (h0 : -1 ≤ a2.toInt) (h1 : a2.toInt < 8) : pq_Ru 1 161 [.long 41, .long 0, .long 63] (wd_1298 z a2) (some (.int 1), (wd_1298 z a2)) := by
  refine ru_of (k := 0) (M := pm_161) rfl rfl ?_
  refine go_seg 8 (pc' := 13) (ls' := [(0, .long 41), (2, .long 0), (4, .long 63)]) (st' := []) (w' := (wd_1298 z a2)) (cs' := 0) (ss' := 0) ?_ (fun _ _ => rfl)
  exact go_end 3 (fun _ _ => rfl)
theorem ro_1525 (z : pq_C) (a2 : Int32) (h0 : -1 ≤ a2.toInt) (h1 : a2.toInt < 8) : pq_Ru 2 160 [.int 41] (wd_1298 z a2) (some (.int 1), (wd_1298 z a2)) := by
  refine ru_of (k := 1) (M := pm_160) rfl rfl ?_
  refine go_seg 4 (pc' := 6) (ls' := [(0, .int 41)]) (st' := [.long 63, .long 0, .long 41]) (w' := (wd_1298 z a2)) (cs' := 0) (ss' := 0) ?_ (fun _ _ => rfl)
  refine go_cl (k := 1) (st' := [.int 1]) (cs' := 0) (ss' := 0) rfl rfl rfl rfl rfl rfl rfl (ro_1524 z a2 (by omega) (by omega)) ?_
  exact go_end 1 (fun _ _ => rfl)
def wd_1299 (z : pq_C) (a2 : Int32) : pq_W := ((wd_1298 z a2).set 91 (.inl (.int, 2858, .inl (upd (upd (upd (upd (upd (upd (upd (upd (upd (upd (upd (upd (upd (upd (upd (upd (upd (upd (upd (upd (upd (upd (upd (upd (upd (upd (upd (upd (upd (upd (upd (upd (upd (upd (upd (upd (upd (upd (upd (upd (upd (upd (upd (upd (upd (upd (upd (upd (upd (upd (upd (upd (upd (upd (upd (upd (upd (upd (upd (upd (upd (upd (upd (upd (upd (upd (upd (upd (upd (upd (upd (upd (upd (upd (upd (upd (upd (upd (upd (upd (upd (upd (fun _ => 0) 1 10) 10 (-1)) 11 (-1)) 12 (-1)) 13 (-1)) 14 (-1)) 15 (-1)) 16 (-1)) 17 (-1)) 18 (-1)) 19 (-1)) 20 (-1)) 21 (-1)) 22 (-1)) 23 (-1)) 24 (-1)) 25 (-1)) 26 (-1)) 27 (-1)) 28 (-1)) 29 (-1)) 30 (-1)) 31 (-1)) 32 (-1)) 33 (-1)) 34 (-1)) 35 (-1)) 36 (-1)) 37 (-1)) 38 (-1)) 39 (-1)) 40 (-1)) 41 (-1)) 42 (-1)) 43 (-1)) 44 (-1)) 45 (-1)) 46 (-1)) 47 (-1)) 48 (-1)) 49 (-1)) 50 (-1)) 51 (-1)) 52 (-1)) 53 (-1)) 54 (-1)) 55 (-1)) 56 (-1)) 57 (-1)) 58 (-1)) 59 (-1)) 60 (-1)) 61 (-1)) 62 (-1)) 63 (-1)) 64 (-1)) 65 (-1)) 66 (-1)) 67 (-1)) 68 (-1)) 69 (-1)) 70 (-1)) 71 (-1)) 72 (-1)) 73 (-1)) 139 1000) 140 100) 145 1000) 146 100) 151 1000) 152 100) 157 1000) 158 100) 163 1000) 164 100) 169 1000) 170 100) 175 1000) 176 100) 181 1000) 182 100) 51 a2))))
theorem ro_1527 (z : pq_C) (a2 : Int32) (h0 : -1 ≤ a2.toInt) (h1 : a2.toInt < 8) : pq_Ru 3 159 [.ref 90, .int 41, .int a2] (wd_1298 z a2) (some (.int (-1)), (wd_1299 z a2)) := by
  refine ru_of (k := 2) (M := pm_159) rfl rfl ?_
  refine go_seg 1 (pc' := 1) (ls' := [(0, .ref 90), (1, .int 41), (2, .int a2)]) (st' := [.int 41]) (w' := (wd_1298 z a2)) (cs' := 0) (ss' := 0) ?_ (fun _ _ => rfl)
  refine go_cl (k := 2) (st' := [.int 1]) (cs' := 0) (ss' := 0) rfl rfl rfl rfl rfl rfl rfl (ro_1525 z a2 (by omega) (by omega)) ?_
  refine go_seg 5 (pc' := 15) (ls' := [(0, .ref 90), (1, .int 41), (2, .int a2)]) (st' := [.long 7, .long (-1), .long a2.toInt64]) (w' := (wd_1298 z a2)) (cs' := 0) (ss' := 0) ?_ (fun _ _ => rfl)
  refine go_cl (k := 2) (st' := [.int 1]) (cs' := 0) (ss' := 0) rfl rfl rfl rfl rfl rfl rfl (wi_t _ a2 (-1) 7 (-1) 7 rfl rfl (by omega)) ?_
  refine go_seg 8 (pc' := 38) (ls' := [(3, .int (-1)), (0, .ref 90), (1, .int 41), (2, .int a2)]) (st' := []) (w' := (wd_1298 z a2)) (cs' := 0) (ss' := 0) ?_ (fun _ _ => rfl)
  refine go_seg 8 (pc' := 49) (ls' := [(3, .int (-1)), (0, .ref 90), (1, .int 41), (2, .int a2)]) (st' := [.int (-1)]) (w' := (wd_1299 z a2)) (cs' := 0) (ss' := 0) ?_ (fun _ _ => rfl)
  exact go_end 1 (fun _ _ => rfl)
theorem lf_0_1528 (a0 : Int32) (a2 : Int32) (a3 : Int32) (a4 : Int32) (a5 : Int32) (h0 : -1 ≤ a2.toInt) (h1 : a2.toInt < 8) : ∃ w', pq_Go 20 pm_law 212 [(3, .int 0), (2, .ref 90), (1, .ref 1), (0, .ref 0)] [] (fw (sz a0 41 a2 a3 a4 a5)) 109 12668 (some (.int 1), w') := by
  refine ⟨(wd_1299 (sz a0 41 a2 a3 a4 a5) a2), ?_⟩
  refine go_seg 8 (pc' := 220) (ls' := [(3, .int 0), (2, .ref 90), (1, .ref 1), (0, .ref 0)]) (st' := [.int 0, .ref 0, .int 41, .ref 1]) (w' := (fw (sz a0 41 a2 a3 a4 a5))) (cs' := 109) (ss' := 12668) ?_ (fun _ _ => rfl)
  refine go_seg 3 (pc' := 223) (ls' := [(3, .int 0), (2, .ref 90), (1, .ref 1), (0, .ref 0)]) (st' := [.int a2, .int 41, .ref 1]) (w' := (fw (sz a0 41 a2 a3 a4 a5))) (cs' := 109) (ss' := 12668) ?_ (fun _ _ => rfl)
  refine go_cl (k := 20) (st' := [.int (-1)]) (cs' := 109) (ss' := 12668) rfl rfl rfl rfl rfl rfl rfl (ro_1522 (sz a0 41 a2 a3 a4 a5) a2 (by omega) (by omega)) ?_
  refine go_seg 8 (pc' := 234) (ls' := [(3, .int 0), (2, .ref 90), (1, .ref 1), (0, .ref 0)]) (st' := [.int 0, .ref 0, .int 41, .ref 90, .int (-1)]) (w' := (wd_1298 (sz a0 41 a2 a3 a4 a5) a2)) (cs' := 109) (ss' := 12668) ?_ (fun _ _ => rfl)
  refine go_seg 3 (pc' := 237) (ls' := [(3, .int 0), (2, .ref 90), (1, .ref 1), (0, .ref 0)]) (st' := [.int a2, .int 41, .ref 90, .int (-1)]) (w' := (wd_1298 (sz a0 41 a2 a3 a4 a5) a2)) (cs' := 109) (ss' := 12668) ?_ (fun _ _ => rfl)
  refine go_cl (k := 20) (st' := [.int (-1), .int (-1)]) (cs' := 109) (ss' := 12668) rfl rfl rfl rfl rfl rfl rfl (ro_1527 (sz a0 41 a2 a3 a4 a5) a2 (by omega) (by omega)) ?_
  refine go_cmp true rfl (br_self _) ?_
  exact law_tail (f := sc a0 41 a2 a3 a4 a5) rfl
theorem ro_1529 (z : pq_C) : pq_Ru 1 13 [.int 42] (fw z) (some (.int 1), (fw z)) := by
  refine ru_of (k := 0) (M := pm_13) rfl rfl ?_
  exact go_end 8 (fun _ _ => rfl)
def wd_1300 (z : pq_C) (a2 : Int32) : pq_W := ((fw z).set 3 (.inl (.int, 64, .inl (upd (fl_c 64 (-1) (fun _ => 0)) 42 a2))))
theorem ro_1530 (z : pq_C) (a2 : Int32) (h0 : -1 ≤ a2.toInt) (h1 : a2.toInt < 8) : pq_Ru 2 12 [.ref 1, .int 42, .int a2] (fw z) (some (.int (-1)), (wd_1300 z a2)) := by
  refine ru_of (k := 1) (M := pm_12) rfl rfl ?_
  refine go_seg 1 (pc' := 1) (ls' := [(0, .ref 1), (1, .int 42), (2, .int a2)]) (st' := [.int 42]) (w' := (fw z)) (cs' := 0) (ss' := 0) ?_ (fun _ _ => rfl)
  refine go_cl (k := 1) (st' := [.int 1]) (cs' := 0) (ss' := 0) rfl rfl rfl rfl rfl rfl rfl (ro_1529 z) ?_
  refine go_seg 2 (pc' := 8) (ls' := [(0, .ref 1), (1, .int 42), (2, .int a2)]) (st' := [.int a2]) (w' := (fw z)) (cs' := 0) (ss' := 0) ?_ (fun _ _ => rfl)
  refine go_cl (k := 1) (st' := [.int 1]) (cs' := 0) (ss' := 0) rfl rfl rfl rfl rfl rfl rfl (ro_1193 z a2 (by omega) (by omega)) ?_
  refine go_seg 8 (pc' := 31) (ls' := [(3, .int (-1)), (0, .ref 1), (1, .int 42), (2, .int a2)]) (st' := [.ref 1]) (w' := (fw z)) (cs' := 0) (ss' := 0) ?_ (fun _ _ => rfl)
  exact go_end 7 (fun _ _ => rfl)
theorem ro_1532 (z : pq_C) (a2 : Int32) (h0 : -1 ≤ a2.toInt) (h1 : a2.toInt < 8) : pq_Ru 1 161 [.long 42, .long 0, .long 63] (wd_1300 z a2) (some (.int 1), (wd_1300 z a2)) := by
  refine ru_of (k := 0) (M := pm_161) rfl rfl ?_
  refine go_seg 8 (pc' := 13) (ls' := [(0, .long 42), (2, .long 0), (4, .long 63)]) (st' := []) (w' := (wd_1300 z a2)) (cs' := 0) (ss' := 0) ?_ (fun _ _ => rfl)
  exact go_end 3 (fun _ _ => rfl)
theorem ro_1533 (z : pq_C) (a2 : Int32) (h0 : -1 ≤ a2.toInt) (h1 : a2.toInt < 8) : pq_Ru 2 160 [.int 42] (wd_1300 z a2) (some (.int 1), (wd_1300 z a2)) := by
  refine ru_of (k := 1) (M := pm_160) rfl rfl ?_
  refine go_seg 4 (pc' := 6) (ls' := [(0, .int 42)]) (st' := [.long 63, .long 0, .long 42]) (w' := (wd_1300 z a2)) (cs' := 0) (ss' := 0) ?_ (fun _ _ => rfl)
  refine go_cl (k := 1) (st' := [.int 1]) (cs' := 0) (ss' := 0) rfl rfl rfl rfl rfl rfl rfl (ro_1532 z a2 (by omega) (by omega)) ?_
  exact go_end 1 (fun _ _ => rfl)
def wd_1301 (z : pq_C) (a2 : Int32) : pq_W := ((wd_1300 z a2).set 91 (.inl (.int, 2858, .inl (upd (upd (upd (upd (upd (upd (upd (upd (upd (upd (upd (upd (upd (upd (upd (upd (upd (upd (upd (upd (upd (upd (upd (upd (upd (upd (upd (upd (upd (upd (upd (upd (upd (upd (upd (upd (upd (upd (upd (upd (upd (upd (upd (upd (upd (upd (upd (upd (upd (upd (upd (upd (upd (upd (upd (upd (upd (upd (upd (upd (upd (upd (upd (upd (upd (upd (upd (upd (upd (upd (upd (upd (upd (upd (upd (upd (upd (upd (upd (upd (upd (upd (fun _ => 0) 1 10) 10 (-1)) 11 (-1)) 12 (-1)) 13 (-1)) 14 (-1)) 15 (-1)) 16 (-1)) 17 (-1)) 18 (-1)) 19 (-1)) 20 (-1)) 21 (-1)) 22 (-1)) 23 (-1)) 24 (-1)) 25 (-1)) 26 (-1)) 27 (-1)) 28 (-1)) 29 (-1)) 30 (-1)) 31 (-1)) 32 (-1)) 33 (-1)) 34 (-1)) 35 (-1)) 36 (-1)) 37 (-1)) 38 (-1)) 39 (-1)) 40 (-1)) 41 (-1)) 42 (-1)) 43 (-1)) 44 (-1)) 45 (-1)) 46 (-1)) 47 (-1)) 48 (-1)) 49 (-1)) 50 (-1)) 51 (-1)) 52 (-1)) 53 (-1)) 54 (-1)) 55 (-1)) 56 (-1)) 57 (-1)) 58 (-1)) 59 (-1)) 60 (-1)) 61 (-1)) 62 (-1)) 63 (-1)) 64 (-1)) 65 (-1)) 66 (-1)) 67 (-1)) 68 (-1)) 69 (-1)) 70 (-1)) 71 (-1)) 72 (-1)) 73 (-1)) 139 1000) 140 100) 145 1000) 146 100) 151 1000) 152 100) 157 1000) 158 100) 163 1000) 164 100) 169 1000) 170 100) 175 1000) 176 100) 181 1000) 182 100) 52 a2))))
theorem ro_1535 (z : pq_C) (a2 : Int32) (h0 : -1 ≤ a2.toInt) (h1 : a2.toInt < 8) : pq_Ru 3 159 [.ref 90, .int 42, .int a2] (wd_1300 z a2) (some (.int (-1)), (wd_1301 z a2)) := by
  refine ru_of (k := 2) (M := pm_159) rfl rfl ?_
  refine go_seg 1 (pc' := 1) (ls' := [(0, .ref 90), (1, .int 42), (2, .int a2)]) (st' := [.int 42]) (w' := (wd_1300 z a2)) (cs' := 0) (ss' := 0) ?_ (fun _ _ => rfl)
  refine go_cl (k := 2) (st' := [.int 1]) (cs' := 0) (ss' := 0) rfl rfl rfl rfl rfl rfl rfl (ro_1533 z a2 (by omega) (by omega)) ?_
  refine go_seg 5 (pc' := 15) (ls' := [(0, .ref 90), (1, .int 42), (2, .int a2)]) (st' := [.long 7, .long (-1), .long a2.toInt64]) (w' := (wd_1300 z a2)) (cs' := 0) (ss' := 0) ?_ (fun _ _ => rfl)
  refine go_cl (k := 2) (st' := [.int 1]) (cs' := 0) (ss' := 0) rfl rfl rfl rfl rfl rfl rfl (wi_t _ a2 (-1) 7 (-1) 7 rfl rfl (by omega)) ?_
  refine go_seg 8 (pc' := 38) (ls' := [(3, .int (-1)), (0, .ref 90), (1, .int 42), (2, .int a2)]) (st' := []) (w' := (wd_1300 z a2)) (cs' := 0) (ss' := 0) ?_ (fun _ _ => rfl)
  refine go_seg 8 (pc' := 49) (ls' := [(3, .int (-1)), (0, .ref 90), (1, .int 42), (2, .int a2)]) (st' := [.int (-1)]) (w' := (wd_1301 z a2)) (cs' := 0) (ss' := 0) ?_ (fun _ _ => rfl)
  exact go_end 1 (fun _ _ => rfl)
theorem lf_0_1536 (a0 : Int32) (a2 : Int32) (a3 : Int32) (a4 : Int32) (a5 : Int32) (h0 : -1 ≤ a2.toInt) (h1 : a2.toInt < 8) : ∃ w', pq_Go 20 pm_law 212 [(3, .int 0), (2, .ref 90), (1, .ref 1), (0, .ref 0)] [] (fw (sz a0 42 a2 a3 a4 a5)) 109 12668 (some (.int 1), w') := by
  refine ⟨(wd_1301 (sz a0 42 a2 a3 a4 a5) a2), ?_⟩
  refine go_seg 8 (pc' := 220) (ls' := [(3, .int 0), (2, .ref 90), (1, .ref 1), (0, .ref 0)]) (st' := [.int 0, .ref 0, .int 42, .ref 1]) (w' := (fw (sz a0 42 a2 a3 a4 a5))) (cs' := 109) (ss' := 12668) ?_ (fun _ _ => rfl)
  refine go_seg 3 (pc' := 223) (ls' := [(3, .int 0), (2, .ref 90), (1, .ref 1), (0, .ref 0)]) (st' := [.int a2, .int 42, .ref 1]) (w' := (fw (sz a0 42 a2 a3 a4 a5))) (cs' := 109) (ss' := 12668) ?_ (fun _ _ => rfl)
  refine go_cl (k := 20) (st' := [.int (-1)]) (cs' := 109) (ss' := 12668) rfl rfl rfl rfl rfl rfl rfl (ro_1530 (sz a0 42 a2 a3 a4 a5) a2 (by omega) (by omega)) ?_
  refine go_seg 8 (pc' := 234) (ls' := [(3, .int 0), (2, .ref 90), (1, .ref 1), (0, .ref 0)]) (st' := [.int 0, .ref 0, .int 42, .ref 90, .int (-1)]) (w' := (wd_1300 (sz a0 42 a2 a3 a4 a5) a2)) (cs' := 109) (ss' := 12668) ?_ (fun _ _ => rfl)
  refine go_seg 3 (pc' := 237) (ls' := [(3, .int 0), (2, .ref 90), (1, .ref 1), (0, .ref 0)]) (st' := [.int a2, .int 42, .ref 90, .int (-1)]) (w' := (wd_1300 (sz a0 42 a2 a3 a4 a5) a2)) (cs' := 109) (ss' := 12668) ?_ (fun _ _ => rfl)
  refine go_cl (k := 20) (st' := [.int (-1), .int (-1)]) (cs' := 109) (ss' := 12668) rfl rfl rfl rfl rfl rfl rfl (ro_1535 (sz a0 42 a2 a3 a4 a5) a2 (by omega) (by omega)) ?_
  refine go_cmp true rfl (br_self _) ?_
  exact law_tail (f := sc a0 42 a2 a3 a4 a5) rfl
theorem ro_1537 (z : pq_C) : pq_Ru 1 13 [.int 43] (fw z) (some (.int 1), (fw z)) := by
  refine ru_of (k := 0) (M := pm_13) rfl rfl ?_
  exact go_end 8 (fun _ _ => rfl)
def wd_1302 (z : pq_C) (a2 : Int32) : pq_W := ((fw z).set 3 (.inl (.int, 64, .inl (upd (fl_c 64 (-1) (fun _ => 0)) 43 a2))))
theorem ro_1538 (z : pq_C) (a2 : Int32) (h0 : -1 ≤ a2.toInt) (h1 : a2.toInt < 8) : pq_Ru 2 12 [.ref 1, .int 43, .int a2] (fw z) (some (.int (-1)), (wd_1302 z a2)) := by
  refine ru_of (k := 1) (M := pm_12) rfl rfl ?_
  refine go_seg 1 (pc' := 1) (ls' := [(0, .ref 1), (1, .int 43), (2, .int a2)]) (st' := [.int 43]) (w' := (fw z)) (cs' := 0) (ss' := 0) ?_ (fun _ _ => rfl)
  refine go_cl (k := 1) (st' := [.int 1]) (cs' := 0) (ss' := 0) rfl rfl rfl rfl rfl rfl rfl (ro_1537 z) ?_
  refine go_seg 2 (pc' := 8) (ls' := [(0, .ref 1), (1, .int 43), (2, .int a2)]) (st' := [.int a2]) (w' := (fw z)) (cs' := 0) (ss' := 0) ?_ (fun _ _ => rfl)
  refine go_cl (k := 1) (st' := [.int 1]) (cs' := 0) (ss' := 0) rfl rfl rfl rfl rfl rfl rfl (ro_1193 z a2 (by omega) (by omega)) ?_
  refine go_seg 8 (pc' := 31) (ls' := [(3, .int (-1)), (0, .ref 1), (1, .int 43), (2, .int a2)]) (st' := [.ref 1]) (w' := (fw z)) (cs' := 0) (ss' := 0) ?_ (fun _ _ => rfl)
  exact go_end 7 (fun _ _ => rfl)
theorem ro_1540 (z : pq_C) (a2 : Int32) (h0 : -1 ≤ a2.toInt) (h1 : a2.toInt < 8) : pq_Ru 1 161 [.long 43, .long 0, .long 63] (wd_1302 z a2) (some (.int 1), (wd_1302 z a2)) := by
  refine ru_of (k := 0) (M := pm_161) rfl rfl ?_
  refine go_seg 8 (pc' := 13) (ls' := [(0, .long 43), (2, .long 0), (4, .long 63)]) (st' := []) (w' := (wd_1302 z a2)) (cs' := 0) (ss' := 0) ?_ (fun _ _ => rfl)
  exact go_end 3 (fun _ _ => rfl)
theorem ro_1541 (z : pq_C) (a2 : Int32) (h0 : -1 ≤ a2.toInt) (h1 : a2.toInt < 8) : pq_Ru 2 160 [.int 43] (wd_1302 z a2) (some (.int 1), (wd_1302 z a2)) := by
  refine ru_of (k := 1) (M := pm_160) rfl rfl ?_
  refine go_seg 4 (pc' := 6) (ls' := [(0, .int 43)]) (st' := [.long 63, .long 0, .long 43]) (w' := (wd_1302 z a2)) (cs' := 0) (ss' := 0) ?_ (fun _ _ => rfl)
  refine go_cl (k := 1) (st' := [.int 1]) (cs' := 0) (ss' := 0) rfl rfl rfl rfl rfl rfl rfl (ro_1540 z a2 (by omega) (by omega)) ?_
  exact go_end 1 (fun _ _ => rfl)
def wd_1303 (z : pq_C) (a2 : Int32) : pq_W := ((wd_1302 z a2).set 91 (.inl (.int, 2858, .inl (upd (upd (upd (upd (upd (upd (upd (upd (upd (upd (upd (upd (upd (upd (upd (upd (upd (upd (upd (upd (upd (upd (upd (upd (upd (upd (upd (upd (upd (upd (upd (upd (upd (upd (upd (upd (upd (upd (upd (upd (upd (upd (upd (upd (upd (upd (upd (upd (upd (upd (upd (upd (upd (upd (upd (upd (upd (upd (upd (upd (upd (upd (upd (upd (upd (upd (upd (upd (upd (upd (upd (upd (upd (upd (upd (upd (upd (upd (upd (upd (upd (upd (fun _ => 0) 1 10) 10 (-1)) 11 (-1)) 12 (-1)) 13 (-1)) 14 (-1)) 15 (-1)) 16 (-1)) 17 (-1)) 18 (-1)) 19 (-1)) 20 (-1)) 21 (-1)) 22 (-1)) 23 (-1)) 24 (-1)) 25 (-1)) 26 (-1)) 27 (-1)) 28 (-1)) 29 (-1)) 30 (-1)) 31 (-1)) 32 (-1)) 33 (-1)) 34 (-1)) 35 (-1)) 36 (-1)) 37 (-1)) 38 (-1)) 39 (-1)) 40 (-1)) 41 (-1)) 42 (-1)) 43 (-1)) 44 (-1)) 45 (-1)) 46 (-1)) 47 (-1)) 48 (-1)) 49 (-1)) 50 (-1)) 51 (-1)) 52 (-1)) 53 (-1)) 54 (-1)) 55 (-1)) 56 (-1)) 57 (-1)) 58 (-1)) 59 (-1)) 60 (-1)) 61 (-1)) 62 (-1)) 63 (-1)) 64 (-1)) 65 (-1)) 66 (-1)) 67 (-1)) 68 (-1)) 69 (-1)) 70 (-1)) 71 (-1)) 72 (-1)) 73 (-1)) 139 1000) 140 100) 145 1000) 146 100) 151 1000) 152 100) 157 1000) 158 100) 163 1000) 164 100) 169 1000) 170 100) 175 1000) 176 100) 181 1000) 182 100) 53 a2))))
theorem ro_1543 (z : pq_C) (a2 : Int32) (h0 : -1 ≤ a2.toInt) (h1 : a2.toInt < 8) : pq_Ru 3 159 [.ref 90, .int 43, .int a2] (wd_1302 z a2) (some (.int (-1)), (wd_1303 z a2)) := by
  refine ru_of (k := 2) (M := pm_159) rfl rfl ?_
  refine go_seg 1 (pc' := 1) (ls' := [(0, .ref 90), (1, .int 43), (2, .int a2)]) (st' := [.int 43]) (w' := (wd_1302 z a2)) (cs' := 0) (ss' := 0) ?_ (fun _ _ => rfl)
  refine go_cl (k := 2) (st' := [.int 1]) (cs' := 0) (ss' := 0) rfl rfl rfl rfl rfl rfl rfl (ro_1541 z a2 (by omega) (by omega)) ?_
  refine go_seg 5 (pc' := 15) (ls' := [(0, .ref 90), (1, .int 43), (2, .int a2)]) (st' := [.long 7, .long (-1), .long a2.toInt64]) (w' := (wd_1302 z a2)) (cs' := 0) (ss' := 0) ?_ (fun _ _ => rfl)
  refine go_cl (k := 2) (st' := [.int 1]) (cs' := 0) (ss' := 0) rfl rfl rfl rfl rfl rfl rfl (wi_t _ a2 (-1) 7 (-1) 7 rfl rfl (by omega)) ?_
  refine go_seg 8 (pc' := 38) (ls' := [(3, .int (-1)), (0, .ref 90), (1, .int 43), (2, .int a2)]) (st' := []) (w' := (wd_1302 z a2)) (cs' := 0) (ss' := 0) ?_ (fun _ _ => rfl)
  refine go_seg 8 (pc' := 49) (ls' := [(3, .int (-1)), (0, .ref 90), (1, .int 43), (2, .int a2)]) (st' := [.int (-1)]) (w' := (wd_1303 z a2)) (cs' := 0) (ss' := 0) ?_ (fun _ _ => rfl)
  exact go_end 1 (fun _ _ => rfl)
theorem lf_0_1544 (a0 : Int32) (a2 : Int32) (a3 : Int32) (a4 : Int32) (a5 : Int32) (h0 : -1 ≤ a2.toInt) (h1 : a2.toInt < 8) : ∃ w', pq_Go 20 pm_law 212 [(3, .int 0), (2, .ref 90), (1, .ref 1), (0, .ref 0)] [] (fw (sz a0 43 a2 a3 a4 a5)) 109 12668 (some (.int 1), w') := by
  refine ⟨(wd_1303 (sz a0 43 a2 a3 a4 a5) a2), ?_⟩
  refine go_seg 8 (pc' := 220) (ls' := [(3, .int 0), (2, .ref 90), (1, .ref 1), (0, .ref 0)]) (st' := [.int 0, .ref 0, .int 43, .ref 1]) (w' := (fw (sz a0 43 a2 a3 a4 a5))) (cs' := 109) (ss' := 12668) ?_ (fun _ _ => rfl)
  refine go_seg 3 (pc' := 223) (ls' := [(3, .int 0), (2, .ref 90), (1, .ref 1), (0, .ref 0)]) (st' := [.int a2, .int 43, .ref 1]) (w' := (fw (sz a0 43 a2 a3 a4 a5))) (cs' := 109) (ss' := 12668) ?_ (fun _ _ => rfl)
  refine go_cl (k := 20) (st' := [.int (-1)]) (cs' := 109) (ss' := 12668) rfl rfl rfl rfl rfl rfl rfl (ro_1538 (sz a0 43 a2 a3 a4 a5) a2 (by omega) (by omega)) ?_
  refine go_seg 8 (pc' := 234) (ls' := [(3, .int 0), (2, .ref 90), (1, .ref 1), (0, .ref 0)]) (st' := [.int 0, .ref 0, .int 43, .ref 90, .int (-1)]) (w' := (wd_1302 (sz a0 43 a2 a3 a4 a5) a2)) (cs' := 109) (ss' := 12668) ?_ (fun _ _ => rfl)
  refine go_seg 3 (pc' := 237) (ls' := [(3, .int 0), (2, .ref 90), (1, .ref 1), (0, .ref 0)]) (st' := [.int a2, .int 43, .ref 90, .int (-1)]) (w' := (wd_1302 (sz a0 43 a2 a3 a4 a5) a2)) (cs' := 109) (ss' := 12668) ?_ (fun _ _ => rfl)
  refine go_cl (k := 20) (st' := [.int (-1), .int (-1)]) (cs' := 109) (ss' := 12668) rfl rfl rfl rfl rfl rfl rfl (ro_1543 (sz a0 43 a2 a3 a4 a5) a2 (by omega) (by omega)) ?_
  refine go_cmp true rfl (br_self _) ?_
  exact law_tail (f := sc a0 43 a2 a3 a4 a5) rfl
theorem ro_1545 (z : pq_C) : pq_Ru 1 13 [.int 44] (fw z) (some (.int 1), (fw z)) := by
  refine ru_of (k := 0) (M := pm_13) rfl rfl ?_
  exact go_end 8 (fun _ _ => rfl)
def wd_1304 (z : pq_C) (a2 : Int32) : pq_W := ((fw z).set 3 (.inl (.int, 64, .inl (upd (fl_c 64 (-1) (fun _ => 0)) 44 a2))))
theorem ro_1546 (z : pq_C) (a2 : Int32) (h0 : -1 ≤ a2.toInt) (h1 : a2.toInt < 8) : pq_Ru 2 12 [.ref 1, .int 44, .int a2] (fw z) (some (.int (-1)), (wd_1304 z a2)) := by
  refine ru_of (k := 1) (M := pm_12) rfl rfl ?_
  refine go_seg 1 (pc' := 1) (ls' := [(0, .ref 1), (1, .int 44), (2, .int a2)]) (st' := [.int 44]) (w' := (fw z)) (cs' := 0) (ss' := 0) ?_ (fun _ _ => rfl)
  refine go_cl (k := 1) (st' := [.int 1]) (cs' := 0) (ss' := 0) rfl rfl rfl rfl rfl rfl rfl (ro_1545 z) ?_
  refine go_seg 2 (pc' := 8) (ls' := [(0, .ref 1), (1, .int 44), (2, .int a2)]) (st' := [.int a2]) (w' := (fw z)) (cs' := 0) (ss' := 0) ?_ (fun _ _ => rfl)
  refine go_cl (k := 1) (st' := [.int 1]) (cs' := 0) (ss' := 0) rfl rfl rfl rfl rfl rfl rfl (ro_1193 z a2 (by omega) (by omega)) ?_
  refine go_seg 8 (pc' := 31) (ls' := [(3, .int (-1)), (0, .ref 1), (1, .int 44), (2, .int a2)]) (st' := [.ref 1]) (w' := (fw z)) (cs' := 0) (ss' := 0) ?_ (fun _ _ => rfl)
  exact go_end 7 (fun _ _ => rfl)
theorem ro_1548 (z : pq_C) (a2 : Int32) (h0 : -1 ≤ a2.toInt) (h1 : a2.toInt < 8) : pq_Ru 1 161 [.long 44, .long 0, .long 63] (wd_1304 z a2) (some (.int 1), (wd_1304 z a2)) := by
  refine ru_of (k := 0) (M := pm_161) rfl rfl ?_
  refine go_seg 8 (pc' := 13) (ls' := [(0, .long 44), (2, .long 0), (4, .long 63)]) (st' := []) (w' := (wd_1304 z a2)) (cs' := 0) (ss' := 0) ?_ (fun _ _ => rfl)
  exact go_end 3 (fun _ _ => rfl)
theorem ro_1549 (z : pq_C) (a2 : Int32) (h0 : -1 ≤ a2.toInt) (h1 : a2.toInt < 8) : pq_Ru 2 160 [.int 44] (wd_1304 z a2) (some (.int 1), (wd_1304 z a2)) := by
  refine ru_of (k := 1) (M := pm_160) rfl rfl ?_
  refine go_seg 4 (pc' := 6) (ls' := [(0, .int 44)]) (st' := [.long 63, .long 0, .long 44]) (w' := (wd_1304 z a2)) (cs' := 0) (ss' := 0) ?_ (fun _ _ => rfl)
  refine go_cl (k := 1) (st' := [.int 1]) (cs' := 0) (ss' := 0) rfl rfl rfl rfl rfl rfl rfl (ro_1548 z a2 (by omega) (by omega)) ?_
  exact go_end 1 (fun _ _ => rfl)
def wd_1305 (z : pq_C) (a2 : Int32) : pq_W := ((wd_1304 z a2).set 91 (.inl (.int, 2858, .inl (upd (upd (upd (upd (upd (upd (upd (upd (upd (upd (upd (upd (upd (upd (upd (upd (upd (upd (upd (upd (upd (upd (upd (upd (upd (upd (upd (upd (upd (upd (upd (upd (upd (upd (upd (upd (upd (upd (upd (upd (upd (upd (upd (upd (upd (upd (upd (upd (upd (upd (upd (upd (upd (upd (upd (upd (upd (upd (upd (upd (upd (upd (upd (upd (upd (upd (upd (upd (upd (upd (upd (upd (upd (upd (upd (upd (upd (upd (upd (upd (upd (upd (fun _ => 0) 1 10) 10 (-1)) 11 (-1)) 12 (-1)) 13 (-1)) 14 (-1)) 15 (-1)) 16 (-1)) 17 (-1)) 18 (-1)) 19 (-1)) 20 (-1)) 21 (-1)) 22 (-1)) 23 (-1)) 24 (-1)) 25 (-1)) 26 (-1)) 27 (-1)) 28 (-1)) 29 (-1)) 30 (-1)) 31 (-1)) 32 (-1)) 33 (-1)) 34 (-1)) 35 (-1)) 36 (-1)) 37 (-1)) 38 (-1)) 39 (-1)) 40 (-1)) 41 (-1)) 42 (-1)) 43 (-1)) 44 (-1)) 45 (-1)) 46 (-1)) 47 (-1)) 48 (-1)) 49 (-1)) 50 (-1)) 51 (-1)) 52 (-1)) 53 (-1)) 54 (-1)) 55 (-1)) 56 (-1)) 57 (-1)) 58 (-1)) 59 (-1)) 60 (-1)) 61 (-1)) 62 (-1)) 63 (-1)) 64 (-1)) 65 (-1)) 66 (-1)) 67 (-1)) 68 (-1)) 69 (-1)) 70 (-1)) 71 (-1)) 72 (-1)) 73 (-1)) 139 1000) 140 100) 145 1000) 146 100) 151 1000) 152 100) 157 1000) 158 100) 163 1000) 164 100) 169 1000) 170 100) 175 1000) 176 100) 181 1000) 182 100) 54 a2))))
theorem ro_1551 (z : pq_C) (a2 : Int32) (h0 : -1 ≤ a2.toInt) (h1 : a2.toInt < 8) : pq_Ru 3 159 [.ref 90, .int 44, .int a2] (wd_1304 z a2) (some (.int (-1)), (wd_1305 z a2)) := by
  refine ru_of (k := 2) (M := pm_159) rfl rfl ?_
  refine go_seg 1 (pc' := 1) (ls' := [(0, .ref 90), (1, .int 44), (2, .int a2)]) (st' := [.int 44]) (w' := (wd_1304 z a2)) (cs' := 0) (ss' := 0) ?_ (fun _ _ => rfl)
  refine go_cl (k := 2) (st' := [.int 1]) (cs' := 0) (ss' := 0) rfl rfl rfl rfl rfl rfl rfl (ro_1549 z a2 (by omega) (by omega)) ?_
  refine go_seg 5 (pc' := 15) (ls' := [(0, .ref 90), (1, .int 44), (2, .int a2)]) (st' := [.long 7, .long (-1), .long a2.toInt64]) (w' := (wd_1304 z a2)) (cs' := 0) (ss' := 0) ?_ (fun _ _ => rfl)
  refine go_cl (k := 2) (st' := [.int 1]) (cs' := 0) (ss' := 0) rfl rfl rfl rfl rfl rfl rfl (wi_t _ a2 (-1) 7 (-1) 7 rfl rfl (by omega)) ?_
  refine go_seg 8 (pc' := 38) (ls' := [(3, .int (-1)), (0, .ref 90), (1, .int 44), (2, .int a2)]) (st' := []) (w' := (wd_1304 z a2)) (cs' := 0) (ss' := 0) ?_ (fun _ _ => rfl)
  refine go_seg 8 (pc' := 49) (ls' := [(3, .int (-1)), (0, .ref 90), (1, .int 44), (2, .int a2)]) (st' := [.int (-1)]) (w' := (wd_1305 z a2)) (cs' := 0) (ss' := 0) ?_ (fun _ _ => rfl)
  exact go_end 1 (fun _ _ => rfl)
theorem lf_0_1552 (a0 : Int32) (a2 : Int32) (a3 : Int32) (a4 : Int32) (a5 : Int32) (h0 : -1 ≤ a2.toInt) (h1 : a2.toInt < 8) : ∃ w', pq_Go 20 pm_law 212 [(3, .int 0), (2, .ref 90), (1, .ref 1), (0, .ref 0)] [] (fw (sz a0 44 a2 a3 a4 a5)) 109 12668 (some (.int 1), w') := by
  refine ⟨(wd_1305 (sz a0 44 a2 a3 a4 a5) a2), ?_⟩
  refine go_seg 8 (pc' := 220) (ls' := [(3, .int 0), (2, .ref 90), (1, .ref 1), (0, .ref 0)]) (st' := [.int 0, .ref 0, .int 44, .ref 1]) (w' := (fw (sz a0 44 a2 a3 a4 a5))) (cs' := 109) (ss' := 12668) ?_ (fun _ _ => rfl)
  refine go_seg 3 (pc' := 223) (ls' := [(3, .int 0), (2, .ref 90), (1, .ref 1), (0, .ref 0)]) (st' := [.int a2, .int 44, .ref 1]) (w' := (fw (sz a0 44 a2 a3 a4 a5))) (cs' := 109) (ss' := 12668) ?_ (fun _ _ => rfl)
  refine go_cl (k := 20) (st' := [.int (-1)]) (cs' := 109) (ss' := 12668) rfl rfl rfl rfl rfl rfl rfl (ro_1546 (sz a0 44 a2 a3 a4 a5) a2 (by omega) (by omega)) ?_
  refine go_seg 8 (pc' := 234) (ls' := [(3, .int 0), (2, .ref 90), (1, .ref 1), (0, .ref 0)]) (st' := [.int 0, .ref 0, .int 44, .ref 90, .int (-1)]) (w' := (wd_1304 (sz a0 44 a2 a3 a4 a5) a2)) (cs' := 109) (ss' := 12668) ?_ (fun _ _ => rfl)
  refine go_seg 3 (pc' := 237) (ls' := [(3, .int 0), (2, .ref 90), (1, .ref 1), (0, .ref 0)]) (st' := [.int a2, .int 44, .ref 90, .int (-1)]) (w' := (wd_1304 (sz a0 44 a2 a3 a4 a5) a2)) (cs' := 109) (ss' := 12668) ?_ (fun _ _ => rfl)
  refine go_cl (k := 20) (st' := [.int (-1), .int (-1)]) (cs' := 109) (ss' := 12668) rfl rfl rfl rfl rfl rfl rfl (ro_1551 (sz a0 44 a2 a3 a4 a5) a2 (by omega) (by omega)) ?_
  refine go_cmp true rfl (br_self _) ?_
  exact law_tail (f := sc a0 44 a2 a3 a4 a5) rfl
theorem ro_1553 (z : pq_C) : pq_Ru 1 13 [.int 45] (fw z) (some (.int 1), (fw z)) := by
  refine ru_of (k := 0) (M := pm_13) rfl rfl ?_
  exact go_end 8 (fun _ _ => rfl)
def wd_1306 (z : pq_C) (a2 : Int32) : pq_W := ((fw z).set 3 (.inl (.int, 64, .inl (upd (fl_c 64 (-1) (fun _ => 0)) 45 a2))))
theorem ro_1554 (z : pq_C) (a2 : Int32) (h0 : -1 ≤ a2.toInt) (h1 : a2.toInt < 8) : pq_Ru 2 12 [.ref 1, .int 45, .int a2] (fw z) (some (.int (-1)), (wd_1306 z a2)) := by
  refine ru_of (k := 1) (M := pm_12) rfl rfl ?_
  refine go_seg 1 (pc' := 1) (ls' := [(0, .ref 1), (1, .int 45), (2, .int a2)]) (st' := [.int 45]) (w' := (fw z)) (cs' := 0) (ss' := 0) ?_ (fun _ _ => rfl)
  refine go_cl (k := 1) (st' := [.int 1]) (cs' := 0) (ss' := 0) rfl rfl rfl rfl rfl rfl rfl (ro_1553 z) ?_
  refine go_seg 2 (pc' := 8) (ls' := [(0, .ref 1), (1, .int 45), (2, .int a2)]) (st' := [.int a2]) (w' := (fw z)) (cs' := 0) (ss' := 0) ?_ (fun _ _ => rfl)
  refine go_cl (k := 1) (st' := [.int 1]) (cs' := 0) (ss' := 0) rfl rfl rfl rfl rfl rfl rfl (ro_1193 z a2 (by omega) (by omega)) ?_
  refine go_seg 8 (pc' := 31) (ls' := [(3, .int (-1)), (0, .ref 1), (1, .int 45), (2, .int a2)]) (st' := [.ref 1]) (w' := (fw z)) (cs' := 0) (ss' := 0) ?_ (fun _ _ => rfl)
  exact go_end 7 (fun _ _ => rfl)
theorem ro_1556 (z : pq_C) (a2 : Int32) (h0 : -1 ≤ a2.toInt) (h1 : a2.toInt < 8) : pq_Ru 1 161 [.long 45, .long 0, .long 63] (wd_1306 z a2) (some (.int 1), (wd_1306 z a2)) := by
  refine ru_of (k := 0) (M := pm_161) rfl rfl ?_
  refine go_seg 8 (pc' := 13) (ls' := [(0, .long 45), (2, .long 0), (4, .long 63)]) (st' := []) (w' := (wd_1306 z a2)) (cs' := 0) (ss' := 0) ?_ (fun _ _ => rfl)
  exact go_end 3 (fun _ _ => rfl)
theorem ro_1557 (z : pq_C) (a2 : Int32) (h0 : -1 ≤ a2.toInt) (h1 : a2.toInt < 8) : pq_Ru 2 160 [.int 45] (wd_1306 z a2) (some (.int 1), (wd_1306 z a2)) := by
  refine ru_of (k := 1) (M := pm_160) rfl rfl ?_
  refine go_seg 4 (pc' := 6) (ls' := [(0, .int 45)]) (st' := [.long 63, .long 0, .long 45]) (w' := (wd_1306 z a2)) (cs' := 0) (ss' := 0) ?_ (fun _ _ => rfl)
  refine go_cl (k := 1) (st' := [.int 1]) (cs' := 0) (ss' := 0) rfl rfl rfl rfl rfl rfl rfl (ro_1556 z a2 (by omega) (by omega)) ?_
  exact go_end 1 (fun _ _ => rfl)
def wd_1307 (z : pq_C) (a2 : Int32) : pq_W := ((wd_1306 z a2).set 91 (.inl (.int, 2858, .inl (upd (upd (upd (upd (upd (upd (upd (upd (upd (upd (upd (upd (upd (upd (upd (upd (upd (upd (upd (upd (upd (upd (upd (upd (upd (upd (upd (upd (upd (upd (upd (upd (upd (upd (upd (upd (upd (upd (upd (upd (upd (upd (upd (upd (upd (upd (upd (upd (upd (upd (upd (upd (upd (upd (upd (upd (upd (upd (upd (upd (upd (upd (upd (upd (upd (upd (upd (upd (upd (upd (upd (upd (upd (upd (upd (upd (upd (upd (upd (upd (upd (upd (fun _ => 0) 1 10) 10 (-1)) 11 (-1)) 12 (-1)) 13 (-1)) 14 (-1)) 15 (-1)) 16 (-1)) 17 (-1)) 18 (-1)) 19 (-1)) 20 (-1)) 21 (-1)) 22 (-1)) 23 (-1)) 24 (-1)) 25 (-1)) 26 (-1)) 27 (-1)) 28 (-1)) 29 (-1)) 30 (-1)) 31 (-1)) 32 (-1)) 33 (-1)) 34 (-1)) 35 (-1)) 36 (-1)) 37 (-1)) 38 (-1)) 39 (-1)) 40 (-1)) 41 (-1)) 42 (-1)) 43 (-1)) 44 (-1)) 45 (-1)) 46 (-1)) 47 (-1)) 48 (-1)) 49 (-1)) 50 (-1)) 51 (-1)) 52 (-1)) 53 (-1)) 54 (-1)) 55 (-1)) 56 (-1)) 57 (-1)) 58 (-1)) 59 (-1)) 60 (-1)) 61 (-1)) 62 (-1)) 63 (-1)) 64 (-1)) 65 (-1)) 66 (-1)) 67 (-1)) 68 (-1)) 69 (-1)) 70 (-1)) 71 (-1)) 72 (-1)) 73 (-1)) 139 1000) 140 100) 145 1000) 146 100) 151 1000) 152 100) 157 1000) 158 100) 163 1000) 164 100) 169 1000) 170 100) 175 1000) 176 100) 181 1000) 182 100) 55 a2))))
theorem ro_1559 (z : pq_C) (a2 : Int32) (h0 : -1 ≤ a2.toInt) (h1 : a2.toInt < 8) : pq_Ru 3 159 [.ref 90, .int 45, .int a2] (wd_1306 z a2) (some (.int (-1)), (wd_1307 z a2)) := by
  refine ru_of (k := 2) (M := pm_159) rfl rfl ?_
  refine go_seg 1 (pc' := 1) (ls' := [(0, .ref 90), (1, .int 45), (2, .int a2)]) (st' := [.int 45]) (w' := (wd_1306 z a2)) (cs' := 0) (ss' := 0) ?_ (fun _ _ => rfl)
  refine go_cl (k := 2) (st' := [.int 1]) (cs' := 0) (ss' := 0) rfl rfl rfl rfl rfl rfl rfl (ro_1557 z a2 (by omega) (by omega)) ?_
  refine go_seg 5 (pc' := 15) (ls' := [(0, .ref 90), (1, .int 45), (2, .int a2)]) (st' := [.long 7, .long (-1), .long a2.toInt64]) (w' := (wd_1306 z a2)) (cs' := 0) (ss' := 0) ?_ (fun _ _ => rfl)
  refine go_cl (k := 2) (st' := [.int 1]) (cs' := 0) (ss' := 0) rfl rfl rfl rfl rfl rfl rfl (wi_t _ a2 (-1) 7 (-1) 7 rfl rfl (by omega)) ?_
  refine go_seg 8 (pc' := 38) (ls' := [(3, .int (-1)), (0, .ref 90), (1, .int 45), (2, .int a2)]) (st' := []) (w' := (wd_1306 z a2)) (cs' := 0) (ss' := 0) ?_ (fun _ _ => rfl)
  refine go_seg 8 (pc' := 49) (ls' := [(3, .int (-1)), (0, .ref 90), (1, .int 45), (2, .int a2)]) (st' := [.int (-1)]) (w' := (wd_1307 z a2)) (cs' := 0) (ss' := 0) ?_ (fun _ _ => rfl)
  exact go_end 1 (fun _ _ => rfl)
theorem lf_0_1560 (a0 : Int32) (a2 : Int32) (a3 : Int32) (a4 : Int32) (a5 : Int32) (h0 : -1 ≤ a2.toInt) (h1 : a2.toInt < 8) : ∃ w', pq_Go 20 pm_law 212 [(3, .int 0), (2, .ref 90), (1, .ref 1), (0, .ref 0)] [] (fw (sz a0 45 a2 a3 a4 a5)) 109 12668 (some (.int 1), w') := by
  refine ⟨(wd_1307 (sz a0 45 a2 a3 a4 a5) a2), ?_⟩
  refine go_seg 8 (pc' := 220) (ls' := [(3, .int 0), (2, .ref 90), (1, .ref 1), (0, .ref 0)]) (st' := [.int 0, .ref 0, .int 45, .ref 1]) (w' := (fw (sz a0 45 a2 a3 a4 a5))) (cs' := 109) (ss' := 12668) ?_ (fun _ _ => rfl)
  refine go_seg 3 (pc' := 223) (ls' := [(3, .int 0), (2, .ref 90), (1, .ref 1), (0, .ref 0)]) (st' := [.int a2, .int 45, .ref 1]) (w' := (fw (sz a0 45 a2 a3 a4 a5))) (cs' := 109) (ss' := 12668) ?_ (fun _ _ => rfl)
  refine go_cl (k := 20) (st' := [.int (-1)]) (cs' := 109) (ss' := 12668) rfl rfl rfl rfl rfl rfl rfl (ro_1554 (sz a0 45 a2 a3 a4 a5) a2 (by omega) (by omega)) ?_
  refine go_seg 8 (pc' := 234) (ls' := [(3, .int 0), (2, .ref 90), (1, .ref 1), (0, .ref 0)]) (st' := [.int 0, .ref 0, .int 45, .ref 90, .int (-1)]) (w' := (wd_1306 (sz a0 45 a2 a3 a4 a5) a2)) (cs' := 109) (ss' := 12668) ?_ (fun _ _ => rfl)
  refine go_seg 3 (pc' := 237) (ls' := [(3, .int 0), (2, .ref 90), (1, .ref 1), (0, .ref 0)]) (st' := [.int a2, .int 45, .ref 90, .int (-1)]) (w' := (wd_1306 (sz a0 45 a2 a3 a4 a5) a2)) (cs' := 109) (ss' := 12668) ?_ (fun _ _ => rfl)
  refine go_cl (k := 20) (st' := [.int (-1), .int (-1)]) (cs' := 109) (ss' := 12668) rfl rfl rfl rfl rfl rfl rfl (ro_1559 (sz a0 45 a2 a3 a4 a5) a2 (by omega) (by omega)) ?_
  refine go_cmp true rfl (br_self _) ?_
  exact law_tail (f := sc a0 45 a2 a3 a4 a5) rfl
theorem ro_1561 (z : pq_C) : pq_Ru 1 13 [.int 46] (fw z) (some (.int 1), (fw z)) := by
  refine ru_of (k := 0) (M := pm_13) rfl rfl ?_
  exact go_end 8 (fun _ _ => rfl)
def wd_1308 (z : pq_C) (a2 : Int32) : pq_W := ((fw z).set 3 (.inl (.int, 64, .inl (upd (fl_c 64 (-1) (fun _ => 0)) 46 a2))))
theorem ro_1562 (z : pq_C) (a2 : Int32) (h0 : -1 ≤ a2.toInt) (h1 : a2.toInt < 8) : pq_Ru 2 12 [.ref 1, .int 46, .int a2] (fw z) (some (.int (-1)), (wd_1308 z a2)) := by
  refine ru_of (k := 1) (M := pm_12) rfl rfl ?_
  refine go_seg 1 (pc' := 1) (ls' := [(0, .ref 1), (1, .int 46), (2, .int a2)]) (st' := [.int 46]) (w' := (fw z)) (cs' := 0) (ss' := 0) ?_ (fun _ _ => rfl)
  refine go_cl (k := 1) (st' := [.int 1]) (cs' := 0) (ss' := 0) rfl rfl rfl rfl rfl rfl rfl (ro_1561 z) ?_
  refine go_seg 2 (pc' := 8) (ls' := [(0, .ref 1), (1, .int 46), (2, .int a2)]) (st' := [.int a2]) (w' := (fw z)) (cs' := 0) (ss' := 0) ?_ (fun _ _ => rfl)
  refine go_cl (k := 1) (st' := [.int 1]) (cs' := 0) (ss' := 0) rfl rfl rfl rfl rfl rfl rfl (ro_1193 z a2 (by omega) (by omega)) ?_
  refine go_seg 8 (pc' := 31) (ls' := [(3, .int (-1)), (0, .ref 1), (1, .int 46), (2, .int a2)]) (st' := [.ref 1]) (w' := (fw z)) (cs' := 0) (ss' := 0) ?_ (fun _ _ => rfl)
  exact go_end 7 (fun _ _ => rfl)
theorem ro_1564 (z : pq_C) (a2 : Int32) (h0 : -1 ≤ a2.toInt) (h1 : a2.toInt < 8) : pq_Ru 1 161 [.long 46, .long 0, .long 63] (wd_1308 z a2) (some (.int 1), (wd_1308 z a2)) := by
  refine ru_of (k := 0) (M := pm_161) rfl rfl ?_
  refine go_seg 8 (pc' := 13) (ls' := [(0, .long 46), (2, .long 0), (4, .long 63)]) (st' := []) (w' := (wd_1308 z a2)) (cs' := 0) (ss' := 0) ?_ (fun _ _ => rfl)
  exact go_end 3 (fun _ _ => rfl)
theorem ro_1565 (z : pq_C) (a2 : Int32) (h0 : -1 ≤ a2.toInt) (h1 : a2.toInt < 8) : pq_Ru 2 160 [.int 46] (wd_1308 z a2) (some (.int 1), (wd_1308 z a2)) := by
  refine ru_of (k := 1) (M := pm_160) rfl rfl ?_
  refine go_seg 4 (pc' := 6) (ls' := [(0, .int 46)]) (st' := [.long 63, .long 0, .long 46]) (w' := (wd_1308 z a2)) (cs' := 0) (ss' := 0) ?_ (fun _ _ => rfl)
  refine go_cl (k := 1) (st' := [.int 1]) (cs' := 0) (ss' := 0) rfl rfl rfl rfl rfl rfl rfl (ro_1564 z a2 (by omega) (by omega)) ?_
  exact go_end 1 (fun _ _ => rfl)
def wd_1309 (z : pq_C) (a2 : Int32) : pq_W := ((wd_1308 z a2).set 91 (.inl (.int, 2858, .inl (upd (upd (upd (upd (upd (upd (upd (upd (upd (upd (upd (upd (upd (upd (upd (upd (upd (upd (upd (upd (upd (upd (upd (upd (upd (upd (upd (upd (upd (upd (upd (upd (upd (upd (upd (upd (upd (upd (upd (upd (upd (upd (upd (upd (upd (upd (upd (upd (upd (upd (upd (upd (upd (upd (upd (upd (upd (upd (upd (upd (upd (upd (upd (upd (upd (upd (upd (upd (upd (upd (upd (upd (upd (upd (upd (upd (upd (upd (upd (upd (upd (upd (fun _ => 0) 1 10) 10 (-1)) 11 (-1)) 12 (-1)) 13 (-1)) 14 (-1)) 15 (-1)) 16 (-1)) 17 (-1)) 18 (-1)) 19 (-1)) 20 (-1)) 21 (-1)) 22 (-1)) 23 (-1)) 24 (-1)) 25 (-1)) 26 (-1)) 27 (-1)) 28 (-1)) 29 (-1)) 30 (-1)) 31 (-1)) 32 (-1)) 33 (-1)) 34 (-1)) 35 (-1)) 36 (-1)) 37 (-1)) 38 (-1)) 39 (-1)) 40 (-1)) 41 (-1)) 42 (-1)) 43 (-1)) 44 (-1)) 45 (-1)) 46 (-1)) 47 (-1)) 48 (-1)) 49 (-1)) 50 (-1)) 51 (-1)) 52 (-1)) 53 (-1)) 54 (-1)) 55 (-1)) 56 (-1)) 57 (-1)) 58 (-1)) 59 (-1)) 60 (-1)) 61 (-1)) 62 (-1)) 63 (-1)) 64 (-1)) 65 (-1)) 66 (-1)) 67 (-1)) 68 (-1)) 69 (-1)) 70 (-1)) 71 (-1)) 72 (-1)) 73 (-1)) 139 1000) 140 100) 145 1000) 146 100) 151 1000) 152 100) 157 1000) 158 100) 163 1000) 164 100) 169 1000) 170 100) 175 1000) 176 100) 181 1000) 182 100) 56 a2))))
theorem ro_1567 (z : pq_C) (a2 : Int32) (h0 : -1 ≤ a2.toInt) (h1 : a2.toInt < 8) : pq_Ru 3 159 [.ref 90, .int 46, .int a2] (wd_1308 z a2) (some (.int (-1)), (wd_1309 z a2)) := by
  refine ru_of (k := 2) (M := pm_159) rfl rfl ?_
  refine go_seg 1 (pc' := 1) (ls' := [(0, .ref 90), (1, .int 46), (2, .int a2)]) (st' := [.int 46]) (w' := (wd_1308 z a2)) (cs' := 0) (ss' := 0) ?_ (fun _ _ => rfl)
  refine go_cl (k := 2) (st' := [.int 1]) (cs' := 0) (ss' := 0) rfl rfl rfl rfl rfl rfl rfl (ro_1565 z a2 (by omega) (by omega)) ?_
  refine go_seg 5 (pc' := 15) (ls' := [(0, .ref 90), (1, .int 46), (2, .int a2)]) (st' := [.long 7, .long (-1), .long a2.toInt64]) (w' := (wd_1308 z a2)) (cs' := 0) (ss' := 0) ?_ (fun _ _ => rfl)
  refine go_cl (k := 2) (st' := [.int 1]) (cs' := 0) (ss' := 0) rfl rfl rfl rfl rfl rfl rfl (wi_t _ a2 (-1) 7 (-1) 7 rfl rfl (by omega)) ?_
  refine go_seg 8 (pc' := 38) (ls' := [(3, .int (-1)), (0, .ref 90), (1, .int 46), (2, .int a2)]) (st' := []) (w' := (wd_1308 z a2)) (cs' := 0) (ss' := 0) ?_ (fun _ _ => rfl)
  refine go_seg 8 (pc' := 49) (ls' := [(3, .int (-1)), (0, .ref 90), (1, .int 46), (2, .int a2)]) (st' := [.int (-1)]) (w' := (wd_1309 z a2)) (cs' := 0) (ss' := 0) ?_ (fun _ _ => rfl)
  exact go_end 1 (fun _ _ => rfl)
theorem lf_0_1568 (a0 : Int32) (a2 : Int32) (a3 : Int32) (a4 : Int32) (a5 : Int32) (h0 : -1 ≤ a2.toInt) (h1 : a2.toInt < 8) : ∃ w', pq_Go 20 pm_law 212 [(3, .int 0), (2, .ref 90), (1, .ref 1), (0, .ref 0)] [] (fw (sz a0 46 a2 a3 a4 a5)) 109 12668 (some (.int 1), w') := by
  refine ⟨(wd_1309 (sz a0 46 a2 a3 a4 a5) a2), ?_⟩
  refine go_seg 8 (pc' := 220) (ls' := [(3, .int 0), (2, .ref 90), (1, .ref 1), (0, .ref 0)]) (st' := [.int 0, .ref 0, .int 46, .ref 1]) (w' := (fw (sz a0 46 a2 a3 a4 a5))) (cs' := 109) (ss' := 12668) ?_ (fun _ _ => rfl)
  refine go_seg 3 (pc' := 223) (ls' := [(3, .int 0), (2, .ref 90), (1, .ref 1), (0, .ref 0)]) (st' := [.int a2, .int 46, .ref 1]) (w' := (fw (sz a0 46 a2 a3 a4 a5))) (cs' := 109) (ss' := 12668) ?_ (fun _ _ => rfl)
  refine go_cl (k := 20) (st' := [.int (-1)]) (cs' := 109) (ss' := 12668) rfl rfl rfl rfl rfl rfl rfl (ro_1562 (sz a0 46 a2 a3 a4 a5) a2 (by omega) (by omega)) ?_
  refine go_seg 8 (pc' := 234) (ls' := [(3, .int 0), (2, .ref 90), (1, .ref 1), (0, .ref 0)]) (st' := [.int 0, .ref 0, .int 46, .ref 90, .int (-1)]) (w' := (wd_1308 (sz a0 46 a2 a3 a4 a5) a2)) (cs' := 109) (ss' := 12668) ?_ (fun _ _ => rfl)
  refine go_seg 3 (pc' := 237) (ls' := [(3, .int 0), (2, .ref 90), (1, .ref 1), (0, .ref 0)]) (st' := [.int a2, .int 46, .ref 90, .int (-1)]) (w' := (wd_1308 (sz a0 46 a2 a3 a4 a5) a2)) (cs' := 109) (ss' := 12668) ?_ (fun _ _ => rfl)
  refine go_cl (k := 20) (st' := [.int (-1), .int (-1)]) (cs' := 109) (ss' := 12668) rfl rfl rfl rfl rfl rfl rfl (ro_1567 (sz a0 46 a2 a3 a4 a5) a2 (by omega) (by omega)) ?_
  refine go_cmp true rfl (br_self _) ?_
  exact law_tail (f := sc a0 46 a2 a3 a4 a5) rfl
theorem ro_1569 (z : pq_C) : pq_Ru 1 13 [.int 47] (fw z) (some (.int 1), (fw z)) := by
  refine ru_of (k := 0) (M := pm_13) rfl rfl ?_
  exact go_end 8 (fun _ _ => rfl)
def wd_1310 (z : pq_C) (a2 : Int32) : pq_W := ((fw z).set 3 (.inl (.int, 64, .inl (upd (fl_c 64 (-1) (fun _ => 0)) 47 a2))))
theorem ro_1570 (z : pq_C) (a2 : Int32) (h0 : -1 ≤ a2.toInt) (h1 : a2.toInt < 8) : pq_Ru 2 12 [.ref 1, .int 47, .int a2] (fw z) (some (.int (-1)), (wd_1310 z a2)) := by
  refine ru_of (k := 1) (M := pm_12) rfl rfl ?_
  refine go_seg 1 (pc' := 1) (ls' := [(0, .ref 1), (1, .int 47), (2, .int a2)]) (st' := [.int 47]) (w' := (fw z)) (cs' := 0) (ss' := 0) ?_ (fun _ _ => rfl)
  refine go_cl (k := 1) (st' := [.int 1]) (cs' := 0) (ss' := 0) rfl rfl rfl rfl rfl rfl rfl (ro_1569 z) ?_
  refine go_seg 2 (pc' := 8) (ls' := [(0, .ref 1), (1, .int 47), (2, .int a2)]) (st' := [.int a2]) (w' := (fw z)) (cs' := 0) (ss' := 0) ?_ (fun _ _ => rfl)
  refine go_cl (k := 1) (st' := [.int 1]) (cs' := 0) (ss' := 0) rfl rfl rfl rfl rfl rfl rfl (ro_1193 z a2 (by omega) (by omega)) ?_
  refine go_seg 8 (pc' := 31) (ls' := [(3, .int (-1)), (0, .ref 1), (1, .int 47), (2, .int a2)]) (st' := [.ref 1]) (w' := (fw z)) (cs' := 0) (ss' := 0) ?_ (fun _ _ => rfl)
  exact go_end 7 (fun _ _ => rfl)
theorem ro_1572 (z : pq_C) (a2 : Int32) (h0 : -1 ≤ a2.toInt) (h1 : a2.toInt < 8) : pq_Ru 1 161 [.long 47, .long 0, .long 63] (wd_1310 z a2) (some (.int 1), (wd_1310 z a2)) := by
  refine ru_of (k := 0) (M := pm_161) rfl rfl ?_
  refine go_seg 8 (pc' := 13) (ls' := [(0, .long 47), (2, .long 0), (4, .long 63)]) (st' := []) (w' := (wd_1310 z a2)) (cs' := 0) (ss' := 0) ?_ (fun _ _ => rfl)
  exact go_end 3 (fun _ _ => rfl)
theorem ro_1573 (z : pq_C) (a2 : Int32) (h0 : -1 ≤ a2.toInt) (h1 : a2.toInt < 8) : pq_Ru 2 160 [.int 47] (wd_1310 z a2) (some (.int 1), (wd_1310 z a2)) := by
  refine ru_of (k := 1) (M := pm_160) rfl rfl ?_
  refine go_seg 4 (pc' := 6) (ls' := [(0, .int 47)]) (st' := [.long 63, .long 0, .long 47]) (w' := (wd_1310 z a2)) (cs' := 0) (ss' := 0) ?_ (fun _ _ => rfl)
  refine go_cl (k := 1) (st' := [.int 1]) (cs' := 0) (ss' := 0) rfl rfl rfl rfl rfl rfl rfl (ro_1572 z a2 (by omega) (by omega)) ?_
  exact go_end 1 (fun _ _ => rfl)
def wd_1311 (z : pq_C) (a2 : Int32) : pq_W := ((wd_1310 z a2).set 91 (.inl (.int, 2858, .inl (upd (upd (upd (upd (upd (upd (upd (upd (upd (upd (upd (upd (upd (upd (upd (upd (upd (upd (upd (upd (upd (upd (upd (upd (upd (upd (upd (upd (upd (upd (upd (upd (upd (upd (upd (upd (upd (upd (upd (upd (upd (upd (upd (upd (upd (upd (upd (upd (upd (upd (upd (upd (upd (upd (upd (upd (upd (upd (upd (upd (upd (upd (upd (upd (upd (upd (upd (upd (upd (upd (upd (upd (upd (upd (upd (upd (upd (upd (upd (upd (upd (upd (fun _ => 0) 1 10) 10 (-1)) 11 (-1)) 12 (-1)) 13 (-1)) 14 (-1)) 15 (-1)) 16 (-1)) 17 (-1)) 18 (-1)) 19 (-1)) 20 (-1)) 21 (-1)) 22 (-1)) 23 (-1)) 24 (-1)) 25 (-1)) 26 (-1)) 27 (-1)) 28 (-1)) 29 (-1)) 30 (-1)) 31 (-1)) 32 (-1)) 33 (-1)) 34 (-1)) 35 (-1)) 36 (-1)) 37 (-1)) 38 (-1)) 39 (-1)) 40 (-1)) 41 (-1)) 42 (-1)) 43 (-1)) 44 (-1)) 45 (-1)) 46 (-1)) 47 (-1)) 48 (-1)) 49 (-1)) 50 (-1)) 51 (-1)) 52 (-1)) 53 (-1)) 54 (-1)) 55 (-1)) 56 (-1)) 57 (-1)) 58 (-1)) 59 (-1)) 60 (-1)) 61 (-1)) 62 (-1)) 63 (-1)) 64 (-1)) 65 (-1)) 66 (-1)) 67 (-1)) 68 (-1)) 69 (-1)) 70 (-1)) 71 (-1)) 72 (-1)) 73 (-1)) 139 1000) 140 100) 145 1000) 146 100) 151 1000) 152 100) 157 1000) 158 100) 163 1000) 164 100) 169 1000) 170 100) 175 1000) 176 100) 181 1000) 182 100) 57 a2))))
theorem ro_1575 (z : pq_C) (a2 : Int32) (h0 : -1 ≤ a2.toInt) (h1 : a2.toInt < 8) : pq_Ru 3 159 [.ref 90, .int 47, .int a2] (wd_1310 z a2) (some (.int (-1)), (wd_1311 z a2)) := by
  refine ru_of (k := 2) (M := pm_159) rfl rfl ?_
  refine go_seg 1 (pc' := 1) (ls' := [(0, .ref 90), (1, .int 47), (2, .int a2)]) (st' := [.int 47]) (w' := (wd_1310 z a2)) (cs' := 0) (ss' := 0) ?_ (fun _ _ => rfl)
  refine go_cl (k := 2) (st' := [.int 1]) (cs' := 0) (ss' := 0) rfl rfl rfl rfl rfl rfl rfl (ro_1573 z a2 (by omega) (by omega)) ?_
  refine go_seg 5 (pc' := 15) (ls' := [(0, .ref 90), (1, .int 47), (2, .int a2)]) (st' := [.long 7, .long (-1), .long a2.toInt64]) (w' := (wd_1310 z a2)) (cs' := 0) (ss' := 0) ?_ (fun _ _ => rfl)
  refine go_cl (k := 2) (st' := [.int 1]) (cs' := 0) (ss' := 0) rfl rfl rfl rfl rfl rfl rfl (wi_t _ a2 (-1) 7 (-1) 7 rfl rfl (by omega)) ?_
  refine go_seg 8 (pc' := 38) (ls' := [(3, .int (-1)), (0, .ref 90), (1, .int 47), (2, .int a2)]) (st' := []) (w' := (wd_1310 z a2)) (cs' := 0) (ss' := 0) ?_ (fun _ _ => rfl)
  refine go_seg 8 (pc' := 49) (ls' := [(3, .int (-1)), (0, .ref 90), (1, .int 47), (2, .int a2)]) (st' := [.int (-1)]) (w' := (wd_1311 z a2)) (cs' := 0) (ss' := 0) ?_ (fun _ _ => rfl)
  exact go_end 1 (fun _ _ => rfl)
theorem lf_0_1576 (a0 : Int32) (a2 : Int32) (a3 : Int32) (a4 : Int32) (a5 : Int32) (h0 : -1 ≤ a2.toInt) (h1 : a2.toInt < 8) : ∃ w', pq_Go 20 pm_law 212 [(3, .int 0), (2, .ref 90), (1, .ref 1), (0, .ref 0)] [] (fw (sz a0 47 a2 a3 a4 a5)) 109 12668 (some (.int 1), w') := by
  refine ⟨(wd_1311 (sz a0 47 a2 a3 a4 a5) a2), ?_⟩
  refine go_seg 8 (pc' := 220) (ls' := [(3, .int 0), (2, .ref 90), (1, .ref 1), (0, .ref 0)]) (st' := [.int 0, .ref 0, .int 47, .ref 1]) (w' := (fw (sz a0 47 a2 a3 a4 a5))) (cs' := 109) (ss' := 12668) ?_ (fun _ _ => rfl)
  refine go_seg 3 (pc' := 223) (ls' := [(3, .int 0), (2, .ref 90), (1, .ref 1), (0, .ref 0)]) (st' := [.int a2, .int 47, .ref 1]) (w' := (fw (sz a0 47 a2 a3 a4 a5))) (cs' := 109) (ss' := 12668) ?_ (fun _ _ => rfl)
  refine go_cl (k := 20) (st' := [.int (-1)]) (cs' := 109) (ss' := 12668) rfl rfl rfl rfl rfl rfl rfl (ro_1570 (sz a0 47 a2 a3 a4 a5) a2 (by omega) (by omega)) ?_
  refine go_seg 8 (pc' := 234) (ls' := [(3, .int 0), (2, .ref 90), (1, .ref 1), (0, .ref 0)]) (st' := [.int 0, .ref 0, .int 47, .ref 90, .int (-1)]) (w' := (wd_1310 (sz a0 47 a2 a3 a4 a5) a2)) (cs' := 109) (ss' := 12668) ?_ (fun _ _ => rfl)
  refine go_seg 3 (pc' := 237) (ls' := [(3, .int 0), (2, .ref 90), (1, .ref 1), (0, .ref 0)]) (st' := [.int a2, .int 47, .ref 90, .int (-1)]) (w' := (wd_1310 (sz a0 47 a2 a3 a4 a5) a2)) (cs' := 109) (ss' := 12668) ?_ (fun _ _ => rfl)
  refine go_cl (k := 20) (st' := [.int (-1), .int (-1)]) (cs' := 109) (ss' := 12668) rfl rfl rfl rfl rfl rfl rfl (ro_1575 (sz a0 47 a2 a3 a4 a5) a2 (by omega) (by omega)) ?_
  refine go_cmp true rfl (br_self _) ?_
  exact law_tail (f := sc a0 47 a2 a3 a4 a5) rfl
theorem ro_1577 (z : pq_C) : pq_Ru 1 13 [.int 48] (fw z) (some (.int 1), (fw z)) := by
  refine ru_of (k := 0) (M := pm_13) rfl rfl ?_
  exact go_end 8 (fun _ _ => rfl)
def wd_1312 (z : pq_C) (a2 : Int32) : pq_W := ((fw z).set 3 (.inl (.int, 64, .inl (upd (fl_c 64 (-1) (fun _ => 0)) 48 a2))))
theorem ro_1578 (z : pq_C) (a2 : Int32) (h0 : -1 ≤ a2.toInt) (h1 : a2.toInt < 8) : pq_Ru 2 12 [.ref 1, .int 48, .int a2] (fw z) (some (.int (-1)), (wd_1312 z a2)) := by
  refine ru_of (k := 1) (M := pm_12) rfl rfl ?_
  refine go_seg 1 (pc' := 1) (ls' := [(0, .ref 1), (1, .int 48), (2, .int a2)]) (st' := [.int 48]) (w' := (fw z)) (cs' := 0) (ss' := 0) ?_ (fun _ _ => rfl)
  refine go_cl (k := 1) (st' := [.int 1]) (cs' := 0) (ss' := 0) rfl rfl rfl rfl rfl rfl rfl (ro_1577 z) ?_
  refine go_seg 2 (pc' := 8) (ls' := [(0, .ref 1), (1, .int 48), (2, .int a2)]) (st' := [.int a2]) (w' := (fw z)) (cs' := 0) (ss' := 0) ?_ (fun _ _ => rfl)
  refine go_cl (k := 1) (st' := [.int 1]) (cs' := 0) (ss' := 0) rfl rfl rfl rfl rfl rfl rfl (ro_1193 z a2 (by omega) (by omega)) ?_
  refine go_seg 8 (pc' := 31) (ls' := [(3, .int (-1)), (0, .ref 1), (1, .int 48), (2, .int a2)]) (st' := [.ref 1]) (w' := (fw z)) (cs' := 0) (ss' := 0) ?_ (fun _ _ => rfl)
  exact go_end 7 (fun _ _ => rfl)
theorem ro_1580 (z : pq_C) (a2 : Int32) (h0 : -1 ≤ a2.toInt) (h1 : a2.toInt < 8) : pq_Ru 1 161 [.long 48, .long 0, .long 63] (wd_1312 z a2) (some (.int 1), (wd_1312 z a2)) := by
  refine ru_of (k := 0) (M := pm_161) rfl rfl ?_
  refine go_seg 8 (pc' := 13) (ls' := [(0, .long 48), (2, .long 0), (4, .long 63)]) (st' := []) (w' := (wd_1312 z a2)) (cs' := 0) (ss' := 0) ?_ (fun _ _ => rfl)
  exact go_end 3 (fun _ _ => rfl)
theorem ro_1581 (z : pq_C) (a2 : Int32) (h0 : -1 ≤ a2.toInt) (h1 : a2.toInt < 8) : pq_Ru 2 160 [.int 48] (wd_1312 z a2) (some (.int 1), (wd_1312 z a2)) := by
  refine ru_of (k := 1) (M := pm_160) rfl rfl ?_
  refine go_seg 4 (pc' := 6) (ls' := [(0, .int 48)]) (st' := [.long 63, .long 0, .long 48]) (w' := (wd_1312 z a2)) (cs' := 0) (ss' := 0) ?_ (fun _ _ => rfl)
  refine go_cl (k := 1) (st' := [.int 1]) (cs' := 0) (ss' := 0) rfl rfl rfl rfl rfl rfl rfl (ro_1580 z a2 (by omega) (by omega)) ?_
  exact go_end 1 (fun _ _ => rfl)
def wd_1313 (z : pq_C) (a2 : Int32) : pq_W := ((wd_1312 z a2).set 91 (.inl (.int, 2858, .inl (upd (upd (upd (upd (upd (upd (upd (upd (upd (upd (upd (upd (upd (upd (upd (upd (upd (upd (upd (upd (upd (upd (upd (upd (upd (upd (upd (upd (upd (upd (upd (upd (upd (upd (upd (upd (upd (upd (upd (upd (upd (upd (upd (upd (upd (upd (upd (upd (upd (upd (upd (upd (upd (upd (upd (upd (upd (upd (upd (upd (upd (upd (upd (upd (upd (upd (upd (upd (upd (upd (upd (upd (upd (upd (upd (upd (upd (upd (upd (upd (upd (upd (fun _ => 0) 1 10) 10 (-1)) 11 (-1)) 12 (-1)) 13 (-1)) 14 (-1)) 15 (-1)) 16 (-1)) 17 (-1)) 18 (-1)) 19 (-1)) 20 (-1)) 21 (-1)) 22 (-1)) 23 (-1)) 24 (-1)) 25 (-1)) 26 (-1)) 27 (-1)) 28 (-1)) 29 (-1)) 30 (-1)) 31 (-1)) 32 (-1)) 33 (-1)) 34 (-1)) 35 (-1)) 36 (-1)) 37 (-1)) 38 (-1)) 39 (-1)) 40 (-1)) 41 (-1)) 42 (-1)) 43 (-1)) 44 (-1)) 45 (-1)) 46 (-1)) 47 (-1)) 48 (-1)) 49 (-1)) 50 (-1)) 51 (-1)) 52 (-1)) 53 (-1)) 54 (-1)) 55 (-1)) 56 (-1)) 57 (-1)) 58 (-1)) 59 (-1)) 60 (-1)) 61 (-1)) 62 (-1)) 63 (-1)) 64 (-1)) 65 (-1)) 66 (-1)) 67 (-1)) 68 (-1)) 69 (-1)) 70 (-1)) 71 (-1)) 72 (-1)) 73 (-1)) 139 1000) 140 100) 145 1000) 146 100) 151 1000) 152 100) 157 1000) 158 100) 163 1000) 164 100) 169 1000) 170 100) 175 1000) 176 100) 181 1000) 182 100) 58 a2))))
theorem ro_1583 (z : pq_C) (a2 : Int32) (h0 : -1 ≤ a2.toInt) (h1 : a2.toInt < 8) : pq_Ru 3 159 [.ref 90, .int 48, .int a2] (wd_1312 z a2) (some (.int (-1)), (wd_1313 z a2)) := by
  refine ru_of (k := 2) (M := pm_159) rfl rfl ?_
  refine go_seg 1 (pc' := 1) (ls' := [(0, .ref 90), (1, .int 48), (2, .int a2)]) (st' := [.int 48]) (w' := (wd_1312 z a2)) (cs' := 0) (ss' := 0) ?_ (fun _ _ => rfl)
  refine go_cl (k := 2) (st' := [.int 1]) (cs' := 0) (ss' := 0) rfl rfl rfl rfl rfl rfl rfl (ro_1581 z a2 (by omega) (by omega)) ?_
  refine go_seg 5 (pc' := 15) (ls' := [(0, .ref 90), (1, .int 48), (2, .int a2)]) (st' := [.long 7, .long (-1), .long a2.toInt64]) (w' := (wd_1312 z a2)) (cs' := 0) (ss' := 0) ?_ (fun _ _ => rfl)
  refine go_cl (k := 2) (st' := [.int 1]) (cs' := 0) (ss' := 0) rfl rfl rfl rfl rfl rfl rfl (wi_t _ a2 (-1) 7 (-1) 7 rfl rfl (by omega)) ?_
  refine go_seg 8 (pc' := 38) (ls' := [(3, .int (-1)), (0, .ref 90), (1, .int 48), (2, .int a2)]) (st' := []) (w' := (wd_1312 z a2)) (cs' := 0) (ss' := 0) ?_ (fun _ _ => rfl)
  refine go_seg 8 (pc' := 49) (ls' := [(3, .int (-1)), (0, .ref 90), (1, .int 48), (2, .int a2)]) (st' := [.int (-1)]) (w' := (wd_1313 z a2)) (cs' := 0) (ss' := 0) ?_ (fun _ _ => rfl)
  exact go_end 1 (fun _ _ => rfl)
theorem lf_0_1584 (a0 : Int32) (a2 : Int32) (a3 : Int32) (a4 : Int32) (a5 : Int32) (h0 : -1 ≤ a2.toInt) (h1 : a2.toInt < 8) : ∃ w', pq_Go 20 pm_law 212 [(3, .int 0), (2, .ref 90), (1, .ref 1), (0, .ref 0)] [] (fw (sz a0 48 a2 a3 a4 a5)) 109 12668 (some (.int 1), w') := by
  refine ⟨(wd_1313 (sz a0 48 a2 a3 a4 a5) a2), ?_⟩
  refine go_seg 8 (pc' := 220) (ls' := [(3, .int 0), (2, .ref 90), (1, .ref 1), (0, .ref 0)]) (st' := [.int 0, .ref 0, .int 48, .ref 1]) (w' := (fw (sz a0 48 a2 a3 a4 a5))) (cs' := 109) (ss' := 12668) ?_ (fun _ _ => rfl)
  refine go_seg 3 (pc' := 223) (ls' := [(3, .int 0), (2, .ref 90), (1, .ref 1), (0, .ref 0)]) (st' := [.int a2, .int 48, .ref 1]) (w' := (fw (sz a0 48 a2 a3 a4 a5))) (cs' := 109) (ss' := 12668) ?_ (fun _ _ => rfl)
  refine go_cl (k := 20) (st' := [.int (-1)]) (cs' := 109) (ss' := 12668) rfl rfl rfl rfl rfl rfl rfl (ro_1578 (sz a0 48 a2 a3 a4 a5) a2 (by omega) (by omega)) ?_
  refine go_seg 8 (pc' := 234) (ls' := [(3, .int 0), (2, .ref 90), (1, .ref 1), (0, .ref 0)]) (st' := [.int 0, .ref 0, .int 48, .ref 90, .int (-1)]) (w' := (wd_1312 (sz a0 48 a2 a3 a4 a5) a2)) (cs' := 109) (ss' := 12668) ?_ (fun _ _ => rfl)
  refine go_seg 3 (pc' := 237) (ls' := [(3, .int 0), (2, .ref 90), (1, .ref 1), (0, .ref 0)]) (st' := [.int a2, .int 48, .ref 90, .int (-1)]) (w' := (wd_1312 (sz a0 48 a2 a3 a4 a5) a2)) (cs' := 109) (ss' := 12668) ?_ (fun _ _ => rfl)
  refine go_cl (k := 20) (st' := [.int (-1), .int (-1)]) (cs' := 109) (ss' := 12668) rfl rfl rfl rfl rfl rfl rfl (ro_1583 (sz a0 48 a2 a3 a4 a5) a2 (by omega) (by omega)) ?_
  refine go_cmp true rfl (br_self _) ?_
  exact law_tail (f := sc a0 48 a2 a3 a4 a5) rfl
theorem ro_1585 (z : pq_C) : pq_Ru 1 13 [.int 49] (fw z) (some (.int 1), (fw z)) := by
  refine ru_of (k := 0) (M := pm_13) rfl rfl ?_
  exact go_end 8 (fun _ _ => rfl)
def wd_1314 (z : pq_C) (a2 : Int32) : pq_W := ((fw z).set 3 (.inl (.int, 64, .inl (upd (fl_c 64 (-1) (fun _ => 0)) 49 a2))))
theorem ro_1586 (z : pq_C) (a2 : Int32) (h0 : -1 ≤ a2.toInt) (h1 : a2.toInt < 8) : pq_Ru 2 12 [.ref 1, .int 49, .int a2] (fw z) (some (.int (-1)), (wd_1314 z a2)) := by
  refine ru_of (k := 1) (M := pm_12) rfl rfl ?_
  refine go_seg 1 (pc' := 1) (ls' := [(0, .ref 1), (1, .int 49), (2, .int a2)]) (st' := [.int 49]) (w' := (fw z)) (cs' := 0) (ss' := 0) ?_ (fun _ _ => rfl)
  refine go_cl (k := 1) (st' := [.int 1]) (cs' := 0) (ss' := 0) rfl rfl rfl rfl rfl rfl rfl (ro_1585 z) ?_
  refine go_seg 2 (pc' := 8) (ls' := [(0, .ref 1), (1, .int 49), (2, .int a2)]) (st' := [.int a2]) (w' := (fw z)) (cs' := 0) (ss' := 0) ?_ (fun _ _ => rfl)
  refine go_cl (k := 1) (st' := [.int 1]) (cs' := 0) (ss' := 0) rfl rfl rfl rfl rfl rfl rfl (ro_1193 z a2 (by omega) (by omega)) ?_
  refine go_seg 8 (pc' := 31) (ls' := [(3, .int (-1)), (0, .ref 1), (1, .int 49), (2, .int a2)]) (st' := [.ref 1]) (w' := (fw z)) (cs' := 0) (ss' := 0) ?_ (fun _ _ => rfl)
  exact go_end 7 (fun _ _ => rfl)
theorem ro_1588 (z : pq_C) (a2 : Int32) (h0 : -1 ≤ a2.toInt) (h1 : a2.toInt < 8) : pq_Ru 1 161 [.long 49, .long 0, .long 63] (wd_1314 z a2) (some (.int 1), (wd_1314 z a2)) := by
  refine ru_of (k := 0) (M := pm_161) rfl rfl ?_
  refine go_seg 8 (pc' := 13) (ls' := [(0, .long 49), (2, .long 0), (4, .long 63)]) (st' := []) (w' := (wd_1314 z a2)) (cs' := 0) (ss' := 0) ?_ (fun _ _ => rfl)
  exact go_end 3 (fun _ _ => rfl)
theorem ro_1589 (z : pq_C) (a2 : Int32) (h0 : -1 ≤ a2.toInt) (h1 : a2.toInt < 8) : pq_Ru 2 160 [.int 49] (wd_1314 z a2) (some (.int 1), (wd_1314 z a2)) := by
  refine ru_of (k := 1) (M := pm_160) rfl rfl ?_
  refine go_seg 4 (pc' := 6) (ls' := [(0, .int 49)]) (st' := [.long 63, .long 0, .long 49]) (w' := (wd_1314 z a2)) (cs' := 0) (ss' := 0) ?_ (fun _ _ => rfl)
  refine go_cl (k := 1) (st' := [.int 1]) (cs' := 0) (ss' := 0) rfl rfl rfl rfl rfl rfl rfl (ro_1588 z a2 (by omega) (by omega)) ?_
  exact go_end 1 (fun _ _ => rfl)
def wd_1315 (z : pq_C) (a2 : Int32) : pq_W := ((wd_1314 z a2).set 91 (.inl (.int, 2858, .inl (upd (upd (upd (upd (upd (upd (upd (upd (upd (upd (upd (upd (upd (upd (upd (upd (upd (upd (upd (upd (upd (upd (upd (upd (upd (upd (upd (upd (upd (upd (upd (upd (upd (upd (upd (upd (upd (upd (upd (upd (upd (upd (upd (upd (upd (upd (upd (upd (upd (upd (upd (upd (upd (upd (upd (upd (upd (upd (upd (upd (upd (upd (upd (upd (upd (upd (upd (upd (upd (upd (upd (upd (upd (upd (upd (upd (upd (upd (upd (upd (upd (upd (fun _ => 0) 1 10) 10 (-1)) 11 (-1)) 12 (-1)) 13 (-1)) 14 (-1)) 15 (-1)) 16 (-1)) 17 (-1)) 18 (-1)) 19 (-1)) 20 (-1)) 21 (-1)) 22 (-1)) 23 (-1)) 24 (-1)) 25 (-1)) 26 (-1)) 27 (-1)) 28 (-1)) 29 (-1)) 30 (-1)) 31 (-1)) 32 (-1)) 33 (-1)) 34 (-1)) 35 (-1)) 36 (-1)) 37 (-1)) 38 (-1)) 39 (-1)) 40 (-1)) 41 (-1)) 42 (-1)) 43 (-1)) 44 (-1)) 45 (-1)) 46 (-1)) 47 (-1)) 48 (-1)) 49 (-1)) 50 (-1)) 51 (-1)) 52 (-1)) 53 (-1)) 54 (-1)) 55 (-1)) 56 (-1)) 57 (-1)) 58 (-1)) 59 (-1)) 60 (-1)) 61 (-1)) 62 (-1)) 63 (-1)) 64 (-1)) 65 (-1)) 66 (-1)) 67 (-1)) 68 (-1)) 69 (-1)) 70 (-1)) 71 (-1)) 72 (-1)) 73 (-1)) 139 1000) 140 100) 145 1000) 146 100) 151 1000) 152 100) 157 1000) 158 100) 163 1000) 164 100) 169 1000) 170 100) 175 1000) 176 100) 181 1000) 182 100) 59 a2))))
theorem ro_1591 (z : pq_C) (a2 : Int32) (h0 : -1 ≤ a2.toInt) (h1 : a2.toInt < 8) : pq_Ru 3 159 [.ref 90, .int 49, .int a2] (wd_1314 z a2) (some (.int (-1)), (wd_1315 z a2)) := by
  refine ru_of (k := 2) (M := pm_159) rfl rfl ?_
  refine go_seg 1 (pc' := 1) (ls' := [(0, .ref 90), (1, .int 49), (2, .int a2)]) (st' := [.int 49]) (w' := (wd_1314 z a2)) (cs' := 0) (ss' := 0) ?_ (fun _ _ => rfl)
  refine go_cl (k := 2) (st' := [.int 1]) (cs' := 0) (ss' := 0) rfl rfl rfl rfl rfl rfl rfl (ro_1589 z a2 (by omega) (by omega)) ?_
  refine go_seg 5 (pc' := 15) (ls' := [(0, .ref 90), (1, .int 49), (2, .int a2)]) (st' := [.long 7, .long (-1), .long a2.toInt64]) (w' := (wd_1314 z a2)) (cs' := 0) (ss' := 0) ?_ (fun _ _ => rfl)
  refine go_cl (k := 2) (st' := [.int 1]) (cs' := 0) (ss' := 0) rfl rfl rfl rfl rfl rfl rfl (wi_t _ a2 (-1) 7 (-1) 7 rfl rfl (by omega)) ?_
  refine go_seg 8 (pc' := 38) (ls' := [(3, .int (-1)), (0, .ref 90), (1, .int 49), (2, .int a2)]) (st' := []) (w' := (wd_1314 z a2)) (cs' := 0) (ss' := 0) ?_ (fun _ _ => rfl)
  refine go_seg 8 (pc' := 49) (ls' := [(3, .int (-1)), (0, .ref 90), (1, .int 49), (2, .int a2)]) (st' := [.int (-1)]) (w' := (wd_1315 z a2)) (cs' := 0) (ss' := 0) ?_ (fun _ _ => rfl)
  exact go_end 1 (fun _ _ => rfl)
theorem lf_0_1592 (a0 : Int32) (a2 : Int32) (a3 : Int32) (a4 : Int32) (a5 : Int32) (h0 : -1 ≤ a2.toInt) (h1 : a2.toInt < 8) : ∃ w', pq_Go 20 pm_law 212 [(3, .int 0), (2, .ref 90), (1, .ref 1), (0, .ref 0)] [] (fw (sz a0 49 a2 a3 a4 a5)) 109 12668 (some (.int 1), w') := by
  refine ⟨(wd_1315 (sz a0 49 a2 a3 a4 a5) a2), ?_⟩
  refine go_seg 8 (pc' := 220) (ls' := [(3, .int 0), (2, .ref 90), (1, .ref 1), (0, .ref 0)]) (st' := [.int 0, .ref 0, .int 49, .ref 1]) (w' := (fw (sz a0 49 a2 a3 a4 a5))) (cs' := 109) (ss' := 12668) ?_ (fun _ _ => rfl)
  refine go_seg 3 (pc' := 223) (ls' := [(3, .int 0), (2, .ref 90), (1, .ref 1), (0, .ref 0)]) (st' := [.int a2, .int 49, .ref 1]) (w' := (fw (sz a0 49 a2 a3 a4 a5))) (cs' := 109) (ss' := 12668) ?_ (fun _ _ => rfl)
  refine go_cl (k := 20) (st' := [.int (-1)]) (cs' := 109) (ss' := 12668) rfl rfl rfl rfl rfl rfl rfl (ro_1586 (sz a0 49 a2 a3 a4 a5) a2 (by omega) (by omega)) ?_
  refine go_seg 8 (pc' := 234) (ls' := [(3, .int 0), (2, .ref 90), (1, .ref 1), (0, .ref 0)]) (st' := [.int 0, .ref 0, .int 49, .ref 90, .int (-1)]) (w' := (wd_1314 (sz a0 49 a2 a3 a4 a5) a2)) (cs' := 109) (ss' := 12668) ?_ (fun _ _ => rfl)
  refine go_seg 3 (pc' := 237) (ls' := [(3, .int 0), (2, .ref 90), (1, .ref 1), (0, .ref 0)]) (st' := [.int a2, .int 49, .ref 90, .int (-1)]) (w' := (wd_1314 (sz a0 49 a2 a3 a4 a5) a2)) (cs' := 109) (ss' := 12668) ?_ (fun _ _ => rfl)
  refine go_cl (k := 20) (st' := [.int (-1), .int (-1)]) (cs' := 109) (ss' := 12668) rfl rfl rfl rfl rfl rfl rfl (ro_1591 (sz a0 49 a2 a3 a4 a5) a2 (by omega) (by omega)) ?_
  refine go_cmp true rfl (br_self _) ?_
  exact law_tail (f := sc a0 49 a2 a3 a4 a5) rfl
theorem ro_1593 (z : pq_C) : pq_Ru 1 13 [.int 50] (fw z) (some (.int 1), (fw z)) := by
  refine ru_of (k := 0) (M := pm_13) rfl rfl ?_
  exact go_end 8 (fun _ _ => rfl)
def wd_1316 (z : pq_C) (a2 : Int32) : pq_W := ((fw z).set 3 (.inl (.int, 64, .inl (upd (fl_c 64 (-1) (fun _ => 0)) 50 a2))))
theorem ro_1594 (z : pq_C) (a2 : Int32) (h0 : -1 ≤ a2.toInt) (h1 : a2.toInt < 8) : pq_Ru 2 12 [.ref 1, .int 50, .int a2] (fw z) (some (.int (-1)), (wd_1316 z a2)) := by
  refine ru_of (k := 1) (M := pm_12) rfl rfl ?_
  refine go_seg 1 (pc' := 1) (ls' := [(0, .ref 1), (1, .int 50), (2, .int a2)]) (st' := [.int 50]) (w' := (fw z)) (cs' := 0) (ss' := 0) ?_ (fun _ _ => rfl)
  refine go_cl (k := 1) (st' := [.int 1]) (cs' := 0) (ss' := 0) rfl rfl rfl rfl rfl rfl rfl (ro_1593 z) ?_
  refine go_seg 2 (pc' := 8) (ls' := [(0, .ref 1), (1, .int 50), (2, .int a2)]) (st' := [.int a2]) (w' := (fw z)) (cs' := 0) (ss' := 0) ?_ (fun _ _ => rfl)
  refine go_cl (k := 1) (st' := [.int 1]) (cs' := 0) (ss' := 0) rfl rfl rfl rfl rfl rfl rfl (ro_1193 z a2 (by omega) (by omega)) ?_
  refine go_seg 8 (pc' := 31) (ls' := [(3, .int (-1)), (0, .ref 1), (1, .int 50), (2, .int a2)]) (st' := [.ref 1]) (w' := (fw z)) (cs' := 0) (ss' := 0) ?_ (fun _ _ => rfl)
  exact go_end 7 (fun _ _ => rfl)
theorem ro_1596 (z : pq_C) (a2 : Int32) (h0 : -1 ≤ a2.toInt) (h1 : a2.toInt < 8) : pq_Ru 1 161 [.long 50, .long 0, .long 63] (wd_1316 z a2) (some (.int 1), (wd_1316 z a2)) := by
  refine ru_of (k := 0) (M := pm_161) rfl rfl ?_
  refine go_seg 8 (pc' := 13) (ls' := [(0, .long 50), (2, .long 0), (4, .long 63)]) (st' := []) (w' := (wd_1316 z a2)) (cs' := 0) (ss' := 0) ?_ (fun _ _ => rfl)
  exact go_end 3 (fun _ _ => rfl)
theorem ro_1597 (z : pq_C) (a2 : Int32) (h0 : -1 ≤ a2.toInt) (h1 : a2.toInt < 8) : pq_Ru 2 160 [.int 50] (wd_1316 z a2) (some (.int 1), (wd_1316 z a2)) := by
  refine ru_of (k := 1) (M := pm_160) rfl rfl ?_
  refine go_seg 4 (pc' := 6) (ls' := [(0, .int 50)]) (st' := [.long 63, .long 0, .long 50]) (w' := (wd_1316 z a2)) (cs' := 0) (ss' := 0) ?_ (fun _ _ => rfl)
  refine go_cl (k := 1) (st' := [.int 1]) (cs' := 0) (ss' := 0) rfl rfl rfl rfl rfl rfl rfl (ro_1596 z a2 (by omega) (by omega)) ?_
  exact go_end 1 (fun _ _ => rfl)
def wd_1317 (z : pq_C) (a2 : Int32) : pq_W := ((wd_1316 z a2).set 91 (.inl (.int, 2858, .inl (upd (upd (upd (upd (upd (upd (upd (upd (upd (upd (upd (upd (upd (upd (upd (upd (upd (upd (upd (upd (upd (upd (upd (upd (upd (upd (upd (upd (upd (upd (upd (upd (upd (upd (upd (upd (upd (upd (upd (upd (upd (upd (upd (upd (upd (upd (upd (upd (upd (upd (upd (upd (upd (upd (upd (upd (upd (upd (upd (upd (upd (upd (upd (upd (upd (upd (upd (upd (upd (upd (upd (upd (upd (upd (upd (upd (upd (upd (upd (upd (upd (upd (fun _ => 0) 1 10) 10 (-1)) 11 (-1)) 12 (-1)) 13 (-1)) 14 (-1)) 15 (-1)) 16 (-1)) 17 (-1)) 18 (-1)) 19 (-1)) 20 (-1)) 21 (-1)) 22 (-1)) 23 (-1)) 24 (-1)) 25 (-1)) 26 (-1)) 27 (-1)) 28 (-1)) 29 (-1)) 30 (-1)) 31 (-1)) 32 (-1)) 33 (-1)) 34 (-1)) 35 (-1)) 36 (-1)) 37 (-1)) 38 (-1)) 39 (-1)) 40 (-1)) 41 (-1)) 42 (-1)) 43 (-1)) 44 (-1)) 45 (-1)) 46 (-1)) 47 (-1)) 48 (-1)) 49 (-1)) 50 (-1)) 51 (-1)) 52 (-1)) 53 (-1)) 54 (-1)) 55 (-1)) 56 (-1)) 57 (-1)) 58 (-1)) 59 (-1)) 60 (-1)) 61 (-1)) 62 (-1)) 63 (-1)) 64 (-1)) 65 (-1)) 66 (-1)) 67 (-1)) 68 (-1)) 69 (-1)) 70 (-1)) 71 (-1)) 72 (-1)) 73 (-1)) 139 1000) 140 100) 145 1000) 146 100) 151 1000) 152 100) 157 1000) 158 100) 163 1000) 164 100) 169 1000) 170 100) 175 1000) 176 100) 181 1000) 182 100) 60 a2))))
theorem ro_1599 (z : pq_C) (a2 : Int32) (h0 : -1 ≤ a2.toInt) (h1 : a2.toInt < 8) : pq_Ru 3 159 [.ref 90, .int 50, .int a2] (wd_1316 z a2) (some (.int (-1)), (wd_1317 z a2)) := by
  refine ru_of (k := 2) (M := pm_159) rfl rfl ?_
  refine go_seg 1 (pc' := 1) (ls' := [(0, .ref 90), (1, .int 50), (2, .int a2)]) (st' := [.int 50]) (w' := (wd_1316 z a2)) (cs' := 0) (ss' := 0) ?_ (fun _ _ => rfl)
  refine go_cl (k := 2) (st' := [.int 1]) (cs' := 0) (ss' := 0) rfl rfl rfl rfl rfl rfl rfl (ro_1597 z a2 (by omega) (by omega)) ?_
  refine go_seg 5 (pc' := 15) (ls' := [(0, .ref 90), (1, .int 50), (2, .int a2)]) (st' := [.long 7, .long (-1), .long a2.toInt64]) (w' := (wd_1316 z a2)) (cs' := 0) (ss' := 0) ?_ (fun _ _ => rfl)
  refine go_cl (k := 2) (st' := [.int 1]) (cs' := 0) (ss' := 0) rfl rfl rfl rfl rfl rfl rfl (wi_t _ a2 (-1) 7 (-1) 7 rfl rfl (by omega)) ?_
  refine go_seg 8 (pc' := 38) (ls' := [(3, .int (-1)), (0, .ref 90), (1, .int 50), (2, .int a2)]) (st' := []) (w' := (wd_1316 z a2)) (cs' := 0) (ss' := 0) ?_ (fun _ _ => rfl)
  refine go_seg 8 (pc' := 49) (ls' := [(3, .int (-1)), (0, .ref 90), (1, .int 50), (2, .int a2)]) (st' := [.int (-1)]) (w' := (wd_1317 z a2)) (cs' := 0) (ss' := 0) ?_ (fun _ _ => rfl)
  exact go_end 1 (fun _ _ => rfl)
theorem lf_0_1600 (a0 : Int32) (a2 : Int32) (a3 : Int32) (a4 : Int32) (a5 : Int32) (h0 : -1 ≤ a2.toInt) (h1 : a2.toInt < 8) : ∃ w', pq_Go 20 pm_law 212 [(3, .int 0), (2, .ref 90), (1, .ref 1), (0, .ref 0)] [] (fw (sz a0 50 a2 a3 a4 a5)) 109 12668 (some (.int 1), w') := by
  refine ⟨(wd_1317 (sz a0 50 a2 a3 a4 a5) a2), ?_⟩
  refine go_seg 8 (pc' := 220) (ls' := [(3, .int 0), (2, .ref 90), (1, .ref 1), (0, .ref 0)]) (st' := [.int 0, .ref 0, .int 50, .ref 1]) (w' := (fw (sz a0 50 a2 a3 a4 a5))) (cs' := 109) (ss' := 12668) ?_ (fun _ _ => rfl)
  refine go_seg 3 (pc' := 223) (ls' := [(3, .int 0), (2, .ref 90), (1, .ref 1), (0, .ref 0)]) (st' := [.int a2, .int 50, .ref 1]) (w' := (fw (sz a0 50 a2 a3 a4 a5))) (cs' := 109) (ss' := 12668) ?_ (fun _ _ => rfl)
  refine go_cl (k := 20) (st' := [.int (-1)]) (cs' := 109) (ss' := 12668) rfl rfl rfl rfl rfl rfl rfl (ro_1594 (sz a0 50 a2 a3 a4 a5) a2 (by omega) (by omega)) ?_
  refine go_seg 8 (pc' := 234) (ls' := [(3, .int 0), (2, .ref 90), (1, .ref 1), (0, .ref 0)]) (st' := [.int 0, .ref 0, .int 50, .ref 90, .int (-1)]) (w' := (wd_1316 (sz a0 50 a2 a3 a4 a5) a2)) (cs' := 109) (ss' := 12668) ?_ (fun _ _ => rfl)
  refine go_seg 3 (pc' := 237) (ls' := [(3, .int 0), (2, .ref 90), (1, .ref 1), (0, .ref 0)]) (st' := [.int a2, .int 50, .ref 90, .int (-1)]) (w' := (wd_1316 (sz a0 50 a2 a3 a4 a5) a2)) (cs' := 109) (ss' := 12668) ?_ (fun _ _ => rfl)
  refine go_cl (k := 20) (st' := [.int (-1), .int (-1)]) (cs' := 109) (ss' := 12668) rfl rfl rfl rfl rfl rfl rfl (ro_1599 (sz a0 50 a2 a3 a4 a5) a2 (by omega) (by omega)) ?_
  refine go_cmp true rfl (br_self _) ?_
  exact law_tail (f := sc a0 50 a2 a3 a4 a5) rfl
theorem ro_1601 (z : pq_C) : pq_Ru 1 13 [.int 51] (fw z) (some (.int 1), (fw z)) := by
  refine ru_of (k := 0) (M := pm_13) rfl rfl ?_
  exact go_end 8 (fun _ _ => rfl)
def wd_1318 (z : pq_C) (a2 : Int32) : pq_W := ((fw z).set 3 (.inl (.int, 64, .inl (upd (fl_c 64 (-1) (fun _ => 0)) 51 a2))))
theorem ro_1602 (z : pq_C) (a2 : Int32) (h0 : -1 ≤ a2.toInt) (h1 : a2.toInt < 8) : pq_Ru 2 12 [.ref 1, .int 51, .int a2] (fw z) (some (.int (-1)), (wd_1318 z a2)) := by
  refine ru_of (k := 1) (M := pm_12) rfl rfl ?_
  refine go_seg 1 (pc' := 1) (ls' := [(0, .ref 1), (1, .int 51), (2, .int a2)]) (st' := [.int 51]) (w' := (fw z)) (cs' := 0) (ss' := 0) ?_ (fun _ _ => rfl)
  refine go_cl (k := 1) (st' := [.int 1]) (cs' := 0) (ss' := 0) rfl rfl rfl rfl rfl rfl rfl (ro_1601 z) ?_
  refine go_seg 2 (pc' := 8) (ls' := [(0, .ref 1), (1, .int 51), (2, .int a2)]) (st' := [.int a2]) (w' := (fw z)) (cs' := 0) (ss' := 0) ?_ (fun _ _ => rfl)
  refine go_cl (k := 1) (st' := [.int 1]) (cs' := 0) (ss' := 0) rfl rfl rfl rfl rfl rfl rfl (ro_1193 z a2 (by omega) (by omega)) ?_
  refine go_seg 8 (pc' := 31) (ls' := [(3, .int (-1)), (0, .ref 1), (1, .int 51), (2, .int a2)]) (st' := [.ref 1]) (w' := (fw z)) (cs' := 0) (ss' := 0) ?_ (fun _ _ => rfl)
  exact go_end 7 (fun _ _ => rfl)
theorem ro_1604 (z : pq_C) (a2 : Int32) (h0 : -1 ≤ a2.toInt) (h1 : a2.toInt < 8) : pq_Ru 1 161 [.long 51, .long 0, .long 63] (wd_1318 z a2) (some (.int 1), (wd_1318 z a2)) := by
  refine ru_of (k := 0) (M := pm_161) rfl rfl ?_
  refine go_seg 8 (pc' := 13) (ls' := [(0, .long 51), (2, .long 0), (4, .long 63)]) (st' := []) (w' := (wd_1318 z a2)) (cs' := 0) (ss' := 0) ?_ (fun _ _ => rfl)
  exact go_end 3 (fun _ _ => rfl)
theorem ro_1605 (z : pq_C) (a2 : Int32) (h0 : -1 ≤ a2.toInt) (h1 : a2.toInt < 8) : pq_Ru 2 160 [.int 51] (wd_1318 z a2) (some (.int 1), (wd_1318 z a2)) := by
  refine ru_of (k := 1) (M := pm_160) rfl rfl ?_
  refine go_seg 4 (pc' := 6) (ls' := [(0, .int 51)]) (st' := [.long 63, .long 0, .long 51]) (w' := (wd_1318 z a2)) (cs' := 0) (ss' := 0) ?_ (fun _ _ => rfl)
  refine go_cl (k := 1) (st' := [.int 1]) (cs' := 0) (ss' := 0) rfl rfl rfl rfl rfl rfl rfl (ro_1604 z a2 (by omega) (by omega)) ?_
  exact go_end 1 (fun _ _ => rfl)
def wd_1319 (z : pq_C) (a2 : Int32) : pq_W := ((wd_1318 z a2).set 91 (.inl (.int, 2858, .inl (upd (upd (upd (upd (upd (upd (upd (upd (upd (upd (upd (upd (upd (upd (upd (upd (upd (upd (upd (upd (upd (upd (upd (upd (upd (upd (upd (upd (upd (upd (upd (upd (upd (upd (upd (upd (upd (upd (upd (upd (upd (upd (upd (upd (upd (upd (upd (upd (upd (upd (upd (upd (upd (upd (upd (upd (upd (upd (upd (upd (upd (upd (upd (upd (upd (upd (upd (upd (upd (upd (upd (upd (upd (upd (upd (upd (upd (upd (upd (upd (upd (upd (fun _ => 0) 1 10) 10 (-1)) 11 (-1)) 12 (-1)) 13 (-1)) 14 (-1)) 15 (-1)) 16 (-1)) 17 (-1)) 18 (-1)) 19 (-1)) 20 (-1)) 21 (-1)) 22 (-1)) 23 (-1)) 24 (-1)) 25 (-1)) 26 (-1)) 27 (-1)) 28 (-1)) 29 (-1)) 30 (-1)) 31 (-1)) 32 (-1)) 33 (-1)) 34 (-1)) 35 (-1)) 36 (-1)) 37 (-1)) 38 (-1)) 39 (-1)) 40 (-1)) 41 (-1)) 42 (-1)) 43 (-1)) 44 (-1)) 45 (-1)) 46 (-1)) 47 (-1)) 48 (-1)) 49 (-1)) 50 (-1)) 51 (-1)) 52 (-1)) 53 (-1)) 54 (-1)) 55 (-1)) 56 (-1)) 57 (-1)) 58 (-1)) 59 (-1)) 60 (-1)) 61 (-1)) 62 (-1)) 63 (-1)) 64 (-1)) 65 (-1)) 66 (-1)) 67 (-1)) 68 (-1)) 69 (-1)) 70 (-1)) 71 (-1)) 72 (-1)) 73 (-1)) 139 1000) 140 100) 145 1000) 146 100) 151 1000) 152 100) 157 1000) 158 100) 163 1000) 164 100) 169 1000) 170 100) 175 1000) 176 100) 181 1000) 182 100) 61 a2))))
theorem ro_1607 (z : pq_C) (a2 : Int32) (h0 : -1 ≤ a2.toInt) (h1 : a2.toInt < 8) : pq_Ru 3 159 [.ref 90, .int 51, .int a2] (wd_1318 z a2) (some (.int (-1)), (wd_1319 z a2)) := by
  refine ru_of (k := 2) (M := pm_159) rfl rfl ?_
  refine go_seg 1 (pc' := 1) (ls' := [(0, .ref 90), (1, .int 51), (2, .int a2)]) (st' := [.int 51]) (w' := (wd_1318 z a2)) (cs' := 0) (ss' := 0) ?_ (fun _ _ => rfl)
  refine go_cl (k := 2) (st' := [.int 1]) (cs' := 0) (ss' := 0) rfl rfl rfl rfl rfl rfl rfl (ro_1605 z a2 (by omega) (by omega)) ?_
  refine go_seg 5 (pc' := 15) (ls' := [(0, .ref 90), (1, .int 51), (2, .int a2)]) (st' := [.long 7, .long (-1), .long a2.toInt64]) (w' := (wd_1318 z a2)) (cs' := 0) (ss' := 0) ?_ (fun _ _ => rfl)
  refine go_cl (k := 2) (st' := [.int 1]) (cs' := 0) (ss' := 0) rfl rfl rfl rfl rfl rfl rfl (wi_t _ a2 (-1) 7 (-1) 7 rfl rfl (by omega)) ?_
  refine go_seg 8 (pc' := 38) (ls' := [(3, .int (-1)), (0, .ref 90), (1, .int 51), (2, .int a2)]) (st' := []) (w' := (wd_1318 z a2)) (cs' := 0) (ss' := 0) ?_ (fun _ _ => rfl)
  refine go_seg 8 (pc' := 49) (ls' := [(3, .int (-1)), (0, .ref 90), (1, .int 51), (2, .int a2)]) (st' := [.int (-1)]) (w' := (wd_1319 z a2)) (cs' := 0) (ss' := 0) ?_ (fun _ _ => rfl)
  exact go_end 1 (fun _ _ => rfl)
theorem lf_0_1608 (a0 : Int32) (a2 : Int32) (a3 : Int32) (a4 : Int32) (a5 : Int32) (h0 : -1 ≤ a2.toInt) (h1 : a2.toInt < 8) : ∃ w', pq_Go 20 pm_law 212 [(3, .int 0), (2, .ref 90), (1, .ref 1), (0, .ref 0)] [] (fw (sz a0 51 a2 a3 a4 a5)) 109 12668 (some (.int 1), w') := by
  refine ⟨(wd_1319 (sz a0 51 a2 a3 a4 a5) a2), ?_⟩
  refine go_seg 8 (pc' := 220) (ls' := [(3, .int 0), (2, .ref 90), (1, .ref 1), (0, .ref 0)]) (st' := [.int 0, .ref 0, .int 51, .ref 1]) (w' := (fw (sz a0 51 a2 a3 a4 a5))) (cs' := 109) (ss' := 12668) ?_ (fun _ _ => rfl)
  refine go_seg 3 (pc' := 223) (ls' := [(3, .int 0), (2, .ref 90), (1, .ref 1), (0, .ref 0)]) (st' := [.int a2, .int 51, .ref 1]) (w' := (fw (sz a0 51 a2 a3 a4 a5))) (cs' := 109) (ss' := 12668) ?_ (fun _ _ => rfl)
  refine go_cl (k := 20) (st' := [.int (-1)]) (cs' := 109) (ss' := 12668) rfl rfl rfl rfl rfl rfl rfl (ro_1602 (sz a0 51 a2 a3 a4 a5) a2 (by omega) (by omega)) ?_
  refine go_seg 8 (pc' := 234) (ls' := [(3, .int 0), (2, .ref 90), (1, .ref 1), (0, .ref 0)]) (st' := [.int 0, .ref 0, .int 51, .ref 90, .int (-1)]) (w' := (wd_1318 (sz a0 51 a2 a3 a4 a5) a2)) (cs' := 109) (ss' := 12668) ?_ (fun _ _ => rfl)
  refine go_seg 3 (pc' := 237) (ls' := [(3, .int 0), (2, .ref 90), (1, .ref 1), (0, .ref 0)]) (st' := [.int a2, .int 51, .ref 90, .int (-1)]) (w' := (wd_1318 (sz a0 51 a2 a3 a4 a5) a2)) (cs' := 109) (ss' := 12668) ?_ (fun _ _ => rfl)
  refine go_cl (k := 20) (st' := [.int (-1), .int (-1)]) (cs' := 109) (ss' := 12668) rfl rfl rfl rfl rfl rfl rfl (ro_1607 (sz a0 51 a2 a3 a4 a5) a2 (by omega) (by omega)) ?_
  refine go_cmp true rfl (br_self _) ?_
  exact law_tail (f := sc a0 51 a2 a3 a4 a5) rfl
theorem ro_1609 (z : pq_C) : pq_Ru 1 13 [.int 52] (fw z) (some (.int 1), (fw z)) := by
  refine ru_of (k := 0) (M := pm_13) rfl rfl ?_
  exact go_end 8 (fun _ _ => rfl)
def wd_1320 (z : pq_C) (a2 : Int32) : pq_W := ((fw z).set 3 (.inl (.int, 64, .inl (upd (fl_c 64 (-1) (fun _ => 0)) 52 a2))))
theorem ro_1610 (z : pq_C) (a2 : Int32) (h0 : -1 ≤ a2.toInt) (h1 : a2.toInt < 8) : pq_Ru 2 12 [.ref 1, .int 52, .int a2] (fw z) (some (.int (-1)), (wd_1320 z a2)) := by
  refine ru_of (k := 1) (M := pm_12) rfl rfl ?_
  refine go_seg 1 (pc' := 1) (ls' := [(0, .ref 1), (1, .int 52), (2, .int a2)]) (st' := [.int 52]) (w' := (fw z)) (cs' := 0) (ss' := 0) ?_ (fun _ _ => rfl)
  refine go_cl (k := 1) (st' := [.int 1]) (cs' := 0) (ss' := 0) rfl rfl rfl rfl rfl rfl rfl (ro_1609 z) ?_
  refine go_seg 2 (pc' := 8) (ls' := [(0, .ref 1), (1, .int 52), (2, .int a2)]) (st' := [.int a2]) (w' := (fw z)) (cs' := 0) (ss' := 0) ?_ (fun _ _ => rfl)
  refine go_cl (k := 1) (st' := [.int 1]) (cs' := 0) (ss' := 0) rfl rfl rfl rfl rfl rfl rfl (ro_1193 z a2 (by omega) (by omega)) ?_
  refine go_seg 8 (pc' := 31) (ls' := [(3, .int (-1)), (0, .ref 1), (1, .int 52), (2, .int a2)]) (st' := [.ref 1]) (w' := (fw z)) (cs' := 0) (ss' := 0) ?_ (fun _ _ => rfl)
  exact go_end 7 (fun _ _ => rfl)
theorem ro_1612 (z : pq_C) (a2 : Int32) (h0 : -1 ≤ a2.toInt) (h1 : a2.toInt < 8) : pq_Ru 1 161 [.long 52, .long 0, .long 63] (wd_1320 z a2) (some (.int 1), (wd_1320 z a2)) := by
  refine ru_of (k := 0) (M := pm_161) rfl rfl ?_
  refine go_seg 8 (pc' := 13) (ls' := [(0, .long 52), (2, .long 0), (4, .long 63)]) (st' := []) (w' := (wd_1320 z a2)) (cs' := 0) (ss' := 0) ?_ (fun _ _ => rfl)
  exact go_end 3 (fun _ _ => rfl)
theorem ro_1613 (z : pq_C) (a2 : Int32) (h0 : -1 ≤ a2.toInt) (h1 : a2.toInt < 8) : pq_Ru 2 160 [.int 52] (wd_1320 z a2) (some (.int 1), (wd_1320 z a2)) := by
  refine ru_of (k := 1) (M := pm_160) rfl rfl ?_
  refine go_seg 4 (pc' := 6) (ls' := [(0, .int 52)]) (st' := [.long 63, .long 0, .long 52]) (w' := (wd_1320 z a2)) (cs' := 0) (ss' := 0) ?_ (fun _ _ => rfl)
  refine go_cl (k := 1) (st' := [.int 1]) (cs' := 0) (ss' := 0) rfl rfl rfl rfl rfl rfl rfl (ro_1612 z a2 (by omega) (by omega)) ?_
  exact go_end 1 (fun _ _ => rfl)
def wd_1321 (z : pq_C) (a2 : Int32) : pq_W := ((wd_1320 z a2).set 91 (.inl (.int, 2858, .inl (upd (upd (upd (upd (upd (upd (upd (upd (upd (upd (upd (upd (upd (upd (upd (upd (upd (upd (upd (upd (upd (upd (upd (upd (upd (upd (upd (upd (upd (upd (upd (upd (upd (upd (upd (upd (upd (upd (upd (upd (upd (upd (upd (upd (upd (upd (upd (upd (upd (upd (upd (upd (upd (upd (upd (upd (upd (upd (upd (upd (upd (upd (upd (upd (upd (upd (upd (upd (upd (upd (upd (upd (upd (upd (upd (upd (upd (upd (upd (upd (upd (upd (fun _ => 0) 1 10) 10 (-1)) 11 (-1)) 12 (-1)) 13 (-1)) 14 (-1)) 15 (-1)) 16 (-1)) 17 (-1)) 18 (-1)) 19 (-1)) 20 (-1)) 21 (-1)) 22 (-1)) 23 (-1)) 24 (-1)) 25 (-1)) 26 (-1)) 27 (-1)) 28 (-1)) 29 (-1)) 30 (-1)) 31 (-1)) 32 (-1)) 33 (-1)) 34 (-1)) 35 (-1)) 36 (-1)) 37 (-1)) 38 (-1)) 39 (-1)) 40 (-1)) 41 (-1)) 42 (-1)) 43 (-1)) 44 (-1)) 45 (-1)) 46 (-1)) 47 (-1)) 48 (-1)) 49 (-1)) 50 (-1)) 51 (-1)) 52 (-1)) 53 (-1)) 54 (-1)) 55 (-1)) 56 (-1)) 57 (-1)) 58 (-1)) 59 (-1)) 60 (-1)) 61 (-1)) 62 (-1)) 63 (-1)) 64 (-1)) 65 (-1)) 66 (-1)) 67 (-1)) 68 (-1)) 69 (-1)) 70 (-1)) 71 (-1)) 72 (-1)) 73 (-1)) 139 1000) 140 100) 145 1000) 146 100) 151 1000) 152 100) 157 1000) 158 100) 163 1000) 164 100) 169 1000) 170 100) 175 1000) 176 100) 181 1000) 182 100) 62 a2))))
theorem ro_1615 (z : pq_C) (a2 : Int32) (h0 : -1 ≤ a2.toInt) (h1 : a2.toInt < 8) : pq_Ru 3 159 [.ref 90, .int 52, .int a2] (wd_1320 z a2) (some (.int (-1)), (wd_1321 z a2)) := by
  refine ru_of (k := 2) (M := pm_159) rfl rfl ?_
  refine go_seg 1 (pc' := 1) (ls' := [(0, .ref 90), (1, .int 52), (2, .int a2)]) (st' := [.int 52]) (w' := (wd_1320 z a2)) (cs' := 0) (ss' := 0) ?_ (fun _ _ => rfl)
  refine go_cl (k := 2) (st' := [.int 1]) (cs' := 0) (ss' := 0) rfl rfl rfl rfl rfl rfl rfl (ro_1613 z a2 (by omega) (by omega)) ?_
  refine go_seg 5 (pc' := 15) (ls' := [(0, .ref 90), (1, .int 52), (2, .int a2)]) (st' := [.long 7, .long (-1), .long a2.toInt64]) (w' := (wd_1320 z a2)) (cs' := 0) (ss' := 0) ?_ (fun _ _ => rfl)
  refine go_cl (k := 2) (st' := [.int 1]) (cs' := 0) (ss' := 0) rfl rfl rfl rfl rfl rfl rfl (wi_t _ a2 (-1) 7 (-1) 7 rfl rfl (by omega)) ?_
  refine go_seg 8 (pc' := 38) (ls' := [(3, .int (-1)), (0, .ref 90), (1, .int 52), (2, .int a2)]) (st' := []) (w' := (wd_1320 z a2)) (cs' := 0) (ss' := 0) ?_ (fun _ _ => rfl)
  refine go_seg 8 (pc' := 49) (ls' := [(3, .int (-1)), (0, .ref 90), (1, .int 52), (2, .int a2)]) (st' := [.int (-1)]) (w' := (wd_1321 z a2)) (cs' := 0) (ss' := 0) ?_ (fun _ _ => rfl)
  exact go_end 1 (fun _ _ => rfl)
theorem lf_0_1616 (a0 : Int32) (a2 : Int32) (a3 : Int32) (a4 : Int32) (a5 : Int32) (h0 : -1 ≤ a2.toInt) (h1 : a2.toInt < 8) : ∃ w', pq_Go 20 pm_law 212 [(3, .int 0), (2, .ref 90), (1, .ref 1), (0, .ref 0)] [] (fw (sz a0 52 a2 a3 a4 a5)) 109 12668 (some (.int 1), w') := by
  refine ⟨(wd_1321 (sz a0 52 a2 a3 a4 a5) a2), ?_⟩
  refine go_seg 8 (pc' := 220) (ls' := [(3, .int 0), (2, .ref 90), (1, .ref 1), (0, .ref 0)]) (st' := [.int 0, .ref 0, .int 52, .ref 1]) (w' := (fw (sz a0 52 a2 a3 a4 a5))) (cs' := 109) (ss' := 12668) ?_ (fun _ _ => rfl)
  refine go_seg 3 (pc' := 223) (ls' := [(3, .int 0), (2, .ref 90), (1, .ref 1), (0, .ref 0)]) (st' := [.int a2, .int 52, .ref 1]) (w' := (fw (sz a0 52 a2 a3 a4 a5))) (cs' := 109) (ss' := 12668) ?_ (fun _ _ => rfl)
  refine go_cl (k := 20) (st' := [.int (-1)]) (cs' := 109) (ss' := 12668) rfl rfl rfl rfl rfl rfl rfl (ro_1610 (sz a0 52 a2 a3 a4 a5) a2 (by omega) (by omega)) ?_
  refine go_seg 8 (pc' := 234) (ls' := [(3, .int 0), (2, .ref 90), (1, .ref 1), (0, .ref 0)]) (st' := [.int 0, .ref 0, .int 52, .ref 90, .int (-1)]) (w' := (wd_1320 (sz a0 52 a2 a3 a4 a5) a2)) (cs' := 109) (ss' := 12668) ?_ (fun _ _ => rfl)
  refine go_seg 3 (pc' := 237) (ls' := [(3, .int 0), (2, .ref 90), (1, .ref 1), (0, .ref 0)]) (st' := [.int a2, .int 52, .ref 90, .int (-1)]) (w' := (wd_1320 (sz a0 52 a2 a3 a4 a5) a2)) (cs' := 109) (ss' := 12668) ?_ (fun _ _ => rfl)
  refine go_cl (k := 20) (st' := [.int (-1), .int (-1)]) (cs' := 109) (ss' := 12668) rfl rfl rfl rfl rfl rfl rfl (ro_1615 (sz a0 52 a2 a3 a4 a5) a2 (by omega) (by omega)) ?_
  refine go_cmp true rfl (br_self _) ?_
  exact law_tail (f := sc a0 52 a2 a3 a4 a5) rfl
theorem ro_1617 (z : pq_C) : pq_Ru 1 13 [.int 53] (fw z) (some (.int 1), (fw z)) := by
  refine ru_of (k := 0) (M := pm_13) rfl rfl ?_
  exact go_end 8 (fun _ _ => rfl)
def wd_1322 (z : pq_C) (a2 : Int32) : pq_W := ((fw z).set 3 (.inl (.int, 64, .inl (upd (fl_c 64 (-1) (fun _ => 0)) 53 a2))))
theorem ro_1618 (z : pq_C) (a2 : Int32) (h0 : -1 ≤ a2.toInt) (h1 : a2.toInt < 8) : pq_Ru 2 12 [.ref 1, .int 53, .int a2] (fw z) (some (.int (-1)), (wd_1322 z a2)) := by
  refine ru_of (k := 1) (M := pm_12) rfl rfl ?_
  refine go_seg 1 (pc' := 1) (ls' := [(0, .ref 1), (1, .int 53), (2, .int a2)]) (st' := [.int 53]) (w' := (fw z)) (cs' := 0) (ss' := 0) ?_ (fun _ _ => rfl)
  refine go_cl (k := 1) (st' := [.int 1]) (cs' := 0) (ss' := 0) rfl rfl rfl rfl rfl rfl rfl (ro_1617 z) ?_
  refine go_seg 2 (pc' := 8) (ls' := [(0, .ref 1), (1, .int 53), (2, .int a2)]) (st' := [.int a2]) (w' := (fw z)) (cs' := 0) (ss' := 0) ?_ (fun _ _ => rfl)
  refine go_cl (k := 1) (st' := [.int 1]) (cs' := 0) (ss' := 0) rfl rfl rfl rfl rfl rfl rfl (ro_1193 z a2 (by omega) (by omega)) ?_
  refine go_seg 8 (pc' := 31) (ls' := [(3, .int (-1)), (0, .ref 1), (1, .int 53), (2, .int a2)]) (st' := [.ref 1]) (w' := (fw z)) (cs' := 0) (ss' := 0) ?_ (fun _ _ => rfl)
  exact go_end 7 (fun _ _ => rfl)
theorem ro_1620 (z : pq_C) (a2 : Int32) (h0 : -1 ≤ a2.toInt) (h1 : a2.toInt < 8) : pq_Ru 1 161 [.long 53, .long 0, .long 63] (wd_1322 z a2) (some (.int 1), (wd_1322 z a2)) := by
  refine ru_of (k := 0) (M := pm_161) rfl rfl ?_
  refine go_seg 8 (pc' := 13) (ls' := [(0, .long 53), (2, .long 0), (4, .long 63)]) (st' := []) (w' := (wd_1322 z a2)) (cs' := 0) (ss' := 0) ?_ (fun _ _ => rfl)
  exact go_end 3 (fun _ _ => rfl)
theorem ro_1621 (z : pq_C) (a2 : Int32) (h0 : -1 ≤ a2.toInt) (h1 : a2.toInt < 8) : pq_Ru 2 160 [.int 53] (wd_1322 z a2) (some (.int 1), (wd_1322 z a2)) := by
  refine ru_of (k := 1) (M := pm_160) rfl rfl ?_
  refine go_seg 4 (pc' := 6) (ls' := [(0, .int 53)]) (st' := [.long 63, .long 0, .long 53]) (w' := (wd_1322 z a2)) (cs' := 0) (ss' := 0) ?_ (fun _ _ => rfl)
  refine go_cl (k := 1) (st' := [.int 1]) (cs' := 0) (ss' := 0) rfl rfl rfl rfl rfl rfl rfl (ro_1620 z a2 (by omega) (by omega)) ?_
  exact go_end 1 (fun _ _ => rfl)
def wd_1323 (z : pq_C) (a2 : Int32) : pq_W := ((wd_1322 z a2).set 91 (.inl (.int, 2858, .inl (upd (upd (upd (upd (upd (upd (upd (upd (upd (upd (upd (upd (upd (upd (upd (upd (upd (upd (upd (upd (upd (upd (upd (upd (upd (upd (upd (upd (upd (upd (upd (upd (upd (upd (upd (upd (upd (upd (upd (upd (upd (upd (upd (upd (upd (upd (upd (upd (upd (upd (upd (upd (upd (upd (upd (upd (upd (upd (upd (upd (upd (upd (upd (upd (upd (upd (upd (upd (upd (upd (upd (upd (upd (upd (upd (upd (upd (upd (upd (upd (upd (upd (fun _ => 0) 1 10) 10 (-1)) 11 (-1)) 12 (-1)) 13 (-1)) 14 (-1)) 15 (-1)) 16 (-1)) 17 (-1)) 18 (-1)) 19 (-1)) 20 (-1)) 21 (-1)) 22 (-1)) 23 (-1)) 24 (-1)) 25 (-1)) 26 (-1)) 27 (-1)) 28 (-1)) 29 (-1)) 30 (-1)) 31 (-1)) 32 (-1)) 33 (-1)) 34 (-1)) 35 (-1)) 36 (-1)) 37 (-1)) 38 (-1)) 39 (-1)) 40 (-1)) 41 (-1)) 42 (-1)) 43 (-1)) 44 (-1)) 45 (-1)) 46 (-1)) 47 (-1)) 48 (-1)) 49 (-1)) 50 (-1)) 51 (-1)) 52 (-1)) 53 (-1)) 54 (-1)) 55 (-1)) 56 (-1)) 57 (-1)) 58 (-1)) 59 (-1)) 60 (-1)) 61 (-1)) 62 (-1)) 63 (-1)) 64 (-1)) 65 (-1)) 66 (-1)) 67 (-1)) 68 (-1)) 69 (-1)) 70 (-1)) 71 (-1)) 72 (-1)) 73 (-1)) 139 1000) 140 100) 145 1000) 146 100) 151 1000) 152 100) 157 1000) 158 100) 163 1000) 164 100) 169 1000) 170 100) 175 1000) 176 100) 181 1000) 182 100) 63 a2))))
theorem ro_1623 (z : pq_C) (a2 : Int32) (h0 : -1 ≤ a2.toInt) (h1 : a2.toInt < 8) : pq_Ru 3 159 [.ref 90, .int 53, .int a2] (wd_1322 z a2) (some (.int (-1)), (wd_1323 z a2)) := by
  refine ru_of (k := 2) (M := pm_159) rfl rfl ?_
  refine go_seg 1 (pc' := 1) (ls' := [(0, .ref 90), (1, .int 53), (2, .int a2)]) (st' := [.int 53]) (w' := (wd_1322 z a2)) (cs' := 0) (ss' := 0) ?_ (fun _ _ => rfl)
  refine go_cl (k := 2) (st' := [.int 1]) (cs' := 0) (ss' := 0) rfl rfl rfl rfl rfl rfl rfl (ro_1621 z a2 (by omega) (by omega)) ?_
  refine go_seg 5 (pc' := 15) (ls' := [(0, .ref 90), (1, .int 53), (2, .int a2)]) (st' := [.long 7, .long (-1), .long a2.toInt64]) (w' := (wd_1322 z a2)) (cs' := 0) (ss' := 0) ?_ (fun _ _ => rfl)
  refine go_cl (k := 2) (st' := [.int 1]) (cs' := 0) (ss' := 0) rfl rfl rfl rfl rfl rfl rfl (wi_t _ a2 (-1) 7 (-1) 7 rfl rfl (by omega)) ?_
  refine go_seg 8 (pc' := 38) (ls' := [(3, .int (-1)), (0, .ref 90), (1, .int 53), (2, .int a2)]) (st' := []) (w' := (wd_1322 z a2)) (cs' := 0) (ss' := 0) ?_ (fun _ _ => rfl)
  refine go_seg 8 (pc' := 49) (ls' := [(3, .int (-1)), (0, .ref 90), (1, .int 53), (2, .int a2)]) (st' := [.int (-1)]) (w' := (wd_1323 z a2)) (cs' := 0) (ss' := 0) ?_ (fun _ _ => rfl)
  exact go_end 1 (fun _ _ => rfl)
theorem lf_0_1624 (a0 : Int32) (a2 : Int32) (a3 : Int32) (a4 : Int32) (a5 : Int32) (h0 : -1 ≤ a2.toInt) (h1 : a2.toInt < 8) : ∃ w', pq_Go 20 pm_law 212 [(3, .int 0), (2, .ref 90), (1, .ref 1), (0, .ref 0)] [] (fw (sz a0 53 a2 a3 a4 a5)) 109 12668 (some (.int 1), w') := by
  refine ⟨(wd_1323 (sz a0 53 a2 a3 a4 a5) a2), ?_⟩
  refine go_seg 8 (pc' := 220) (ls' := [(3, .int 0), (2, .ref 90), (1, .ref 1), (0, .ref 0)]) (st' := [.int 0, .ref 0, .int 53, .ref 1]) (w' := (fw (sz a0 53 a2 a3 a4 a5))) (cs' := 109) (ss' := 12668) ?_ (fun _ _ => rfl)
  refine go_seg 3 (pc' := 223) (ls' := [(3, .int 0), (2, .ref 90), (1, .ref 1), (0, .ref 0)]) (st' := [.int a2, .int 53, .ref 1]) (w' := (fw (sz a0 53 a2 a3 a4 a5))) (cs' := 109) (ss' := 12668) ?_ (fun _ _ => rfl)
  refine go_cl (k := 20) (st' := [.int (-1)]) (cs' := 109) (ss' := 12668) rfl rfl rfl rfl rfl rfl rfl (ro_1618 (sz a0 53 a2 a3 a4 a5) a2 (by omega) (by omega)) ?_
  refine go_seg 8 (pc' := 234) (ls' := [(3, .int 0), (2, .ref 90), (1, .ref 1), (0, .ref 0)]) (st' := [.int 0, .ref 0, .int 53, .ref 90, .int (-1)]) (w' := (wd_1322 (sz a0 53 a2 a3 a4 a5) a2)) (cs' := 109) (ss' := 12668) ?_ (fun _ _ => rfl)
  refine go_seg 3 (pc' := 237) (ls' := [(3, .int 0), (2, .ref 90), (1, .ref 1), (0, .ref 0)]) (st' := [.int a2, .int 53, .ref 90, .int (-1)]) (w' := (wd_1322 (sz a0 53 a2 a3 a4 a5) a2)) (cs' := 109) (ss' := 12668) ?_ (fun _ _ => rfl)
  refine go_cl (k := 20) (st' := [.int (-1), .int (-1)]) (cs' := 109) (ss' := 12668) rfl rfl rfl rfl rfl rfl rfl (ro_1623 (sz a0 53 a2 a3 a4 a5) a2 (by omega) (by omega)) ?_
  refine go_cmp true rfl (br_self _) ?_
  exact law_tail (f := sc a0 53 a2 a3 a4 a5) rfl
theorem ro_1625 (z : pq_C) : pq_Ru 1 13 [.int 54] (fw z) (some (.int 1), (fw z)) := by
  refine ru_of (k := 0) (M := pm_13) rfl rfl ?_
  exact go_end 8 (fun _ _ => rfl)
def wd_1324 (z : pq_C) (a2 : Int32) : pq_W := ((fw z).set 3 (.inl (.int, 64, .inl (upd (fl_c 64 (-1) (fun _ => 0)) 54 a2))))
theorem ro_1626 (z : pq_C) (a2 : Int32) (h0 : -1 ≤ a2.toInt) (h1 : a2.toInt < 8) : pq_Ru 2 12 [.ref 1, .int 54, .int a2] (fw z) (some (.int (-1)), (wd_1324 z a2)) := by
  refine ru_of (k := 1) (M := pm_12) rfl rfl ?_
  refine go_seg 1 (pc' := 1) (ls' := [(0, .ref 1), (1, .int 54), (2, .int a2)]) (st' := [.int 54]) (w' := (fw z)) (cs' := 0) (ss' := 0) ?_ (fun _ _ => rfl)
  refine go_cl (k := 1) (st' := [.int 1]) (cs' := 0) (ss' := 0) rfl rfl rfl rfl rfl rfl rfl (ro_1625 z) ?_
  refine go_seg 2 (pc' := 8) (ls' := [(0, .ref 1), (1, .int 54), (2, .int a2)]) (st' := [.int a2]) (w' := (fw z)) (cs' := 0) (ss' := 0) ?_ (fun _ _ => rfl)
  refine go_cl (k := 1) (st' := [.int 1]) (cs' := 0) (ss' := 0) rfl rfl rfl rfl rfl rfl rfl (ro_1193 z a2 (by omega) (by omega)) ?_
  refine go_seg 8 (pc' := 31) (ls' := [(3, .int (-1)), (0, .ref 1), (1, .int 54), (2, .int a2)]) (st' := [.ref 1]) (w' := (fw z)) (cs' := 0) (ss' := 0) ?_ (fun _ _ => rfl)
  exact go_end 7 (fun _ _ => rfl)
theorem ro_1628 (z : pq_C) (a2 : Int32) (h0 : -1 ≤ a2.toInt) (h1 : a2.toInt < 8) : pq_Ru 1 161 [.long 54, .long 0, .long 63] (wd_1324 z a2) (some (.int 1), (wd_1324 z a2)) := by
  refine ru_of (k := 0) (M := pm_161) rfl rfl ?_
  refine go_seg 8 (pc' := 13) (ls' := [(0, .long 54), (2, .long 0), (4, .long 63)]) (st' := []) (w' := (wd_1324 z a2)) (cs' := 0) (ss' := 0) ?_ (fun _ _ => rfl)
  exact go_end 3 (fun _ _ => rfl)
theorem ro_1629 (z : pq_C) (a2 : Int32) (h0 : -1 ≤ a2.toInt) (h1 : a2.toInt < 8) : pq_Ru 2 160 [.int 54] (wd_1324 z a2) (some (.int 1), (wd_1324 z a2)) := by
  refine ru_of (k := 1) (M := pm_160) rfl rfl ?_
  refine go_seg 4 (pc' := 6) (ls' := [(0, .int 54)]) (st' := [.long 63, .long 0, .long 54]) (w' := (wd_1324 z a2)) (cs' := 0) (ss' := 0) ?_ (fun _ _ => rfl)
  refine go_cl (k := 1) (st' := [.int 1]) (cs' := 0) (ss' := 0) rfl rfl rfl rfl rfl rfl rfl (ro_1628 z a2 (by omega) (by omega)) ?_
  exact go_end 1 (fun _ _ => rfl)
def wd_1325 (z : pq_C) (a2 : Int32) : pq_W := ((wd_1324 z a2).set 91 (.inl (.int, 2858, .inl (upd (upd (upd (upd (upd (upd (upd (upd (upd (upd (upd (upd (upd (upd (upd (upd (upd (upd (upd (upd (upd (upd (upd (upd (upd (upd (upd (upd (upd (upd (upd (upd (upd (upd (upd (upd (upd (upd (upd (upd (upd (upd (upd (upd (upd (upd (upd (upd (upd (upd (upd (upd (upd (upd (upd (upd (upd (upd (upd (upd (upd (upd (upd (upd (upd (upd (upd (upd (upd (upd (upd (upd (upd (upd (upd (upd (upd (upd (upd (upd (upd (upd (fun _ => 0) 1 10) 10 (-1)) 11 (-1)) 12 (-1)) 13 (-1)) 14 (-1)) 15 (-1)) 16 (-1)) 17 (-1)) 18 (-1)) 19 (-1)) 20 (-1)) 21 (-1)) 22 (-1)) 23 (-1)) 24 (-1)) 25 (-1)) 26 (-1)) 27 (-1)) 28 (-1)) 29 (-1)) 30 (-1)) 31 (-1)) 32 (-1)) 33 (-1)) 34 (-1)) 35 (-1)) 36 (-1)) 37 (-1)) 38 (-1)) 39 (-1)) 40 (-1)) 41 (-1)) 42 (-1)) 43 (-1)) 44 (-1)) 45 (-1)) 46 (-1)) 47 (-1)) 48 (-1)) 49 (-1)) 50 (-1)) 51 (-1)) 52 (-1)) 53 (-1)) 54 (-1)) 55 (-1)) 56 (-1)) 57 (-1)) 58 (-1)) 59 (-1)) 60 (-1)) 61 (-1)) 62 (-1)) 63 (-1)) 64 (-1)) 65 (-1)) 66 (-1)) 67 (-1)) 68 (-1)) 69 (-1)) 70 (-1)) 71 (-1)) 72 (-1)) 73 (-1)) 139 1000) 140 100) 145 1000) 146 100) 151 1000) 152 100) 157 1000) 158 100) 163 1000) 164 100) 169 1000) 170 100) 175 1000) 176 100) 181 1000) 182 100) 64 a2))))
theorem ro_1631 (z : pq_C) (a2 : Int32) (h0 : -1 ≤ a2.toInt) (h1 : a2.toInt < 8) : pq_Ru 3 159 [.ref 90, .int 54, .int a2] (wd_1324 z a2) (some (.int (-1)), (wd_1325 z a2)) := by
  refine ru_of (k := 2) (M := pm_159) rfl rfl ?_
  refine go_seg 1 (pc' := 1) (ls' := [(0, .ref 90), (1, .int 54), (2, .int a2)]) (st' := [.int 54]) (w' := (wd_1324 z a2)) (cs' := 0) (ss' := 0) ?_ (fun _ _ => rfl)
  refine go_cl (k := 2) (st' := [.int 1]) (cs' := 0) (ss' := 0) rfl rfl rfl rfl rfl rfl rfl (ro_1629 z a2 (by omega) (by omega)) ?_
  refine go_seg 5 (pc' := 15) (ls' := [(0, .ref 90), (1, .int 54), (2, .int a2)]) (st' := [.long 7, .long (-1), .long a2.toInt64]) (w' := (wd_1324 z a2)) (cs' := 0) (ss' := 0) ?_ (fun _ _ => rfl)
  refine go_cl (k := 2) (st' := [.int 1]) (cs' := 0) (ss' := 0) rfl rfl rfl rfl rfl rfl rfl (wi_t _ a2 (-1) 7 (-1) 7 rfl rfl (by omega)) ?_
  refine go_seg 8 (pc' := 38) (ls' := [(3, .int (-1)), (0, .ref 90), (1, .int 54), (2, .int a2)]) (st' := []) (w' := (wd_1324 z a2)) (cs' := 0) (ss' := 0) ?_ (fun _ _ => rfl)
  refine go_seg 8 (pc' := 49) (ls' := [(3, .int (-1)), (0, .ref 90), (1, .int 54), (2, .int a2)]) (st' := [.int (-1)]) (w' := (wd_1325 z a2)) (cs' := 0) (ss' := 0) ?_ (fun _ _ => rfl)
  exact go_end 1 (fun _ _ => rfl)
theorem lf_0_1632 (a0 : Int32) (a2 : Int32) (a3 : Int32) (a4 : Int32) (a5 : Int32) (h0 : -1 ≤ a2.toInt) (h1 : a2.toInt < 8) : ∃ w', pq_Go 20 pm_law 212 [(3, .int 0), (2, .ref 90), (1, .ref 1), (0, .ref 0)] [] (fw (sz a0 54 a2 a3 a4 a5)) 109 12668 (some (.int 1), w') := by
  refine ⟨(wd_1325 (sz a0 54 a2 a3 a4 a5) a2), ?_⟩
  refine go_seg 8 (pc' := 220) (ls' := [(3, .int 0), (2, .ref 90), (1, .ref 1), (0, .ref 0)]) (st' := [.int 0, .ref 0, .int 54, .ref 1]) (w' := (fw (sz a0 54 a2 a3 a4 a5))) (cs' := 109) (ss' := 12668) ?_ (fun _ _ => rfl)
  refine go_seg 3 (pc' := 223) (ls' := [(3, .int 0), (2, .ref 90), (1, .ref 1), (0, .ref 0)]) (st' := [.int a2, .int 54, .ref 1]) (w' := (fw (sz a0 54 a2 a3 a4 a5))) (cs' := 109) (ss' := 12668) ?_ (fun _ _ => rfl)
  refine go_cl (k := 20) (st' := [.int (-1)]) (cs' := 109) (ss' := 12668) rfl rfl rfl rfl rfl rfl rfl (ro_1626 (sz a0 54 a2 a3 a4 a5) a2 (by omega) (by omega)) ?_
  refine go_seg 8 (pc' := 234) (ls' := [(3, .int 0), (2, .ref 90), (1, .ref 1), (0, .ref 0)]) (st' := [.int 0, .ref 0, .int 54, .ref 90, .int (-1)]) (w' := (wd_1324 (sz a0 54 a2 a3 a4 a5) a2)) (cs' := 109) (ss' := 12668) ?_ (fun _ _ => rfl)
  refine go_seg 3 (pc' := 237) (ls' := [(3, .int 0), (2, .ref 90), (1, .ref 1), (0, .ref 0)]) (st' := [.int a2, .int 54, .ref 90, .int (-1)]) (w' := (wd_1324 (sz a0 54 a2 a3 a4 a5) a2)) (cs' := 109) (ss' := 12668) ?_ (fun _ _ => rfl)
  refine go_cl (k := 20) (st' := [.int (-1), .int (-1)]) (cs' := 109) (ss' := 12668) rfl rfl rfl rfl rfl rfl rfl (ro_1631 (sz a0 54 a2 a3 a4 a5) a2 (by omega) (by omega)) ?_
  refine go_cmp true rfl (br_self _) ?_
  exact law_tail (f := sc a0 54 a2 a3 a4 a5) rfl
theorem ro_1633 (z : pq_C) : pq_Ru 1 13 [.int 55] (fw z) (some (.int 1), (fw z)) := by
  refine ru_of (k := 0) (M := pm_13) rfl rfl ?_
  exact go_end 8 (fun _ _ => rfl)
def wd_1326 (z : pq_C) (a2 : Int32) : pq_W := ((fw z).set 3 (.inl (.int, 64, .inl (upd (fl_c 64 (-1) (fun _ => 0)) 55 a2))))
theorem ro_1634 (z : pq_C) (a2 : Int32) (h0 : -1 ≤ a2.toInt) (h1 : a2.toInt < 8) : pq_Ru 2 12 [.ref 1, .int 55, .int a2] (fw z) (some (.int (-1)), (wd_1326 z a2)) := by
  refine ru_of (k := 1) (M := pm_12) rfl rfl ?_
  refine go_seg 1 (pc' := 1) (ls' := [(0, .ref 1), (1, .int 55), (2, .int a2)]) (st' := [.int 55]) (w' := (fw z)) (cs' := 0) (ss' := 0) ?_ (fun _ _ => rfl)
  refine go_cl (k := 1) (st' := [.int 1]) (cs' := 0) (ss' := 0) rfl rfl rfl rfl rfl rfl rfl (ro_1633 z) ?_
  refine go_seg 2 (pc' := 8) (ls' := [(0, .ref 1), (1, .int 55), (2, .int a2)]) (st' := [.int a2]) (w' := (fw z)) (cs' := 0) (ss' := 0) ?_ (fun _ _ => rfl)
  refine go_cl (k := 1) (st' := [.int 1]) (cs' := 0) (ss' := 0) rfl rfl rfl rfl rfl rfl rfl (ro_1193 z a2 (by omega) (by omega)) ?_
  refine go_seg 8 (pc' := 31) (ls' := [(3, .int (-1)), (0, .ref 1), (1, .int 55), (2, .int a2)]) (st' := [.ref 1]) (w' := (fw z)) (cs' := 0) (ss' := 0) ?_ (fun _ _ => rfl)
  exact go_end 7 (fun _ _ => rfl)
theorem ro_1636 (z : pq_C) (a2 : Int32) (h0 : -1 ≤ a2.toInt) (h1 : a2.toInt < 8) : pq_Ru 1 161 [.long 55, .long 0, .long 63] (wd_1326 z a2) (some (.int 1), (wd_1326 z a2)) := by
  refine ru_of (k := 0) (M := pm_161) rfl rfl ?_
  refine go_seg 8 (pc' := 13) (ls' := [(0, .long 55), (2, .long 0), (4, .long 63)]) (st' := []) (w' := (wd_1326 z a2)) (cs' := 0) (ss' := 0) ?_ (fun _ _ => rfl)
  exact go_end 3 (fun _ _ => rfl)
theorem ro_1637 (z : pq_C) (a2 : Int32) (h0 : -1 ≤ a2.toInt) (h1 : a2.toInt < 8) : pq_Ru 2 160 [.int 55] (wd_1326 z a2) (some (.int 1), (wd_1326 z a2)) := by
  refine ru_of (k := 1) (M := pm_160) rfl rfl ?_
  refine go_seg 4 (pc' := 6) (ls' := [(0, .int 55)]) (st' := [.long 63, .long 0, .long 55]) (w' := (wd_1326 z a2)) (cs' := 0) (ss' := 0) ?_ (fun _ _ => rfl)
  refine go_cl (k := 1) (st' := [.int 1]) (cs' := 0) (ss' := 0) rfl rfl rfl rfl rfl rfl rfl (ro_1636 z a2 (by omega) (by omega)) ?_
  exact go_end 1 (fun _ _ => rfl)
def wd_1327 (z : pq_C) (a2 : Int32) : pq_W := ((wd_1326 z a2).set 91 (.inl (.int, 2858, .inl (upd (upd (upd (upd (upd (upd (upd (upd (upd (upd (upd (upd (upd (upd (upd (upd (upd (upd (upd (upd (upd (upd (upd (upd (upd (upd (upd (upd (upd (upd (upd (upd (upd (upd (upd (upd (upd (upd (upd (upd (upd (upd (upd (upd (upd (upd (upd (upd (upd (upd (upd (upd (upd (upd (upd (upd (upd (upd (upd (upd (upd (upd (upd (upd (upd (upd (upd (upd (upd (upd (upd (upd (upd (upd (upd (upd (upd (upd (upd (upd (upd (upd (fun _ => 0) 1 10) 10 (-1)) 11 (-1)) 12 (-1)) 13 (-1)) 14 (-1)) 15 (-1)) 16 (-1)) 17 (-1)) 18 (-1)) 19 (-1)) 20 (-1)) 21 (-1)) 22 (-1)) 23 (-1)) 24 (-1)) 25 (-1)) 26 (-1)) 27 (-1)) 28 (-1)) 29 (-1)) 30 (-1)) 31 (-1)) 32 (-1)) 33 (-1)) 34 (-1)) 35 (-1)) 36 (-1)) 37 (-1)) 38 (-1)) 39 (-1)) 40 (-1)) 41 (-1)) 42 (-1)) 43 (-1)) 44 (-1)) 45 (-1)) 46 (-1)) 47 (-1)) 48 (-1)) 49 (-1)) 50 (-1)) 51 (-1)) 52 (-1)) 53 (-1)) 54 (-1)) 55 (-1)) 56 (-1)) 57 (-1)) 58 (-1)) 59 (-1)) 60 (-1)) 61 (-1)) 62 (-1)) 63 (-1)) 64 (-1)) 65 (-1)) 66 (-1)) 67 (-1)) 68 (-1)) 69 (-1)) 70 (-1)) 71 (-1)) 72 (-1)) 73 (-1)) 139 1000) 140 100) 145 1000) 146 100) 151 1000) 152 100) 157 1000) 158 100) 163 1000) 164 100) 169 1000) 170 100) 175 1000) 176 100) 181 1000) 182 100) 65 a2))))
theorem ro_1639 (z : pq_C) (a2 : Int32) (h0 : -1 ≤ a2.toInt) (h1 : a2.toInt < 8) : pq_Ru 3 159 [.ref 90, .int 55, .int a2] (wd_1326 z a2) (some (.int (-1)), (wd_1327 z a2)) := by
  refine ru_of (k := 2) (M := pm_159) rfl rfl ?_
  refine go_seg 1 (pc' := 1) (ls' := [(0, .ref 90), (1, .int 55), (2, .int a2)]) (st' := [.int 55]) (w' := (wd_1326 z a2)) (cs' := 0) (ss' := 0) ?_ (fun _ _ => rfl)
  refine go_cl (k := 2) (st' := [.int 1]) (cs' := 0) (ss' := 0) rfl rfl rfl rfl rfl rfl rfl (ro_1637 z a2 (by omega) (by omega)) ?_
  refine go_seg 5 (pc' := 15) (ls' := [(0, .ref 90), (1, .int 55), (2, .int a2)]) (st' := [.long 7, .long (-1), .long a2.toInt64]) (w' := (wd_1326 z a2)) (cs' := 0) (ss' := 0) ?_ (fun _ _ => rfl)
  refine go_cl (k := 2) (st' := [.int 1]) (cs' := 0) (ss' := 0) rfl rfl rfl rfl rfl rfl rfl (wi_t _ a2 (-1) 7 (-1) 7 rfl rfl (by omega)) ?_
  refine go_seg 8 (pc' := 38) (ls' := [(3, .int (-1)), (0, .ref 90), (1, .int 55), (2, .int a2)]) (st' := []) (w' := (wd_1326 z a2)) (cs' := 0) (ss' := 0) ?_ (fun _ _ => rfl)
  refine go_seg 8 (pc' := 49) (ls' := [(3, .int (-1)), (0, .ref 90), (1, .int 55), (2, .int a2)]) (st' := [.int (-1)]) (w' := (wd_1327 z a2)) (cs' := 0) (ss' := 0) ?_ (fun _ _ => rfl)
  exact go_end 1 (fun _ _ => rfl)
theorem lf_0_1640 (a0 : Int32) (a2 : Int32) (a3 : Int32) (a4 : Int32) (a5 : Int32) (h0 : -1 ≤ a2.toInt) (h1 : a2.toInt < 8) : ∃ w', pq_Go 20 pm_law 212 [(3, .int 0), (2, .ref 90), (1, .ref 1), (0, .ref 0)] [] (fw (sz a0 55 a2 a3 a4 a5)) 109 12668 (some (.int 1), w') := by
  refine ⟨(wd_1327 (sz a0 55 a2 a3 a4 a5) a2), ?_⟩
  refine go_seg 8 (pc' := 220) (ls' := [(3, .int 0), (2, .ref 90), (1, .ref 1), (0, .ref 0)]) (st' := [.int 0, .ref 0, .int 55, .ref 1]) (w' := (fw (sz a0 55 a2 a3 a4 a5))) (cs' := 109) (ss' := 12668) ?_ (fun _ _ => rfl)
  refine go_seg 3 (pc' := 223) (ls' := [(3, .int 0), (2, .ref 90), (1, .ref 1), (0, .ref 0)]) (st' := [.int a2, .int 55, .ref 1]) (w' := (fw (sz a0 55 a2 a3 a4 a5))) (cs' := 109) (ss' := 12668) ?_ (fun _ _ => rfl)
  refine go_cl (k := 20) (st' := [.int (-1)]) (cs' := 109) (ss' := 12668) rfl rfl rfl rfl rfl rfl rfl (ro_1634 (sz a0 55 a2 a3 a4 a5) a2 (by omega) (by omega)) ?_
  refine go_seg 8 (pc' := 234) (ls' := [(3, .int 0), (2, .ref 90), (1, .ref 1), (0, .ref 0)]) (st' := [.int 0, .ref 0, .int 55, .ref 90, .int (-1)]) (w' := (wd_1326 (sz a0 55 a2 a3 a4 a5) a2)) (cs' := 109) (ss' := 12668) ?_ (fun _ _ => rfl)
  refine go_seg 3 (pc' := 237) (ls' := [(3, .int 0), (2, .ref 90), (1, .ref 1), (0, .ref 0)]) (st' := [.int a2, .int 55, .ref 90, .int (-1)]) (w' := (wd_1326 (sz a0 55 a2 a3 a4 a5) a2)) (cs' := 109) (ss' := 12668) ?_ (fun _ _ => rfl)
  refine go_cl (k := 20) (st' := [.int (-1), .int (-1)]) (cs' := 109) (ss' := 12668) rfl rfl rfl rfl rfl rfl rfl (ro_1639 (sz a0 55 a2 a3 a4 a5) a2 (by omega) (by omega)) ?_
  refine go_cmp true rfl (br_self _) ?_
  exact law_tail (f := sc a0 55 a2 a3 a4 a5) rfl
theorem ro_1641 (z : pq_C) : pq_Ru 1 13 [.int 56] (fw z) (some (.int 1), (fw z)) := by
  refine ru_of (k := 0) (M := pm_13) rfl rfl ?_
  exact go_end 8 (fun _ _ => rfl)
def wd_1328 (z : pq_C) (a2 : Int32) : pq_W := ((fw z).set 3 (.inl (.int, 64, .inl (upd (fl_c 64 (-1) (fun _ => 0)) 56 a2))))
theorem ro_1642 (z : pq_C) (a2 : Int32) (h0 : -1 ≤ a2.toInt) (h1 : a2.toInt < 8) : pq_Ru 2 12 [.ref 1, .int 56, .int a2] (fw z) (some (.int (-1)), (wd_1328 z a2)) := by
  refine ru_of (k := 1) (M := pm_12) rfl rfl ?_
  refine go_seg 1 (pc' := 1) (ls' := [(0, .ref 1), (1, .int 56), (2, .int a2)]) (st' := [.int 56]) (w' := (fw z)) (cs' := 0) (ss' := 0) ?_ (fun _ _ => rfl)
  refine go_cl (k := 1) (st' := [.int 1]) (cs' := 0) (ss' := 0) rfl rfl rfl rfl rfl rfl rfl (ro_1641 z) ?_
  refine go_seg 2 (pc' := 8) (ls' := [(0, .ref 1), (1, .int 56), (2, .int a2)]) (st' := [.int a2]) (w' := (fw z)) (cs' := 0) (ss' := 0) ?_ (fun _ _ => rfl)
  refine go_cl (k := 1) (st' := [.int 1]) (cs' := 0) (ss' := 0) rfl rfl rfl rfl rfl rfl rfl (ro_1193 z a2 (by omega) (by omega)) ?_
  refine go_seg 8 (pc' := 31) (ls' := [(3, .int (-1)), (0, .ref 1), (1, .int 56), (2, .int a2)]) (st' := [.ref 1]) (w' := (fw z)) (cs' := 0) (ss' := 0) ?_ (fun _ _ => rfl)
  exact go_end 7 (fun _ _ => rfl)
theorem ro_1644 (z : pq_C) (a2 : Int32) (h0 : -1 ≤ a2.toInt) (h1 : a2.toInt < 8) : pq_Ru 1 161 [.long 56, .long 0, .long 63] (wd_1328 z a2) (some (.int 1), (wd_1328 z a2)) := by
  refine ru_of (k := 0) (M := pm_161) rfl rfl ?_
  refine go_seg 8 (pc' := 13) (ls' := [(0, .long 56), (2, .long 0), (4, .long 63)]) (st' := []) (w' := (wd_1328 z a2)) (cs' := 0) (ss' := 0) ?_ (fun _ _ => rfl)
  exact go_end 3 (fun _ _ => rfl)
theorem ro_1645 (z : pq_C) (a2 : Int32) (h0 : -1 ≤ a2.toInt) (h1 : a2.toInt < 8) : pq_Ru 2 160 [.int 56] (wd_1328 z a2) (some (.int 1), (wd_1328 z a2)) := by
  refine ru_of (k := 1) (M := pm_160) rfl rfl ?_
  refine go_seg 4 (pc' := 6) (ls' := [(0, .int 56)]) (st' := [.long 63, .long 0, .long 56]) (w' := (wd_1328 z a2)) (cs' := 0) (ss' := 0) ?_ (fun _ _ => rfl)
  refine go_cl (k := 1) (st' := [.int 1]) (cs' := 0) (ss' := 0) rfl rfl rfl rfl rfl rfl rfl (ro_1644 z a2 (by omega) (by omega)) ?_
  exact go_end 1 (fun _ _ => rfl)
def wd_1329 (z : pq_C) (a2 : Int32) : pq_W := ((wd_1328 z a2).set 91 (.inl (.int, 2858, .inl (upd (upd (upd (upd (upd (upd (upd (upd (upd (upd (upd (upd (upd (upd (upd (upd (upd (upd (upd (upd (upd (upd (upd (upd (upd (upd (upd (upd (upd (upd (upd (upd (upd (upd (upd (upd (upd (upd (upd (upd (upd (upd (upd (upd (upd (upd (upd (upd (upd (upd (upd (upd (upd (upd (upd (upd (upd (upd (upd (upd (upd (upd (upd (upd (upd (upd (upd (upd (upd (upd (upd (upd (upd (upd (upd (upd (upd (upd (upd (upd (upd (upd (fun _ => 0) 1 10) 10 (-1)) 11 (-1)) 12 (-1)) 13 (-1)) 14 (-1)) 15 (-1)) 16 (-1)) 17 (-1)) 18 (-1)) 19 (-1)) 20 (-1)) 21 (-1)) 22 (-1)) 23 (-1)) 24 (-1)) 25 (-1)) 26 (-1)) 27 (-1)) 28 (-1)) 29 (-1)) 30 (-1)) 31 (-1)) 32 (-1)) 33 (-1)) 34 (-1)) 35 (-1)) 36 (-1)) 37 (-1)) 38 (-1)) 39 (-1)) 40 (-1)) 41 (-1)) 42 (-1)) 43 (-1)) 44 (-1)) 45 (-1)) 46 (-1)) 47 (-1)) 48 (-1)) 49 (-1)) 50 (-1)) 51 (-1)) 52 (-1)) 53 (-1)) 54 (-1)) 55 (-1)) 56 (-1)) 57 (-1)) 58 (-1)) 59 (-1)) 60 (-1)) 61 (-1)) 62 (-1)) 63 (-1)) 64 (-1)) 65 (-1)) 66 (-1)) 67 (-1)) 68 (-1)) 69 (-1)) 70 (-1)) 71 (-1)) 72 (-1)) 73 (-1)) 139 1000) 140 100) 145 1000) 146 100) 151 1000) 152 100) 157 1000) 158 100) 163 1000) 164 100) 169 1000) 170 100) 175 1000) 176 100) 181 1000) 182 100) 66 a2))))
theorem ro_1647 (z : pq_C) (a2 : Int32) (h0 : -1 ≤ a2.toInt) (h1 : a2.toInt < 8) : pq_Ru 3 159 [.ref 90, .int 56, .int a2] (wd_1328 z a2) (some (.int (-1)), (wd_1329 z a2)) := by
  refine ru_of (k := 2) (M := pm_159) rfl rfl ?_
  refine go_seg 1 (pc' := 1) (ls' := [(0, .ref 90), (1, .int 56), (2, .int a2)]) (st' := [.int 56]) (w' := (wd_1328 z a2)) (cs' := 0) (ss' := 0) ?_ (fun _ _ => rfl)
  refine go_cl (k := 2) (st' := [.int 1]) (cs' := 0) (ss' := 0) rfl rfl rfl rfl rfl rfl rfl (ro_1645 z a2 (by omega) (by omega)) ?_
  refine go_seg 5 (pc' := 15) (ls' := [(0, .ref 90), (1, .int 56), (2, .int a2)]) (st' := [.long 7, .long (-1), .long a2.toInt64]) (w' := (wd_1328 z a2)) (cs' := 0) (ss' := 0) ?_ (fun _ _ => rfl)
  refine go_cl (k := 2) (st' := [.int 1]) (cs' := 0) (ss' := 0) rfl rfl rfl rfl rfl rfl rfl (wi_t _ a2 (-1) 7 (-1) 7 rfl rfl (by omega)) ?_
  refine go_seg 8 (pc' := 38) (ls' := [(3, .int (-1)), (0, .ref 90), (1, .int 56), (2, .int a2)]) (st' := []) (w' := (wd_1328 z a2)) (cs' := 0) (ss' := 0) ?_ (fun _ _ => rfl)
  refine go_seg 8 (pc' := 49) (ls' := [(3, .int (-1)), (0, .ref 90), (1, .int 56), (2, .int a2)]) (st' := [.int (-1)]) (w' := (wd_1329 z a2)) (cs' := 0) (ss' := 0) ?_ (fun _ _ => rfl)
  exact go_end 1 (fun _ _ => rfl)
theorem lf_0_1648 (a0 : Int32) (a2 : Int32) (a3 : Int32) (a4 : Int32) (a5 : Int32) (h0 : -1 ≤ a2.toInt) (h1 : a2.toInt < 8) : ∃ w', pq_Go 20 pm_law 212 [(3, .int 0), (2, .ref 90), (1, .ref 1), (0, .ref 0)] [] (fw (sz a0 56 a2 a3 a4 a5)) 109 12668 (some (.int 1), w') := by
  refine ⟨(wd_1329 (sz a0 56 a2 a3 a4 a5) a2), ?_⟩
  refine go_seg 8 (pc' := 220) (ls' := [(3, .int 0), (2, .ref 90), (1, .ref 1), (0, .ref 0)]) (st' := [.int 0, .ref 0, .int 56, .ref 1]) (w' := (fw (sz a0 56 a2 a3 a4 a5))) (cs' := 109) (ss' := 12668) ?_ (fun _ _ => rfl)
  refine go_seg 3 (pc' := 223) (ls' := [(3, .int 0), (2, .ref 90), (1, .ref 1), (0, .ref 0)]) (st' := [.int a2, .int 56, .ref 1]) (w' := (fw (sz a0 56 a2 a3 a4 a5))) (cs' := 109) (ss' := 12668) ?_ (fun _ _ => rfl)
  refine go_cl (k := 20) (st' := [.int (-1)]) (cs' := 109) (ss' := 12668) rfl rfl rfl rfl rfl rfl rfl (ro_1642 (sz a0 56 a2 a3 a4 a5) a2 (by omega) (by omega)) ?_
  refine go_seg 8 (pc' := 234) (ls' := [(3, .int 0), (2, .ref 90), (1, .ref 1), (0, .ref 0)]) (st' := [.int 0, .ref 0, .int 56, .ref 90, .int (-1)]) (w' := (wd_1328 (sz a0 56 a2 a3 a4 a5) a2)) (cs' := 109) (ss' := 12668) ?_ (fun _ _ => rfl)
  refine go_seg 3 (pc' := 237) (ls' := [(3, .int 0), (2, .ref 90), (1, .ref 1), (0, .ref 0)]) (st' := [.int a2, .int 56, .ref 90, .int (-1)]) (w' := (wd_1328 (sz a0 56 a2 a3 a4 a5) a2)) (cs' := 109) (ss' := 12668) ?_ (fun _ _ => rfl)
  refine go_cl (k := 20) (st' := [.int (-1), .int (-1)]) (cs' := 109) (ss' := 12668) rfl rfl rfl rfl rfl rfl rfl (ro_1647 (sz a0 56 a2 a3 a4 a5) a2 (by omega) (by omega)) ?_
  refine go_cmp true rfl (br_self _) ?_
  exact law_tail (f := sc a0 56 a2 a3 a4 a5) rfl
theorem ro_1649 (z : pq_C) : pq_Ru 1 13 [.int 57] (fw z) (some (.int 1), (fw z)) := by
  refine ru_of (k := 0) (M := pm_13) rfl rfl ?_
  exact go_end 8 (fun _ _ => rfl)
def wd_1330 (z : pq_C) (a2 : Int32) : pq_W := ((fw z).set 3 (.inl (.int, 64, .inl (upd (fl_c 64 (-1) (fun _ => 0)) 57 a2))))
theorem ro_1650 (z : pq_C) (a2 : Int32) (h0 : -1 ≤ a2.toInt) (h1 : a2.toInt < 8) : pq_Ru 2 12 [.ref 1, .int 57, .int a2] (fw z) (some (.int (-1)), (wd_1330 z a2)) := by
  refine ru_of (k := 1) (M := pm_12) rfl rfl ?_
  refine go_seg 1 (pc' := 1) (ls' := [(0, .ref 1), (1, .int 57), (2, .int a2)]) (st' := [.int 57]) (w' := (fw z)) (cs' := 0) (ss' := 0) ?_ (fun _ _ => rfl)
  refine go_cl (k := 1) (st' := [.int 1]) (cs' := 0) (ss' := 0) rfl rfl rfl rfl rfl rfl rfl (ro_1649 z) ?_
  refine go_seg 2 (pc' := 8) (ls' := [(0, .ref 1), (1, .int 57), (2, .int a2)]) (st' := [.int a2]) (w' := (fw z)) (cs' := 0) (ss' := 0) ?_ (fun _ _ => rfl)
  refine go_cl (k := 1) (st' := [.int 1]) (cs' := 0) (ss' := 0) rfl rfl rfl rfl rfl rfl rfl (ro_1193 z a2 (by omega) (by omega)) ?_
  refine go_seg 8 (pc' := 31) (ls' := [(3, .int (-1)), (0, .ref 1), (1, .int 57), (2, .int a2)]) (st' := [.ref 1]) (w' := (fw z)) (cs' := 0) (ss' := 0) ?_ (fun _ _ => rfl)
  exact go_end 7 (fun _ _ => rfl)
theorem ro_1652 (z : pq_C) (a2 : Int32) (h0 : -1 ≤ a2.toInt) (h1 : a2.toInt < 8) : pq_Ru 1 161 [.long 57, .long 0, .long 63] (wd_1330 z a2) (some (.int 1), (wd_1330 z a2)) := by
  refine ru_of (k := 0) (M := pm_161) rfl rfl ?_
  refine go_seg 8 (pc' := 13) (ls' := [(0, .long 57), (2, .long 0), (4, .long 63)]) (st' := []) (w' := (wd_1330 z a2)) (cs' := 0) (ss' := 0) ?_ (fun _ _ => rfl)
  exact go_end 3 (fun _ _ => rfl)
theorem ro_1653 (z : pq_C) (a2 : Int32) (h0 : -1 ≤ a2.toInt) (h1 : a2.toInt < 8) : pq_Ru 2 160 [.int 57] (wd_1330 z a2) (some (.int 1), (wd_1330 z a2)) := by
  refine ru_of (k := 1) (M := pm_160) rfl rfl ?_
  refine go_seg 4 (pc' := 6) (ls' := [(0, .int 57)]) (st' := [.long 63, .long 0, .long 57]) (w' := (wd_1330 z a2)) (cs' := 0) (ss' := 0) ?_ (fun _ _ => rfl)
  refine go_cl (k := 1) (st' := [.int 1]) (cs' := 0) (ss' := 0) rfl rfl rfl rfl rfl rfl rfl (ro_1652 z a2 (by omega) (by omega)) ?_
  exact go_end 1 (fun _ _ => rfl)
def wd_1331 (z : pq_C) (a2 : Int32) : pq_W := ((wd_1330 z a2).set 91 (.inl (.int, 2858, .inl (upd (upd (upd (upd (upd (upd (upd (upd (upd (upd (upd (upd (upd (upd (upd (upd (upd (upd (upd (upd (upd (upd (upd (upd (upd (upd (upd (upd (upd (upd (upd (upd (upd (upd (upd (upd (upd (upd (upd (upd (upd (upd (upd (upd (upd (upd (upd (upd (upd (upd (upd (upd (upd (upd (upd (upd (upd (upd (upd (upd (upd (upd (upd (upd (upd (upd (upd (upd (upd (upd (upd (upd (upd (upd (upd (upd (upd (upd (upd (upd (upd (upd (fun _ => 0) 1 10) 10 (-1)) 11 (-1)) 12 (-1)) 13 (-1)) 14 (-1)) 15 (-1)) 16 (-1)) 17 (-1)) 18 (-1)) 19 (-1)) 20 (-1)) 21 (-1)) 22 (-1)) 23 (-1)) 24 (-1)) 25 (-1)) 26 (-1)) 27 (-1)) 28 (-1)) 29 (-1)) 30 (-1)) 31 (-1)) 32 (-1)) 33 (-1)) 34 (-1)) 35 (-1)) 36 (-1)) 37 (-1)) 38 (-1)) 39 (-1)) 40 (-1)) 41 (-1)) 42 (-1)) 43 (-1)) 44 (-1)) 45 (-1)) 46 (-1)) 47 (-1)) 48 (-1)) 49 (-1)) 50 (-1)) 51 (-1)) 52 (-1)) 53 (-1)) 54 (-1)) 55 (-1)) 56 (-1)) 57 (-1)) 58 (-1)) 59 (-1)) 60 (-1)) 61 (-1)) 62 (-1)) 63 (-1)) 64 (-1)) 65 (-1)) 66 (-1)) 67 (-1)) 68 (-1)) 69 (-1)) 70 (-1)) 71 (-1)) 72 (-1)) 73 (-1)) 139 1000) 140 100) 145 1000) 146 100) 151 1000) 152 100) 157 1000) 158 100) 163 1000) 164 100) 169 1000) 170 100) 175 1000) 176 100) 181 1000) 182 100) 67 a2))))
theorem ro_1655 (z : pq_C) (a2 : Int32) (h0 : -1 ≤ a2.toInt) (h1 : a2.toInt < 8) : pq_Ru 3 159 [.ref 90, .int 57, .int a2] (wd_1330 z a2) (some (.int (-1)), (wd_1331 z a2)) := by
  refine ru_of (k := 2) (M := pm_159) rfl rfl ?_
  refine go_seg 1 (pc' := 1) (ls' := [(0, .ref 90), (1, .int 57), (2, .int a2)]) (st' := [.int 57]) (w' := (wd_1330 z a2)) (cs' := 0) (ss' := 0) ?_ (fun _ _ => rfl)
  refine go_cl (k := 2) (st' := [.int 1]) (cs' := 0) (ss' := 0) rfl rfl rfl rfl rfl rfl rfl (ro_1653 z a2 (by omega) (by omega)) ?_
  refine go_seg 5 (pc' := 15) (ls' := [(0, .ref 90), (1, .int 57), (2, .int a2)]) (st' := [.long 7, .long (-1), .long a2.toInt64]) (w' := (wd_1330 z a2)) (cs' := 0) (ss' := 0) ?_ (fun _ _ => rfl)
  refine go_cl (k := 2) (st' := [.int 1]) (cs' := 0) (ss' := 0) rfl rfl rfl rfl rfl rfl rfl (wi_t _ a2 (-1) 7 (-1) 7 rfl rfl (by omega)) ?_
  refine go_seg 8 (pc' := 38) (ls' := [(3, .int (-1)), (0, .ref 90), (1, .int 57), (2, .int a2)]) (st' := []) (w' := (wd_1330 z a2)) (cs' := 0) (ss' := 0) ?_ (fun _ _ => rfl)
  refine go_seg 8 (pc' := 49) (ls' := [(3, .int (-1)), (0, .ref 90), (1, .int 57), (2, .int a2)]) (st' := [.int (-1)]) (w' := (wd_1331 z a2)) (cs' := 0) (ss' := 0) ?_ (fun _ _ => rfl)
  exact go_end 1 (fun _ _ => rfl)
theorem lf_0_1656 (a0 : Int32) (a2 : Int32) (a3 : Int32) (a4 : Int32) (a5 : Int32) (h0 : -1 ≤ a2.toInt) (h1 : a2.toInt < 8) : ∃ w', pq_Go 20 pm_law 212 [(3, .int 0), (2, .ref 90), (1, .ref 1), (0, .ref 0)] [] (fw (sz a0 57 a2 a3 a4 a5)) 109 12668 (some (.int 1), w') := by
  refine ⟨(wd_1331 (sz a0 57 a2 a3 a4 a5) a2), ?_⟩
  refine go_seg 8 (pc' := 220) (ls' := [(3, .int 0), (2, .ref 90), (1, .ref 1), (0, .ref 0)]) (st' := [.int 0, .ref 0, .int 57, .ref 1]) (w' := (fw (sz a0 57 a2 a3 a4 a5))) (cs' := 109) (ss' := 12668) ?_ (fun _ _ => rfl)
  refine go_seg 3 (pc' := 223) (ls' := [(3, .int 0), (2, .ref 90), (1, .ref 1), (0, .ref 0)]) (st' := [.int a2, .int 57, .ref 1]) (w' := (fw (sz a0 57 a2 a3 a4 a5))) (cs' := 109) (ss' := 12668) ?_ (fun _ _ => rfl)
  refine go_cl (k := 20) (st' := [.int (-1)]) (cs' := 109) (ss' := 12668) rfl rfl rfl rfl rfl rfl rfl (ro_1650 (sz a0 57 a2 a3 a4 a5) a2 (by omega) (by omega)) ?_
  refine go_seg 8 (pc' := 234) (ls' := [(3, .int 0), (2, .ref 90), (1, .ref 1), (0, .ref 0)]) (st' := [.int 0, .ref 0, .int 57, .ref 90, .int (-1)]) (w' := (wd_1330 (sz a0 57 a2 a3 a4 a5) a2)) (cs' := 109) (ss' := 12668) ?_ (fun _ _ => rfl)
  refine go_seg 3 (pc' := 237) (ls' := [(3, .int 0), (2, .ref 90), (1, .ref 1), (0, .ref 0)]) (st' := [.int a2, .int 57, .ref 90, .int (-1)]) (w' := (wd_1330 (sz a0 57 a2 a3 a4 a5) a2)) (cs' := 109) (ss' := 12668) ?_ (fun _ _ => rfl)
  refine go_cl (k := 20) (st' := [.int (-1), .int (-1)]) (cs' := 109) (ss' := 12668) rfl rfl rfl rfl rfl rfl rfl (ro_1655 (sz a0 57 a2 a3 a4 a5) a2 (by omega) (by omega)) ?_
  refine go_cmp true rfl (br_self _) ?_
  exact law_tail (f := sc a0 57 a2 a3 a4 a5) rfl
theorem ro_1657 (z : pq_C) : pq_Ru 1 13 [.int 58] (fw z) (some (.int 1), (fw z)) := by
  refine ru_of (k := 0) (M := pm_13) rfl rfl ?_
  exact go_end 8 (fun _ _ => rfl)
def wd_1332 (z : pq_C) (a2 : Int32) : pq_W := ((fw z).set 3 (.inl (.int, 64, .inl (upd (fl_c 64 (-1) (fun _ => 0)) 58 a2))))
theorem ro_1658 (z : pq_C) (a2 : Int32) (h0 : -1 ≤ a2.toInt) (h1 : a2.toInt < 8) : pq_Ru 2 12 [.ref 1, .int 58, .int a2] (fw z) (some (.int (-1)), (wd_1332 z a2)) := by
  refine ru_of (k := 1) (M := pm_12) rfl rfl ?_
  refine go_seg 1 (pc' := 1) (ls' := [(0, .ref 1), (1, .int 58), (2, .int a2)]) (st' := [.int 58]) (w' := (fw z)) (cs' := 0) (ss' := 0) ?_ (fun _ _ => rfl)
  refine go_cl (k := 1) (st' := [.int 1]) (cs' := 0) (ss' := 0) rfl rfl rfl rfl rfl rfl rfl (ro_1657 z) ?_
  refine go_seg 2 (pc' := 8) (ls' := [(0, .ref 1), (1, .int 58), (2, .int a2)]) (st' := [.int a2]) (w' := (fw z)) (cs' := 0) (ss' := 0) ?_ (fun _ _ => rfl)
  refine go_cl (k := 1) (st' := [.int 1]) (cs' := 0) (ss' := 0) rfl rfl rfl rfl rfl rfl rfl (ro_1193 z a2 (by omega) (by omega)) ?_
  refine go_seg 8 (pc' := 31) (ls' := [(3, .int (-1)), (0, .ref 1), (1, .int 58), (2, .int a2)]) (st' := [.ref 1]) (w' := (fw z)) (cs' := 0) (ss' := 0) ?_ (fun _ _ => rfl)
  exact go_end 7 (fun _ _ => rfl)
theorem ro_1660 (z : pq_C) (a2 : Int32) (h0 : -1 ≤ a2.toInt) (h1 : a2.toInt < 8) : pq_Ru 1 161 [.long 58, .long 0, .long 63] (wd_1332 z a2) (some (.int 1), (wd_1332 z a2)) := by
  refine ru_of (k := 0) (M := pm_161) rfl rfl ?_
  refine go_seg 8 (pc' := 13) (ls' := [(0, .long 58), (2, .long 0), (4, .long 63)]) (st' := []) (w' := (wd_1332 z a2)) (cs' := 0) (ss' := 0) ?_ (fun _ _ => rfl)
  exact go_end 3 (fun _ _ => rfl)
theorem ro_1661 (z : pq_C) (a2 : Int32) (h0 : -1 ≤ a2.toInt) (h1 : a2.toInt < 8) : pq_Ru 2 160 [.int 58] (wd_1332 z a2) (some (.int 1), (wd_1332 z a2)) := by
  refine ru_of (k := 1) (M := pm_160) rfl rfl ?_
  refine go_seg 4 (pc' := 6) (ls' := [(0, .int 58)]) (st' := [.long 63, .long 0, .long 58]) (w' := (wd_1332 z a2)) (cs' := 0) (ss' := 0) ?_ (fun _ _ => rfl)
  refine go_cl (k := 1) (st' := [.int 1]) (cs' := 0) (ss' := 0) rfl rfl rfl rfl rfl rfl rfl (ro_1660 z a2 (by omega) (by omega)) ?_
  exact go_end 1 (fun _ _ => rfl)
def wd_1333 (z : pq_C) (a2 : Int32) : pq_W := ((wd_1332 z a2).set 91 (.inl (.int, 2858, .inl (upd (upd (upd (upd (upd (upd (upd (upd (upd (upd (upd (upd (upd (upd (upd (upd (upd (upd (upd (upd (upd (upd (upd (upd (upd (upd (upd (upd (upd (upd (upd (upd (upd (upd (upd (upd (upd (upd (upd (upd (upd (upd (upd (upd (upd (upd (upd (upd (upd (upd (upd (upd (upd (upd (upd (upd (upd (upd (upd (upd (upd (upd (upd (upd (upd (upd (upd (upd (upd (upd (upd (upd (upd (upd (upd (upd (upd (upd (upd (upd (upd (upd (fun _ => 0) 1 10) 10 (-1)) 11 (-1)) 12 (-1)) 13 (-1)) 14 (-1)) 15 (-1)) 16 (-1)) 17 (-1)) 18 (-1)) 19 (-1)) 20 (-1)) 21 (-1)) 22 (-1)) 23 (-1)) 24 (-1)) 25 (-1)) 26 (-1)) 27 (-1)) 28 (-1)) 29 (-1)) 30 (-1)) 31 (-1)) 32 (-1)) 33 (-1)) 34 (-1)) 35 (-1)) 36 (-1)) 37 (-1)) 38 (-1)) 39 (-1)) 40 (-1)) 41 (-1)) 42 (-1)) 43 (-1)) 44 (-1)) 45 (-1)) 46 (-1)) 47 (-1)) 48 (-1)) 49 (-1)) 50 (-1)) 51 (-1)) 52 (-1)) 53 (-1)) 54 (-1)) 55 (-1)) 56 (-1)) 57 (-1)) 58 (-1)) 59 (-1)) 60 (-1)) 61 (-1)) 62 (-1)) 63 (-1)) 64 (-1)) 65 (-1)) 66 (-1)) 67 (-1)) 68 (-1)) 69 (-1)) 70 (-1)) 71 (-1)) 72 (-1)) 73 (-1)) 139 1000) 140 100) 145 1000) 146 100) 151 1000) 152 100) 157 1000) 158 100) 163 1000) 164 100) 169 1000) 170 100) 175 1000) 176 100) 181 1000) 182 100) 68 a2))))
theorem ro_1663 (z : pq_C) (a2 : Int32) (h0 : -1 ≤ a2.toInt) (h1 : a2.toInt < 8) : pq_Ru 3 159 [.ref 90, .int 58, .int a2] (wd_1332 z a2) (some (.int (-1)), (wd_1333 z a2)) := by
  refine ru_of (k := 2) (M := pm_159) rfl rfl ?_
  refine go_seg 1 (pc' := 1) (ls' := [(0, .ref 90), (1, .int 58), (2, .int a2)]) (st' := [.int 58]) (w' := (wd_1332 z a2)) (cs' := 0) (ss' := 0) ?_ (fun _ _ => rfl)
  refine go_cl (k := 2) (st' := [.int 1]) (cs' := 0) (ss' := 0) rfl rfl rfl rfl rfl rfl rfl (ro_1661 z a2 (by omega) (by omega)) ?_
  refine go_seg 5 (pc' := 15) (ls' := [(0, .ref 90), (1, .int 58), (2, .int a2)]) (st' := [.long 7, .long (-1), .long a2.toInt64]) (w' := (wd_1332 z a2)) (cs' := 0) (ss' := 0) ?_ (fun _ _ => rfl)
  refine go_cl (k := 2) (st' := [.int 1]) (cs' := 0) (ss' := 0) rfl rfl rfl rfl rfl rfl rfl (wi_t _ a2 (-1) 7 (-1) 7 rfl rfl (by omega)) ?_
  refine go_seg 8 (pc' := 38) (ls' := [(3, .int (-1)), (0, .ref 90), (1, .int 58), (2, .int a2)]) (st' := []) (w' := (wd_1332 z a2)) (cs' := 0) (ss' := 0) ?_ (fun _ _ => rfl)
  refine go_seg 8 (pc' := 49) (ls' := [(3, .int (-1)), (0, .ref 90), (1, .int 58), (2, .int a2)]) (st' := [.int (-1)]) (w' := (wd_1333 z a2)) (cs' := 0) (ss' := 0) ?_ (fun _ _ => rfl)
  exact go_end 1 (fun _ _ => rfl)
theorem lf_0_1664 (a0 : Int32) (a2 : Int32) (a3 : Int32) (a4 : Int32) (a5 : Int32) (h0 : -1 ≤ a2.toInt) (h1 : a2.toInt < 8) : ∃ w', pq_Go 20 pm_law 212 [(3, .int 0), (2, .ref 90), (1, .ref 1), (0, .ref 0)] [] (fw (sz a0 58 a2 a3 a4 a5)) 109 12668 (some (.int 1), w') := by
  refine ⟨(wd_1333 (sz a0 58 a2 a3 a4 a5) a2), ?_⟩
  refine go_seg 8 (pc' := 220) (ls' := [(3, .int 0), (2, .ref 90), (1, .ref 1), (0, .ref 0)]) (st' := [.int 0, .ref 0, .int 58, .ref 1]) (w' := (fw (sz a0 58 a2 a3 a4 a5))) (cs' := 109) (ss' := 12668) ?_ (fun _ _ => rfl)
  refine go_seg 3 (pc' := 223) (ls' := [(3, .int 0), (2, .ref 90), (1, .ref 1), (0, .ref 0)]) (st' := [.int a2, .int 58, .ref 1]) (w' := (fw (sz a0 58 a2 a3 a4 a5))) (cs' := 109) (ss' := 12668) ?_ (fun _ _ => rfl)
  refine go_cl (k := 20) (st' := [.int (-1)]) (cs' := 109) (ss' := 12668) rfl rfl rfl rfl rfl rfl rfl (ro_1658 (sz a0 58 a2 a3 a4 a5) a2 (by omega) (by omega)) ?_
  refine go_seg 8 (pc' := 234) (ls' := [(3, .int 0), (2, .ref 90), (1, .ref 1), (0, .ref 0)]) (st' := [.int 0, .ref 0, .int 58, .ref 90, .int (-1)]) (w' := (wd_1332 (sz a0 58 a2 a3 a4 a5) a2)) (cs' := 109) (ss' := 12668) ?_ (fun _ _ => rfl)
  refine go_seg 3 (pc' := 237) (ls' := [(3, .int 0), (2, .ref 90), (1, .ref 1), (0, .ref 0)]) (st' := [.int a2, .int 58, .ref 90, .int (-1)]) (w' := (wd_1332 (sz a0 58 a2 a3 a4 a5) a2)) (cs' := 109) (ss' := 12668) ?_ (fun _ _ => rfl)
  refine go_cl (k := 20) (st' := [.int (-1), .int (-1)]) (cs' := 109) (ss' := 12668) rfl rfl rfl rfl rfl rfl rfl (ro_1663 (sz a0 58 a2 a3 a4 a5) a2 (by omega) (by omega)) ?_
  refine go_cmp true rfl (br_self _) ?_
  exact law_tail (f := sc a0 58 a2 a3 a4 a5) rfl
theorem ro_1665 (z : pq_C) : pq_Ru 1 13 [.int 59] (fw z) (some (.int 1), (fw z)) := by
  refine ru_of (k := 0) (M := pm_13) rfl rfl ?_
  exact go_end 8 (fun _ _ => rfl)
def wd_1334 (z : pq_C) (a2 : Int32) : pq_W := ((fw z).set 3 (.inl (.int, 64, .inl (upd (fl_c 64 (-1) (fun _ => 0)) 59 a2))))
theorem ro_1666 (z : pq_C) (a2 : Int32) (h0 : -1 ≤ a2.toInt) (h1 : a2.toInt < 8) : pq_Ru 2 12 [.ref 1, .int 59, .int a2] (fw z) (some (.int (-1)), (wd_1334 z a2)) := by
  refine ru_of (k := 1) (M := pm_12) rfl rfl ?_
  refine go_seg 1 (pc' := 1) (ls' := [(0, .ref 1), (1, .int 59), (2, .int a2)]) (st' := [.int 59]) (w' := (fw z)) (cs' := 0) (ss' := 0) ?_ (fun _ _ => rfl)
  refine go_cl (k := 1) (st' := [.int 1]) (cs' := 0) (ss' := 0) rfl rfl rfl rfl rfl rfl rfl (ro_1665 z) ?_
  refine go_seg 2 (pc' := 8) (ls' := [(0, .ref 1), (1, .int 59), (2, .int a2)]) (st' := [.int a2]) (w' := (fw z)) (cs' := 0) (ss' := 0) ?_ (fun _ _ => rfl)
  refine go_cl (k := 1) (st' := [.int 1]) (cs' := 0) (ss' := 0) rfl rfl rfl rfl rfl rfl rfl (ro_1193 z a2 (by omega) (by omega)) ?_
  refine go_seg 8 (pc' := 31) (ls' := [(3, .int (-1)), (0, .ref 1), (1, .int 59), (2, .int a2)]) (st' := [.ref 1]) (w' := (fw z)) (cs' := 0) (ss' := 0) ?_ (fun _ _ => rfl)
  exact go_end 7 (fun _ _ => rfl)
theorem ro_1668 (z : pq_C) (a2 : Int32) (h0 : -1 ≤ a2.toInt) (h1 : a2.toInt < 8) : pq_Ru 1 161 [.long 59, .long 0, .long 63] (wd_1334 z a2) (some (.int 1), (wd_1334 z a2)) := by
  refine ru_of (k := 0) (M := pm_161) rfl rfl ?_
  refine go_seg 8 (pc' := 13) (ls' := [(0, .long 59), (2, .long 0), (4, .long 63)]) (st' := []) (w' := (wd_1334 z a2)) (cs' := 0) (ss' := 0) ?_ (fun _ _ => rfl)
  exact go_end 3 (fun _ _ => rfl)
theorem ro_1669 (z : pq_C) (a2 : Int32) (h0 : -1 ≤ a2.toInt) (h1 : a2.toInt < 8) : pq_Ru 2 160 [.int 59] (wd_1334 z a2) (some (.int 1), (wd_1334 z a2)) := by
  refine ru_of (k := 1) (M := pm_160) rfl rfl ?_
  refine go_seg 4 (pc' := 6) (ls' := [(0, .int 59)]) (st' := [.long 63, .long 0, .long 59]) (w' := (wd_1334 z a2)) (cs' := 0) (ss' := 0) ?_ (fun _ _ => rfl)
  refine go_cl (k := 1) (st' := [.int 1]) (cs' := 0) (ss' := 0) rfl rfl rfl rfl rfl rfl rfl (ro_1668 z a2 (by omega) (by omega)) ?_
  exact go_end 1 (fun _ _ => rfl)
def wd_1335 (z : pq_C) (a2 : Int32) : pq_W := ((wd_1334 z a2).set 91 (.inl (.int, 2858, .inl (upd (upd (upd (upd (upd (upd (upd (upd (upd (upd (upd (upd (upd (upd (upd (upd (upd (upd (upd (upd (upd (upd (upd (upd (upd (upd (upd (upd (upd (upd (upd (upd (upd (upd (upd (upd (upd (upd (upd (upd (upd (upd (upd (upd (upd (upd (upd (upd (upd (upd (upd (upd (upd (upd (upd (upd (upd (upd (upd (upd (upd (upd (upd (upd (upd (upd (upd (upd (upd (upd (upd (upd (upd (upd (upd (upd (upd (upd (upd (upd (upd (upd (fun _ => 0) 1 10) 10 (-1)) 11 (-1)) 12 (-1)) 13 (-1)) 14 (-1)) 15 (-1)) 16 (-1)) 17 (-1)) 18 (-1)) 19 (-1)) 20 (-1)) 21 (-1)) 22 (-1)) 23 (-1)) 24 (-1)) 25 (-1)) 26 (-1)) 27 (-1)) 28 (-1)) 29 (-1)) 30 (-1)) 31 (-1)) 32 (-1)) 33 (-1)) 34 (-1)) 35 (-1)) 36 (-1)) 37 (-1)) 38 (-1)) 39 (-1)) 40 (-1)) 41 (-1)) 42 (-1)) 43 (-1)) 44 (-1)) 45 (-1)) 46 (-1)) 47 (-1)) 48 (-1)) 49 (-1)) 50 (-1)) 51 (-1)) 52 (-1)) 53 (-1)) 54 (-1)) 55 (-1)) 56 (-1)) 57 (-1)) 58 (-1)) 59 (-1)) 60 (-1)) 61 (-1)) 62 (-1)) 63 (-1)) 64 (-1)) 65 (-1)) 66 (-1)) 67 (-1)) 68 (-1)) 69 (-1)) 70 (-1)) 71 (-1)) 72 (-1)) 73 (-1)) 139 1000) 140 100) 145 1000) 146 100) 151 1000) 152 100) 157 1000) 158 100) 163 1000) 164 100) 169 1000) 170 100) 175 1000) 176 100) 181 1000) 182 100) 69 a2))))
theorem ro_1671 (z : pq_C) (a2 : Int32) (h0 : -1 ≤ a2.toInt) (h1 : a2.toInt < 8) : pq_Ru 3 159 [.ref 90, .int 59, .int a2] (wd_1334 z a2) (some (.int (-1)), (wd_1335 z a2)) := by
  refine ru_of (k := 2) (M := pm_159) rfl rfl ?_
  refine go_seg 1 (pc' := 1) (ls' := [(0, .ref 90), (1, .int 59), (2, .int a2)]) (st' := [.int 59]) (w' := (wd_1334 z a2)) (cs' := 0) (ss' := 0) ?_ (fun _ _ => rfl)
  refine go_cl (k := 2) (st' := [.int 1]) (cs' := 0) (ss' := 0) rfl rfl rfl rfl rfl rfl rfl (ro_1669 z a2 (by omega) (by omega)) ?_
  refine go_seg 5 (pc' := 15) (ls' := [(0, .ref 90), (1, .int 59), (2, .int a2)]) (st' := [.long 7, .long (-1), .long a2.toInt64]) (w' := (wd_1334 z a2)) (cs' := 0) (ss' := 0) ?_ (fun _ _ => rfl)
  refine go_cl (k := 2) (st' := [.int 1]) (cs' := 0) (ss' := 0) rfl rfl rfl rfl rfl rfl rfl (wi_t _ a2 (-1) 7 (-1) 7 rfl rfl (by omega)) ?_
  refine go_seg 8 (pc' := 38) (ls' := [(3, .int (-1)), (0, .ref 90), (1, .int 59), (2, .int a2)]) (st' := []) (w' := (wd_1334 z a2)) (cs' := 0) (ss' := 0) ?_ (fun _ _ => rfl)
  refine go_seg 8 (pc' := 49) (ls' := [(3, .int (-1)), (0, .ref 90), (1, .int 59), (2, .int a2)]) (st' := [.int (-1)]) (w' := (wd_1335 z a2)) (cs' := 0) (ss' := 0) ?_ (fun _ _ => rfl)
  exact go_end 1 (fun _ _ => rfl)
theorem lf_0_1672 (a0 : Int32) (a2 : Int32) (a3 : Int32) (a4 : Int32) (a5 : Int32) (h0 : -1 ≤ a2.toInt) (h1 : a2.toInt < 8) : ∃ w', pq_Go 20 pm_law 212 [(3, .int 0), (2, .ref 90), (1, .ref 1), (0, .ref 0)] [] (fw (sz a0 59 a2 a3 a4 a5)) 109 12668 (some (.int 1), w') := by
  refine ⟨(wd_1335 (sz a0 59 a2 a3 a4 a5) a2), ?_⟩
  refine go_seg 8 (pc' := 220) (ls' := [(3, .int 0), (2, .ref 90), (1, .ref 1), (0, .ref 0)]) (st' := [.int 0, .ref 0, .int 59, .ref 1]) (w' := (fw (sz a0 59 a2 a3 a4 a5))) (cs' := 109) (ss' := 12668) ?_ (fun _ _ => rfl)
  refine go_seg 3 (pc' := 223) (ls' := [(3, .int 0), (2, .ref 90), (1, .ref 1), (0, .ref 0)]) (st' := [.int a2, .int 59, .ref 1]) (w' := (fw (sz a0 59 a2 a3 a4 a5))) (cs' := 109) (ss' := 12668) ?_ (fun _ _ => rfl)
  refine go_cl (k := 20) (st' := [.int (-1)]) (cs' := 109) (ss' := 12668) rfl rfl rfl rfl rfl rfl rfl (ro_1666 (sz a0 59 a2 a3 a4 a5) a2 (by omega) (by omega)) ?_
  refine go_seg 8 (pc' := 234) (ls' := [(3, .int 0), (2, .ref 90), (1, .ref 1), (0, .ref 0)]) (st' := [.int 0, .ref 0, .int 59, .ref 90, .int (-1)]) (w' := (wd_1334 (sz a0 59 a2 a3 a4 a5) a2)) (cs' := 109) (ss' := 12668) ?_ (fun _ _ => rfl)
  refine go_seg 3 (pc' := 237) (ls' := [(3, .int 0), (2, .ref 90), (1, .ref 1), (0, .ref 0)]) (st' := [.int a2, .int 59, .ref 90, .int (-1)]) (w' := (wd_1334 (sz a0 59 a2 a3 a4 a5) a2)) (cs' := 109) (ss' := 12668) ?_ (fun _ _ => rfl)
  refine go_cl (k := 20) (st' := [.int (-1), .int (-1)]) (cs' := 109) (ss' := 12668) rfl rfl rfl rfl rfl rfl rfl (ro_1671 (sz a0 59 a2 a3 a4 a5) a2 (by omega) (by omega)) ?_
  refine go_cmp true rfl (br_self _) ?_
  exact law_tail (f := sc a0 59 a2 a3 a4 a5) rfl
theorem ro_1673 (z : pq_C) : pq_Ru 1 13 [.int 60] (fw z) (some (.int 1), (fw z)) := by
  refine ru_of (k := 0) (M := pm_13) rfl rfl ?_
  exact go_end 8 (fun _ _ => rfl)
def wd_1336 (z : pq_C) (a2 : Int32) : pq_W := ((fw z).set 3 (.inl (.int, 64, .inl (upd (fl_c 64 (-1) (fun _ => 0)) 60 a2))))
theorem ro_1674 (z : pq_C) (a2 : Int32) (h0 : -1 ≤ a2.toInt) (h1 : a2.toInt < 8) : pq_Ru 2 12 [.ref 1, .int 60, .int a2] (fw z) (some (.int (-1)), (wd_1336 z a2)) := by
  refine ru_of (k := 1) (M := pm_12) rfl rfl ?_
  refine go_seg 1 (pc' := 1) (ls' := [(0, .ref 1), (1, .int 60), (2, .int a2)]) (st' := [.int 60]) (w' := (fw z)) (cs' := 0) (ss' := 0) ?_ (fun _ _ => rfl)
  refine go_cl (k := 1) (st' := [.int 1]) (cs' := 0) (ss' := 0) rfl rfl rfl rfl rfl rfl rfl (ro_1673 z) ?_
  refine go_seg 2 (pc' := 8) (ls' := [(0, .ref 1), (1, .int 60), (2, .int a2)]) (st' := [.int a2]) (w' := (fw z)) (cs' := 0) (ss' := 0) ?_ (fun _ _ => rfl)
  refine go_cl (k := 1) (st' := [.int 1]) (cs' := 0) (ss' := 0) rfl rfl rfl rfl rfl rfl rfl (ro_1193 z a2 (by omega) (by omega)) ?_
  refine go_seg 8 (pc' := 31) (ls' := [(3, .int (-1)), (0, .ref 1), (1, .int 60), (2, .int a2)]) (st' := [.ref 1]) (w' := (fw z)) (cs' := 0) (ss' := 0) ?_ (fun _ _ => rfl)
  exact go_end 7 (fun _ _ => rfl)
theorem ro_1676 (z : pq_C) (a2 : Int32) (h0 : -1 ≤ a2.toInt) (h1 : a2.toInt < 8) : pq_Ru 1 161 [.long 60, .long 0, .long 63] (wd_1336 z a2) (some (.int 1), (wd_1336 z a2)) := by
  refine ru_of (k := 0) (M := pm_161) rfl rfl ?_
  refine go_seg 8 (pc' := 13) (ls' := [(0, .long 60), (2, .long 0), (4, .long 63)]) (st' := []) (w' := (wd_1336 z a2)) (cs' := 0) (ss' := 0) ?_ (fun _ _ => rfl)
  exact go_end 3 (fun _ _ => rfl)
theorem ro_1677 (z : pq_C) (a2 : Int32) (h0 : -1 ≤ a2.toInt) (h1 : a2.toInt < 8) : pq_Ru 2 160 [.int 60] (wd_1336 z a2) (some (.int 1), (wd_1336 z a2)) := by
  refine ru_of (k := 1) (M := pm_160) rfl rfl ?_
  refine go_seg 4 (pc' := 6) (ls' := [(0, .int 60)]) (st' := [.long 63, .long 0, .long 60]) (w' := (wd_1336 z a2)) (cs' := 0) (ss' := 0) ?_ (fun _ _ => rfl)
  refine go_cl (k := 1) (st' := [.int 1]) (cs' := 0) (ss' := 0) rfl rfl rfl rfl rfl rfl rfl (ro_1676 z a2 (by omega) (by omega)) ?_
  exact go_end 1 (fun _ _ => rfl)
def wd_1337 (z : pq_C) (a2 : Int32) : pq_W := ((wd_1336 z a2).set 91 (.inl (.int, 2858, .inl (upd (upd (upd (upd (upd (upd (upd (upd (upd (upd (upd (upd (upd (upd (upd (upd (upd (upd (upd (upd (upd (upd (upd (upd (upd (upd (upd (upd (upd (upd (upd (upd (upd (upd (upd (upd (upd (upd (upd (upd (upd (upd (upd (upd (upd (upd (upd (upd (upd (upd (upd (upd (upd (upd (upd (upd (upd (upd (upd (upd (upd (upd (upd (upd (upd (upd (upd (upd (upd (upd (upd (upd (upd (upd (upd (upd (upd (upd (upd (upd (upd (upd (fun _ => 0) 1 10) 10 (-1)) 11 (-1)) 12 (-1)) 13 (-1)) 14 (-1)) 15 (-1)) 16 (-1)) 17 (-1)) 18 (-1)) 19 (-1)) 20 (-1)) 21 (-1)) 22 (-1)) 23 (-1)) 24 (-1)) 25 (-1)) 26 (-1)) 27 (-1)) 28 (-1)) 29 (-1)) 30 (-1)) 31 (-1)) 32 (-1)) 33 (-1)) 34 (-1)) 35 (-1)) 36 (-1)) 37 (-1)) 38 (-1)) 39 (-1)) 40 (-1)) 41 (-1)) 42 (-1)) 43 (-1)) 44 (-1)) 45 (-1)) 46 (-1)) 47 (-1)) 48 (-1)) 49 (-1)) 50 (-1)) 51 (-1)) 52 (-1)) 53 (-1)) 54 (-1)) 55 (-1)) 56 (-1)) 57 (-1)) 58 (-1)) 59 (-1)) 60 (-1)) 61 (-1)) 62 (-1)) 63 (-1)) 64 (-1)) 65 (-1)) 66 (-1)) 67 (-1)) 68 (-1)) 69 (-1)) 70 (-1)) 71 (-1)) 72 (-1)) 73 (-1)) 139 1000) 140 100) 145 1000) 146 100) 151 1000) 152 100) 157 1000) 158 100) 163 1000) 164 100) 169 1000) 170 100) 175 1000) 176 100) 181 1000) 182 100) 70 a2))))
theorem ro_1679 (z : pq_C) (a2 : Int32) (h0 : -1 ≤ a2.toInt) (h1 : a2.toInt < 8) : pq_Ru 3 159 [.ref 90, .int 60, .int a2] (wd_1336 z a2) (some (.int (-1)), (wd_1337 z a2)) := by
  refine ru_of (k := 2) (M := pm_159) rfl rfl ?_
  refine go_seg 1 (pc' := 1) (ls' := [(0, .ref 90), (1, .int 60), (2, .int a2)]) (st' := [.int 60]) (w' := (wd_1336 z a2)) (cs' := 0) (ss' := 0) ?_ (fun _ _ => rfl)
  refine go_cl (k := 2) (st' := [.int 1]) (cs' := 0) (ss' := 0) rfl rfl rfl rfl rfl rfl rfl (ro_1677 z a2 (by omega) (by omega)) ?_
  refine go_seg 5 (pc' := 15) (ls' := [(0, .ref 90), (1, .int 60), (2, .int a2)]) (st' := [.long 7, .long (-1), .long a2.toInt64]) (w' := (wd_1336 z a2)) (cs' := 0) (ss' := 0) ?_ (fun _ _ => rfl)
  refine go_cl (k := 2) (st' := [.int 1]) (cs' := 0) (ss' := 0) rfl rfl rfl rfl rfl rfl rfl (wi_t _ a2 (-1) 7 (-1) 7 rfl rfl (by omega)) ?_
  refine go_seg 8 (pc' := 38) (ls' := [(3, .int (-1)), (0, .ref 90), (1, .int 60), (2, .int a2)]) (st' := []) (w' := (wd_1336 z a2)) (cs' := 0) (ss' := 0) ?_ (fun _ _ => rfl)
  refine go_seg 8 (pc' := 49) (ls' := [(3, .int (-1)), (0, .ref 90), (1, .int 60), (2, .int a2)]) (st' := [.int (-1)]) (w' := (wd_1337 z a2)) (cs' := 0) (ss' := 0) ?_ (fun _ _ => rfl)
  exact go_end 1 (fun _ _ => rfl)
theorem lf_0_1680 (a0 : Int32) (a2 : Int32) (a3 : Int32) (a4 : Int32) (a5 : Int32) (h0 : -1 ≤ a2.toInt) (h1 : a2.toInt < 8) : ∃ w', pq_Go 20 pm_law 212 [(3, .int 0), (2, .ref 90), (1, .ref 1), (0, .ref 0)] [] (fw (sz a0 60 a2 a3 a4 a5)) 109 12668 (some (.int 1), w') := by
  refine ⟨(wd_1337 (sz a0 60 a2 a3 a4 a5) a2), ?_⟩
  refine go_seg 8 (pc' := 220) (ls' := [(3, .int 0), (2, .ref 90), (1, .ref 1), (0, .ref 0)]) (st' := [.int 0, .ref 0, .int 60, .ref 1]) (w' := (fw (sz a0 60 a2 a3 a4 a5))) (cs' := 109) (ss' := 12668) ?_ (fun _ _ => rfl)
  refine go_seg 3 (pc' := 223) (ls' := [(3, .int 0), (2, .ref 90), (1, .ref 1), (0, .ref 0)]) (st' := [.int a2, .int 60, .ref 1]) (w' := (fw (sz a0 60 a2 a3 a4 a5))) (cs' := 109) (ss' := 12668) ?_ (fun _ _ => rfl)
  refine go_cl (k := 20) (st' := [.int (-1)]) (cs' := 109) (ss' := 12668) rfl rfl rfl rfl rfl rfl rfl (ro_1674 (sz a0 60 a2 a3 a4 a5) a2 (by omega) (by omega)) ?_
  refine go_seg 8 (pc' := 234) (ls' := [(3, .int 0), (2, .ref 90), (1, .ref 1), (0, .ref 0)]) (st' := [.int 0, .ref 0, .int 60, .ref 90, .int (-1)]) (w' := (wd_1336 (sz a0 60 a2 a3 a4 a5) a2)) (cs' := 109) (ss' := 12668) ?_ (fun _ _ => rfl)
  refine go_seg 3 (pc' := 237) (ls' := [(3, .int 0), (2, .ref 90), (1, .ref 1), (0, .ref 0)]) (st' := [.int a2, .int 60, .ref 90, .int (-1)]) (w' := (wd_1336 (sz a0 60 a2 a3 a4 a5) a2)) (cs' := 109) (ss' := 12668) ?_ (fun _ _ => rfl)
  refine go_cl (k := 20) (st' := [.int (-1), .int (-1)]) (cs' := 109) (ss' := 12668) rfl rfl rfl rfl rfl rfl rfl (ro_1679 (sz a0 60 a2 a3 a4 a5) a2 (by omega) (by omega)) ?_
  refine go_cmp true rfl (br_self _) ?_
  exact law_tail (f := sc a0 60 a2 a3 a4 a5) rfl
theorem ro_1681 (z : pq_C) : pq_Ru 1 13 [.int 61] (fw z) (some (.int 1), (fw z)) := by
  refine ru_of (k := 0) (M := pm_13) rfl rfl ?_
  exact go_end 8 (fun _ _ => rfl)
def wd_1338 (z : pq_C) (a2 : Int32) : pq_W := ((fw z).set 3 (.inl (.int, 64, .inl (upd (fl_c 64 (-1) (fun _ => 0)) 61 a2))))
theorem ro_1682 (z : pq_C) (a2 : Int32) (h0 : -1 ≤ a2.toInt) (h1 : a2.toInt < 8) : pq_Ru 2 12 [.ref 1, .int 61, .int a2] (fw z) (some (.int (-1)), (wd_1338 z a2)) := by
  refine ru_of (k := 1) (M := pm_12) rfl rfl ?_
  refine go_seg 1 (pc' := 1) (ls' := [(0, .ref 1), (1, .int 61), (2, .int a2)]) (st' := [.int 61]) (w' := (fw z)) (cs' := 0) (ss' := 0) ?_ (fun _ _ => rfl)
  refine go_cl (k := 1) (st' := [.int 1]) (cs' := 0) (ss' := 0) rfl rfl rfl rfl rfl rfl rfl (ro_1681 z) ?_
  refine go_seg 2 (pc' := 8) (ls' := [(0, .ref 1), (1, .int 61), (2, .int a2)]) (st' := [.int a2]) (w' := (fw z)) (cs' := 0) (ss' := 0) ?_ (fun _ _ => rfl)
  refine go_cl (k := 1) (st' := [.int 1]) (cs' := 0) (ss' := 0) rfl rfl rfl rfl rfl rfl rfl (ro_1193 z a2 (by omega) (by omega)) ?_
  refine go_seg 8 (pc' := 31) (ls' := [(3, .int (-1)), (0, .ref 1), (1, .int 61), (2, .int a2)]) (st' := [.ref 1]) (w' := (fw z)) (cs' := 0) (ss' := 0) ?_ (fun _ _ => rfl)
  exact go_end 7 (fun _ _ => rfl)
theorem ro_1684 (z : pq_C) (a2 : Int32) (h0 : -1 ≤ a2.toInt) (h1 : a2.toInt < 8) : pq_Ru 1 161 [.long 61, .long 0, .long 63] (wd_1338 z a2) (some (.int 1), (wd_1338 z a2)) := by
  refine ru_of (k := 0) (M := pm_161) rfl rfl ?_
  refine go_seg 8 (pc' := 13) (ls' := [(0, .long 61), (2, .long 0), (4, .long 63)]) (st' := []) (w' := (wd_1338 z a2)) (cs' := 0) (ss' := 0) ?_ (fun _ _ => rfl)
  exact go_end 3 (fun _ _ => rfl)
theorem ro_1685 (z : pq_C) (a2 : Int32) (h0 : -1 ≤ a2.toInt) (h1 : a2.toInt < 8) : pq_Ru 2 160 [.int 61] (wd_1338 z a2) (some (.int 1), (wd_1338 z a2)) := by
  refine ru_of (k := 1) (M := pm_160) rfl rfl ?_
  refine go_seg 4 (pc' := 6) (ls' := [(0, .int 61)]) (st' := [.long 63, .long 0, .long 61]) (w' := (wd_1338 z a2)) (cs' := 0) (ss' := 0) ?_ (fun _ _ => rfl)
  refine go_cl (k := 1) (st' := [.int 1]) (cs' := 0) (ss' := 0) rfl rfl rfl rfl rfl rfl rfl (ro_1684 z a2 (by omega) (by omega)) ?_
  exact go_end 1 (fun _ _ => rfl)
def wd_1339 (z : pq_C) (a2 : Int32) : pq_W := ((wd_1338 z a2).set 91 (.inl (.int, 2858, .inl (upd (upd (upd (upd (upd (upd (upd (upd (upd (upd (upd (upd (upd (upd (upd (upd (upd (upd (upd (upd (upd (upd (upd (upd (upd (upd (upd (upd (upd (upd (upd (upd (upd (upd (upd (upd (upd (upd (upd (upd (upd (upd (upd (upd (upd (upd (upd (upd (upd (upd (upd (upd (upd (upd (upd (upd (upd (upd (upd (upd (upd (upd (upd (upd (upd (upd (upd (upd (upd (upd (upd (upd (upd (upd (upd (upd (upd (upd (upd (upd (upd (upd (fun _ => 0) 1 10) 10 (-1)) 11 (-1)) 12 (-1)) 13 (-1)) 14 (-1)) 15 (-1)) 16 (-1)) 17 (-1)) 18 (-1)) 19 (-1)) 20 (-1)) 21 (-1)) 22 (-1)) 23 (-1)) 24 (-1)) 25 (-1)) 26 (-1)) 27 (-1)) 28 (-1)) 29 (-1)) 30 (-1)) 31 (-1)) 32 (-1)) 33 (-1)) 34 (-1)) 35 (-1)) 36 (-1)) 37 (-1)) 38 (-1)) 39 (-1)) 40 (-1)) 41 (-1)) 42 (-1)) 43 (-1)) 44 (-1)) 45 (-1)) 46 (-1)) 47 (-1)) 48 (-1)) 49 (-1)) 50 (-1)) 51 (-1)) 52 (-1)) 53 (-1)) 54 (-1)) 55 (-1)) 56 (-1)) 57 (-1)) 58 (-1)) 59 (-1)) 60 (-1)) 61 (-1)) 62 (-1)) 63 (-1)) 64 (-1)) 65 (-1)) 66 (-1)) 67 (-1)) 68 (-1)) 69 (-1)) 70 (-1)) 71 (-1)) 72 (-1)) 73 (-1)) 139 1000) 140 100) 145 1000) 146 100) 151 1000) 152 100) 157 1000) 158 100) 163 1000) 164 100) 169 1000) 170 100) 175 1000) 176 100) 181 1000) 182 100) 71 a2))))
theorem ro_1687 (z : pq_C) (a2 : Int32) (h0 : -1 ≤ a2.toInt) (h1 : a2.toInt < 8) : pq_Ru 3 159 [.ref 90, .int 61, .int a2] (wd_1338 z a2) (some (.int (-1)), (wd_1339 z a2)) := by
  refine ru_of (k := 2) (M := pm_159) rfl rfl ?_
  refine go_seg 1 (pc' := 1) (ls' := [(0, .ref 90), (1, .int 61), (2, .int a2)]) (st' := [.int 61]) (w' := (wd_1338 z a2)) (cs' := 0) (ss' := 0) ?_ (fun _ _ => rfl)
  refine go_cl (k := 2) (st' := [.int 1]) (cs' := 0) (ss' := 0) rfl rfl rfl rfl rfl rfl rfl (ro_1685 z a2 (by omega) (by omega)) ?_
  refine go_seg 5 (pc' := 15) (ls' := [(0, .ref 90), (1, .int 61), (2, .int a2)]) (st' := [.long 7, .long (-1), .long a2.toInt64]) (w' := (wd_1338 z a2)) (cs' := 0) (ss' := 0) ?_ (fun _ _ => rfl)
  refine go_cl (k := 2) (st' := [.int 1]) (cs' := 0) (ss' := 0) rfl rfl rfl rfl rfl rfl rfl (wi_t _ a2 (-1) 7 (-1) 7 rfl rfl (by omega)) ?_
  refine go_seg 8 (pc' := 38) (ls' := [(3, .int (-1)), (0, .ref 90), (1, .int 61), (2, .int a2)]) (st' := []) (w' := (wd_1338 z a2)) (cs' := 0) (ss' := 0) ?_ (fun _ _ => rfl)
  refine go_seg 8 (pc' := 49) (ls' := [(3, .int (-1)), (0, .ref 90), (1, .int 61), (2, .int a2)]) (st' := [.int (-1)]) (w' := (wd_1339 z a2)) (cs' := 0) (ss' := 0) ?_ (fun _ _ => rfl)
  exact go_end 1 (fun _ _ => rfl)
theorem lf_0_1688 (a0 : Int32) (a2 : Int32) (a3 : Int32) (a4 : Int32) (a5 : Int32) (h0 : -1 ≤ a2.toInt) (h1 : a2.toInt < 8) : ∃ w', pq_Go 20 pm_law 212 [(3, .int 0), (2, .ref 90), (1, .ref 1), (0, .ref 0)] [] (fw (sz a0 61 a2 a3 a4 a5)) 109 12668 (some (.int 1), w') := by
  refine ⟨(wd_1339 (sz a0 61 a2 a3 a4 a5) a2), ?_⟩
  refine go_seg 8 (pc' := 220) (ls' := [(3, .int 0), (2, .ref 90), (1, .ref 1), (0, .ref 0)]) (st' := [.int 0, .ref 0, .int 61, .ref 1]) (w' := (fw (sz a0 61 a2 a3 a4 a5))) (cs' := 109) (ss' := 12668) ?_ (fun _ _ => rfl)
  refine go_seg 3 (pc' := 223) (ls' := [(3, .int 0), (2, .ref 90), (1, .ref 1), (0, .ref 0)]) (st' := [.int a2, .int 61, .ref 1]) (w' := (fw (sz a0 61 a2 a3 a4 a5))) (cs' := 109) (ss' := 12668) ?_ (fun _ _ => rfl)
  refine go_cl (k := 20) (st' := [.int (-1)]) (cs' := 109) (ss' := 12668) rfl rfl rfl rfl rfl rfl rfl (ro_1682 (sz a0 61 a2 a3 a4 a5) a2 (by omega) (by omega)) ?_
  refine go_seg 8 (pc' := 234) (ls' := [(3, .int 0), (2, .ref 90), (1, .ref 1), (0, .ref 0)]) (st' := [.int 0, .ref 0, .int 61, .ref 90, .int (-1)]) (w' := (wd_1338 (sz a0 61 a2 a3 a4 a5) a2)) (cs' := 109) (ss' := 12668) ?_ (fun _ _ => rfl)
  refine go_seg 3 (pc' := 237) (ls' := [(3, .int 0), (2, .ref 90), (1, .ref 1), (0, .ref 0)]) (st' := [.int a2, .int 61, .ref 90, .int (-1)]) (w' := (wd_1338 (sz a0 61 a2 a3 a4 a5) a2)) (cs' := 109) (ss' := 12668) ?_ (fun _ _ => rfl)
  refine go_cl (k := 20) (st' := [.int (-1), .int (-1)]) (cs' := 109) (ss' := 12668) rfl rfl rfl rfl rfl rfl rfl (ro_1687 (sz a0 61 a2 a3 a4 a5) a2 (by omega) (by omega)) ?_
  refine go_cmp true rfl (br_self _) ?_
  exact law_tail (f := sc a0 61 a2 a3 a4 a5) rfl
theorem ro_1689 (z : pq_C) : pq_Ru 1 13 [.int 62] (fw z) (some (.int 1), (fw z)) := by
  refine ru_of (k := 0) (M := pm_13) rfl rfl ?_
  exact go_end 8 (fun _ _ => rfl)
def wd_1340 (z : pq_C) (a2 : Int32) : pq_W := ((fw z).set 3 (.inl (.int, 64, .inl (upd (fl_c 64 (-1) (fun _ => 0)) 62 a2))))
theorem ro_1690 (z : pq_C) (a2 : Int32) (h0 : -1 ≤ a2.toInt) (h1 : a2.toInt < 8) : pq_Ru 2 12 [.ref 1, .int 62, .int a2] (fw z) (some (.int (-1)), (wd_1340 z a2)) := by
  refine ru_of (k := 1) (M := pm_12) rfl rfl ?_
  refine go_seg 1 (pc' := 1) (ls' := [(0, .ref 1), (1, .int 62), (2, .int a2)]) (st' := [.int 62]) (w' := (fw z)) (cs' := 0) (ss' := 0) ?_ (fun _ _ => rfl)
  refine go_cl (k := 1) (st' := [.int 1]) (cs' := 0) (ss' := 0) rfl rfl rfl rfl rfl rfl rfl (ro_1689 z) ?_
  refine go_seg 2 (pc' := 8) (ls' := [(0, .ref 1), (1, .int 62), (2, .int a2)]) (st' := [.int a2]) (w' := (fw z)) (cs' := 0) (ss' := 0) ?_ (fun _ _ => rfl)
  refine go_cl (k := 1) (st' := [.int 1]) (cs' := 0) (ss' := 0) rfl rfl rfl rfl rfl rfl rfl (ro_1193 z a2 (by omega) (by omega)) ?_
  refine go_seg 8 (pc' := 31) (ls' := [(3, .int (-1)), (0, .ref 1), (1, .int 62), (2, .int a2)]) (st' := [.ref 1]) (w' := (fw z)) (cs' := 0) (ss' := 0) ?_ (fun _ _ => rfl)
  exact go_end 7 (fun _ _ => rfl)
theorem ro_1692 (z : pq_C) (a2 : Int32) (h0 : -1 ≤ a2.toInt) (h1 : a2.toInt < 8) : pq_Ru 1 161 [.long 62, .long 0, .long 63] (wd_1340 z a2) (some (.int 1), (wd_1340 z a2)) := by
  refine ru_of (k := 0) (M := pm_161) rfl rfl ?_
  refine go_seg 8 (pc' := 13) (ls' := [(0, .long 62), (2, .long 0), (4, .long 63)]) (st' := []) (w' := (wd_1340 z a2)) (cs' := 0) (ss' := 0) ?_ (fun _ _ => rfl)
  exact go_end 3 (fun _ _ => rfl)
theorem ro_1693 (z : pq_C) (a2 : Int32) (h0 : -1 ≤ a2.toInt) (h1 : a2.toInt < 8) : pq_Ru 2 160 [.int 62] (wd_1340 z a2) (some (.int 1), (wd_1340 z a2)) := by
  refine ru_of (k := 1) (M := pm_160) rfl rfl ?_
  refine go_seg 4 (pc' := 6) (ls' := [(0, .int 62)]) (st' := [.long 63, .long 0, .long 62]) (w' := (wd_1340 z a2)) (cs' := 0) (ss' := 0) ?_ (fun _ _ => rfl)
  refine go_cl (k := 1) (st' := [.int 1]) (cs' := 0) (ss' := 0) rfl rfl rfl rfl rfl rfl rfl (ro_1692 z a2 (by omega) (by omega)) ?_
  exact go_end 1 (fun _ _ => rfl)
def wd_1341 (z : pq_C) (a2 : Int32) : pq_W := ((wd_1340 z a2).set 91 (.inl (.int, 2858, .inl (upd (upd (upd (upd (upd (upd (upd (upd (upd (upd (upd (upd (upd (upd (upd (upd (upd (upd (upd (upd (upd (upd (upd (upd (upd (upd (upd (upd (upd (upd (upd (upd (upd (upd (upd (upd (upd (upd (upd (upd (upd (upd (upd (upd (upd (upd (upd (upd (upd (upd (upd (upd (upd (upd (upd (upd (upd (upd (upd (upd (upd (upd (upd (upd (upd (upd (upd (upd (upd (upd (upd (upd (upd (upd (upd (upd (upd (upd (upd (upd (upd (upd (fun _ => 0) 1 10) 10 (-1)) 11 (-1)) 12 (-1)) 13 (-1)) 14 (-1)) 15 (-1)) 16 (-1)) 17 (-1)) 18 (-1)) 19 (-1)) 20 (-1)) 21 (-1)) 22 (-1)) 23 (-1)) 24 (-1)) 25 (-1)) 26 (-1)) 27 (-1)) 28 (-1)) 29 (-1)) 30 (-1)) 31 (-1)) 32 (-1)) 33 (-1)) 34 (-1)) 35 (-1)) 36 (-1)) 37 (-1)) 38 (-1)) 39 (-1)) 40 (-1)) 41 (-1)) 42 (-1)) 43 (-1)) 44 (-1)) 45 (-1)) 46 (-1)) 47 (-1)) 48 (-1)) 49 (-1)) 50 (-1)) 51 (-1)) 52 (-1)) 53 (-1)) 54 (-1)) 55 (-1)) 56 (-1)) 57 (-1)) 58 (-1)) 59 (-1)) 60 (-1)) 61 (-1)) 62 (-1)) 63 (-1)) 64 (-1)) 65 (-1)) 66 (-1)) 67 (-1)) 68 (-1)) 69 (-1)) 70 (-1)) 71 (-1)) 72 (-1)) 73 (-1)) 139 1000) 140 100) 145 1000) 146 100) 151 1000) 152 100) 157 1000) 158 100) 163 1000) 164 100) 169 1000) 170 100) 175 1000) 176 100) 181 1000) 182 100) 72 a2))))
theorem ro_1695 (z : pq_C) (a2 : Int32) (h0 : -1 ≤ a2.toInt) (h1 : a2.toInt < 8) : pq_Ru 3 159 [.ref 90, .int 62, .int a2] (wd_1340 z a2) (some (.int (-1)), (wd_1341 z a2)) := by
  refine ru_of (k := 2) (M := pm_159) rfl rfl ?_
  refine go_seg 1 (pc' := 1) (ls' := [(0, .ref 90), (1, .int 62), (2, .int a2)]) (st' := [.int 62]) (w' := (wd_1340 z a2)) (cs' := 0) (ss' := 0) ?_ (fun _ _ => rfl)
  refine go_cl (k := 2) (st' := [.int 1]) (cs' := 0) (ss' := 0) rfl rfl rfl rfl rfl rfl rfl (ro_1693 z a2 (by omega) (by omega)) ?_
  refine go_seg 5 (pc' := 15) (ls' := [(0, .ref 90), (1, .int 62), (2, .int a2)]) (st' := [.long 7, .long (-1), .long a2.toInt64]) (w' := (wd_1340 z a2)) (cs' := 0) (ss' := 0) ?_ (fun _ _ => rfl)
  refine go_cl (k := 2) (st' := [.int 1]) (cs' := 0) (ss' := 0) rfl rfl rfl rfl rfl rfl rfl (wi_t _ a2 (-1) 7 (-1) 7 rfl rfl (by omega)) ?_
  refine go_seg 8 (pc' := 38) (ls' := [(3, .int (-1)), (0, .ref 90), (1, .int 62), (2, .int a2)]) (st' := []) (w' := (wd_1340 z a2)) (cs' := 0) (ss' := 0) ?_ (fun _ _ => rfl)
  refine go_seg 8 (pc' := 49) (ls' := [(3, .int (-1)), (0, .ref 90), (1, .int 62), (2, .int a2)]) (st' := [.int (-1)]) (w' := (wd_1341 z a2)) (cs' := 0) (ss' := 0) ?_ (fun _ _ => rfl)
  exact go_end 1 (fun _ _ => rfl)
theorem lf_0_1696 (a0 : Int32) (a2 : Int32) (a3 : Int32) (a4 : Int32) (a5 : Int32) (h0 : -1 ≤ a2.toInt) (h1 : a2.toInt < 8) : ∃ w', pq_Go 20 pm_law 212 [(3, .int 0), (2, .ref 90), (1, .ref 1), (0, .ref 0)] [] (fw (sz a0 62 a2 a3 a4 a5)) 109 12668 (some (.int 1), w') := by
  refine ⟨(wd_1341 (sz a0 62 a2 a3 a4 a5) a2), ?_⟩
  refine go_seg 8 (pc' := 220) (ls' := [(3, .int 0), (2, .ref 90), (1, .ref 1), (0, .ref 0)]) (st' := [.int 0, .ref 0, .int 62, .ref 1]) (w' := (fw (sz a0 62 a2 a3 a4 a5))) (cs' := 109) (ss' := 12668) ?_ (fun _ _ => rfl)
  refine go_seg 3 (pc' := 223) (ls' := [(3, .int 0), (2, .ref 90), (1, .ref 1), (0, .ref 0)]) (st' := [.int a2, .int 62, .ref 1]) (w' := (fw (sz a0 62 a2 a3 a4 a5))) (cs' := 109) (ss' := 12668) ?_ (fun _ _ => rfl)
  refine go_cl (k := 20) (st' := [.int (-1)]) (cs' := 109) (ss' := 12668) rfl rfl rfl rfl rfl rfl rfl (ro_1690 (sz a0 62 a2 a3 a4 a5) a2 (by omega) (by omega)) ?_
  refine go_seg 8 (pc' := 234) (ls' := [(3, .int 0), (2, .ref 90), (1, .ref 1), (0, .ref 0)]) (st' := [.int 0, .ref 0, .int 62, .ref 90, .int (-1)]) (w' := (wd_1340 (sz a0 62 a2 a3 a4 a5) a2)) (cs' := 109) (ss' := 12668) ?_ (fun _ _ => rfl)
  refine go_seg 3 (pc' := 237) (ls' := [(3, .int 0), (2, .ref 90), (1, .ref 1), (0, .ref 0)]) (st' := [.int a2, .int 62, .ref 90, .int (-1)]) (w' := (wd_1340 (sz a0 62 a2 a3 a4 a5) a2)) (cs' := 109) (ss' := 12668) ?_ (fun _ _ => rfl)
  refine go_cl (k := 20) (st' := [.int (-1), .int (-1)]) (cs' := 109) (ss' := 12668) rfl rfl rfl rfl rfl rfl rfl (ro_1695 (sz a0 62 a2 a3 a4 a5) a2 (by omega) (by omega)) ?_
  refine go_cmp true rfl (br_self _) ?_
  exact law_tail (f := sc a0 62 a2 a3 a4 a5) rfl
theorem ro_1697 (z : pq_C) : pq_Ru 1 13 [.int 63] (fw z) (some (.int 1), (fw z)) := by
  refine ru_of (k := 0) (M := pm_13) rfl rfl ?_
  exact go_end 8 (fun _ _ => rfl)
def wd_1342 (z : pq_C) (a2 : Int32) : pq_W := ((fw z).set 3 (.inl (.int, 64, .inl (upd (fl_c 64 (-1) (fun _ => 0)) 63 a2))))
theorem ro_1698 (z : pq_C) (a2 : Int32) (h0 : -1 ≤ a2.toInt) (h1 : a2.toInt < 8) : pq_Ru 2 12 [.ref 1, .int 63, .int a2] (fw z) (some (.int (-1)), (wd_1342 z a2)) := by
  refine ru_of (k := 1) (M := pm_12) rfl rfl ?_
  refine go_seg 1 (pc' := 1) (ls' := [(0, .ref 1), (1, .int 63), (2, .int a2)]) (st' := [.int 63]) (w' := (fw z)) (cs' := 0) (ss' := 0) ?_ (fun _ _ => rfl)
  refine go_cl (k := 1) (st' := [.int 1]) (cs' := 0) (ss' := 0) rfl rfl rfl rfl rfl rfl rfl (ro_1697 z) ?_
  refine go_seg 2 (pc' := 8) (ls' := [(0, .ref 1), (1, .int 63), (2, .int a2)]) (st' := [.int a2]) (w' := (fw z)) (cs' := 0) (ss' := 0) ?_ (fun _ _ => rfl)
  refine go_cl (k := 1) (st' := [.int 1]) (cs' := 0) (ss' := 0) rfl rfl rfl rfl rfl rfl rfl (ro_1193 z a2 (by omega) (by omega)) ?_
  refine go_seg 8 (pc' := 31) (ls' := [(3, .int (-1)), (0, .ref 1), (1, .int 63), (2, .int a2)]) (st' := [.ref 1]) (w' := (fw z)) (cs' := 0) (ss' := 0) ?_ (fun _ _ => rfl)
  exact go_end 7 (fun _ _ => rfl)
theorem ro_1700 (z : pq_C) (a2 : Int32) (h0 : -1 ≤ a2.toInt) (h1 : a2.toInt < 8) : pq_Ru 1 161 [.long 63, .long 0, .long 63] (wd_1342 z a2) (some (.int 1), (wd_1342 z a2)) := by
  refine ru_of (k := 0) (M := pm_161) rfl rfl ?_
  refine go_seg 8 (pc' := 13) (ls' := [(0, .long 63), (2, .long 0), (4, .long 63)]) (st' := []) (w' := (wd_1342 z a2)) (cs' := 0) (ss' := 0) ?_ (fun _ _ => rfl)
  exact go_end 3 (fun _ _ => rfl)
theorem ro_1701 (z : pq_C) (a2 : Int32) (h0 : -1 ≤ a2.toInt) (h1 : a2.toInt < 8) : pq_Ru 2 160 [.int 63] (wd_1342 z a2) (some (.int 1), (wd_1342 z a2)) := by
  refine ru_of (k := 1) (M := pm_160) rfl rfl ?_
  refine go_seg 4 (pc' := 6) (ls' := [(0, .int 63)]) (st' := [.long 63, .long 0, .long 63]) (w' := (wd_1342 z a2)) (cs' := 0) (ss' := 0) ?_ (fun _ _ => rfl)
  refine go_cl (k := 1) (st' := [.int 1]) (cs' := 0) (ss' := 0) rfl rfl rfl rfl rfl rfl rfl (ro_1700 z a2 (by omega) (by omega)) ?_
  exact go_end 1 (fun _ _ => rfl)
def wd_1343 (z : pq_C) (a2 : Int32) : pq_W := ((wd_1342 z a2).set 91 (.inl (.int, 2858, .inl (upd (upd (upd (upd (upd (upd (upd (upd (upd (upd (upd (upd (upd (upd (upd (upd (upd (upd (upd (upd (upd (upd (upd (upd (upd (upd (upd (upd (upd (upd (upd (upd (upd (upd (upd (upd (upd (upd (upd (upd (upd (upd (upd (upd (upd (upd (upd (upd (upd (upd (upd (upd (upd (upd (upd (upd (upd (upd (upd (upd (upd (upd (upd (upd (upd (upd (upd (upd (upd (upd (upd (upd (upd (upd (upd (upd (upd (upd (upd (upd (upd (upd (fun _ => 0) 1 10) 10 (-1)) 11 (-1)) 12 (-1)) 13 (-1)) 14 (-1)) 15 (-1)) 16 (-1)) 17 (-1)) 18 (-1)) 19 (-1)) 20 (-1)) 21 (-1)) 22 (-1)) 23 (-1)) 24 (-1)) 25 (-1)) 26 (-1)) 27 (-1)) 28 (-1)) 29 (-1)) 30 (-1)) 31 (-1)) 32 (-1)) 33 (-1)) 34 (-1)) 35 (-1)) 36 (-1)) 37 (-1)) 38 (-1)) 39 (-1)) 40 (-1)) 41 (-1)) 42 (-1)) 43 (-1)) 44 (-1)) 45 (-1)) 46 (-1)) 47 (-1)) 48 (-1)) 49 (-1)) 50 (-1)) 51 (-1)) 52 (-1)) 53 (-1)) 54 (-1)) 55 (-1)) 56 (-1)) 57 (-1)) 58 (-1)) 59 (-1)) 60 (-1)) 61 (-1)) 62 (-1)) 63 (-1)) 64 (-1)) 65 (-1)) 66 (-1)) 67 (-1)) 68 (-1)) 69 (-1)) 70 (-1)) 71 (-1)) 72 (-1)) 73 (-1)) 139 1000) 140 100) 145 1000) 146 100) 151 1000) 152 100) 157 1000) 158 100) 163 1000) 164 100) 169 1000) 170 100) 175 1000) 176 100) 181 1000) 182 100) 73 a2))))
theorem ro_1703 (z : pq_C) (a2 : Int32) (h0 : -1 ≤ a2.toInt) (h1 : a2.toInt < 8) : pq_Ru 3 159 [.ref 90, .int 63, .int a2] (wd_1342 z a2) (some (.int (-1)), (wd_1343 z a2)) := by
  refine ru_of (k := 2) (M := pm_159) rfl rfl ?_
  refine go_seg 1 (pc' := 1) (ls' := [(0, .ref 90), (1, .int 63), (2, .int a2)]) (st' := [.int 63]) (w' := (wd_1342 z a2)) (cs' := 0) (ss' := 0) ?_ (fun _ _ => rfl)
  refine go_cl (k := 2) (st' := [.int 1]) (cs' := 0) (ss' := 0) rfl rfl rfl rfl rfl rfl rfl (ro_1701 z a2 (by omega) (by omega)) ?_
  refine go_seg 5 (pc' := 15) (ls' := [(0, .ref 90), (1, .int 63), (2, .int a2)]) (st' := [.long 7, .long (-1), .long a2.toInt64]) (w' := (wd_1342 z a2)) (cs' := 0) (ss' := 0) ?_ (fun _ _ => rfl)
  refine go_cl (k := 2) (st' := [.int 1]) (cs' := 0) (ss' := 0) rfl rfl rfl rfl rfl rfl rfl (wi_t _ a2 (-1) 7 (-1) 7 rfl rfl (by omega)) ?_
  refine go_seg 8 (pc' := 38) (ls' := [(3, .int (-1)), (0, .ref 90), (1, .int 63), (2, .int a2)]) (st' := []) (w' := (wd_1342 z a2)) (cs' := 0) (ss' := 0) ?_ (fun _ _ => rfl)
  refine go_seg 8 (pc' := 49) (ls' := [(3, .int (-1)), (0, .ref 90), (1, .int 63), (2, .int a2)]) (st' := [.int (-1)]) (w' := (wd_1343 z a2)) (cs' := 0) (ss' := 0) ?_ (fun _ _ => rfl)
  exact go_end 1 (fun _ _ => rfl)
theorem lf_0_1704 (a0 : Int32) (a2 : Int32) (a3 : Int32) (a4 : Int32) (a5 : Int32) (h0 : -1 ≤ a2.toInt) (h1 : a2.toInt < 8) : ∃ w', pq_Go 20 pm_law 212 [(3, .int 0), (2, .ref 90), (1, .ref 1), (0, .ref 0)] [] (fw (sz a0 63 a2 a3 a4 a5)) 109 12668 (some (.int 1), w') := by
  refine ⟨(wd_1343 (sz a0 63 a2 a3 a4 a5) a2), ?_⟩
  refine go_seg 8 (pc' := 220) (ls' := [(3, .int 0), (2, .ref 90), (1, .ref 1), (0, .ref 0)]) (st' := [.int 0, .ref 0, .int 63, .ref 1]) (w' := (fw (sz a0 63 a2 a3 a4 a5))) (cs' := 109) (ss' := 12668) ?_ (fun _ _ => rfl)
  refine go_seg 3 (pc' := 223) (ls' := [(3, .int 0), (2, .ref 90), (1, .ref 1), (0, .ref 0)]) (st' := [.int a2, .int 63, .ref 1]) (w' := (fw (sz a0 63 a2 a3 a4 a5))) (cs' := 109) (ss' := 12668) ?_ (fun _ _ => rfl)
  refine go_cl (k := 20) (st' := [.int (-1)]) (cs' := 109) (ss' := 12668) rfl rfl rfl rfl rfl rfl rfl (ro_1698 (sz a0 63 a2 a3 a4 a5) a2 (by omega) (by omega)) ?_
  refine go_seg 8 (pc' := 234) (ls' := [(3, .int 0), (2, .ref 90), (1, .ref 1), (0, .ref 0)]) (st' := [.int 0, .ref 0, .int 63, .ref 90, .int (-1)]) (w' := (wd_1342 (sz a0 63 a2 a3 a4 a5) a2)) (cs' := 109) (ss' := 12668) ?_ (fun _ _ => rfl)
  refine go_seg 3 (pc' := 237) (ls' := [(3, .int 0), (2, .ref 90), (1, .ref 1), (0, .ref 0)]) (st' := [.int a2, .int 63, .ref 90, .int (-1)]) (w' := (wd_1342 (sz a0 63 a2 a3 a4 a5) a2)) (cs' := 109) (ss' := 12668) ?_ (fun _ _ => rfl)
  refine go_cl (k := 20) (st' := [.int (-1), .int (-1)]) (cs' := 109) (ss' := 12668) rfl rfl rfl rfl rfl rfl rfl (ro_1703 (sz a0 63 a2 a3 a4 a5) a2 (by omega) (by omega)) ?_
  refine go_cmp true rfl (br_self _) ?_
  exact law_tail (f := sc a0 63 a2 a3 a4 a5) rfl
theorem ro_1705 (z : pq_C) (a2 : Int32) (h0 : -1 ≤ a2.toInt) (h1 : 8 ≤ a2.toInt) : pq_Ru 1 14 [.int a2] (fw z) (some (.int 0), (fw z)) := by
  refine ru_of (k := 0) (M := pm_14) rfl rfl ?_
  refine go_seg 2 (pc' := 2) (ls' := [(0, .int a2)]) (st' := [.int (-1), .int a2]) (w' := (fw z)) (cs' := 0) (ss' := 0) ?_ (fun _ _ => rfl)
  refine go_cmp false rfl (br_lt_f (b := -1) rfl (by omega)) ?_
  refine go_seg 2 (pc' := 8) (ls' := [(0, .int a2)]) (st' := [.int 8, .int a2]) (w' := (fw z)) (cs' := 0) (ss' := 0) ?_ (fun _ _ => rfl)
  refine go_cmp true rfl (br_ge_t (b := 8) rfl (by omega)) ?_
  exact go_end 2 (fun _ _ => rfl)
theorem ro_1706 (z : pq_C) (a1 : Int32) (a2 : Int32) (h0 : 0 ≤ a1.toInt) (h1 : a1.toInt < 64) (h2 : -1 ≤ a2.toInt) (h3 : 8 ≤ a2.toInt) : pq_Ru 3 12 [.ref 1, .int a1, .int a2] (fw z) (some (.int (-1000001)), (wd_1000 z)) := by
  refine ru_of (k := 2) (M := pm_12) rfl rfl ?_
  refine go_seg 1 (pc' := 1) (ls' := [(0, .ref 1), (1, .int a1), (2, .int a2)]) (st' := [.int a1]) (w' := (fw z)) (cs' := 0) (ss' := 0) ?_ (fun _ _ => rfl)
  refine go_cl (k := 2) (st' := [.int 1]) (cs' := 0) (ss' := 0) rfl rfl rfl rfl rfl rfl rfl (ro_1186 z a1 (by omega) (by omega)) ?_
  refine go_seg 2 (pc' := 8) (ls' := [(0, .ref 1), (1, .int a1), (2, .int a2)]) (st' := [.int a2]) (w' := (fw z)) (cs' := 0) (ss' := 0) ?_ (fun _ _ => rfl)
  refine go_cl (k := 2) (st' := [.int 0]) (cs' := 0) (ss' := 0) rfl rfl rfl rfl rfl rfl rfl (ro_1705 z a2 (by omega) (by omega)) ?_
  refine go_seg 3 (pc' := 16) (ls' := [(0, .ref 1), (1, .int a1), (2, .int a2)]) (st' := [.int 1, .ref 1]) (w' := (fw z)) (cs' := 0) (ss' := 0) ?_ (fun _ _ => rfl)
  refine go_cl (k := 2) (st' := [.int (-1000001)]) (cs' := 0) (ss' := 0) rfl rfl rfl rfl rfl rfl rfl (ro_2 z) ?_
  exact go_end 1 (fun _ _ => rfl)
theorem ro_1707 (z : pq_C) (a1 : Int32) (a2 : Int32) (h0 : 0 ≤ a1.toInt) (h1 : a1.toInt < 64) (h2 : -1 ≤ a2.toInt) (h3 : 8 ≤ a2.toInt) : pq_Ru 3 159 [.ref 90, .int a1, .int a2] (wd_1000 z) (some (.int (-1000001)), (wd_1001 z)) := by
  refine ru_of (k := 2) (M := pm_159) rfl rfl ?_
  refine go_seg 1 (pc' := 1) (ls' := [(0, .ref 90), (1, .int a1), (2, .int a2)]) (st' := [.int a1]) (w' := (wd_1000 z)) (cs' := 0) (ss' := 0) ?_ (fun _ _ => rfl)
  refine go_cl (k := 2) (st' := [.int 1]) (cs' := 0) (ss' := 0) rfl rfl rfl rfl rfl rfl rfl (ro_1189 z a1 (by omega) (by omega)) ?_
  refine go_seg 5 (pc' := 15) (ls' := [(0, .ref 90), (1, .int a1), (2, .int a2)]) (st' := [.long 7, .long (-1), .long a2.toInt64]) (w' := (wd_1000 z)) (cs' := 0) (ss' := 0) ?_ (fun _ _ => rfl)
  refine go_cl (k := 2) (st' := [.int 0]) (cs' := 0) (ss' := 0) rfl rfl rfl rfl rfl rfl rfl (wi_f _ a2 (-1) 7 (-1) 7 rfl rfl (by omega)) ?_
  refine go_seg 3 (pc' := 24) (ls' := [(0, .ref 90), (1, .int a1), (2, .int a2)]) (st' := [.int (-1000001), .ref 90]) (w' := (wd_1000 z)) (cs' := 0) (ss' := 0) ?_ (fun _ _ => rfl)
  refine go_cl (k := 2) (st' := [.int (-1000001)]) (cs' := 0) (ss' := 0) rfl rfl rfl rfl rfl rfl rfl (ro_5 z) ?_
  exact go_end 1 (fun _ _ => rfl)
theorem lf_0_1708 (a0 : Int32) (a1 : Int32) (a2 : Int32) (a3 : Int32) (a4 : Int32) (a5 : Int32) (h0 : 0 ≤ a1.toInt) (h1 : a1.toInt < 64) (h2 : -1 ≤ a2.toInt) (h3 : 8 ≤ a2.toInt) : ∃ w', pq_Go 20 pm_law 212 [(3, .int 0), (2, .ref 90), (1, .ref 1), (0, .ref 0)] [] (fw (sz a0 a1 a2 a3 a4 a5)) 109 12668 (some (.int 1), w') := by
  refine ⟨(wd_1001 (sz a0 a1 a2 a3 a4 a5)), ?_⟩
  refine go_seg 8 (pc' := 220) (ls' := [(3, .int 0), (2, .ref 90), (1, .ref 1), (0, .ref 0)]) (st' := [.int 0, .ref 0, .int a1, .ref 1]) (w' := (fw (sz a0 a1 a2 a3 a4 a5))) (cs' := 109) (ss' := 12668) ?_ (fun _ _ => rfl)
  refine go_seg 3 (pc' := 223) (ls' := [(3, .int 0), (2, .ref 90), (1, .ref 1), (0, .ref 0)]) (st' := [.int a2, .int a1, .ref 1]) (w' := (fw (sz a0 a1 a2 a3 a4 a5))) (cs' := 109) (ss' := 12668) ?_ (fun _ _ => rfl)
  refine go_cl (k := 20) (st' := [.int (-1000001)]) (cs' := 109) (ss' := 12668) rfl rfl rfl rfl rfl rfl rfl (ro_1706 (sz a0 a1 a2 a3 a4 a5) a1 a2 (by omega) (by omega) (by omega) (by omega)) ?_
  refine go_seg 8 (pc' := 234) (ls' := [(3, .int 0), (2, .ref 90), (1, .ref 1), (0, .ref 0)]) (st' := [.int 0, .ref 0, .int a1, .ref 90, .int (-1000001)]) (w' := (wd_1000 (sz a0 a1 a2 a3 a4 a5))) (cs' := 109) (ss' := 12668) ?_ (fun _ _ => rfl)
  refine go_seg 3 (pc' := 237) (ls' := [(3, .int 0), (2, .ref 90), (1, .ref 1), (0, .ref 0)]) (st' := [.int a2, .int a1, .ref 90, .int (-1000001)]) (w' := (wd_1000 (sz a0 a1 a2 a3 a4 a5))) (cs' := 109) (ss' := 12668) ?_ (fun _ _ => rfl)
  refine go_cl (k := 20) (st' := [.int (-1000001), .int (-1000001)]) (cs' := 109) (ss' := 12668) rfl rfl rfl rfl rfl rfl rfl (ro_1707 (sz a0 a1 a2 a3 a4 a5) a1 a2 (by omega) (by omega) (by omega) (by omega)) ?_
  refine go_cmp true rfl (br_self _) ?_
  exact law_tail (f := sc a0 a1 a2 a3 a4 a5) rfl
theorem ro_1709 (z : pq_C) (a1 : Int32) (h0 : 0 ≤ a1.toInt) (h1 : 64 ≤ a1.toInt) : pq_Ru 1 13 [.int a1] (fw z) (some (.int 0), (fw z)) := by
  refine ru_of (k := 0) (M := pm_13) rfl rfl ?_
  refine go_seg 1 (pc' := 1) (ls' := [(0, .int a1)]) (st' := [.int a1]) (w' := (fw z)) (cs' := 0) (ss' := 0) ?_ (fun _ _ => rfl)
  refine go_if false rfl (br_lt_f (b := 0) rfl (by omega)) ?_
  refine go_seg 2 (pc' := 7) (ls' := [(0, .int a1)]) (st' := [.int 64, .int a1]) (w' := (fw z)) (cs' := 0) (ss' := 0) ?_ (fun _ _ => rfl)
  refine go_cmp true rfl (br_ge_t (b := 64) rfl (by omega)) ?_
  exact go_end 2 (fun _ _ => rfl)
theorem ro_1710 (z : pq_C) (a1 : Int32) (a2 : Int32) (h0 : 0 ≤ a1.toInt) (h1 : 64 ≤ a1.toInt) : pq_Ru 3 12 [.ref 1, .int a1, .int a2] (fw z) (some (.int (-1000001)), (wd_1000 z)) := by
  refine ru_of (k := 2) (M := pm_12) rfl rfl ?_
  refine go_seg 1 (pc' := 1) (ls' := [(0, .ref 1), (1, .int a1), (2, .int a2)]) (st' := [.int a1]) (w' := (fw z)) (cs' := 0) (ss' := 0) ?_ (fun _ _ => rfl)
  refine go_cl (k := 2) (st' := [.int 0]) (cs' := 0) (ss' := 0) rfl rfl rfl rfl rfl rfl rfl (ro_1709 z a1 (by omega) (by omega)) ?_
  refine go_seg 3 (pc' := 16) (ls' := [(0, .ref 1), (1, .int a1), (2, .int a2)]) (st' := [.int 1, .ref 1]) (w' := (fw z)) (cs' := 0) (ss' := 0) ?_ (fun _ _ => rfl)
  refine go_cl (k := 2) (st' := [.int (-1000001)]) (cs' := 0) (ss' := 0) rfl rfl rfl rfl rfl rfl rfl (ro_2 z) ?_
  exact go_end 1 (fun _ _ => rfl)
theorem ro_1711 (z : pq_C) (a1 : Int32) (h0 : 0 ≤ a1.toInt) (h1 : 64 ≤ a1.toInt) : pq_Ru 2 160 [.int a1] (wd_1000 z) (some (.int 0), (wd_1000 z)) := by
  refine ru_of (k := 1) (M := pm_160) rfl rfl ?_
  refine go_seg 4 (pc' := 6) (ls' := [(0, .int a1)]) (st' := [.long 63, .long 0, .long a1.toInt64]) (w' := (wd_1000 z)) (cs' := 0) (ss' := 0) ?_ (fun _ _ => rfl)
  refine go_cl (k := 1) (st' := [.int 0]) (cs' := 0) (ss' := 0) rfl rfl rfl rfl rfl rfl rfl (wi_f _ a1 0 63 0 63 rfl rfl (by omega)) ?_
  exact go_end 1 (fun _ _ => rfl)
theorem ro_1712 (z : pq_C) (a1 : Int32) (a2 : Int32) (h0 : 0 ≤ a1.toInt) (h1 : 64 ≤ a1.toInt) : pq_Ru 3 159 [.ref 90, .int a1, .int a2] (wd_1000 z) (some (.int (-1000001)), (wd_1001 z)) := by
  refine ru_of (k := 2) (M := pm_159) rfl rfl ?_
  refine go_seg 1 (pc' := 1) (ls' := [(0, .ref 90), (1, .int a1), (2, .int a2)]) (st' := [.int a1]) (w' := (wd_1000 z)) (cs' := 0) (ss' := 0) ?_ (fun _ _ => rfl)
  refine go_cl (k := 2) (st' := [.int 0]) (cs' := 0) (ss' := 0) rfl rfl rfl rfl rfl rfl rfl (ro_1711 z a1 (by omega) (by omega)) ?_
  refine go_seg 3 (pc' := 24) (ls' := [(0, .ref 90), (1, .int a1), (2, .int a2)]) (st' := [.int (-1000001), .ref 90]) (w' := (wd_1000 z)) (cs' := 0) (ss' := 0) ?_ (fun _ _ => rfl)
  refine go_cl (k := 2) (st' := [.int (-1000001)]) (cs' := 0) (ss' := 0) rfl rfl rfl rfl rfl rfl rfl (ro_5 z) ?_
  exact go_end 1 (fun _ _ => rfl)
theorem lf_0_1713 (a0 : Int32) (a1 : Int32) (a2 : Int32) (a3 : Int32) (a4 : Int32) (a5 : Int32) (h0 : 0 ≤ a1.toInt) (h1 : 64 ≤ a1.toInt) : ∃ w', pq_Go 20 pm_law 212 [(3, .int 0), (2, .ref 90), (1, .ref 1), (0, .ref 0)] [] (fw (sz a0 a1 a2 a3 a4 a5)) 109 12668 (some (.int 1), w') := by
  refine ⟨(wd_1001 (sz a0 a1 a2 a3 a4 a5)), ?_⟩
  refine go_seg 8 (pc' := 220) (ls' := [(3, .int 0), (2, .ref 90), (1, .ref 1), (0, .ref 0)]) (st' := [.int 0, .ref 0, .int a1, .ref 1]) (w' := (fw (sz a0 a1 a2 a3 a4 a5))) (cs' := 109) (ss' := 12668) ?_ (fun _ _ => rfl)
  refine go_seg 3 (pc' := 223) (ls' := [(3, .int 0), (2, .ref 90), (1, .ref 1), (0, .ref 0)]) (st' := [.int a2, .int a1, .ref 1]) (w' := (fw (sz a0 a1 a2 a3 a4 a5))) (cs' := 109) (ss' := 12668) ?_ (fun _ _ => rfl)
  refine go_cl (k := 20) (st' := [.int (-1000001)]) (cs' := 109) (ss' := 12668) rfl rfl rfl rfl rfl rfl rfl (ro_1710 (sz a0 a1 a2 a3 a4 a5) a1 a2 (by omega) (by omega)) ?_
  refine go_seg 8 (pc' := 234) (ls' := [(3, .int 0), (2, .ref 90), (1, .ref 1), (0, .ref 0)]) (st' := [.int 0, .ref 0, .int a1, .ref 90, .int (-1000001)]) (w' := (wd_1000 (sz a0 a1 a2 a3 a4 a5))) (cs' := 109) (ss' := 12668) ?_ (fun _ _ => rfl)
  refine go_seg 3 (pc' := 237) (ls' := [(3, .int 0), (2, .ref 90), (1, .ref 1), (0, .ref 0)]) (st' := [.int a2, .int a1, .ref 90, .int (-1000001)]) (w' := (wd_1000 (sz a0 a1 a2 a3 a4 a5))) (cs' := 109) (ss' := 12668) ?_ (fun _ _ => rfl)
  refine go_cl (k := 20) (st' := [.int (-1000001), .int (-1000001)]) (cs' := 109) (ss' := 12668) rfl rfl rfl rfl rfl rfl rfl (ro_1712 (sz a0 a1 a2 a3 a4 a5) a1 a2 (by omega) (by omega)) ?_
  refine go_cmp true rfl (br_self _) ?_
  exact law_tail (f := sc a0 a1 a2 a3 a4 a5) rfl
theorem op_0 (a0 a1 a2 a3 a4 a5 : Int32) : ∃ w', pq_Go 20 pm_law 212 [(3, .int 0), (2, .ref 90), (1, .ref 1), (0, .ref 0)] [] (fw (sz a0 a1 a2 a3 a4 a5)) 109 12668 (some (.int 1), w') := by
  by_cases c0 : a1.toInt < 0
  · exact lf_0_1185 a0 a1 a2 a3 a4 a5 (by omega)
  · by_cases c1 : a1.toInt < 64
    · by_cases c2 : a2.toInt < -1
      · exact lf_0_1191 a0 a1 a2 a3 a4 a5 (by omega) (by omega) (by omega)
      · by_cases c3 : a2.toInt < 8
        · by_cases e4_0 : a1 = 0
          · subst e4_0
            exact lf_0_1200 a0 a2 a3 a4 a5 (by omega) (by omega)
          replace e4_0 := ne_t (b := 0) rfl e4_0
          by_cases e4_1 : a1 = 1
          · subst e4_1
            exact lf_0_1208 a0 a2 a3 a4 a5 (by omega) (by omega)
          replace e4_1 := ne_t (b := 1) rfl e4_1
          by_cases e4_2 : a1 = 2
          · subst e4_2
            exact lf_0_1216 a0 a2 a3 a4 a5 (by omega) (by omega)
          replace e4_2 := ne_t (b := 2) rfl e4_2
          by_cases e4_3 : a1 = 3
          · subst e4_3
            exact lf_0_1224 a0 a2 a3 a4 a5 (by omega) (by omega)
          replace e4_3 := ne_t (b := 3) rfl e4_3
          by_cases e4_4 : a1 = 4
          · subst e4_4
            exact lf_0_1232 a0 a2 a3 a4 a5 (by omega) (by omega)
          replace e4_4 := ne_t (b := 4) rfl e4_4
          by_cases e4_5 : a1 = 5
          · subst e4_5
            exact lf_0_1240 a0 a2 a3 a4 a5 (by omega) (by omega)
          replace e4_5 := ne_t (b := 5) rfl e4_5
          by_cases e4_6 : a1 = 6
          · subst e4_6
            exact lf_0_1248 a0 a2 a3 a4 a5 (by omega) (by omega)
          replace e4_6 := ne_t (b := 6) rfl e4_6
          by_cases e4_7 : a1 = 7
          · subst e4_7
            exact lf_0_1256 a0 a2 a3 a4 a5 (by omega) (by omega)
          replace e4_7 := ne_t (b := 7) rfl e4_7
          by_cases e4_8 : a1 = 8
          · subst e4_8
            exact lf_0_1264 a0 a2 a3 a4 a5 (by omega) (by omega)
          replace e4_8 := ne_t (b := 8) rfl e4_8
          by_cases e4_9 : a1 = 9
          · subst e4_9
            exact lf_0_1272 a0 a2 a3 a4 a5 (by omega) (by omega)
          replace e4_9 := ne_t (b := 9) rfl e4_9
          by_cases e4_10 : a1 = 10
          · subst e4_10
            exact lf_0_1280 a0 a2 a3 a4 a5 (by omega) (by omega)
          replace e4_10 := ne_t (b := 10) rfl e4_10
          by_cases e4_11 : a1 = 11
          · subst e4_11
            exact lf_0_1288 a0 a2 a3 a4 a5 (by omega) (by omega)
          replace e4_11 := ne_t (b := 11) rfl e4_11
          by_cases e4_12 : a1 = 12
          · subst e4_12
            exact lf_0_1296 a0 a2 a3 a4 a5 (by omega) (by omega)
          replace e4_12 := ne_t (b := 12) rfl e4_12
          by_cases e4_13 : a1 = 13
          · subst e4_13
            exact lf_0_1304 a0 a2 a3 a4 a5 (by omega) (by omega)
          replace e4_13 := ne_t (b := 13) rfl e4_13
          by_cases e4_14 : a1 = 14
          · subst e4_14
            exact lf_0_1312 a0 a2 a3 a4 a5 (by omega) (by omega)
          replace e4_14 := ne_t (b := 14) rfl e4_14
          by_cases e4_15 : a1 = 15
          · subst e4_15
            exact lf_0_1320 a0 a2 a3 a4 a5 (by omega) (by omega)
          replace e4_15 := ne_t (b := 15) rfl e4_15
          by_cases e4_16 : a1 = 16
          · subst e4_16
            exact lf_0_1328 a0 a2 a3 a4 a5 (by omega) (by omega)
          replace e4_16 := ne_t (b := 16) rfl e4_16
          by_cases e4_17 : a1 = 17
          · subst e4_17
            exact lf_0_1336 a0 a2 a3 a4 a5 (by omega) (by omega)
          replace e4_17 := ne_t (b := 17) rfl e4_17
          by_cases e4_18 : a1 = 18
          · subst e4_18
            exact lf_0_1344 a0 a2 a3 a4 a5 (by omega) (by omega)
          replace e4_18 := ne_t (b := 18) rfl e4_18
          by_cases e4_19 : a1 = 19
          · subst e4_19
            exact lf_0_1352 a0 a2 a3 a4 a5 (by omega) (by omega)
          replace e4_19 := ne_t (b := 19) rfl e4_19
          by_cases e4_20 : a1 = 20
          · subst e4_20
            exact lf_0_1360 a0 a2 a3 a4 a5 (by omega) (by omega)
          replace e4_20 := ne_t (b := 20) rfl e4_20
          by_cases e4_21 : a1 = 21
          · subst e4_21
            exact lf_0_1368 a0 a2 a3 a4 a5 (by omega) (by omega)
          replace e4_21 := ne_t (b := 21) rfl e4_21
          by_cases e4_22 : a1 = 22
          · subst e4_22
            exact lf_0_1376 a0 a2 a3 a4 a5 (by omega) (by omega)
          replace e4_22 := ne_t (b := 22) rfl e4_22
          by_cases e4_23 : a1 = 23
          · subst e4_23
            exact lf_0_1384 a0 a2 a3 a4 a5 (by omega) (by omega)
          replace e4_23 := ne_t (b := 23) rfl e4_23
          by_cases e4_24 : a1 = 24
          · subst e4_24
            exact lf_0_1392 a0 a2 a3 a4 a5 (by omega) (by omega)
          replace e4_24 := ne_t (b := 24) rfl e4_24
          by_cases e4_25 : a1 = 25
          · subst e4_25
            exact lf_0_1400 a0 a2 a3 a4 a5 (by omega) (by omega)
          replace e4_25 := ne_t (b := 25) rfl e4_25
          by_cases e4_26 : a1 = 26
          · subst e4_26
            exact lf_0_1408 a0 a2 a3 a4 a5 (by omega) (by omega)
          replace e4_26 := ne_t (b := 26) rfl e4_26
          by_cases e4_27 : a1 = 27
          · subst e4_27
            exact lf_0_1416 a0 a2 a3 a4 a5 (by omega) (by omega)
          replace e4_27 := ne_t (b := 27) rfl e4_27
          by_cases e4_28 : a1 = 28
          · subst e4_28
            exact lf_0_1424 a0 a2 a3 a4 a5 (by omega) (by omega)
          replace e4_28 := ne_t (b := 28) rfl e4_28
          by_cases e4_29 : a1 = 29
          · subst e4_29
            exact lf_0_1432 a0 a2 a3 a4 a5 (by omega) (by omega)
          replace e4_29 := ne_t (b := 29) rfl e4_29
          by_cases e4_30 : a1 = 30
          · subst e4_30
            exact lf_0_1440 a0 a2 a3 a4 a5 (by omega) (by omega)
          replace e4_30 := ne_t (b := 30) rfl e4_30
          by_cases e4_31 : a1 = 31
          · subst e4_31
            exact lf_0_1448 a0 a2 a3 a4 a5 (by omega) (by omega)
          replace e4_31 := ne_t (b := 31) rfl e4_31
          by_cases e4_32 : a1 = 32
          · subst e4_32
            exact lf_0_1456 a0 a2 a3 a4 a5 (by omega) (by omega)
          replace e4_32 := ne_t (b := 32) rfl e4_32
          by_cases e4_33 : a1 = 33
          · subst e4_33
            exact lf_0_1464 a0 a2 a3 a4 a5 (by omega) (by omega)
          replace e4_33 := ne_t (b := 33) rfl e4_33
          by_cases e4_34 : a1 = 34
          · subst e4_34
            exact lf_0_1472 a0 a2 a3 a4 a5 (by omega) (by omega)
          replace e4_34 := ne_t (b := 34) rfl e4_34
          by_cases e4_35 : a1 = 35
          · subst e4_35
            exact lf_0_1480 a0 a2 a3 a4 a5 (by omega) (by omega)
          replace e4_35 := ne_t (b := 35) rfl e4_35
          by_cases e4_36 : a1 = 36
          · subst e4_36
            exact lf_0_1488 a0 a2 a3 a4 a5 (by omega) (by omega)
          replace e4_36 := ne_t (b := 36) rfl e4_36
          by_cases e4_37 : a1 = 37
          · subst e4_37
            exact lf_0_1496 a0 a2 a3 a4 a5 (by omega) (by omega)
          replace e4_37 := ne_t (b := 37) rfl e4_37
          by_cases e4_38 : a1 = 38
          · subst e4_38
            exact lf_0_1504 a0 a2 a3 a4 a5 (by omega) (by omega)
          replace e4_38 := ne_t (b := 38) rfl e4_38
          by_cases e4_39 : a1 = 39
          · subst e4_39
            exact lf_0_1512 a0 a2 a3 a4 a5 (by omega) (by omega)
          replace e4_39 := ne_t (b := 39) rfl e4_39
          by_cases e4_40 : a1 = 40
          · subst e4_40
            exact lf_0_1520 a0 a2 a3 a4 a5 (by omega) (by omega)
          replace e4_40 := ne_t (b := 40) rfl e4_40
          by_cases e4_41 : a1 = 41
          · subst e4_41
            exact lf_0_1528 a0 a2 a3 a4 a5 (by omega) (by omega)
          replace e4_41 := ne_t (b := 41) rfl e4_41
          by_cases e4_42 : a1 = 42
          · subst e4_42
            exact lf_0_1536 a0 a2 a3 a4 a5 (by omega) (by omega)
          replace e4_42 := ne_t (b := 42) rfl e4_42
          by_cases e4_43 : a1 = 43
          · subst e4_43
            exact lf_0_1544 a0 a2 a3 a4 a5 (by omega) (by omega)
          replace e4_43 := ne_t (b := 43) rfl e4_43
          by_cases e4_44 : a1 = 44
          · subst e4_44
            exact lf_0_1552 a0 a2 a3 a4 a5 (by omega) (by omega)
          replace e4_44 := ne_t (b := 44) rfl e4_44
          by_cases e4_45 : a1 = 45
          · subst e4_45
            exact lf_0_1560 a0 a2 a3 a4 a5 (by omega) (by omega)
          replace e4_45 := ne_t (b := 45) rfl e4_45
          by_cases e4_46 : a1 = 46
          · subst e4_46
            exact lf_0_1568 a0 a2 a3 a4 a5 (by omega) (by omega)
          replace e4_46 := ne_t (b := 46) rfl e4_46
          by_cases e4_47 : a1 = 47
          · subst e4_47
            exact lf_0_1576 a0 a2 a3 a4 a5 (by omega) (by omega)
          replace e4_47 := ne_t (b := 47) rfl e4_47
          by_cases e4_48 : a1 = 48
          · subst e4_48
            exact lf_0_1584 a0 a2 a3 a4 a5 (by omega) (by omega)
          replace e4_48 := ne_t (b := 48) rfl e4_48
          by_cases e4_49 : a1 = 49
          · subst e4_49
            exact lf_0_1592 a0 a2 a3 a4 a5 (by omega) (by omega)
          replace e4_49 := ne_t (b := 49) rfl e4_49
          by_cases e4_50 : a1 = 50
          · subst e4_50
            exact lf_0_1600 a0 a2 a3 a4 a5 (by omega) (by omega)
          replace e4_50 := ne_t (b := 50) rfl e4_50
          by_cases e4_51 : a1 = 51
          · subst e4_51
            exact lf_0_1608 a0 a2 a3 a4 a5 (by omega) (by omega)
          replace e4_51 := ne_t (b := 51) rfl e4_51
          by_cases e4_52 : a1 = 52
          · subst e4_52
            exact lf_0_1616 a0 a2 a3 a4 a5 (by omega) (by omega)
          replace e4_52 := ne_t (b := 52) rfl e4_52
          by_cases e4_53 : a1 = 53
          · subst e4_53
            exact lf_0_1624 a0 a2 a3 a4 a5 (by omega) (by omega)
          replace e4_53 := ne_t (b := 53) rfl e4_53
          by_cases e4_54 : a1 = 54
          · subst e4_54
            exact lf_0_1632 a0 a2 a3 a4 a5 (by omega) (by omega)
          replace e4_54 := ne_t (b := 54) rfl e4_54
          by_cases e4_55 : a1 = 55
          · subst e4_55
            exact lf_0_1640 a0 a2 a3 a4 a5 (by omega) (by omega)
          replace e4_55 := ne_t (b := 55) rfl e4_55
          by_cases e4_56 : a1 = 56
          · subst e4_56
            exact lf_0_1648 a0 a2 a3 a4 a5 (by omega) (by omega)
          replace e4_56 := ne_t (b := 56) rfl e4_56
          by_cases e4_57 : a1 = 57
          · subst e4_57
            exact lf_0_1656 a0 a2 a3 a4 a5 (by omega) (by omega)
          replace e4_57 := ne_t (b := 57) rfl e4_57
          by_cases e4_58 : a1 = 58
          · subst e4_58
            exact lf_0_1664 a0 a2 a3 a4 a5 (by omega) (by omega)
          replace e4_58 := ne_t (b := 58) rfl e4_58
          by_cases e4_59 : a1 = 59
          · subst e4_59
            exact lf_0_1672 a0 a2 a3 a4 a5 (by omega) (by omega)
          replace e4_59 := ne_t (b := 59) rfl e4_59
          by_cases e4_60 : a1 = 60
          · subst e4_60
            exact lf_0_1680 a0 a2 a3 a4 a5 (by omega) (by omega)
          replace e4_60 := ne_t (b := 60) rfl e4_60
          by_cases e4_61 : a1 = 61
          · subst e4_61
            exact lf_0_1688 a0 a2 a3 a4 a5 (by omega) (by omega)
          replace e4_61 := ne_t (b := 61) rfl e4_61
          by_cases e4_62 : a1 = 62
          · subst e4_62
            exact lf_0_1696 a0 a2 a3 a4 a5 (by omega) (by omega)
          replace e4_62 := ne_t (b := 62) rfl e4_62
          by_cases e4_63 : a1 = 63
          · subst e4_63
            exact lf_0_1704 a0 a2 a3 a4 a5 (by omega) (by omega)
          replace e4_63 := ne_t (b := 63) rfl e4_63
          exfalso
          omega
        · exact lf_0_1708 a0 a1 a2 a3 a4 a5 (by omega) (by omega) (by omega) (by omega)
    · exact lf_0_1713 a0 a1 a2 a3 a4 a5 (by omega) (by omega)
