theorem go_un {k : Nat} {M : pq_M} {pc cs ss pc0 nx t : Nat} {ls : pq_L} {st : List Value} {w : pq_W} {res : pq_R} {i : Instr} {a : List Nat} {v x z : Value} (hq : pq_look (pq_cd M) pc = some (pc0, 9, nx, i, a, v, t)) (hz : pq_un i x = some z) (g : pq_Go k M nx ls (z :: st) w cs ss res) : pq_Go k M pc ls (x :: st) w cs ss res := by
  refine go_seg 1 g (fun call f => ?_)
  rw [pq_exec_s, hq]
  show (match pq_un i x with
    | some z => _
    | none => none) = _
  rw [hz]
theorem go_bin {k : Nat} {M : pq_M} {pc cs ss pc0 nx t : Nat} {ls : pq_L} {st : List Value} {w : pq_W} {res : pq_R} {i : Instr} {a : List Nat} {v x y z : Value} (hq : pq_look (pq_cd M) pc = some (pc0, 8, nx, i, a, v, t)) (hz : pq_bin i x y = some z) (g : pq_Go k M nx ls (z :: st) w cs ss res) : pq_Go k M pc ls (y :: x :: st) w cs ss res := by
  refine go_seg 1 g (fun call f => ?_)
  rw [pq_exec_s, hq]
  show (match pq_bin i x y with
    | some z => _
    | none => none) = _
  rw [hz]
theorem ps_b {n j : Nat} {f : Nat → Int32} {y : Int32} (h : j < n) (hn : n < 2 ^ 31) : pq_ast (.inl (.byte, n, .inl f)) (nI j) (.int y) 2 = some (.inl (.byte, n, .inl (upd f j (vp_nar .byte y)))) := by
  show (if (FieldType.byte = .byte ∨ FieldType.byte = .boolean) ∧ pq_in (nI j) n = true then (some (Sum.inl (FieldType.byte, n, Sum.inl (upd f (nI j).toNatClampNeg (vp_nar .byte y)))) : Option pq_C) else none) = _
  rw [if_pos ⟨Or.inl rfl, decide_eq_true (vp_in_nI h hn)⟩, nI_clamp (by omega)]
/-- the fresh world with these bytes on the tape, i of them -/
def tbw (z : pq_C) (f : Nat → Int32) (i : Int32) : pq_W := ((fw z).set 20 (.inl (.byte, 60, .inl f))).set 19 (.inr (8, [.ref 20, .int i, .int 0, .ref 21, .ref 22, .ref 23, .ref 24]))
theorem tb_loop (z : pq_C) (q : Int64) (n : Nat) (hn : n ≤ 8) : ∀ (m i : Nat) (f : Nat → Int32), i + m = n → ∃ f', pq_Go 0 pm_64 3 [(4, .int (nI i)), (0, .ref 19), (1, .long q), (3, .int (nI n))] [] (tbw z f (nI i)) 0 0 (some (.int (nI n)), tbw z f' (nI n)) := by
  intro m
  induction m with
  | zero =>
    intro i f hi
    have hi : i = n := by omega
    subst hi
    refine ⟨f, ?_⟩
    refine go_seg 2 (pc' := 6) (ls' := [(4, .int (nI i)), (0, .ref 19), (1, .long q), (3, .int (nI i))]) (st' := [.int (nI i), .int (nI i)]) (w' := tbw z f (nI i)) (cs' := 0) (ss' := 0) ?_ (fun _ _ => rfl)
    refine go_cmp true rfl (decide_eq_true (Int32.le_refl _)) ?_
    exact go_end 3 (fun _ _ => rfl)
  | succ m ih =>
    intro i f hi
    have key : ∀ e : Int32, ∃ f', pq_Go 0 pm_64 35 [(4, .int (nI i)), (0, .ref 19), (1, .long q), (3, .int (nI n))] [.int e, .int (nI i), .ref 20] (tbw z f (nI i)) 0 0 (some (.int (nI n)), tbw z f' (nI n)) := by
      intro e
      obtain ⟨f', h⟩ := ih (i + 1) (upd f i (vp_nar .byte e)) (by omega)
      refine ⟨f', ?_⟩
      refine go_ast (c0 := .inl (.byte, 60, .inl f)) (c1 := .inl (.byte, 60, .inl (upd f i (vp_nar .byte e)))) rfl rfl (ps_b (by omega) (by omega)) rfl ?_
      refine go_w (w2 := tbw z (upd f i (vp_nar .byte e)) (nI i)) rfl ?_
      refine go_seg 6 (pc' := 46) (ls' := [(4, .int (nI i)), (0, .ref 19), (1, .long q), (3, .int (nI n))]) (st' := []) (w' := tbw z (upd f i (vp_nar .byte e)) (nI (i + 1))) (cs' := 0) (ss' := 0) ?_ (fun _ _ => by rw [nI_succ]; rfl)
      refine go_seg 2 (pc' := 3) (ls' := [(4, .int (nI (i + 1))), (0, .ref 19), (1, .long q), (3, .int (nI n))]) (st' := []) (w' := tbw z (upd f i (vp_nar .byte e)) (nI (i + 1))) (cs' := 0) (ss' := 0) ?_ (fun _ _ => by rw [nI_succ]; rfl)
      exact h
    obtain ⟨f', h⟩ := key ((q.toUInt64 >>> ((8 * nI i).toInt64.toUInt64 &&& Int64.toUInt64 63)).toInt64.toInt32.toInt8.toInt32)
    refine ⟨f', ?_⟩
    refine go_seg 2 (pc' := 6) (ls' := [(4, .int (nI i)), (0, .ref 19), (1, .long q), (3, .int (nI n))]) (st' := [.int (nI n), .int (nI i)]) (w' := tbw z f (nI i)) (cs' := 0) (ss' := 0) ?_ (fun _ _ => rfl)
    refine go_cmp false rfl (decide_eq_false (nI_ge (by omega) (by omega))) ?_
    refine go_seg 3 (pc' := 15) (ls' := [(4, .int (nI i)), (0, .ref 19), (1, .long q), (3, .int (nI n))]) (st' := [.int 60, .int (nI i)]) (w' := tbw z f (nI i)) (cs' := 0) (ss' := 0) ?_ (fun _ _ => rfl)
    refine go_cmp false rfl (br_ge_f (b := 60) rfl (by rw [nI_toInt (by omega)]; omega)) ?_
    refine go_seg 7 (pc' := 31) (ls' := [(4, .int (nI i)), (0, .ref 19), (1, .long q), (3, .int (nI n))]) (st' := [.int (nI i), .int 8, .long q, .int (nI i), .ref 20]) (w' := tbw z f (nI i)) (cs' := 0) (ss' := 0) ?_ (fun _ _ => rfl)
    refine go_bin (z := .int (8 * nI i)) rfl rfl ?_
    refine go_bin (z := .long (q.toUInt64 >>> ((8 * nI i).toInt64.toUInt64 &&& Int64.toUInt64 63)).toInt64) rfl rfl ?_
    refine go_un (z := .int (q.toUInt64 >>> ((8 * nI i).toInt64.toUInt64 &&& Int64.toUInt64 63)).toInt64.toInt32) rfl rfl ?_
    refine go_un rfl rfl ?_
    exact h

theorem rf_0 (z : pq_C) (a3 : Int32) (h0 : a3.toInt < 1) : pq_Ru 1 16 [.int a3, .int 1, .int 8] (fw z) (some (.int 0), (fw z)) := by
  refine ru_of (k := 0) (M := pm_16) rfl rfl ?_
  refine go_seg 2 (pc' := 2) (ls' := [(0, .int a3), (1, .int 1), (2, .int 8)]) (st' := [.int 1, .int a3]) (w' := (fw z)) (cs' := 0) (ss' := 0) ?_ (fun _ _ => rfl)
  refine go_cmp true rfl (br_lt_t (b := 1) rfl (by omega)) ?_
  exact go_end 2 (fun _ _ => rfl)
theorem rf_1 (z : pq_C) : pq_Ru 1 16 [.int 1, .int 1, .int 5] (fw z) (some (.int 1), (fw z)) := by
  refine ru_of (k := 0) (M := pm_16) rfl rfl ?_
  refine go_seg 8 (pc' := 15) (ls' := [(0, .int 1), (1, .int 1), (2, .int 5)]) (st' := [.int 1]) (w' := (fw z)) (cs' := 0) (ss' := 0) ?_ (fun _ _ => rfl)
  exact go_end 1 (fun _ _ => rfl)
def wd_9000 (z : pq_C) : pq_W := ((fw z).set 89 (.inl (.int, 6, .inl (upd (fun _ => 0) 1 1))))
theorem rf_2 (z : pq_C) : pq_Ru 2 15 [.ref 1, .int 1] (fw z) (some (.int (-1000001)), (wd_9000 z)) := by
  refine ru_of (k := 1) (M := pm_15) rfl rfl ?_
  refine go_seg 3 (pc' := 3) (ls' := [(0, .ref 1), (1, .int 1)]) (st' := [.int 5, .int 1, .int 1]) (w' := (fw z)) (cs' := 0) (ss' := 0) ?_ (fun _ _ => rfl)
  refine go_cl (k := 1) (st' := [.int 1]) (cs' := 0) (ss' := 0) rfl rfl rfl rfl rfl rfl rfl (rf_1 z) ?_
  refine go_seg 8 (pc' := 18) (ls' := [(0, .ref 1), (1, .int 1)]) (st' := [.int 1, .int 1, .ref 89]) (w' := (fw z)) (cs' := 0) (ss' := 0) ?_ (fun _ _ => rfl)
  exact go_end 5 (fun _ _ => rfl)
theorem rf_4 (z : pq_C) (a1 : Int32) (a2 : Int32) (a3 : Int32) (h0 : a3.toInt < 1) : pq_Ru 3 63 [.ref 1, .long (fwd a1 a2), .int a3] (fw z) (some (.int (-1000001)), (wd_9000 z)) := by
  refine ru_of (k := 2) (M := pm_63) rfl rfl ?_
  refine go_seg 3 (pc' := 4) (ls' := [(0, .ref 1), (1, .long (fwd a1 a2)), (3, .int a3)]) (st' := [.int 8, .int 1, .int a3]) (w' := (fw z)) (cs' := 0) (ss' := 0) ?_ (fun _ _ => rfl)
  refine go_cl (k := 2) (st' := [.int 0]) (cs' := 0) (ss' := 0) rfl rfl rfl rfl rfl rfl rfl (rf_0 z a3 (by omega)) ?_
  refine go_seg 3 (pc' := 12) (ls' := [(0, .ref 1), (1, .long (fwd a1 a2)), (3, .int a3)]) (st' := [.int 1, .ref 1]) (w' := (fw z)) (cs' := 0) (ss' := 0) ?_ (fun _ _ => rfl)
  refine go_cl (k := 2) (st' := [.int (-1000001)]) (cs' := 0) (ss' := 0) rfl rfl rfl rfl rfl rfl rfl (rf_2 z) ?_
  exact go_end 1 (fun _ _ => rfl)
def wd_9001 (z : pq_C) : pq_W := ((wd_9000 z).set 93 (.inl (.int, 6, .inl (upd (fun _ => 0) 1 1))))
theorem rf_5 (z : pq_C) : pq_Ru 1 162 [.ref 90, .int (-1000001)] (wd_9000 z) (some (.int (-1000001)), (wd_9001 z)) := by
  refine ru_of (k := 0) (M := pm_162) rfl rfl ?_
  refine go_seg 8 (pc' := 11) (ls' := [(0, .ref 90), (1, .int (-1000001))]) (st' := [.int 1, .int 0, .int 1, .ref 93]) (w' := (wd_9000 z)) (cs' := 0) (ss' := 0) ?_ (fun _ _ => rfl)
  exact go_end 4 (fun _ _ => rfl)
theorem rf_7 (z : pq_C) (a1 : Int32) (a2 : Int32) (a3 : Int32) (h0 : a3.toInt < 1) : pq_Ru 2 195 [.ref 90, .long (fwd a1 a2), .int a3] (wd_9000 z) (some (.int (-1000001)), (wd_9001 z)) := by
  refine ru_of (k := 1) (M := pm_195) rfl rfl ?_
  refine go_seg 1 (pc' := 1) (ls' := [(0, .ref 90), (1, .long (fwd a1 a2)), (3, .int a3)]) (st' := [.int a3]) (w' := (wd_9000 z)) (cs' := 0) (ss' := 0) ?_ (fun _ _ => rfl)
  refine go_seg 3 (pc' := 6) (ls' := [(0, .ref 90), (1, .long (fwd a1 a2)), (3, .int a3)]) (st' := [.long 8, .long 1, .long a3.toInt64]) (w' := (wd_9000 z)) (cs' := 0) (ss' := 0) ?_ (fun _ _ => rfl)
  refine go_cl (k := 1) (st' := [.int 0]) (cs' := 0) (ss' := 0) rfl rfl rfl rfl rfl rfl rfl (wi_f _ a3 1 8 1 8 rfl rfl (by omega)) ?_
  refine go_seg 3 (pc' := 15) (ls' := [(0, .ref 90), (1, .long (fwd a1 a2)), (3, .int a3)]) (st' := [.int (-1000001), .ref 90]) (w' := (wd_9000 z)) (cs' := 0) (ss' := 0) ?_ (fun _ _ => rfl)
  refine go_cl (k := 1) (st' := [.int (-1000001)]) (cs' := 0) (ss' := 0) rfl rfl rfl rfl rfl rfl rfl (rf_5 z) ?_
  exact go_end 1 (fun _ _ => rfl)
theorem lf_15_8 (a0 : Int32) (a1 : Int32) (a2 : Int32) (a3 : Int32) (a4 : Int32) (a5 : Int32) (h0 : a3.toInt < 1) : ∃ w', pq_Go 20 pm_law 723 [(3, .int 0), (2, .ref 90), (1, .ref 1), (0, .ref 0)] [] (fw (sz a0 a1 a2 a3 a4 a5)) 109 12668 (some (.int 1), w') := by
  refine ⟨(wd_9001 (sz a0 a1 a2 a3 a4 a5)), ?_⟩
  refine go_seg 6 (pc' := 729) (ls' := [(3, .int 0), (2, .ref 90), (1, .ref 1), (0, .ref 0)]) (st' := [.int a1, .ref 1]) (w' := (fw (sz a0 a1 a2 a3 a4 a5))) (cs' := 109) (ss' := 12668) ?_ (fun _ _ => rfl)
  refine go_seg 2 (pc' := 732) (ls' := [(3, .int 0), (2, .ref 90), (1, .ref 1), (0, .ref 0)]) (st' := [.int 32, .long a1.toInt64, .ref 1]) (w' := (fw (sz a0 a1 a2 a3 a4 a5))) (cs' := 109) (ss' := 12668) ?_ (fun _ _ => rfl)
  refine go_seg 6 (pc' := 738) (ls' := [(3, .int 0), (2, .ref 90), (1, .ref 1), (0, .ref 0)]) (st' := [.int a2, .long (a1.toInt64 <<< ((32 : Int32).toInt64 &&& 63)), .ref 1]) (w' := (fw (sz a0 a1 a2 a3 a4 a5))) (cs' := 109) (ss' := 12668) ?_ (fun _ _ => rfl)
  refine go_seg 2 (pc' := 742) (ls' := [(3, .int 0), (2, .ref 90), (1, .ref 1), (0, .ref 0)]) (st' := [.long 4294967295, .long a2.toInt64, .long (a1.toInt64 <<< ((32 : Int32).toInt64 &&& 63)), .ref 1]) (w' := (fw (sz a0 a1 a2 a3 a4 a5))) (cs' := 109) (ss' := 12668) ?_ (fun _ _ => rfl)
  refine go_seg 1 (pc' := 743) (ls' := [(3, .int 0), (2, .ref 90), (1, .ref 1), (0, .ref 0)]) (st' := [.long (a2.toInt64 &&& 4294967295), .long (a1.toInt64 <<< ((32 : Int32).toInt64 &&& 63)), .ref 1]) (w' := (fw (sz a0 a1 a2 a3 a4 a5))) (cs' := 109) (ss' := 12668) ?_ (fun _ _ => rfl)
  refine go_seg 6 (pc' := 749) (ls' := [(3, .int 0), (2, .ref 90), (1, .ref 1), (0, .ref 0)]) (st' := [.int a3, .long (fwd a1 a2), .ref 1]) (w' := (fw (sz a0 a1 a2 a3 a4 a5))) (cs' := 109) (ss' := 12668) ?_ (fun _ _ => rfl)
  refine go_cl (k := 20) (st' := [.int (-1000001)]) (cs' := 109) (ss' := 12668) rfl rfl rfl rfl rfl rfl rfl (rf_4 (sz a0 a1 a2 a3 a4 a5) a1 a2 a3 (by omega)) ?_
  refine go_seg 6 (pc' := 758) (ls' := [(3, .int 0), (2, .ref 90), (1, .ref 1), (0, .ref 0)]) (st' := [.int a1, .ref 90, .int (-1000001)]) (w' := (wd_9000 (sz a0 a1 a2 a3 a4 a5))) (cs' := 109) (ss' := 12668) ?_ (fun _ _ => rfl)
  refine go_seg 2 (pc' := 761) (ls' := [(3, .int 0), (2, .ref 90), (1, .ref 1), (0, .ref 0)]) (st' := [.int 32, .long a1.toInt64, .ref 90, .int (-1000001)]) (w' := (wd_9000 (sz a0 a1 a2 a3 a4 a5))) (cs' := 109) (ss' := 12668) ?_ (fun _ _ => rfl)
  refine go_seg 6 (pc' := 767) (ls' := [(3, .int 0), (2, .ref 90), (1, .ref 1), (0, .ref 0)]) (st' := [.int a2, .long (a1.toInt64 <<< ((32 : Int32).toInt64 &&& 63)), .ref 90, .int (-1000001)]) (w' := (wd_9000 (sz a0 a1 a2 a3 a4 a5))) (cs' := 109) (ss' := 12668) ?_ (fun _ _ => rfl)
  refine go_seg 2 (pc' := 771) (ls' := [(3, .int 0), (2, .ref 90), (1, .ref 1), (0, .ref 0)]) (st' := [.long 4294967295, .long a2.toInt64, .long (a1.toInt64 <<< ((32 : Int32).toInt64 &&& 63)), .ref 90, .int (-1000001)]) (w' := (wd_9000 (sz a0 a1 a2 a3 a4 a5))) (cs' := 109) (ss' := 12668) ?_ (fun _ _ => rfl)
  refine go_seg 1 (pc' := 772) (ls' := [(3, .int 0), (2, .ref 90), (1, .ref 1), (0, .ref 0)]) (st' := [.long (a2.toInt64 &&& 4294967295), .long (a1.toInt64 <<< ((32 : Int32).toInt64 &&& 63)), .ref 90, .int (-1000001)]) (w' := (wd_9000 (sz a0 a1 a2 a3 a4 a5))) (cs' := 109) (ss' := 12668) ?_ (fun _ _ => rfl)
  refine go_seg 6 (pc' := 778) (ls' := [(3, .int 0), (2, .ref 90), (1, .ref 1), (0, .ref 0)]) (st' := [.int a3, .long (fwd a1 a2), .ref 90, .int (-1000001)]) (w' := (wd_9000 (sz a0 a1 a2 a3 a4 a5))) (cs' := 109) (ss' := 12668) ?_ (fun _ _ => rfl)
  refine go_cl (k := 20) (st' := [.int (-1000001), .int (-1000001)]) (cs' := 109) (ss' := 12668) rfl rfl rfl rfl rfl rfl rfl (rf_7 (sz a0 a1 a2 a3 a4 a5) a1 a2 a3 (by omega)) ?_
  refine go_cmp true rfl (br_self _) ?_
  exact law_tail (f := sc a0 a1 a2 a3 a4 a5) rfl
theorem rf_165 (z : pq_C) (a3 : Int32) (h0 : 1 ≤ a3.toInt) (h1 : 9 ≤ a3.toInt) : pq_Ru 1 16 [.int a3, .int 1, .int 8] (fw z) (some (.int 0), (fw z)) := by
  refine ru_of (k := 0) (M := pm_16) rfl rfl ?_
  refine go_seg 2 (pc' := 2) (ls' := [(0, .int a3), (1, .int 1), (2, .int 8)]) (st' := [.int 1, .int a3]) (w' := (fw z)) (cs' := 0) (ss' := 0) ?_ (fun _ _ => rfl)
  refine go_cmp false rfl (br_lt_f (b := 1) rfl (by omega)) ?_
  refine go_seg 2 (pc' := 7) (ls' := [(0, .int a3), (1, .int 1), (2, .int 8)]) (st' := [.int 8, .int a3]) (w' := (fw z)) (cs' := 0) (ss' := 0) ?_ (fun _ _ => rfl)
  refine go_cmp true rfl (br_gt_t (b := 8) rfl (by omega)) ?_
  exact go_end 2 (fun _ _ => rfl)
theorem rf_166 (z : pq_C) (a1 : Int32) (a2 : Int32) (a3 : Int32) (h0 : 1 ≤ a3.toInt) (h1 : 9 ≤ a3.toInt) : pq_Ru 3 63 [.ref 1, .long (fwd a1 a2), .int a3] (fw z) (some (.int (-1000001)), (wd_9000 z)) := by
  refine ru_of (k := 2) (M := pm_63) rfl rfl ?_
  refine go_seg 3 (pc' := 4) (ls' := [(0, .ref 1), (1, .long (fwd a1 a2)), (3, .int a3)]) (st' := [.int 8, .int 1, .int a3]) (w' := (fw z)) (cs' := 0) (ss' := 0) ?_ (fun _ _ => rfl)
  refine go_cl (k := 2) (st' := [.int 0]) (cs' := 0) (ss' := 0) rfl rfl rfl rfl rfl rfl rfl (rf_165 z a3 (by omega) (by omega)) ?_
  refine go_seg 3 (pc' := 12) (ls' := [(0, .ref 1), (1, .long (fwd a1 a2)), (3, .int a3)]) (st' := [.int 1, .ref 1]) (w' := (fw z)) (cs' := 0) (ss' := 0) ?_ (fun _ _ => rfl)
  refine go_cl (k := 2) (st' := [.int (-1000001)]) (cs' := 0) (ss' := 0) rfl rfl rfl rfl rfl rfl rfl (rf_2 z) ?_
  exact go_end 1 (fun _ _ => rfl)
theorem rf_167 (z : pq_C) (a1 : Int32) (a2 : Int32) (a3 : Int32) (h0 : 1 ≤ a3.toInt) (h1 : 9 ≤ a3.toInt) : pq_Ru 2 195 [.ref 90, .long (fwd a1 a2), .int a3] (wd_9000 z) (some (.int (-1000001)), (wd_9001 z)) := by
  refine ru_of (k := 1) (M := pm_195) rfl rfl ?_
  refine go_seg 1 (pc' := 1) (ls' := [(0, .ref 90), (1, .long (fwd a1 a2)), (3, .int a3)]) (st' := [.int a3]) (w' := (wd_9000 z)) (cs' := 0) (ss' := 0) ?_ (fun _ _ => rfl)
  refine go_seg 3 (pc' := 6) (ls' := [(0, .ref 90), (1, .long (fwd a1 a2)), (3, .int a3)]) (st' := [.long 8, .long 1, .long a3.toInt64]) (w' := (wd_9000 z)) (cs' := 0) (ss' := 0) ?_ (fun _ _ => rfl)
  refine go_cl (k := 1) (st' := [.int 0]) (cs' := 0) (ss' := 0) rfl rfl rfl rfl rfl rfl rfl (wi_f _ a3 1 8 1 8 rfl rfl (by omega)) ?_
  refine go_seg 3 (pc' := 15) (ls' := [(0, .ref 90), (1, .long (fwd a1 a2)), (3, .int a3)]) (st' := [.int (-1000001), .ref 90]) (w' := (wd_9000 z)) (cs' := 0) (ss' := 0) ?_ (fun _ _ => rfl)
  refine go_cl (k := 1) (st' := [.int (-1000001)]) (cs' := 0) (ss' := 0) rfl rfl rfl rfl rfl rfl rfl (rf_5 z) ?_
  exact go_end 1 (fun _ _ => rfl)
theorem lf_15_168 (a0 : Int32) (a1 : Int32) (a2 : Int32) (a3 : Int32) (a4 : Int32) (a5 : Int32) (h0 : 1 ≤ a3.toInt) (h1 : 9 ≤ a3.toInt) : ∃ w', pq_Go 20 pm_law 723 [(3, .int 0), (2, .ref 90), (1, .ref 1), (0, .ref 0)] [] (fw (sz a0 a1 a2 a3 a4 a5)) 109 12668 (some (.int 1), w') := by
  refine ⟨(wd_9001 (sz a0 a1 a2 a3 a4 a5)), ?_⟩
  refine go_seg 6 (pc' := 729) (ls' := [(3, .int 0), (2, .ref 90), (1, .ref 1), (0, .ref 0)]) (st' := [.int a1, .ref 1]) (w' := (fw (sz a0 a1 a2 a3 a4 a5))) (cs' := 109) (ss' := 12668) ?_ (fun _ _ => rfl)
  refine go_seg 2 (pc' := 732) (ls' := [(3, .int 0), (2, .ref 90), (1, .ref 1), (0, .ref 0)]) (st' := [.int 32, .long a1.toInt64, .ref 1]) (w' := (fw (sz a0 a1 a2 a3 a4 a5))) (cs' := 109) (ss' := 12668) ?_ (fun _ _ => rfl)
  refine go_seg 6 (pc' := 738) (ls' := [(3, .int 0), (2, .ref 90), (1, .ref 1), (0, .ref 0)]) (st' := [.int a2, .long (a1.toInt64 <<< ((32 : Int32).toInt64 &&& 63)), .ref 1]) (w' := (fw (sz a0 a1 a2 a3 a4 a5))) (cs' := 109) (ss' := 12668) ?_ (fun _ _ => rfl)
  refine go_seg 2 (pc' := 742) (ls' := [(3, .int 0), (2, .ref 90), (1, .ref 1), (0, .ref 0)]) (st' := [.long 4294967295, .long a2.toInt64, .long (a1.toInt64 <<< ((32 : Int32).toInt64 &&& 63)), .ref 1]) (w' := (fw (sz a0 a1 a2 a3 a4 a5))) (cs' := 109) (ss' := 12668) ?_ (fun _ _ => rfl)
  refine go_seg 1 (pc' := 743) (ls' := [(3, .int 0), (2, .ref 90), (1, .ref 1), (0, .ref 0)]) (st' := [.long (a2.toInt64 &&& 4294967295), .long (a1.toInt64 <<< ((32 : Int32).toInt64 &&& 63)), .ref 1]) (w' := (fw (sz a0 a1 a2 a3 a4 a5))) (cs' := 109) (ss' := 12668) ?_ (fun _ _ => rfl)
  refine go_seg 6 (pc' := 749) (ls' := [(3, .int 0), (2, .ref 90), (1, .ref 1), (0, .ref 0)]) (st' := [.int a3, .long (fwd a1 a2), .ref 1]) (w' := (fw (sz a0 a1 a2 a3 a4 a5))) (cs' := 109) (ss' := 12668) ?_ (fun _ _ => rfl)
  refine go_cl (k := 20) (st' := [.int (-1000001)]) (cs' := 109) (ss' := 12668) rfl rfl rfl rfl rfl rfl rfl (rf_166 (sz a0 a1 a2 a3 a4 a5) a1 a2 a3 (by omega) (by omega)) ?_
  refine go_seg 6 (pc' := 758) (ls' := [(3, .int 0), (2, .ref 90), (1, .ref 1), (0, .ref 0)]) (st' := [.int a1, .ref 90, .int (-1000001)]) (w' := (wd_9000 (sz a0 a1 a2 a3 a4 a5))) (cs' := 109) (ss' := 12668) ?_ (fun _ _ => rfl)
  refine go_seg 2 (pc' := 761) (ls' := [(3, .int 0), (2, .ref 90), (1, .ref 1), (0, .ref 0)]) (st' := [.int 32, .long a1.toInt64, .ref 90, .int (-1000001)]) (w' := (wd_9000 (sz a0 a1 a2 a3 a4 a5))) (cs' := 109) (ss' := 12668) ?_ (fun _ _ => rfl)
  refine go_seg 6 (pc' := 767) (ls' := [(3, .int 0), (2, .ref 90), (1, .ref 1), (0, .ref 0)]) (st' := [.int a2, .long (a1.toInt64 <<< ((32 : Int32).toInt64 &&& 63)), .ref 90, .int (-1000001)]) (w' := (wd_9000 (sz a0 a1 a2 a3 a4 a5))) (cs' := 109) (ss' := 12668) ?_ (fun _ _ => rfl)
  refine go_seg 2 (pc' := 771) (ls' := [(3, .int 0), (2, .ref 90), (1, .ref 1), (0, .ref 0)]) (st' := [.long 4294967295, .long a2.toInt64, .long (a1.toInt64 <<< ((32 : Int32).toInt64 &&& 63)), .ref 90, .int (-1000001)]) (w' := (wd_9000 (sz a0 a1 a2 a3 a4 a5))) (cs' := 109) (ss' := 12668) ?_ (fun _ _ => rfl)
  refine go_seg 1 (pc' := 772) (ls' := [(3, .int 0), (2, .ref 90), (1, .ref 1), (0, .ref 0)]) (st' := [.long (a2.toInt64 &&& 4294967295), .long (a1.toInt64 <<< ((32 : Int32).toInt64 &&& 63)), .ref 90, .int (-1000001)]) (w' := (wd_9000 (sz a0 a1 a2 a3 a4 a5))) (cs' := 109) (ss' := 12668) ?_ (fun _ _ => rfl)
  refine go_seg 6 (pc' := 778) (ls' := [(3, .int 0), (2, .ref 90), (1, .ref 1), (0, .ref 0)]) (st' := [.int a3, .long (fwd a1 a2), .ref 90, .int (-1000001)]) (w' := (wd_9000 (sz a0 a1 a2 a3 a4 a5))) (cs' := 109) (ss' := 12668) ?_ (fun _ _ => rfl)
  refine go_cl (k := 20) (st' := [.int (-1000001), .int (-1000001)]) (cs' := 109) (ss' := 12668) rfl rfl rfl rfl rfl rfl rfl (rf_167 (sz a0 a1 a2 a3 a4 a5) a1 a2 a3 (by omega) (by omega)) ?_
  refine go_cmp true rfl (br_self _) ?_
  exact law_tail (f := sc a0 a1 a2 a3 a4 a5) rfl
theorem tb_ru (z : pq_C) (q : Int64) (n : Nat) (hn : n ≤ 8) : ∃ f', pq_Ru 1 64 [.ref 19, .long q, .int (nI n)] (fw z) (some (.int (nI n)), tbw z f' (nI n)) := by
  obtain ⟨f', h⟩ := tb_loop z q n hn n 0 (fun _ => 0) (by omega)
  refine ⟨f', ?_⟩
  refine ru_of (k := 0) (M := pm_64) rfl rfl ?_
  refine go_w (w2 := tbw z (fun _ => 0) (nI 0)) rfl ?_
  refine go_seg 2 (pc' := 3) (ls' := [(4, .int (nI 0)), (0, .ref 19), (1, .long q), (3, .int (nI n))]) (st' := []) (w' := tbw z (fun _ => 0) (nI 0)) (cs' := 0) (ss' := 0) ?_ (fun _ _ => rfl)
  exact h
theorem cf_ru (z : pq_C) (q : Int64) (n : Nat) (h1 : 1 ≤ n) (hn : n ≤ 8) : ∃ f', pq_Ru 3 63 [.ref 1, .long q, .int (nI n)] (fw z) (some (.int (nI n)), tbw z f' (nI n)) := by
  obtain ⟨f', h⟩ := tb_ru z q n hn
  refine ⟨f', ?_⟩
  refine ru_of (k := 2) (M := pm_63) rfl rfl ?_
  refine go_seg 3 (pc' := 4) (ls' := [(0, .ref 1), (1, .long q), (3, .int (nI n))]) (st' := [.int 8, .int 1, .int (nI n)]) (w' := (fw z)) (cs' := 0) (ss' := 0) ?_ (fun _ _ => rfl)
  refine go_cl (k := 2) (st' := [.int 1]) (cs' := 0) (ss' := 0) rfl rfl rfl rfl rfl rfl rfl (wc_t _ (nI n) 1 8 1 8 rfl rfl (by rw [nI_toInt (by omega)]; omega)) ?_
  refine go_seg 4 (pc' := 23) (ls' := [(0, .ref 1), (1, .long q), (3, .int (nI n))]) (st' := [.int 0]) (w' := (fw z)) (cs' := 0) (ss' := 0) ?_ (fun _ _ => rfl)
  refine go_seg 3 (pc' := 27) (ls' := [(0, .ref 1), (1, .long q), (3, .int (nI n))]) (st' := [.int 60, .int (0 + nI n)]) (w' := (fw z)) (cs' := 0) (ss' := 0) ?_ (fun _ _ => rfl)
  refine go_cmp true rfl (br_le_t (b := 60) rfl (by rw [Int32.zero_add, nI_toInt (by omega)]; omega)) ?_
  refine go_seg 4 (pc' := 42) (ls' := [(0, .ref 1), (1, .long q), (3, .int (nI n))]) (st' := [.int (nI n), .long q, .ref 19]) (w' := (fw z)) (cs' := 0) (ss' := 0) ?_ (fun _ _ => rfl)
  refine go_cl (k := 2) (st' := [.int (nI n)]) (cs' := 0) (ss' := 0) rfl rfl rfl rfl rfl rfl rfl h ?_
  exact go_end 1 (fun _ _ => rfl)
theorem ps_i15 {n j : Nat} {f : Nat → Int32} {y : Int32} (h : j < n) (hn : n < 2 ^ 31) : pq_ast (.inl (.int, n, .inl f)) (nI j) (.int y) 0 = some (.inl (.int, n, .inl (upd f j y))) := by
  show (if FieldType.int = .int ∧ pq_in (nI j) n = true then (some (Sum.inl (FieldType.int, n, Sum.inl (upd f (nI j).toNatClampNeg y))) : Option pq_C) else none) = _
  rw [if_pos ⟨rfl, decide_eq_true (vp_in_nI h hn)⟩, nI_clamp (by omega)]
theorem n2798 : ∀ i : Nat, i < 8 → (2798 : Int32) + nI i = nI (2798 + i) := by decide +kernel
def c91 (g : Nat → Int32) : pq_C := .inl (.int, 2858, .inl g)
theorem al7 {g : Nat → Int32} {x : Int32} (h : g 7 = x) : pq_ald (c91 g) 7 0 = some (.int x) := by
  rw [← h]
  rfl
theorem as7 {g : Nat → Int32} {x : Int32} : pq_ast (c91 g) 7 (.int x) 0 = some (c91 (upd g 7 x)) := rfl
theorem g90 {b : pq_W} {c : pq_C} {d : pq_C} (h1 : b[90]? = some d) : (b.set 91 c)[90]? = some d := by
  rw [List.getElem?_set_ne (by decide)]
  exact h1
theorem fd_loop (b : pq_W) (fs : List Value) (h1 : b[90]? = some (.inr (11, fs))) (k0 : fs[0]? = some (.ref 91)) (hl : 91 < b.length) (q : Int64) (n : Nat) (hn : n ≤ 8) : ∀ (m i : Nat) (g : Nat → Int32), i + m = n → g 7 = nI i → ∃ g', pq_Go 1 pm_195 43 [(4, .int (nI i)), (0, .ref 90), (1, .long q), (3, .int (nI n))] [] (b.set 91 (c91 g)) 0 0 (some (.int (nI n)), b.set 91 (c91 g')) := by
  intro m
  induction m with
  | zero =>
    intro i g hi hg
    have hi : i = n := by omega
    subst hi
    refine ⟨g, ?_⟩
    refine go_seg 2 (pc' := 46) (ls' := [(4, .int (nI i)), (0, .ref 90), (1, .long q), (3, .int (nI i))]) (st' := [.int (nI i), .int (nI i)]) (w' := b.set 91 (c91 g)) (cs' := 0) (ss' := 0) ?_ (fun _ _ => rfl)
    refine go_cmp true rfl (decide_eq_true (Int32.le_refl _)) ?_
    refine go_seg 1 (pc' := 95) (ls' := [(4, .int (nI i)), (0, .ref 90), (1, .long q), (3, .int (nI i))]) (st' := [.ref 90]) (w' := b.set 91 (c91 g)) (cs' := 0) (ss' := 0) ?_ (fun _ _ => rfl)
    refine go_get (z := .ref 91) rfl (g90 h1) rfl k0 ?_
    refine go_seg 1 (pc' := 100) (ls' := [(4, .int (nI i)), (0, .ref 90), (1, .long q), (3, .int (nI i))]) (st' := [.int 7, .ref 91]) (w' := b.set 91 (c91 g)) (cs' := 0) (ss' := 0) ?_ (fun _ _ => rfl)
    refine go_ald (z := .int (nI i)) rfl (List.getElem?_set_self hl) (al7 hg) ?_
    exact go_end 1 (fun _ _ => rfl)
  | succ m ih =>
    intro i g hi hg
    have key : ∀ e : Int32, ∃ g', pq_Go 1 pm_195 76 [(4, .int (nI i)), (0, .ref 90), (1, .long q), (3, .int (nI n))] [.int e, .int (nI (2798 + i)), .ref 91] (b.set 91 (c91 g)) 0 0 (some (.int (nI n)), b.set 91 (c91 g')) := by
      intro e
      have e7 : upd g (2798 + i) e 7 = nI i := by
        unfold upd
        rw [if_neg (by omega)]
        exact hg
      have e8 : upd (upd g (2798 + i) e) 7 (nI (i + 1)) 7 = nI (i + 1) := by
        unfold upd
        rw [if_pos rfl]
      obtain ⟨g', h⟩ := ih (i + 1) (upd (upd g (2798 + i) e) 7 (nI (i + 1))) (by omega) e8
      refine ⟨g', ?_⟩
      refine go_ast (c0 := c91 g) (c1 := c91 (upd g (2798 + i) e)) rfl (List.getElem?_set_self hl) (ps_i15 (by omega) (by omega)) rfl ?_
      refine go_w (w2 := b.set 91 (c91 (upd g (2798 + i) e))) pq_set_set ?_
      generalize upd g (2798 + i) e = g1 at e7 h ⊢
      refine go_seg 1 (pc' := 78) (ls' := [(4, .int (nI i)), (0, .ref 90), (1, .long q), (3, .int (nI n))]) (st' := [.ref 90]) (w' := b.set 91 (c91 g1)) (cs' := 0) (ss' := 0) ?_ (fun _ _ => rfl)
      refine go_get (z := .ref 91) rfl (g90 h1) rfl k0 ?_
      refine go_seg 2 (pc' := 84) (ls' := [(4, .int (nI i)), (0, .ref 90), (1, .long q), (3, .int (nI n))]) (st' := [.int 7, .ref 91, .int 7, .ref 91]) (w' := b.set 91 (c91 g1)) (cs' := 0) (ss' := 0) ?_ (fun _ _ => rfl)
      refine go_ald (z := .int (nI i)) rfl (List.getElem?_set_self hl) (al7 e7) ?_
      refine go_seg 2 (pc' := 87) (ls' := [(4, .int (nI i)), (0, .ref 90), (1, .long q), (3, .int (nI n))]) (st' := [.int (nI (i + 1)), .int 7, .ref 91]) (w' := b.set 91 (c91 g1)) (cs' := 0) (ss' := 0) ?_ (fun _ _ => by rw [nI_succ]; rfl)
      refine go_ast (c0 := c91 g1) (c1 := c91 (upd g1 7 (nI (i + 1)))) rfl (List.getElem?_set_self hl) as7 rfl ?_
      refine go_w (w2 := b.set 91 (c91 (upd g1 7 (nI (i + 1))))) pq_set_set ?_
      refine go_seg 2 (pc' := 43) (ls' := [(4, .int (nI (i + 1))), (0, .ref 90), (1, .long q), (3, .int (nI n))]) (st' := []) (w' := b.set 91 (c91 (upd g1 7 (nI (i + 1))))) (cs' := 0) (ss' := 0) ?_ (fun _ _ => by rw [nI_succ]; rfl)
      exact h
    obtain ⟨g', h⟩ := key ((q >>> ((8 * nI i).toInt64 &&& 63)) &&& 255).toInt32
    refine ⟨g', ?_⟩
    refine go_seg 2 (pc' := 46) (ls' := [(4, .int (nI i)), (0, .ref 90), (1, .long q), (3, .int (nI n))]) (st' := [.int (nI n), .int (nI i)]) (w' := b.set 91 (c91 g)) (cs' := 0) (ss' := 0) ?_ (fun _ _ => rfl)
    refine go_cmp false rfl (decide_eq_false (nI_ge (by omega) (by omega))) ?_
    refine go_seg 1 (pc' := 50) (ls' := [(4, .int (nI i)), (0, .ref 90), (1, .long q), (3, .int (nI n))]) (st' := [.ref 90]) (w' := b.set 91 (c91 g)) (cs' := 0) (ss' := 0) ?_ (fun _ _ => rfl)
    refine go_get (z := .ref 91) rfl (g90 h1) rfl k0 ?_
    refine go_seg 2 (pc' := 57) (ls' := [(4, .int (nI i)), (0, .ref 90), (1, .long q), (3, .int (nI n))]) (st' := [.ref 90, .int 2798, .ref 91]) (w' := b.set 91 (c91 g)) (cs' := 0) (ss' := 0) ?_ (fun _ _ => rfl)
    refine go_get (z := .ref 91) rfl (g90 h1) rfl k0 ?_
    refine go_seg 1 (pc' := 62) (ls' := [(4, .int (nI i)), (0, .ref 90), (1, .long q), (3, .int (nI n))]) (st' := [.int 7, .ref 91, .int 2798, .ref 91]) (w' := b.set 91 (c91 g)) (cs' := 0) (ss' := 0) ?_ (fun _ _ => rfl)
    refine go_ald (z := .int (nI i)) rfl (List.getElem?_set_self hl) (al7 hg) ?_
    refine go_bin (z := .int (2798 + nI i)) rfl rfl ?_
    rw [n2798 i (by omega)]
    refine go_seg 3 (pc' := 69) (ls' := [(4, .int (nI i)), (0, .ref 90), (1, .long q), (3, .int (nI n))]) (st' := [.int (nI i), .int 8, .long q, .int (nI (2798 + i)), .ref 91]) (w' := b.set 91 (c91 g)) (cs' := 0) (ss' := 0) ?_ (fun _ _ => rfl)
    refine go_bin (z := .int (8 * nI i)) rfl rfl ?_
    refine go_bin (z := .long (q >>> ((8 * nI i).toInt64 &&& 63))) rfl rfl ?_
    refine go_seg 1 (pc' := 74) (ls' := [(4, .int (nI i)), (0, .ref 90), (1, .long q), (3, .int (nI n))]) (st' := [.long 255, .long (q >>> ((8 * nI i).toInt64 &&& 63)), .int (nI (2798 + i)), .ref 91]) (w' := b.set 91 (c91 g)) (cs' := 0) (ss' := 0) ?_ (fun _ _ => rfl)
    refine go_bin (z := .long ((q >>> ((8 * nI i).toInt64 &&& 63)) &&& 255)) rfl rfl ?_
    refine go_un (z := .int ((q >>> ((8 * nI i).toInt64 &&& 63)) &&& 255).toInt32) rfl rfl ?_
    exact h
theorem fd_ru (b : pq_W) (fs : List Value) (h1 : b[90]? = some (.inr (11, fs))) (k0 : fs[0]? = some (.ref 91)) (g : Nat → Int32) (h2 : b[91]? = some (c91 g)) (hg : g 7 = 0) (q : Int64) (n : Nat) (hn1 : 1 ≤ n) (hn : n ≤ 8) : ∃ g', pq_Ru 2 195 [.ref 90, .long q, .int (nI n)] b (some (.int (nI n)), b.set 91 (c91 g')) := by
  have hl : 91 < b.length := (List.getElem?_eq_some_iff.mp h2).1
  have e0 : b.set 91 (c91 g) = b := by
    obtain ⟨h3, h4⟩ := List.getElem?_eq_some_iff.mp h2
    rw [← h4, List.set_getElem_self]
  obtain ⟨g', h⟩ := fd_loop b fs h1 k0 hl q n hn n 0 g (by omega) hg
  rw [e0] at h
  refine ⟨g', ?_⟩
  refine ru_of (k := 1) (M := pm_195) rfl (by rw [pq_rcv1 rfl rfl h1]; rfl) ?_
  refine go_seg 1 (pc' := 1) (ls' := [(0, .ref 90), (1, .long q), (3, .int (nI n))]) (st' := [.int (nI n)]) (w' := b) (cs' := 0) (ss' := 0) ?_ (fun _ _ => rfl)
  refine go_seg 3 (pc' := 6) (ls' := [(0, .ref 90), (1, .long q), (3, .int (nI n))]) (st' := [.long 8, .long 1, .long (nI n).toInt64]) (w' := b) (cs' := 0) (ss' := 0) ?_ (fun _ _ => rfl)
  refine go_cl (k := 1) (st' := [.int 1]) (cs' := 0) (ss' := 0) rfl rfl rfl rfl rfl rfl rfl (wi_t _ (nI n) 1 8 1 8 rfl rfl (by rw [nI_toInt (by omega)]; omega)) ?_
  refine go_seg 2 (pc' := 20) (ls' := [(0, .ref 90), (1, .long q), (3, .int (nI n))]) (st' := [.ref 90]) (w' := b) (cs' := 0) (ss' := 0) ?_ (fun _ _ => rfl)
  refine go_get (z := .ref 91) rfl h1 rfl k0 ?_
  refine go_seg 1 (pc' := 25) (ls' := [(0, .ref 90), (1, .long q), (3, .int (nI n))]) (st' := [.int 7, .ref 91]) (w' := b) (cs' := 0) (ss' := 0) ?_ (fun _ _ => rfl)
  refine go_ald (z := .int 0) rfl h2 (al7 hg) ?_
  refine go_seg 3 (pc' := 30) (ls' := [(0, .ref 90), (1, .long q), (3, .int (nI n))]) (st' := [.int 60, .int (0 + nI n)]) (w' := b) (cs' := 0) (ss' := 0) ?_ (fun _ _ => rfl)
  refine go_cmp true rfl (br_le_t (b := 60) rfl (by rw [Int32.zero_add, nI_toInt (by omega)]; omega)) ?_
  refine go_seg 2 (pc' := 43) (ls' := [(4, .int (nI 0)), (0, .ref 90), (1, .long q), (3, .int (nI n))]) (st' := []) (w' := b) (cs' := 0) (ss' := 0) ?_ (fun _ _ => rfl)
  exact h
theorem nw7 : now0 7 = 0 := rfl
theorem lf_15_n (a0 : Int32) (a1 : Int32) (a2 : Int32) (n : Nat) (a4 : Int32) (a5 : Int32) (h1 : 1 ≤ n) (hn : n ≤ 8) : ∃ w', pq_Go 20 pm_law 723 [(3, .int 0), (2, .ref 90), (1, .ref 1), (0, .ref 0)] [] (fw (sz a0 a1 a2 (nI n) a4 a5)) 109 12668 (some (.int 1), w') := by
  obtain ⟨f, hc⟩ := cf_ru (sz a0 a1 a2 (nI n) a4 a5) (fwd a1 a2) n h1 hn
  obtain ⟨g, hm⟩ := fd_ru (tbw (sz a0 a1 a2 (nI n) a4 a5) f (nI n)) _ rfl rfl now0 rfl nw7 (fwd a1 a2) n h1 hn
  refine ⟨(tbw (sz a0 a1 a2 (nI n) a4 a5) f (nI n)).set 91 (c91 g), ?_⟩
  refine go_seg 6 (pc' := 729) (ls' := [(3, .int 0), (2, .ref 90), (1, .ref 1), (0, .ref 0)]) (st' := [.int a1, .ref 1]) (w' := (fw (sz a0 a1 a2 (nI n) a4 a5))) (cs' := 109) (ss' := 12668) ?_ (fun _ _ => rfl)
  refine go_seg 2 (pc' := 732) (ls' := [(3, .int 0), (2, .ref 90), (1, .ref 1), (0, .ref 0)]) (st' := [.int 32, .long a1.toInt64, .ref 1]) (w' := (fw (sz a0 a1 a2 (nI n) a4 a5))) (cs' := 109) (ss' := 12668) ?_ (fun _ _ => rfl)
  refine go_seg 6 (pc' := 738) (ls' := [(3, .int 0), (2, .ref 90), (1, .ref 1), (0, .ref 0)]) (st' := [.int a2, .long (a1.toInt64 <<< ((32 : Int32).toInt64 &&& 63)), .ref 1]) (w' := (fw (sz a0 a1 a2 (nI n) a4 a5))) (cs' := 109) (ss' := 12668) ?_ (fun _ _ => rfl)
  refine go_seg 2 (pc' := 742) (ls' := [(3, .int 0), (2, .ref 90), (1, .ref 1), (0, .ref 0)]) (st' := [.long 4294967295, .long a2.toInt64, .long (a1.toInt64 <<< ((32 : Int32).toInt64 &&& 63)), .ref 1]) (w' := (fw (sz a0 a1 a2 (nI n) a4 a5))) (cs' := 109) (ss' := 12668) ?_ (fun _ _ => rfl)
  refine go_seg 1 (pc' := 743) (ls' := [(3, .int 0), (2, .ref 90), (1, .ref 1), (0, .ref 0)]) (st' := [.long (a2.toInt64 &&& 4294967295), .long (a1.toInt64 <<< ((32 : Int32).toInt64 &&& 63)), .ref 1]) (w' := (fw (sz a0 a1 a2 (nI n) a4 a5))) (cs' := 109) (ss' := 12668) ?_ (fun _ _ => rfl)
  refine go_seg 6 (pc' := 749) (ls' := [(3, .int 0), (2, .ref 90), (1, .ref 1), (0, .ref 0)]) (st' := [.int (nI n), .long (fwd a1 a2), .ref 1]) (w' := (fw (sz a0 a1 a2 (nI n) a4 a5))) (cs' := 109) (ss' := 12668) ?_ (fun _ _ => rfl)
  refine go_cl (k := 20) (st' := [.int (nI n)]) (cs' := 109) (ss' := 12668) rfl rfl rfl rfl rfl rfl rfl hc ?_
  refine go_seg 6 (pc' := 758) (ls' := [(3, .int 0), (2, .ref 90), (1, .ref 1), (0, .ref 0)]) (st' := [.int a1, .ref 90, .int (nI n)]) (w' := (tbw (sz a0 a1 a2 (nI n) a4 a5) f (nI n))) (cs' := 109) (ss' := 12668) ?_ (fun _ _ => rfl)
  refine go_seg 2 (pc' := 761) (ls' := [(3, .int 0), (2, .ref 90), (1, .ref 1), (0, .ref 0)]) (st' := [.int 32, .long a1.toInt64, .ref 90, .int (nI n)]) (w' := (tbw (sz a0 a1 a2 (nI n) a4 a5) f (nI n))) (cs' := 109) (ss' := 12668) ?_ (fun _ _ => rfl)
  refine go_seg 6 (pc' := 767) (ls' := [(3, .int 0), (2, .ref 90), (1, .ref 1), (0, .ref 0)]) (st' := [.int a2, .long (a1.toInt64 <<< ((32 : Int32).toInt64 &&& 63)), .ref 90, .int (nI n)]) (w' := (tbw (sz a0 a1 a2 (nI n) a4 a5) f (nI n))) (cs' := 109) (ss' := 12668) ?_ (fun _ _ => rfl)
  refine go_seg 2 (pc' := 771) (ls' := [(3, .int 0), (2, .ref 90), (1, .ref 1), (0, .ref 0)]) (st' := [.long 4294967295, .long a2.toInt64, .long (a1.toInt64 <<< ((32 : Int32).toInt64 &&& 63)), .ref 90, .int (nI n)]) (w' := (tbw (sz a0 a1 a2 (nI n) a4 a5) f (nI n))) (cs' := 109) (ss' := 12668) ?_ (fun _ _ => rfl)
  refine go_seg 1 (pc' := 772) (ls' := [(3, .int 0), (2, .ref 90), (1, .ref 1), (0, .ref 0)]) (st' := [.long (a2.toInt64 &&& 4294967295), .long (a1.toInt64 <<< ((32 : Int32).toInt64 &&& 63)), .ref 90, .int (nI n)]) (w' := (tbw (sz a0 a1 a2 (nI n) a4 a5) f (nI n))) (cs' := 109) (ss' := 12668) ?_ (fun _ _ => rfl)
  refine go_seg 6 (pc' := 778) (ls' := [(3, .int 0), (2, .ref 90), (1, .ref 1), (0, .ref 0)]) (st' := [.int (nI n), .long (fwd a1 a2), .ref 90, .int (nI n)]) (w' := (tbw (sz a0 a1 a2 (nI n) a4 a5) f (nI n))) (cs' := 109) (ss' := 12668) ?_ (fun _ _ => rfl)
  refine go_cl (k := 20) (st' := [.int (nI n), .int (nI n)]) (cs' := 109) (ss' := 12668) rfl rfl rfl rfl rfl rfl rfl hm ?_
  refine go_cmp true rfl (br_self _) ?_
  exact law_tail (f := sc a0 a1 a2 (nI n) a4 a5) rfl
theorem op_15 (a0 a1 a2 a3 a4 a5 : Int32) : ∃ w', pq_Go 20 pm_law 723 [(3, .int 0), (2, .ref 90), (1, .ref 1), (0, .ref 0)] [] (fw (sz a0 a1 a2 a3 a4 a5)) 109 12668 (some (.int 1), w') := by
  by_cases c0 : a3.toInt < 1
  · exact lf_15_8 a0 a1 a2 a3 a4 a5 (by omega)
  · by_cases c1 : a3.toInt < 9
    · obtain ⟨n, h1, h2, rfl⟩ := i_n (a := a3) (l := 1) (h := 8) (by omega) ⟨by omega, by omega⟩
      exact lf_15_n a0 a1 a2 n a4 a5 h1 h2
    · exact lf_15_168 a0 a1 a2 a3 a4 a5 (by omega) (by omega)
