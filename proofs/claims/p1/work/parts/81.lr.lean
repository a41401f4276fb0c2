theorem lr_sw (a0 a1 a2 a3 a4 a5 : Int32) : ∃ w', pq_Go 20 pm_law 33 [(3, .int 0), (2, .ref 90), (1, .ref 1), (0, .ref 0)] [.int (a0 &&& 63)] (fw (sz a0 a1 a2 a3 a4 a5)) 109 12668 (some (.int 1), w') := by
  obtain ⟨j, hj, e⟩ := pk_andE a0 (m := 63) 6 (by decide +kernel)
  rw [e]
  match j, hj with
  | 0, _ =>
    obtain ⟨w', h⟩ := op_0 a0 a1 a2 a3 a4 a5
    exact ⟨w', go_sw rfl (by decide +kernel) h⟩
  | 1, _ =>
    obtain ⟨w', h⟩ := op_1 a0 a1 a2 a3 a4 a5
    exact ⟨w', go_sw rfl (by decide +kernel) h⟩
  | 2, _ =>
    obtain ⟨w', h⟩ := op_2 a0 a1 a2 a3 a4 a5
    exact ⟨w', go_sw rfl (by decide +kernel) h⟩
  | 3, _ =>
    obtain ⟨w', h⟩ := op_3 a0 a1 a2 a3 a4 a5
    exact ⟨w', go_sw rfl (by decide +kernel) h⟩
  | 4, _ =>
    obtain ⟨w', h⟩ := op_4 a0 a1 a2 a3 a4 a5
    exact ⟨w', go_sw rfl (by decide +kernel) h⟩
  | 5, _ =>
    obtain ⟨w', h⟩ := op_5 a0 a1 a2 a3 a4 a5
    exact ⟨w', go_sw rfl (by decide +kernel) h⟩
  | 6, _ =>
    obtain ⟨w', h⟩ := op_6 a0 a1 a2 a3 a4 a5
    exact ⟨w', go_sw rfl (by decide +kernel) h⟩
  | 7, _ =>
    obtain ⟨w', h⟩ := op_7 a0 a1 a2 a3 a4 a5
    exact ⟨w', go_sw rfl (by decide +kernel) h⟩
  | 8, _ =>
    obtain ⟨w', h⟩ := op_8 a0 a1 a2 a3 a4 a5
    exact ⟨w', go_sw rfl (by decide +kernel) h⟩
  | 9, _ =>
    obtain ⟨w', h⟩ := op_9 a0 a1 a2 a3 a4 a5
    exact ⟨w', go_sw rfl (by decide +kernel) h⟩
  | 10, _ =>
    obtain ⟨w', h⟩ := op_10 a0 a1 a2 a3 a4 a5
    exact ⟨w', go_sw rfl (by decide +kernel) h⟩
  | 11, _ =>
    obtain ⟨w', h⟩ := op_11 a0 a1 a2 a3 a4 a5
    exact ⟨w', go_sw rfl (by decide +kernel) h⟩
  | 12, _ =>
    obtain ⟨w', h⟩ := op_12 a0 a1 a2 a3 a4 a5
    exact ⟨w', go_sw rfl (by decide +kernel) h⟩
  | 13, _ =>
    obtain ⟨w', h⟩ := op_13 a0 a1 a2 a3 a4 a5
    exact ⟨w', go_sw rfl (by decide +kernel) h⟩
  | 14, _ =>
    obtain ⟨w', h⟩ := op_14 a0 a1 a2 a3 a4 a5
    exact ⟨w', go_sw rfl (by decide +kernel) h⟩
  | 15, _ =>
    obtain ⟨w', h⟩ := op_15 a0 a1 a2 a3 a4 a5
    exact ⟨w', go_sw rfl (by decide +kernel) h⟩
  | 16, _ =>
    obtain ⟨w', h⟩ := op_16 a0 a1 a2 a3 a4 a5
    exact ⟨w', go_sw rfl (by decide +kernel) h⟩
  | 17, _ =>
    obtain ⟨w', h⟩ := op_17 a0 a1 a2 a3 a4 a5
    exact ⟨w', go_sw rfl (by decide +kernel) h⟩
  | 18, _ =>
    obtain ⟨w', h⟩ := op_18 a0 a1 a2 a3 a4 a5
    exact ⟨w', go_sw rfl (by decide +kernel) h⟩
  | 19, _ =>
    obtain ⟨w', h⟩ := op_19 a0 a1 a2 a3 a4 a5
    exact ⟨w', go_sw rfl (by decide +kernel) h⟩
  | 20, _ =>
    obtain ⟨w', h⟩ := op_20 a0 a1 a2 a3 a4 a5
    exact ⟨w', go_sw rfl (by decide +kernel) h⟩
  | 21, _ =>
    obtain ⟨w', h⟩ := op_21 a0 a1 a2 a3 a4 a5
    exact ⟨w', go_sw rfl (by decide +kernel) h⟩
  | 22, _ =>
    obtain ⟨w', h⟩ := op_22 a0 a1 a2 a3 a4 a5
    exact ⟨w', go_sw rfl (by decide +kernel) h⟩
  | 23, _ =>
    obtain ⟨w', h⟩ := op_23 a0 a1 a2 a3 a4 a5
    exact ⟨w', go_sw rfl (by decide +kernel) h⟩
  | 24, _ =>
    obtain ⟨w', h⟩ := op_24 a0 a1 a2 a3 a4 a5
    exact ⟨w', go_sw rfl (by decide +kernel) h⟩
  | 25, _ =>
    obtain ⟨w', h⟩ := op_25 a0 a1 a2 a3 a4 a5
    exact ⟨w', go_sw rfl (by decide +kernel) h⟩
  | 26, _ =>
    obtain ⟨w', h⟩ := op_26 a0 a1 a2 a3 a4 a5
    exact ⟨w', go_sw rfl (by decide +kernel) h⟩
  | 27, _ =>
    obtain ⟨w', h⟩ := op_27 a0 a1 a2 a3 a4 a5
    exact ⟨w', go_sw rfl (by decide +kernel) h⟩
  | 28, _ =>
    obtain ⟨w', h⟩ := op_28 a0 a1 a2 a3 a4 a5
    exact ⟨w', go_sw rfl (by decide +kernel) h⟩
  | 29, _ =>
    obtain ⟨w', h⟩ := op_29 a0 a1 a2 a3 a4 a5
    exact ⟨w', go_sw rfl (by decide +kernel) h⟩
  | 30, _ =>
    obtain ⟨w', h⟩ := op_30 a0 a1 a2 a3 a4 a5
    exact ⟨w', go_sw rfl (by decide +kernel) h⟩
  | 31, _ =>
    obtain ⟨w', h⟩ := op_31 a0 a1 a2 a3 a4 a5
    exact ⟨w', go_sw rfl (by decide +kernel) h⟩
  | 32, _ =>
    obtain ⟨w', h⟩ := op_32 a0 a1 a2 a3 a4 a5
    exact ⟨w', go_sw rfl (by decide +kernel) h⟩
  | 33, _ =>
    obtain ⟨w', h⟩ := op_33 a0 a1 a2 a3 a4 a5
    exact ⟨w', go_sw rfl (by decide +kernel) h⟩
  | 34, _ =>
    obtain ⟨w', h⟩ := op_34 a0 a1 a2 a3 a4 a5
    exact ⟨w', go_sw rfl (by decide +kernel) h⟩
  | 35, _ =>
    obtain ⟨w', h⟩ := op_35 a0 a1 a2 a3 a4 a5
    exact ⟨w', go_sw rfl (by decide +kernel) h⟩
  | 36, _ =>
    obtain ⟨w', h⟩ := op_36 a0 a1 a2 a3 a4 a5
    exact ⟨w', go_sw rfl (by decide +kernel) h⟩
  | 37, _ =>
    obtain ⟨w', h⟩ := op_37 a0 a1 a2 a3 a4 a5
    exact ⟨w', go_sw rfl (by decide +kernel) h⟩
  | 38, _ =>
    obtain ⟨w', h⟩ := op_38 a0 a1 a2 a3 a4 a5
    exact ⟨w', go_sw rfl (by decide +kernel) h⟩
  | 39, _ =>
    obtain ⟨w', h⟩ := op_39 a0 a1 a2 a3 a4 a5
    exact ⟨w', go_sw rfl (by decide +kernel) h⟩
  | 40, _ =>
    obtain ⟨w', h⟩ := op_40 a0 a1 a2 a3 a4 a5
    exact ⟨w', go_sw rfl (by decide +kernel) h⟩
  | j + 41, hj => exact ⟨_, go_sw rfl (sw_out (Or.inr (by rw [nI_toInt (by omega)]; omega))) (law_tail (f := sc a0 a1 a2 a3 a4 a5) rfl)⟩
theorem lr_6 (a0 a1 a2 a3 a4 a5 : Int32) : ∃ w', pq_Go 20 pm_law 0 [(0, .ref 0)] [] [sz a0 a1 a2 a3 a4 a5] 0 0 (some (.int 1), w') := by
  obtain ⟨w', h⟩ := lr_sw a0 a1 a2 a3 a4 a5
  refine ⟨w', lw_ctor (sz a0 a1 a2 a3 a4 a5) ?_⟩
  refine go_seg 2 (pc' := 20) (ls' := [(3, .int 0), (2, .ref 90), (1, .ref 1), (0, .ref 0)]) (st' := [.ref 0, .int 0]) (w' := fw (sz a0 a1 a2 a3 a4 a5)) (cs' := 109) (ss' := 12668) ?_ (fun _ _ => rfl)
  refine go_alen (n := 6) (c0 := .inl (.int, 6, .inl (sc a0 a1 a2 a3 a4 a5))) rfl rfl rfl ?_
  rw [show nI 6 = (6 : Int32) from by decide +kernel]
  refine go_seg 2 (pc' := 24) (ls' := [(3, .int 0), (2, .ref 90), (1, .ref 1), (0, .ref 0)]) (st' := [.int 0, .int 0]) (w' := fw (sz a0 a1 a2 a3 a4 a5)) (cs' := 109) (ss' := 12668) ?_ (fun _ _ => rfl)
  refine go_cmp false rfl (by decide +kernel) ?_
  refine go_seg 5 (pc' := 33) (ls' := [(3, .int 0), (2, .ref 90), (1, .ref 1), (0, .ref 0)]) (st' := [.int (a0 &&& 63)]) (w' := fw (sz a0 a1 a2 a3 a4 a5)) (cs' := 109) (ss' := 12668) ?_ (fun _ _ => rfl)
  exact h
theorem lr_s : ∀ L : Nat, L < 6 → pq_br .gt 0 (nI L - 6) = true := by decide +kernel
theorem lr_5 (L : Nat) (hL : L < 6) (xs : Nat → Int32) : ∃ w', pq_Go 20 pm_law 0 [(0, .ref 0)] [] [.inl (.int, L, .inl xs)] 0 0 (some (.int 1), w') := by
  refine ⟨fw (.inl (.int, L, .inl xs)), lw_ctor (.inl (.int, L, .inl xs)) ?_⟩
  refine go_seg 2 (pc' := 20) (ls' := [(3, .int 0), (2, .ref 90), (1, .ref 1), (0, .ref 0)]) (st' := [.ref 0, .int 0]) (w' := fw (.inl (.int, L, .inl xs))) (cs' := 109) (ss' := 12668) ?_ (fun _ _ => rfl)
  refine go_alen (n := L) (c0 := .inl (.int, L, .inl xs)) rfl rfl rfl ?_
  refine go_seg 2 (pc' := 24) (ls' := [(3, .int 0), (2, .ref 90), (1, .ref 1), (0, .ref 0)]) (st' := [.int (nI L - 6), .int 0]) (w' := fw (.inl (.int, L, .inl xs))) (cs' := 109) (ss' := 12668) ?_ (fun _ _ => rfl)
  refine go_cmp true rfl (lr_s L hL) ?_
  exact go_end 2 (fun _ _ => rfl)
theorem lr_all (L : Nat) (hL : L ≤ 6) (xs : Nat → Int32) : ∃ (f : Nat → Int32) (w' : pq_W), (∀ j, j < L → f j = xs j) ∧ pq_Go 20 pm_law 0 [(0, .ref 0)] [] [.inl (.int, L, .inl f)] 0 0 (some (.int 1), w') := by
  rcases Nat.lt_or_ge L 6 with h | h
  · obtain ⟨w', g⟩ := lr_5 L h xs
    exact ⟨xs, w', fun _ _ => rfl, g⟩
  · have h : L = 6 := by omega
    subst h
    obtain ⟨w', g⟩ := lr_6 (xs 0) (xs 1) (xs 2) (xs 3) (xs 4) (xs 5)
    refine ⟨sc (xs 0) (xs 1) (xs 2) (xs 3) (xs 4) (xs 5), w', fun j hj => ?_, g⟩
    match j, hj with
    | 0, _ => rfl
    | 1, _ => rfl
    | 2, _ => rfl
    | 3, _ => rfl
    | 4, _ => rfl
    | 5, _ => rfl
