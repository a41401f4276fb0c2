theorem lq_round {L i n : Nat} {f : Nat → Int32} {w : pq_W} (h0 : lp_O w L f) (hW : WI n w) (hi : i + 6 ≤ L) (hL : L ≤ 3072) (hn : n ≤ 3072) : lp_R L f i n w 27 := by
  intro K
  obtain ⟨j, hj, e⟩ := pk_andE (f i) (m := 63) 6 (by decide +kernel)
  have S : ∃ w', pq_Go 300 pm_law 33 (lp_LS i) [.int (nI j)] w 109 12668 (some (.int 1), w') := by
    clear e
    match j, hj with
    | 0, _ =>
      obtain ⟨w', h⟩ := lp_0 h0 hW hi hL hn K
      exact ⟨w', go_sw rfl (by decide +kernel) h⟩
    | 1, _ =>
      obtain ⟨w', h⟩ := lp_1 h0 hW hi hL hn K
      exact ⟨w', go_sw rfl (by decide +kernel) h⟩
    | 2, _ =>
      obtain ⟨w', h⟩ := lp_2 h0 hW hi hL hn K
      exact ⟨w', go_sw rfl (by decide +kernel) h⟩
    | 3, _ =>
      obtain ⟨w', h⟩ := lp_3 h0 hW hi hL hn K
      exact ⟨w', go_sw rfl (by decide +kernel) h⟩
    | 4, _ =>
      obtain ⟨w', h⟩ := lp_4 h0 hW hi hL hn K
      exact ⟨w', go_sw rfl (by decide +kernel) h⟩
    | 5, _ =>
      obtain ⟨w', h⟩ := lp_5 h0 hW hi hL hn K
      exact ⟨w', go_sw rfl (by decide +kernel) h⟩
    | 6, _ =>
      obtain ⟨w', h⟩ := lp_6 h0 hW hi hL hn K
      exact ⟨w', go_sw rfl (by decide +kernel) h⟩
    | 7, _ =>
      obtain ⟨w', h⟩ := lp_7 h0 hW hi hL hn K
      exact ⟨w', go_sw rfl (by decide +kernel) h⟩
    | 8, _ =>
      obtain ⟨w', h⟩ := lp_8 h0 hW hi hL hn K
      exact ⟨w', go_sw rfl (by decide +kernel) h⟩
    | 9, _ =>
      obtain ⟨w', h⟩ := lp_9 h0 hW hi hL hn K
      exact ⟨w', go_sw rfl (by decide +kernel) h⟩
    | 10, _ =>
      obtain ⟨w', h⟩ := lp_10 h0 hW hi hL hn K
      exact ⟨w', go_sw rfl (by decide +kernel) h⟩
    | 11, _ =>
      obtain ⟨w', h⟩ := lp_11 h0 hW hi hL hn K
      exact ⟨w', go_sw rfl (by decide +kernel) h⟩
    | 12, _ =>
      obtain ⟨w', h⟩ := lp_12 h0 hW hi hL hn K
      exact ⟨w', go_sw rfl (by decide +kernel) h⟩
    | 13, _ =>
      obtain ⟨w', h⟩ := lp_13 h0 hW hi hL hn K
      exact ⟨w', go_sw rfl (by decide +kernel) h⟩
    | 14, _ =>
      obtain ⟨w', h⟩ := lp_14 h0 hW hi hL hn K
      exact ⟨w', go_sw rfl (by decide +kernel) h⟩
    | 15, _ =>
      obtain ⟨w', h⟩ := lp_15 h0 hW hi hL hn K
      exact ⟨w', go_sw rfl (by decide +kernel) h⟩
    | 16, _ =>
      obtain ⟨w', h⟩ := lp_16 h0 hW hi hL hn K
      exact ⟨w', go_sw rfl (by decide +kernel) h⟩
    | 17, _ =>
      obtain ⟨w', h⟩ := lp_17 h0 hW hi hL hn K
      exact ⟨w', go_sw rfl (by decide +kernel) h⟩
    | 18, _ =>
      obtain ⟨w', h⟩ := lp_18 h0 hW hi hL hn K
      exact ⟨w', go_sw rfl (by decide +kernel) h⟩
    | 19, _ =>
      obtain ⟨w', h⟩ := lp_19 h0 hW hi hL hn K
      exact ⟨w', go_sw rfl (by decide +kernel) h⟩
    | 20, _ =>
      obtain ⟨w', h⟩ := lp_20 h0 hW hi hL hn K
      exact ⟨w', go_sw rfl (by decide +kernel) h⟩
    | 21, _ =>
      obtain ⟨w', h⟩ := lp_21 h0 hW hi hL hn K
      exact ⟨w', go_sw rfl (by decide +kernel) h⟩
    | 22, _ =>
      obtain ⟨w', h⟩ := lp_22 h0 hW hi hL hn K
      exact ⟨w', go_sw rfl (by decide +kernel) h⟩
    | 23, _ =>
      obtain ⟨w', h⟩ := lp_23 h0 hW hi hL hn K
      exact ⟨w', go_sw rfl (by decide +kernel) h⟩
    | 24, _ =>
      obtain ⟨w', h⟩ := lp_24 h0 hW hi hL hn K
      exact ⟨w', go_sw rfl (by decide +kernel) h⟩
    | 25, _ =>
      obtain ⟨w', h⟩ := lp_25 h0 hW hi hL hn K
      exact ⟨w', go_sw rfl (by decide +kernel) h⟩
    | 26, _ =>
      obtain ⟨w', h⟩ := lp_26 h0 hW hi hL hn K
      exact ⟨w', go_sw rfl (by decide +kernel) h⟩
    | 27, _ =>
      obtain ⟨w', h⟩ := lp_27 h0 hW hi hL hn K
      exact ⟨w', go_sw rfl (by decide +kernel) h⟩
    | 28, _ =>
      obtain ⟨w', h⟩ := lp_28 h0 hW hi hL hn K
      exact ⟨w', go_sw rfl (by decide +kernel) h⟩
    | 29, _ =>
      obtain ⟨w', h⟩ := lp_29 h0 hW hi hL hn K
      exact ⟨w', go_sw rfl (by decide +kernel) h⟩
    | 30, _ =>
      obtain ⟨w', h⟩ := lp_30 h0 hW hi hL hn K
      exact ⟨w', go_sw rfl (by decide +kernel) h⟩
    | 31, _ =>
      obtain ⟨w', h⟩ := lp_31 h0 hW hi hL hn K
      exact ⟨w', go_sw rfl (by decide +kernel) h⟩
    | 32, _ =>
      obtain ⟨w', h⟩ := lp_32 h0 hW hi hL hn K
      exact ⟨w', go_sw rfl (by decide +kernel) h⟩
    | 33, _ =>
      obtain ⟨w', h⟩ := lp_33 h0 hW hi hL hn K
      exact ⟨w', go_sw rfl (by decide +kernel) h⟩
    | 34, _ =>
      obtain ⟨w', h⟩ := lp_34 h0 hW hi hL hn K
      exact ⟨w', go_sw rfl (by decide +kernel) h⟩
    | 35, _ =>
      obtain ⟨w', h⟩ := lp_35 h0 hW hi hL hn K
      exact ⟨w', go_sw rfl (by decide +kernel) h⟩
    | 36, _ =>
      obtain ⟨w', h⟩ := lp_36 h0 hW hi hL hn K
      exact ⟨w', go_sw rfl (by decide +kernel) h⟩
    | 37, _ =>
      obtain ⟨w', h⟩ := lp_37 h0 hW hi hL hn K
      exact ⟨w', go_sw rfl (by decide +kernel) h⟩
    | 38, _ =>
      obtain ⟨w', h⟩ := lp_38 h0 hW hi hL hn K
      exact ⟨w', go_sw rfl (by decide +kernel) h⟩
    | 39, _ =>
      obtain ⟨w', h⟩ := lp_39 h0 hW hi hL hn K
      exact ⟨w', go_sw rfl (by decide +kernel) h⟩
    | 40, _ =>
      obtain ⟨w', h⟩ := lp_40 h0 hW hi hL hn K
      exact ⟨w', go_sw rfl (by decide +kernel) h⟩
    | j + 41, hj =>
      obtain ⟨w', h⟩ := K w (WI_up hW) h0
      exact ⟨w', go_sw rfl (sw_out (Or.inr (by rw [nI_toInt (by omega)]; omega))) h⟩
  obtain ⟨w', g⟩ := S
  refine ⟨w', ?_⟩
  refine go_seg 2 (pc' := 29) (ls' := lp_LS i) (st' := [.int (nI i), .ref 0]) (w' := w) (cs' := 109) (ss' := 12668) ?_ (fun _ _ => rfl)
  refine go_ald (z := .int (f i)) rfl h0 (pa_i (by omega) (by omega)) ?_
  refine go_seg 2 (pc' := 33) (ls' := lp_LS i) (st' := [.int (f i &&& 63)]) (w' := w) (cs' := 109) (ss' := 12668) ?_ (fun _ _ => rfl)
  rw [e]
  exact g
theorem lq_loop {L : Nat} {f : Nat → Int32} (hL : L ≤ 3072) : ∀ (m i n : Nat) (w : pq_W), L ≤ i + m → i ≤ L → n ≤ i → lp_O w L f → WI n w → ∃ w', pq_Go 300 pm_law 18 (lp_LS i) [] w 109 12668 (some (.int 1), w') := by
  intro m
  induction m with
  | zero =>
    intro i n w h1 h2 h3 h0 hW
    refine ⟨w, ?_⟩
    refine go_seg 2 (pc' := 20) (ls' := lp_LS i) (st' := [.ref 0, .int (nI i)]) (w' := w) (cs' := 109) (ss' := 12668) ?_ (fun _ _ => rfl)
    refine go_alen (n := L) rfl h0 rfl ?_
    refine go_seg 2 (pc' := 24) (ls' := lp_LS i) (st' := [.int (nI L - 6), .int (nI i)]) (w' := w) (cs' := 109) (ss' := 12668) ?_ (fun _ _ => rfl)
    have hs : (nI L - 6).toInt = (L : Int) - 6 := by
      rw [Int32.toInt_sub, nI_toInt (by omega)]
      exact Int.bmod_eq_of_le (by show -2147483648 ≤ (L : Int) - 6; omega) (by show (L : Int) - 6 < 2147483648; omega)
    refine go_cmp true rfl (br_gt_t hs (by rw [nI_toInt (by omega)]; omega)) ?_
    exact go_end 2 (fun _ _ => rfl)
  | succ m ih =>
    intro i n w h1 h2 h3 h0 hW
    have hs : (nI L - 6).toInt = (L : Int) - 6 := by
      rw [Int32.toInt_sub, nI_toInt (by omega)]
      exact Int.bmod_eq_of_le (by show -2147483648 ≤ (L : Int) - 6; omega) (by show (L : Int) - 6 < 2147483648; omega)
    have S : ∃ w', pq_Go 300 pm_law 24 (lp_LS i) [.int (nI L - 6), .int (nI i)] w 109 12668 (some (.int 1), w') := by
      by_cases c : i + 6 ≤ L
      · obtain ⟨w', g⟩ := lq_round h0 hW c hL (by omega) (fun w2 q2 h2 => by
          obtain ⟨w', g⟩ := ih (i + 6) (n + 1) w2 (by omega) (by omega) (by omega) h2 q2
          refine ⟨w', go_seg 2 (pc' := 18) (ls' := lp_LS (i + 6)) (st' := []) (w' := w2) (cs' := 109) (ss' := 12668) g (fun _ _ => ?_)⟩
          have e6 : nI (i + 6) = nI i + 6 := by
            rw [← nI_add, show nI 6 = (6 : Int32) from by decide +kernel]
          unfold lp_LS
          rw [e6]
          rfl)
        exact ⟨w', go_cmp false rfl (br_gt_f hs (by rw [nI_toInt (by omega)]; omega)) g⟩
      · exact ⟨w, go_cmp true rfl (br_gt_t hs (by rw [nI_toInt (by omega)]; omega)) (go_end 2 (fun _ _ => rfl))⟩
    obtain ⟨w', g⟩ := S
    refine ⟨w', ?_⟩
    refine go_seg 2 (pc' := 20) (ls' := lp_LS i) (st' := [.ref 0, .int (nI i)]) (w' := w) (cs' := 109) (ss' := 12668) ?_ (fun _ _ => rfl)
    refine go_alen (n := L) rfl h0 rfl ?_
    refine go_seg 2 (pc' := 24) (ls' := lp_LS i) (st' := [.int (nI L - 6), .int (nI i)]) (w' := w) (cs' := 109) (ss' := 12668) ?_ (fun _ _ => rfl)
    exact g
/-- the law's whole run, where the fresh world is as it should be -/
theorem lq_all {L : Nat} {f : Nat → Int32} (hL : L ≤ 3072) (hF : WI 0 (fw (.inl (.int, L, .inl f)))) : ∃ w', pq_Go 300 pm_law 0 [(0, .ref 0)] [] [.inl (.int, L, .inl f), cc1, cc2, cc3, cc4] 0 0 (some (.int 1), w') := by
  obtain ⟨w', g⟩ := lq_loop hL L 0 0 (fw (.inl (.int, L, .inl f))) (by omega) (by omega) (Nat.le_refl _) rfl hF
  exact ⟨w', lx_ctor _ g⟩
