/-! the law's loop: one round for each call -/
def lp_LS (i : Nat) : pq_L := [(3, .int (nI i)), (2, .ref 94), (1, .ref 5), (0, .ref 0)]
def lp_O (w : pq_W) (L : Nat) (f : Nat → Int32) : Prop := w[0]? = some (.inl (.int, L, .inl f))
theorem lp_k {k j : Nat} {as : List Value} {w : pq_W} {r : Option Value} {w1 : pq_W} {L : Nat} {f : Nat → Int32} (h : lp_O w L f) (g : pq_Ru k j as w (r, w1)) : lp_O w1 L f := ((lo_Ru g) (List.getElem?_eq_some_iff.mp h).1).1.trans h
theorem lp_at {L i : Nat} {f : Nat → Int32} (hi : i + 6 ≤ L) (hL : L ≤ 3072) (k : Nat) (hk : k < 6) (x : Int32) (hx : nI k = x) : pq_ald (.inl (.int, L, .inl f)) (nI i + x) 0 = some (.int (f (i + k))) := by
  rw [← hx, nI_add]
  exact pa_i (by omega) (by omega)
theorem br_self (x : Int32) : pq_br .eq x x = true := decide_eq_true rfl
def fwd (a1 a2 : Int32) : Int64 := (a1.toInt64 <<< ((32 : Int32).toInt64 &&& 63)) ||| (a2.toInt64 &&& 4294967295)
/-- what a round makes of pc -/
def lp_R (L : Nat) (f : Nat → Int32) (i n : Nat) (w : pq_W) (pc : Nat) : Prop := (∀ w2, WI (n + 1) w2 → lp_O w2 L f → ∃ w', pq_Go 300 pm_law 1667 (lp_LS i) [] w2 109 12668 (some (.int 1), w')) → ∃ w', pq_Go 300 pm_law pc (lp_LS i) [] w 109 12668 (some (.int 1), w')

theorem lp_0 {L i n : Nat} {f : Nat → Int32} {w : pq_W} (h0 : lp_O w L f) (hW : WI n w) (hi : i + 6 ≤ L) (hL : L ≤ 3072) (hn : n ≤ 3072) : lp_R L f i n w 212 := by
  intro K
  obtain ⟨x1, w1, x2, w2, g1, g2, q2⟩ := pr_cell (n := n) (a := (f (i + 1))) (b := (f (i + 2))) w hW
  have h1 : lp_O w1 L f := lp_k h0 g1
  obtain ⟨w', g⟩ := K w2 q2 (lp_k h1 g2)
  refine ⟨w', ?_⟩
  refine go_seg 5 (pc' := 217) (ls' := lp_LS i) (st' := [.int (nI i + 1), .ref 0, .ref 5]) (w' := w) (cs' := 109) (ss' := 12668) ?_ (fun _ _ => rfl)
  refine go_ald (z := .int (f (i + 1))) rfl h0 (lp_at hi hL 1 (by decide) _ (by decide +kernel)) ?_
  refine go_seg 4 (pc' := 222) (ls' := lp_LS i) (st' := [.int (nI i + 2), .ref 0, .int (f (i + 1)), .ref 5]) (w' := w) (cs' := 109) (ss' := 12668) ?_ (fun _ _ => rfl)
  refine go_ald (z := .int (f (i + 2))) rfl h0 (lp_at hi hL 2 (by decide) _ (by decide +kernel)) ?_
  refine go_cl (k1 := 300) (r := some (.int x1)) (st' := [.int x1]) (cs' := 109) (ss' := 12668) rfl rfl rfl rfl rfl rfl rfl g1 ?_
  refine go_seg 6 (pc' := 232) (ls' := lp_LS i) (st' := [.int (nI i + 1), .ref 0, .ref 94]) (w' := w1) (cs' := 109) (ss' := 12668) ?_ (fun _ _ => rfl)
  refine go_ald (z := .int (f (i + 1))) rfl h1 (lp_at hi hL 1 (by decide) _ (by decide +kernel)) ?_
  refine go_seg 4 (pc' := 237) (ls' := lp_LS i) (st' := [.int (nI i + 2), .ref 0, .int (f (i + 1)), .ref 94]) (w' := w1) (cs' := 109) (ss' := 12668) ?_ (fun _ _ => rfl)
  refine go_ald (z := .int (f (i + 2))) rfl h1 (lp_at hi hL 2 (by decide) _ (by decide +kernel)) ?_
  refine go_cl (k1 := 300) (r := some (.int x2)) (st' := [.int x2]) (cs' := 109) (ss' := 12668) rfl rfl rfl rfl rfl rfl rfl g2 ?_
  refine go_seg 2 (pc' := 1667) (ls' := lp_LS i) (st' := []) (w' := w2) (cs' := 109) (ss' := 12668) ?_ (fun _ _ => rfl)
  exact g
theorem lp_1 {L i n : Nat} {f : Nat → Int32} {w : pq_W} (h0 : lp_O w L f) (hW : WI n w) (hi : i + 6 ≤ L) (hL : L ≤ 3072) (hn : n ≤ 3072) : lp_R L f i n w 245 := by
  intro K
  obtain ⟨x1, w1, x2, w2, g1, g2, q2⟩ := pr_block (n := n) (a := (f (i + 1))) (b := (f (i + 2))) w hW
  have h1 : lp_O w1 L f := lp_k h0 g1
  obtain ⟨w', g⟩ := K w2 q2 (lp_k h1 g2)
  refine ⟨w', ?_⟩
  refine go_seg 5 (pc' := 250) (ls' := lp_LS i) (st' := [.int (nI i + 1), .ref 0, .ref 5]) (w' := w) (cs' := 109) (ss' := 12668) ?_ (fun _ _ => rfl)
  refine go_ald (z := .int (f (i + 1))) rfl h0 (lp_at hi hL 1 (by decide) _ (by decide +kernel)) ?_
  refine go_seg 4 (pc' := 255) (ls' := lp_LS i) (st' := [.int (nI i + 2), .ref 0, .int (f (i + 1)), .ref 5]) (w' := w) (cs' := 109) (ss' := 12668) ?_ (fun _ _ => rfl)
  refine go_ald (z := .int (f (i + 2))) rfl h0 (lp_at hi hL 2 (by decide) _ (by decide +kernel)) ?_
  refine go_cl (k1 := 300) (r := some (.int x1)) (st' := [.int x1]) (cs' := 109) (ss' := 12668) rfl rfl rfl rfl rfl rfl rfl g1 ?_
  refine go_seg 6 (pc' := 265) (ls' := lp_LS i) (st' := [.int (nI i + 1), .ref 0, .ref 94]) (w' := w1) (cs' := 109) (ss' := 12668) ?_ (fun _ _ => rfl)
  refine go_ald (z := .int (f (i + 1))) rfl h1 (lp_at hi hL 1 (by decide) _ (by decide +kernel)) ?_
  refine go_seg 4 (pc' := 270) (ls' := lp_LS i) (st' := [.int (nI i + 2), .ref 0, .int (f (i + 1)), .ref 94]) (w' := w1) (cs' := 109) (ss' := 12668) ?_ (fun _ _ => rfl)
  refine go_ald (z := .int (f (i + 2))) rfl h1 (lp_at hi hL 2 (by decide) _ (by decide +kernel)) ?_
  refine go_cl (k1 := 300) (r := some (.int x2)) (st' := [.int x2]) (cs' := 109) (ss' := 12668) rfl rfl rfl rfl rfl rfl rfl g2 ?_
  refine go_seg 2 (pc' := 1667) (ls' := lp_LS i) (st' := []) (w' := w2) (cs' := 109) (ss' := 12668) ?_ (fun _ _ => rfl)
  exact g
theorem lp_2 {L i n : Nat} {f : Nat → Int32} {w : pq_W} (h0 : lp_O w L f) (hW : WI n w) (hi : i + 6 ≤ L) (hL : L ≤ 3072) (hn : n ≤ 3072) : lp_R L f i n w 278 := by
  intro K
  by_cases e : f (i + 2) = 0
  · obtain ⟨x, w1, w2, g1, g2, q2⟩ := pe_shut (n := n) (a := (f (i + 1))) (b := 0) (Or.inl rfl) w hW
    have h1 : lp_O w1 L f := lp_k h0 g1
    obtain ⟨w', g⟩ := K w2 q2 (lp_k h1 g2)
    refine ⟨w', ?_⟩
    refine go_seg 5 (pc' := 283) (ls' := lp_LS i) (st' := [.int (nI i + 1), .ref 0, .ref 5]) (w' := w) (cs' := 109) (ss' := 12668) ?_ (fun _ _ => rfl)
    refine go_ald (z := .int (f (i + 1))) rfl h0 (lp_at hi hL 1 (by decide) _ (by decide +kernel)) ?_
    refine go_seg 4 (pc' := 288) (ls' := lp_LS i) (st' := [.int (nI i + 2), .ref 0, .int (f (i + 1)), .ref 5]) (w' := w) (cs' := 109) (ss' := 12668) ?_ (fun _ _ => rfl)
    refine go_ald (z := .int (f (i + 2))) rfl h0 (lp_at hi hL 2 (by decide) _ (by decide +kernel)) ?_
    refine go_if true rfl (decide_eq_true e) ?_
    refine go_seg 1 (pc' := 297) (ls' := lp_LS i) (st' := [.int 0, .int (f (i + 1)), .ref 5]) (w' := w) (cs' := 109) (ss' := 12668) ?_ (fun _ _ => rfl)
    refine go_cl (k1 := 300) (r := some (.int x)) (st' := [.int x]) (cs' := 109) (ss' := 12668) rfl rfl rfl rfl rfl rfl rfl g1 ?_
    refine go_seg 5 (pc' := 305) (ls' := lp_LS i) (st' := [.int (nI i + 1), .ref 0, .ref 94, .int x]) (w' := w1) (cs' := 109) (ss' := 12668) ?_ (fun _ _ => rfl)
    refine go_ald (z := .int (f (i + 1))) rfl h1 (lp_at hi hL 1 (by decide) _ (by decide +kernel)) ?_
    refine go_seg 4 (pc' := 310) (ls' := lp_LS i) (st' := [.int (nI i + 2), .ref 0, .int (f (i + 1)), .ref 94, .int x]) (w' := w1) (cs' := 109) (ss' := 12668) ?_ (fun _ _ => rfl)
    refine go_ald (z := .int (f (i + 2))) rfl h1 (lp_at hi hL 2 (by decide) _ (by decide +kernel)) ?_
    refine go_if true rfl (decide_eq_true e) ?_
    refine go_seg 1 (pc' := 319) (ls' := lp_LS i) (st' := [.int 0, .int (f (i + 1)), .ref 94, .int x]) (w' := w1) (cs' := 109) (ss' := 12668) ?_ (fun _ _ => rfl)
    refine go_cl (k1 := 300) (r := some (.int x)) (st' := [.int x, .int x]) (cs' := 109) (ss' := 12668) rfl rfl rfl rfl rfl rfl rfl g2 ?_
    refine go_cmp true rfl (br_self _) ?_
    exact g
  · obtain ⟨x, w1, w2, g1, g2, q2⟩ := pe_shut (n := n) (a := (f (i + 1))) (b := 1) (Or.inr rfl) w hW
    have h1 : lp_O w1 L f := lp_k h0 g1
    obtain ⟨w', g⟩ := K w2 q2 (lp_k h1 g2)
    refine ⟨w', ?_⟩
    refine go_seg 5 (pc' := 283) (ls' := lp_LS i) (st' := [.int (nI i + 1), .ref 0, .ref 5]) (w' := w) (cs' := 109) (ss' := 12668) ?_ (fun _ _ => rfl)
    refine go_ald (z := .int (f (i + 1))) rfl h0 (lp_at hi hL 1 (by decide) _ (by decide +kernel)) ?_
    refine go_seg 4 (pc' := 288) (ls' := lp_LS i) (st' := [.int (nI i + 2), .ref 0, .int (f (i + 1)), .ref 5]) (w' := w) (cs' := 109) (ss' := 12668) ?_ (fun _ _ => rfl)
    refine go_ald (z := .int (f (i + 2))) rfl h0 (lp_at hi hL 2 (by decide) _ (by decide +kernel)) ?_
    refine go_if false rfl (decide_eq_false e) ?_
    refine go_seg 2 (pc' := 297) (ls' := lp_LS i) (st' := [.int 1, .int (f (i + 1)), .ref 5]) (w' := w) (cs' := 109) (ss' := 12668) ?_ (fun _ _ => rfl)
    refine go_cl (k1 := 300) (r := some (.int x)) (st' := [.int x]) (cs' := 109) (ss' := 12668) rfl rfl rfl rfl rfl rfl rfl g1 ?_
    refine go_seg 5 (pc' := 305) (ls' := lp_LS i) (st' := [.int (nI i + 1), .ref 0, .ref 94, .int x]) (w' := w1) (cs' := 109) (ss' := 12668) ?_ (fun _ _ => rfl)
    refine go_ald (z := .int (f (i + 1))) rfl h1 (lp_at hi hL 1 (by decide) _ (by decide +kernel)) ?_
    refine go_seg 4 (pc' := 310) (ls' := lp_LS i) (st' := [.int (nI i + 2), .ref 0, .int (f (i + 1)), .ref 94, .int x]) (w' := w1) (cs' := 109) (ss' := 12668) ?_ (fun _ _ => rfl)
    refine go_ald (z := .int (f (i + 2))) rfl h1 (lp_at hi hL 2 (by decide) _ (by decide +kernel)) ?_
    refine go_if false rfl (decide_eq_false e) ?_
    refine go_seg 2 (pc' := 319) (ls' := lp_LS i) (st' := [.int 1, .int (f (i + 1)), .ref 94, .int x]) (w' := w1) (cs' := 109) (ss' := 12668) ?_ (fun _ _ => rfl)
    refine go_cl (k1 := 300) (r := some (.int x)) (st' := [.int x, .int x]) (cs' := 109) (ss' := 12668) rfl rfl rfl rfl rfl rfl rfl g2 ?_
    refine go_cmp true rfl (br_self _) ?_
    exact g
theorem lp_3 {L i n : Nat} {f : Nat → Int32} {w : pq_W} (h0 : lp_O w L f) (hW : WI n w) (hi : i + 6 ≤ L) (hL : L ≤ 3072) (hn : n ≤ 3072) : lp_R L f i n w 327 := by
  intro K
  obtain ⟨x1, w1, x2, w2, g1, g2, q2⟩ := pr_land (n := n) (a := (f (i + 1))) (b := (f (i + 2))) (c := (f (i + 3))) w hW
  have h1 : lp_O w1 L f := lp_k h0 g1
  obtain ⟨w', g⟩ := K w2 q2 (lp_k h1 g2)
  refine ⟨w', ?_⟩
  refine go_seg 5 (pc' := 332) (ls' := lp_LS i) (st' := [.int (nI i + 1), .ref 0, .ref 5]) (w' := w) (cs' := 109) (ss' := 12668) ?_ (fun _ _ => rfl)
  refine go_ald (z := .int (f (i + 1))) rfl h0 (lp_at hi hL 1 (by decide) _ (by decide +kernel)) ?_
  refine go_seg 4 (pc' := 337) (ls' := lp_LS i) (st' := [.int (nI i + 2), .ref 0, .int (f (i + 1)), .ref 5]) (w' := w) (cs' := 109) (ss' := 12668) ?_ (fun _ _ => rfl)
  refine go_ald (z := .int (f (i + 2))) rfl h0 (lp_at hi hL 2 (by decide) _ (by decide +kernel)) ?_
  refine go_seg 4 (pc' := 342) (ls' := lp_LS i) (st' := [.int (nI i + 3), .ref 0, .int (f (i + 2)), .int (f (i + 1)), .ref 5]) (w' := w) (cs' := 109) (ss' := 12668) ?_ (fun _ _ => rfl)
  refine go_ald (z := .int (f (i + 3))) rfl h0 (lp_at hi hL 3 (by decide) _ (by decide +kernel)) ?_
  refine go_cl (k1 := 300) (r := some (.int x1)) (st' := [.int x1]) (cs' := 109) (ss' := 12668) rfl rfl rfl rfl rfl rfl rfl g1 ?_
  refine go_seg 6 (pc' := 352) (ls' := lp_LS i) (st' := [.int (nI i + 1), .ref 0, .ref 94]) (w' := w1) (cs' := 109) (ss' := 12668) ?_ (fun _ _ => rfl)
  refine go_ald (z := .int (f (i + 1))) rfl h1 (lp_at hi hL 1 (by decide) _ (by decide +kernel)) ?_
  refine go_seg 4 (pc' := 357) (ls' := lp_LS i) (st' := [.int (nI i + 2), .ref 0, .int (f (i + 1)), .ref 94]) (w' := w1) (cs' := 109) (ss' := 12668) ?_ (fun _ _ => rfl)
  refine go_ald (z := .int (f (i + 2))) rfl h1 (lp_at hi hL 2 (by decide) _ (by decide +kernel)) ?_
  refine go_seg 4 (pc' := 362) (ls' := lp_LS i) (st' := [.int (nI i + 3), .ref 0, .int (f (i + 2)), .int (f (i + 1)), .ref 94]) (w' := w1) (cs' := 109) (ss' := 12668) ?_ (fun _ _ => rfl)
  refine go_ald (z := .int (f (i + 3))) rfl h1 (lp_at hi hL 3 (by decide) _ (by decide +kernel)) ?_
  refine go_cl (k1 := 300) (r := some (.int x2)) (st' := [.int x2]) (cs' := 109) (ss' := 12668) rfl rfl rfl rfl rfl rfl rfl g2 ?_
  refine go_seg 2 (pc' := 1667) (ls' := lp_LS i) (st' := []) (w' := w2) (cs' := 109) (ss' := 12668) ?_ (fun _ _ => rfl)
  exact g
theorem lp_4 {L i n : Nat} {f : Nat → Int32} {w : pq_W} (h0 : lp_O w L f) (hW : WI n w) (hi : i + 6 ≤ L) (hL : L ≤ 3072) (hn : n ≤ 3072) : lp_R L f i n w 370 := by
  intro K
  obtain ⟨x1, w1, x2, w2, g1, g2, q2⟩ := pr_landIs (n := n) (a := (f (i + 1))) (b := (f (i + 2))) w hW
  have h1 : lp_O w1 L f := lp_k h0 g1
  obtain ⟨w', g⟩ := K w2 q2 (lp_k h1 g2)
  refine ⟨w', ?_⟩
  refine go_seg 5 (pc' := 375) (ls' := lp_LS i) (st' := [.int (nI i + 1), .ref 0, .ref 5]) (w' := w) (cs' := 109) (ss' := 12668) ?_ (fun _ _ => rfl)
  refine go_ald (z := .int (f (i + 1))) rfl h0 (lp_at hi hL 1 (by decide) _ (by decide +kernel)) ?_
  refine go_seg 4 (pc' := 380) (ls' := lp_LS i) (st' := [.int (nI i + 2), .ref 0, .int (f (i + 1)), .ref 5]) (w' := w) (cs' := 109) (ss' := 12668) ?_ (fun _ _ => rfl)
  refine go_ald (z := .int (f (i + 2))) rfl h0 (lp_at hi hL 2 (by decide) _ (by decide +kernel)) ?_
  refine go_cl (k1 := 300) (r := some (.int x1)) (st' := [.int x1]) (cs' := 109) (ss' := 12668) rfl rfl rfl rfl rfl rfl rfl g1 ?_
  refine go_seg 6 (pc' := 390) (ls' := lp_LS i) (st' := [.int (nI i + 1), .ref 0, .ref 94]) (w' := w1) (cs' := 109) (ss' := 12668) ?_ (fun _ _ => rfl)
  refine go_ald (z := .int (f (i + 1))) rfl h1 (lp_at hi hL 1 (by decide) _ (by decide +kernel)) ?_
  refine go_seg 4 (pc' := 395) (ls' := lp_LS i) (st' := [.int (nI i + 2), .ref 0, .int (f (i + 1)), .ref 94]) (w' := w1) (cs' := 109) (ss' := 12668) ?_ (fun _ _ => rfl)
  refine go_ald (z := .int (f (i + 2))) rfl h1 (lp_at hi hL 2 (by decide) _ (by decide +kernel)) ?_
  refine go_cl (k1 := 300) (r := some (.int x2)) (st' := [.int x2]) (cs' := 109) (ss' := 12668) rfl rfl rfl rfl rfl rfl rfl g2 ?_
  refine go_seg 2 (pc' := 1667) (ls' := lp_LS i) (st' := []) (w' := w2) (cs' := 109) (ss' := 12668) ?_ (fun _ _ => rfl)
  exact g
theorem lp_5 {L i n : Nat} {f : Nat → Int32} {w : pq_W} (h0 : lp_O w L f) (hW : WI n w) (hi : i + 6 ≤ L) (hL : L ≤ 3072) (hn : n ≤ 3072) : lp_R L f i n w 403 := by
  intro K
  obtain ⟨x1, w1, x2, w2, g1, g2, q2⟩ := pr_rate (n := n) (a := (f (i + 1))) (b := (f (i + 2))) w hW
  have h1 : lp_O w1 L f := lp_k h0 g1
  obtain ⟨w', g⟩ := K w2 q2 (lp_k h1 g2)
  refine ⟨w', ?_⟩
  refine go_seg 5 (pc' := 408) (ls' := lp_LS i) (st' := [.int (nI i + 1), .ref 0, .ref 5]) (w' := w) (cs' := 109) (ss' := 12668) ?_ (fun _ _ => rfl)
  refine go_ald (z := .int (f (i + 1))) rfl h0 (lp_at hi hL 1 (by decide) _ (by decide +kernel)) ?_
  refine go_seg 4 (pc' := 413) (ls' := lp_LS i) (st' := [.int (nI i + 2), .ref 0, .int (f (i + 1)), .ref 5]) (w' := w) (cs' := 109) (ss' := 12668) ?_ (fun _ _ => rfl)
  refine go_ald (z := .int (f (i + 2))) rfl h0 (lp_at hi hL 2 (by decide) _ (by decide +kernel)) ?_
  refine go_cl (k1 := 300) (r := some (.int x1)) (st' := [.int x1]) (cs' := 109) (ss' := 12668) rfl rfl rfl rfl rfl rfl rfl g1 ?_
  refine go_seg 6 (pc' := 423) (ls' := lp_LS i) (st' := [.int (nI i + 1), .ref 0, .ref 94]) (w' := w1) (cs' := 109) (ss' := 12668) ?_ (fun _ _ => rfl)
  refine go_ald (z := .int (f (i + 1))) rfl h1 (lp_at hi hL 1 (by decide) _ (by decide +kernel)) ?_
  refine go_seg 4 (pc' := 428) (ls' := lp_LS i) (st' := [.int (nI i + 2), .ref 0, .int (f (i + 1)), .ref 94]) (w' := w1) (cs' := 109) (ss' := 12668) ?_ (fun _ _ => rfl)
  refine go_ald (z := .int (f (i + 2))) rfl h1 (lp_at hi hL 2 (by decide) _ (by decide +kernel)) ?_
  refine go_cl (k1 := 300) (r := some (.int x2)) (st' := [.int x2]) (cs' := 109) (ss' := 12668) rfl rfl rfl rfl rfl rfl rfl g2 ?_
  refine go_seg 2 (pc' := 1667) (ls' := lp_LS i) (st' := []) (w' := w2) (cs' := 109) (ss' := 12668) ?_ (fun _ _ => rfl)
  exact g
theorem lp_6 {L i n : Nat} {f : Nat → Int32} {w : pq_W} (h0 : lp_O w L f) (hW : WI n w) (hi : i + 6 ≤ L) (hL : L ≤ 3072) (hn : n ≤ 3072) : lp_R L f i n w 436 := by
  intro K
  obtain ⟨x1, w1, x2, w2, g1, g2, q2⟩ := pr_airline (n := n) (a := (f (i + 1))) w hW
  have h1 : lp_O w1 L f := lp_k h0 g1
  obtain ⟨w', g⟩ := K w2 q2 (lp_k h1 g2)
  refine ⟨w', ?_⟩
  refine go_seg 5 (pc' := 441) (ls' := lp_LS i) (st' := [.int (nI i + 1), .ref 0, .ref 5]) (w' := w) (cs' := 109) (ss' := 12668) ?_ (fun _ _ => rfl)
  refine go_ald (z := .int (f (i + 1))) rfl h0 (lp_at hi hL 1 (by decide) _ (by decide +kernel)) ?_
  refine go_cl (k1 := 300) (r := some (.int x1)) (st' := [.int x1]) (cs' := 109) (ss' := 12668) rfl rfl rfl rfl rfl rfl rfl g1 ?_
  refine go_seg 6 (pc' := 451) (ls' := lp_LS i) (st' := [.int (nI i + 1), .ref 0, .ref 94]) (w' := w1) (cs' := 109) (ss' := 12668) ?_ (fun _ _ => rfl)
  refine go_ald (z := .int (f (i + 1))) rfl h1 (lp_at hi hL 1 (by decide) _ (by decide +kernel)) ?_
  refine go_cl (k1 := 300) (r := some (.int x2)) (st' := [.int x2]) (cs' := 109) (ss' := 12668) rfl rfl rfl rfl rfl rfl rfl g2 ?_
  refine go_seg 2 (pc' := 1667) (ls' := lp_LS i) (st' := []) (w' := w2) (cs' := 109) (ss' := 12668) ?_ (fun _ _ => rfl)
  exact g
theorem lp_7 {L i n : Nat} {f : Nat → Int32} {w : pq_W} (h0 : lp_O w L f) (hW : WI n w) (hi : i + 6 ≤ L) (hL : L ≤ 3072) (hn : n ≤ 3072) : lp_R L f i n w 459 := by
  intro K
  obtain ⟨x1, w1, x2, w2, g1, g2, q2⟩ := pr_plane (n := n) (a := (f (i + 1))) (b := (f (i + 2))) (c := (f (i + 3))) w hW
  have h1 : lp_O w1 L f := lp_k h0 g1
  obtain ⟨w', g⟩ := K w2 q2 (lp_k h1 g2)
  refine ⟨w', ?_⟩
  refine go_seg 5 (pc' := 464) (ls' := lp_LS i) (st' := [.int (nI i + 1), .ref 0, .ref 5]) (w' := w) (cs' := 109) (ss' := 12668) ?_ (fun _ _ => rfl)
  refine go_ald (z := .int (f (i + 1))) rfl h0 (lp_at hi hL 1 (by decide) _ (by decide +kernel)) ?_
  refine go_seg 4 (pc' := 469) (ls' := lp_LS i) (st' := [.int (nI i + 2), .ref 0, .int (f (i + 1)), .ref 5]) (w' := w) (cs' := 109) (ss' := 12668) ?_ (fun _ _ => rfl)
  refine go_ald (z := .int (f (i + 2))) rfl h0 (lp_at hi hL 2 (by decide) _ (by decide +kernel)) ?_
  refine go_seg 4 (pc' := 474) (ls' := lp_LS i) (st' := [.int (nI i + 3), .ref 0, .int (f (i + 2)), .int (f (i + 1)), .ref 5]) (w' := w) (cs' := 109) (ss' := 12668) ?_ (fun _ _ => rfl)
  refine go_ald (z := .int (f (i + 3))) rfl h0 (lp_at hi hL 3 (by decide) _ (by decide +kernel)) ?_
  refine go_cl (k1 := 300) (r := some (.int x1)) (st' := [.int x1]) (cs' := 109) (ss' := 12668) rfl rfl rfl rfl rfl rfl rfl g1 ?_
  refine go_seg 6 (pc' := 484) (ls' := lp_LS i) (st' := [.int (nI i + 1), .ref 0, .ref 94]) (w' := w1) (cs' := 109) (ss' := 12668) ?_ (fun _ _ => rfl)
  refine go_ald (z := .int (f (i + 1))) rfl h1 (lp_at hi hL 1 (by decide) _ (by decide +kernel)) ?_
  refine go_seg 4 (pc' := 489) (ls' := lp_LS i) (st' := [.int (nI i + 2), .ref 0, .int (f (i + 1)), .ref 94]) (w' := w1) (cs' := 109) (ss' := 12668) ?_ (fun _ _ => rfl)
  refine go_ald (z := .int (f (i + 2))) rfl h1 (lp_at hi hL 2 (by decide) _ (by decide +kernel)) ?_
  refine go_seg 4 (pc' := 494) (ls' := lp_LS i) (st' := [.int (nI i + 3), .ref 0, .int (f (i + 2)), .int (f (i + 1)), .ref 94]) (w' := w1) (cs' := 109) (ss' := 12668) ?_ (fun _ _ => rfl)
  refine go_ald (z := .int (f (i + 3))) rfl h1 (lp_at hi hL 3 (by decide) _ (by decide +kernel)) ?_
  refine go_cl (k1 := 300) (r := some (.int x2)) (st' := [.int x2]) (cs' := 109) (ss' := 12668) rfl rfl rfl rfl rfl rfl rfl g2 ?_
  refine go_seg 2 (pc' := 1667) (ls' := lp_LS i) (st' := []) (w' := w2) (cs' := 109) (ss' := 12668) ?_ (fun _ _ => rfl)
  exact g
theorem lp_8 {L i n : Nat} {f : Nat → Int32} {w : pq_W} (h0 : lp_O w L f) (hW : WI n w) (hi : i + 6 ≤ L) (hL : L ≤ 3072) (hn : n ≤ 3072) : lp_R L f i n w 502 := by
  intro K
  obtain ⟨x1, w1, x2, w2, g1, g2, q2⟩ := pr_as (n := n) (a := (f (i + 1))) (b := (f (i + 2))) w hW
  have h1 : lp_O w1 L f := lp_k h0 g1
  obtain ⟨w', g⟩ := K w2 q2 (lp_k h1 g2)
  refine ⟨w', ?_⟩
  refine go_seg 5 (pc' := 507) (ls' := lp_LS i) (st' := [.int (nI i + 1), .ref 0, .ref 5]) (w' := w) (cs' := 109) (ss' := 12668) ?_ (fun _ _ => rfl)
  refine go_ald (z := .int (f (i + 1))) rfl h0 (lp_at hi hL 1 (by decide) _ (by decide +kernel)) ?_
  refine go_seg 4 (pc' := 512) (ls' := lp_LS i) (st' := [.int (nI i + 2), .ref 0, .int (f (i + 1)), .ref 5]) (w' := w) (cs' := 109) (ss' := 12668) ?_ (fun _ _ => rfl)
  refine go_ald (z := .int (f (i + 2))) rfl h0 (lp_at hi hL 2 (by decide) _ (by decide +kernel)) ?_
  refine go_cl (k1 := 300) (r := some (.int x1)) (st' := [.int x1]) (cs' := 109) (ss' := 12668) rfl rfl rfl rfl rfl rfl rfl g1 ?_
  refine go_seg 6 (pc' := 522) (ls' := lp_LS i) (st' := [.int (nI i + 1), .ref 0, .ref 94]) (w' := w1) (cs' := 109) (ss' := 12668) ?_ (fun _ _ => rfl)
  refine go_ald (z := .int (f (i + 1))) rfl h1 (lp_at hi hL 1 (by decide) _ (by decide +kernel)) ?_
  refine go_seg 4 (pc' := 527) (ls' := lp_LS i) (st' := [.int (nI i + 2), .ref 0, .int (f (i + 1)), .ref 94]) (w' := w1) (cs' := 109) (ss' := 12668) ?_ (fun _ _ => rfl)
  refine go_ald (z := .int (f (i + 2))) rfl h1 (lp_at hi hL 2 (by decide) _ (by decide +kernel)) ?_
  refine go_cl (k1 := 300) (r := some (.int x2)) (st' := [.int x2]) (cs' := 109) (ss' := 12668) rfl rfl rfl rfl rfl rfl rfl g2 ?_
  refine go_seg 2 (pc' := 1667) (ls' := lp_LS i) (st' := []) (w' := w2) (cs' := 109) (ss' := 12668) ?_ (fun _ _ => rfl)
  exact g
theorem lp_9 {L i n : Nat} {f : Nat → Int32} {w : pq_W} (h0 : lp_O w L f) (hW : WI n w) (hi : i + 6 ≤ L) (hL : L ≤ 3072) (hn : n ≤ 3072) : lp_R L f i n w 535 := by
  intro K
  obtain ⟨x1, w1, x2, w2, g1, g2, q2⟩ := pr_planeIs (n := n) (a := (f (i + 1))) (b := (f (i + 2))) w hW
  have h1 : lp_O w1 L f := lp_k h0 g1
  obtain ⟨w', g⟩ := K w2 q2 (lp_k h1 g2)
  refine ⟨w', ?_⟩
  refine go_seg 5 (pc' := 540) (ls' := lp_LS i) (st' := [.int (nI i + 1), .ref 0, .ref 5]) (w' := w) (cs' := 109) (ss' := 12668) ?_ (fun _ _ => rfl)
  refine go_ald (z := .int (f (i + 1))) rfl h0 (lp_at hi hL 1 (by decide) _ (by decide +kernel)) ?_
  refine go_seg 4 (pc' := 545) (ls' := lp_LS i) (st' := [.int (nI i + 2), .ref 0, .int (f (i + 1)), .ref 5]) (w' := w) (cs' := 109) (ss' := 12668) ?_ (fun _ _ => rfl)
  refine go_ald (z := .int (f (i + 2))) rfl h0 (lp_at hi hL 2 (by decide) _ (by decide +kernel)) ?_
  refine go_cl (k1 := 300) (r := some (.int x1)) (st' := [.int x1]) (cs' := 109) (ss' := 12668) rfl rfl rfl rfl rfl rfl rfl g1 ?_
  refine go_seg 6 (pc' := 555) (ls' := lp_LS i) (st' := [.int (nI i + 1), .ref 0, .ref 94]) (w' := w1) (cs' := 109) (ss' := 12668) ?_ (fun _ _ => rfl)
  refine go_ald (z := .int (f (i + 1))) rfl h1 (lp_at hi hL 1 (by decide) _ (by decide +kernel)) ?_
  refine go_seg 4 (pc' := 560) (ls' := lp_LS i) (st' := [.int (nI i + 2), .ref 0, .int (f (i + 1)), .ref 94]) (w' := w1) (cs' := 109) (ss' := 12668) ?_ (fun _ _ => rfl)
  refine go_ald (z := .int (f (i + 2))) rfl h1 (lp_at hi hL 2 (by decide) _ (by decide +kernel)) ?_
  refine go_cl (k1 := 300) (r := some (.int x2)) (st' := [.int x2]) (cs' := 109) (ss' := 12668) rfl rfl rfl rfl rfl rfl rfl g2 ?_
  refine go_seg 2 (pc' := 1667) (ls' := lp_LS i) (st' := []) (w' := w2) (cs' := 109) (ss' := 12668) ?_ (fun _ _ => rfl)
  exact g
theorem lp_10 {L i n : Nat} {f : Nat → Int32} {w : pq_W} (h0 : lp_O w L f) (hW : WI n w) (hi : i + 6 ≤ L) (hL : L ≤ 3072) (hn : n ≤ 3072) : lp_R L f i n w 568 := by
  intro K
  obtain ⟨x1, w1, x2, w2, g1, g2, q2⟩ := pr_earn (n := n) (a := (f (i + 1))) (b := (f (i + 2))) w hW
  have h1 : lp_O w1 L f := lp_k h0 g1
  obtain ⟨w', g⟩ := K w2 q2 (lp_k h1 g2)
  refine ⟨w', ?_⟩
  refine go_seg 5 (pc' := 573) (ls' := lp_LS i) (st' := [.int (nI i + 1), .ref 0, .ref 5]) (w' := w) (cs' := 109) (ss' := 12668) ?_ (fun _ _ => rfl)
  refine go_ald (z := .int (f (i + 1))) rfl h0 (lp_at hi hL 1 (by decide) _ (by decide +kernel)) ?_
  refine go_seg 4 (pc' := 578) (ls' := lp_LS i) (st' := [.int (nI i + 2), .ref 0, .int (f (i + 1)), .ref 5]) (w' := w) (cs' := 109) (ss' := 12668) ?_ (fun _ _ => rfl)
  refine go_ald (z := .int (f (i + 2))) rfl h0 (lp_at hi hL 2 (by decide) _ (by decide +kernel)) ?_
  refine go_cl (k1 := 300) (r := some (.int x1)) (st' := [.int x1]) (cs' := 109) (ss' := 12668) rfl rfl rfl rfl rfl rfl rfl g1 ?_
  refine go_seg 6 (pc' := 588) (ls' := lp_LS i) (st' := [.int (nI i + 1), .ref 0, .ref 94]) (w' := w1) (cs' := 109) (ss' := 12668) ?_ (fun _ _ => rfl)
  refine go_ald (z := .int (f (i + 1))) rfl h1 (lp_at hi hL 1 (by decide) _ (by decide +kernel)) ?_
  refine go_seg 4 (pc' := 593) (ls' := lp_LS i) (st' := [.int (nI i + 2), .ref 0, .int (f (i + 1)), .ref 94]) (w' := w1) (cs' := 109) (ss' := 12668) ?_ (fun _ _ => rfl)
  refine go_ald (z := .int (f (i + 2))) rfl h1 (lp_at hi hL 2 (by decide) _ (by decide +kernel)) ?_
  refine go_cl (k1 := 300) (r := some (.int x2)) (st' := [.int x2]) (cs' := 109) (ss' := 12668) rfl rfl rfl rfl rfl rfl rfl g2 ?_
  refine go_seg 2 (pc' := 1667) (ls' := lp_LS i) (st' := []) (w' := w2) (cs' := 109) (ss' := 12668) ?_ (fun _ _ => rfl)
  exact g
theorem lp_11 {L i n : Nat} {f : Nat → Int32} {w : pq_W} (h0 : lp_O w L f) (hW : WI n w) (hi : i + 6 ≤ L) (hL : L ≤ 3072) (hn : n ≤ 3072) : lp_R L f i n w 601 := by
  intro K
  obtain ⟨x1, w1, x2, w2, g1, g2, q2⟩ := pr_coin (n := n) (a := (f (i + 1))) w hW
  have h1 : lp_O w1 L f := lp_k h0 g1
  obtain ⟨w', g⟩ := K w2 q2 (lp_k h1 g2)
  refine ⟨w', ?_⟩
  refine go_seg 5 (pc' := 606) (ls' := lp_LS i) (st' := [.int (nI i + 1), .ref 0, .ref 5]) (w' := w) (cs' := 109) (ss' := 12668) ?_ (fun _ _ => rfl)
  refine go_ald (z := .int (f (i + 1))) rfl h0 (lp_at hi hL 1 (by decide) _ (by decide +kernel)) ?_
  refine go_cl (k1 := 300) (r := some (.int x1)) (st' := [.int x1]) (cs' := 109) (ss' := 12668) rfl rfl rfl rfl rfl rfl rfl g1 ?_
  refine go_seg 6 (pc' := 616) (ls' := lp_LS i) (st' := [.int (nI i + 1), .ref 0, .ref 94]) (w' := w1) (cs' := 109) (ss' := 12668) ?_ (fun _ _ => rfl)
  refine go_ald (z := .int (f (i + 1))) rfl h1 (lp_at hi hL 1 (by decide) _ (by decide +kernel)) ?_
  refine go_cl (k1 := 300) (r := some (.int x2)) (st' := [.int x2]) (cs' := 109) (ss' := 12668) rfl rfl rfl rfl rfl rfl rfl g2 ?_
  refine go_seg 2 (pc' := 1667) (ls' := lp_LS i) (st' := []) (w' := w2) (cs' := 109) (ss' := 12668) ?_ (fun _ _ => rfl)
  exact g
theorem lp_12 {L i n : Nat} {f : Nat → Int32} {w : pq_W} (h0 : lp_O w L f) (hW : WI n w) (hi : i + 6 ≤ L) (hL : L ≤ 3072) (hn : n ≤ 3072) : lp_R L f i n w 624 := by
  intro K
  obtain ⟨x1, w1, x2, w2, g1, g2, q2⟩ := pr_owes (n := n) (a := (f (i + 1))) (b := (f (i + 2))) w hW
  have h1 : lp_O w1 L f := lp_k h0 g1
  obtain ⟨w', g⟩ := K w2 q2 (lp_k h1 g2)
  refine ⟨w', ?_⟩
  refine go_seg 5 (pc' := 629) (ls' := lp_LS i) (st' := [.int (nI i + 1), .ref 0, .ref 5]) (w' := w) (cs' := 109) (ss' := 12668) ?_ (fun _ _ => rfl)
  refine go_ald (z := .int (f (i + 1))) rfl h0 (lp_at hi hL 1 (by decide) _ (by decide +kernel)) ?_
  refine go_seg 4 (pc' := 634) (ls' := lp_LS i) (st' := [.int (nI i + 2), .ref 0, .int (f (i + 1)), .ref 5]) (w' := w) (cs' := 109) (ss' := 12668) ?_ (fun _ _ => rfl)
  refine go_ald (z := .int (f (i + 2))) rfl h0 (lp_at hi hL 2 (by decide) _ (by decide +kernel)) ?_
  refine go_cl (k1 := 300) (r := some (.int x1)) (st' := [.int x1]) (cs' := 109) (ss' := 12668) rfl rfl rfl rfl rfl rfl rfl g1 ?_
  refine go_seg 6 (pc' := 644) (ls' := lp_LS i) (st' := [.int (nI i + 1), .ref 0, .ref 94]) (w' := w1) (cs' := 109) (ss' := 12668) ?_ (fun _ _ => rfl)
  refine go_ald (z := .int (f (i + 1))) rfl h1 (lp_at hi hL 1 (by decide) _ (by decide +kernel)) ?_
  refine go_seg 4 (pc' := 649) (ls' := lp_LS i) (st' := [.int (nI i + 2), .ref 0, .int (f (i + 1)), .ref 94]) (w' := w1) (cs' := 109) (ss' := 12668) ?_ (fun _ _ => rfl)
  refine go_ald (z := .int (f (i + 2))) rfl h1 (lp_at hi hL 2 (by decide) _ (by decide +kernel)) ?_
  refine go_cl (k1 := 300) (r := some (.int x2)) (st' := [.int x2]) (cs' := 109) (ss' := 12668) rfl rfl rfl rfl rfl rfl rfl g2 ?_
  refine go_seg 2 (pc' := 1667) (ls' := lp_LS i) (st' := []) (w' := w2) (cs' := 109) (ss' := 12668) ?_ (fun _ _ => rfl)
  exact g
theorem lp_13 {L i n : Nat} {f : Nat → Int32} {w : pq_W} (h0 : lp_O w L f) (hW : WI n w) (hi : i + 6 ≤ L) (hL : L ≤ 3072) (hn : n ≤ 3072) : lp_R L f i n w 657 := by
  intro K
  obtain ⟨x1, w1, x2, w2, g1, g2, q2⟩ := pr_pay (n := n) (a := (f (i + 1))) (b := (f (i + 2))) (c := (f (i + 3))) w hW
  have h1 : lp_O w1 L f := lp_k h0 g1
  obtain ⟨w', g⟩ := K w2 q2 (lp_k h1 g2)
  refine ⟨w', ?_⟩
  refine go_seg 5 (pc' := 662) (ls' := lp_LS i) (st' := [.int (nI i + 1), .ref 0, .ref 5]) (w' := w) (cs' := 109) (ss' := 12668) ?_ (fun _ _ => rfl)
  refine go_ald (z := .int (f (i + 1))) rfl h0 (lp_at hi hL 1 (by decide) _ (by decide +kernel)) ?_
  refine go_seg 4 (pc' := 667) (ls' := lp_LS i) (st' := [.int (nI i + 2), .ref 0, .int (f (i + 1)), .ref 5]) (w' := w) (cs' := 109) (ss' := 12668) ?_ (fun _ _ => rfl)
  refine go_ald (z := .int (f (i + 2))) rfl h0 (lp_at hi hL 2 (by decide) _ (by decide +kernel)) ?_
  refine go_seg 4 (pc' := 672) (ls' := lp_LS i) (st' := [.int (nI i + 3), .ref 0, .int (f (i + 2)), .int (f (i + 1)), .ref 5]) (w' := w) (cs' := 109) (ss' := 12668) ?_ (fun _ _ => rfl)
  refine go_ald (z := .int (f (i + 3))) rfl h0 (lp_at hi hL 3 (by decide) _ (by decide +kernel)) ?_
  refine go_cl (k1 := 300) (r := some (.int x1)) (st' := [.int x1]) (cs' := 109) (ss' := 12668) rfl rfl rfl rfl rfl rfl rfl g1 ?_
  refine go_seg 6 (pc' := 682) (ls' := lp_LS i) (st' := [.int (nI i + 1), .ref 0, .ref 94]) (w' := w1) (cs' := 109) (ss' := 12668) ?_ (fun _ _ => rfl)
  refine go_ald (z := .int (f (i + 1))) rfl h1 (lp_at hi hL 1 (by decide) _ (by decide +kernel)) ?_
  refine go_seg 4 (pc' := 687) (ls' := lp_LS i) (st' := [.int (nI i + 2), .ref 0, .int (f (i + 1)), .ref 94]) (w' := w1) (cs' := 109) (ss' := 12668) ?_ (fun _ _ => rfl)
  refine go_ald (z := .int (f (i + 2))) rfl h1 (lp_at hi hL 2 (by decide) _ (by decide +kernel)) ?_
  refine go_seg 4 (pc' := 692) (ls' := lp_LS i) (st' := [.int (nI i + 3), .ref 0, .int (f (i + 2)), .int (f (i + 1)), .ref 94]) (w' := w1) (cs' := 109) (ss' := 12668) ?_ (fun _ _ => rfl)
  refine go_ald (z := .int (f (i + 3))) rfl h1 (lp_at hi hL 3 (by decide) _ (by decide +kernel)) ?_
  refine go_cl (k1 := 300) (r := some (.int x2)) (st' := [.int x2]) (cs' := 109) (ss' := 12668) rfl rfl rfl rfl rfl rfl rfl g2 ?_
  refine go_seg 2 (pc' := 1667) (ls' := lp_LS i) (st' := []) (w' := w2) (cs' := 109) (ss' := 12668) ?_ (fun _ _ => rfl)
  exact g
theorem lp_14 {L i n : Nat} {f : Nat → Int32} {w : pq_W} (h0 : lp_O w L f) (hW : WI n w) (hi : i + 6 ≤ L) (hL : L ≤ 3072) (hn : n ≤ 3072) : lp_R L f i n w 700 := by
  intro K
  obtain ⟨x1, w1, x2, w2, g1, g2, q2⟩ := pr_end (n := n) (a := (f (i + 1))) w hW
  have h1 : lp_O w1 L f := lp_k h0 g1
  obtain ⟨w', g⟩ := K w2 q2 (lp_k h1 g2)
  refine ⟨w', ?_⟩
  refine go_seg 5 (pc' := 705) (ls' := lp_LS i) (st' := [.int (nI i + 1), .ref 0, .ref 5]) (w' := w) (cs' := 109) (ss' := 12668) ?_ (fun _ _ => rfl)
  refine go_ald (z := .int (f (i + 1))) rfl h0 (lp_at hi hL 1 (by decide) _ (by decide +kernel)) ?_
  refine go_cl (k1 := 300) (r := some (.int x1)) (st' := [.int x1]) (cs' := 109) (ss' := 12668) rfl rfl rfl rfl rfl rfl rfl g1 ?_
  refine go_seg 6 (pc' := 715) (ls' := lp_LS i) (st' := [.int (nI i + 1), .ref 0, .ref 94]) (w' := w1) (cs' := 109) (ss' := 12668) ?_ (fun _ _ => rfl)
  refine go_ald (z := .int (f (i + 1))) rfl h1 (lp_at hi hL 1 (by decide) _ (by decide +kernel)) ?_
  refine go_cl (k1 := 300) (r := some (.int x2)) (st' := [.int x2]) (cs' := 109) (ss' := 12668) rfl rfl rfl rfl rfl rfl rfl g2 ?_
  refine go_seg 2 (pc' := 1667) (ls' := lp_LS i) (st' := []) (w' := w2) (cs' := 109) (ss' := 12668) ?_ (fun _ _ => rfl)
  exact g
theorem lp_15 {L i n : Nat} {f : Nat → Int32} {w : pq_W} (h0 : lp_O w L f) (hW : WI n w) (hi : i + 6 ≤ L) (hL : L ≤ 3072) (hn : n ≤ 3072) : lp_R L f i n w 723 := by
  intro K
  obtain ⟨x1, w1, x2, w2, g1, g2, q2⟩ := pr_feed (n := n) (a := (fwd (f (i + 1)) (f (i + 2)))) (b := (f (i + 3))) w hW
  have h1 : lp_O w1 L f := lp_k h0 g1
  obtain ⟨w', g⟩ := K w2 q2 (lp_k h1 g2)
  refine ⟨w', ?_⟩
  refine go_seg 5 (pc' := 728) (ls' := lp_LS i) (st' := [.int (nI i + 1), .ref 0, .ref 5]) (w' := w) (cs' := 109) (ss' := 12668) ?_ (fun _ _ => rfl)
  refine go_ald (z := .int (f (i + 1))) rfl h0 (lp_at hi hL 1 (by decide) _ (by decide +kernel)) ?_
  refine go_seg 7 (pc' := 737) (ls' := lp_LS i) (st' := [.int (nI i + 2), .ref 0, .long (((f (i + 1))).toInt64 <<< ((32 : Int32).toInt64 &&& 63)), .ref 5]) (w' := w) (cs' := 109) (ss' := 12668) ?_ (fun _ _ => rfl)
  refine go_ald (z := .int (f (i + 2))) rfl h0 (lp_at hi hL 2 (by decide) _ (by decide +kernel)) ?_
  refine go_seg 8 (pc' := 748) (ls' := lp_LS i) (st' := [.int (nI i + 3), .ref 0, .long (fwd (f (i + 1)) (f (i + 2))), .ref 5]) (w' := w) (cs' := 109) (ss' := 12668) ?_ (fun _ _ => rfl)
  refine go_ald (z := .int (f (i + 3))) rfl h0 (lp_at hi hL 3 (by decide) _ (by decide +kernel)) ?_
  refine go_cl (k1 := 300) (r := some (.int x1)) (st' := [.int x1]) (cs' := 109) (ss' := 12668) rfl rfl rfl rfl rfl rfl rfl g1 ?_
  refine go_seg 6 (pc' := 758) (ls' := lp_LS i) (st' := [.int (nI i + 1), .ref 0, .ref 94]) (w' := w1) (cs' := 109) (ss' := 12668) ?_ (fun _ _ => rfl)
  refine go_ald (z := .int (f (i + 1))) rfl h1 (lp_at hi hL 1 (by decide) _ (by decide +kernel)) ?_
  refine go_seg 7 (pc' := 767) (ls' := lp_LS i) (st' := [.int (nI i + 2), .ref 0, .long (((f (i + 1))).toInt64 <<< ((32 : Int32).toInt64 &&& 63)), .ref 94]) (w' := w1) (cs' := 109) (ss' := 12668) ?_ (fun _ _ => rfl)
  refine go_ald (z := .int (f (i + 2))) rfl h1 (lp_at hi hL 2 (by decide) _ (by decide +kernel)) ?_
  refine go_seg 8 (pc' := 778) (ls' := lp_LS i) (st' := [.int (nI i + 3), .ref 0, .long (fwd (f (i + 1)) (f (i + 2))), .ref 94]) (w' := w1) (cs' := 109) (ss' := 12668) ?_ (fun _ _ => rfl)
  refine go_ald (z := .int (f (i + 3))) rfl h1 (lp_at hi hL 3 (by decide) _ (by decide +kernel)) ?_
  refine go_cl (k1 := 300) (r := some (.int x2)) (st' := [.int x2]) (cs' := 109) (ss' := 12668) rfl rfl rfl rfl rfl rfl rfl g2 ?_
  refine go_seg 2 (pc' := 1667) (ls' := lp_LS i) (st' := []) (w' := w2) (cs' := 109) (ss' := 12668) ?_ (fun _ _ => rfl)
  exact g
theorem lp_16 {L i n : Nat} {f : Nat → Int32} {w : pq_W} (h0 : lp_O w L f) (hW : WI n w) (hi : i + 6 ≤ L) (hL : L ≤ 3072) (hn : n ≤ 3072) : lp_R L f i n w 786 := by
  intro K
  obtain ⟨x1, w1, x2, w2, g1, g2, q2⟩ := pr_law (n := n) (a := (f (i + 1))) (b := (f (i + 2))) w hW
  have h1 : lp_O w1 L f := lp_k h0 g1
  obtain ⟨w', g⟩ := K w2 q2 (lp_k h1 g2)
  refine ⟨w', ?_⟩
  refine go_seg 5 (pc' := 791) (ls' := lp_LS i) (st' := [.int (nI i + 1), .ref 0, .ref 5]) (w' := w) (cs' := 109) (ss' := 12668) ?_ (fun _ _ => rfl)
  refine go_ald (z := .int (f (i + 1))) rfl h0 (lp_at hi hL 1 (by decide) _ (by decide +kernel)) ?_
  refine go_seg 4 (pc' := 796) (ls' := lp_LS i) (st' := [.int (nI i + 2), .ref 0, .int (f (i + 1)), .ref 5]) (w' := w) (cs' := 109) (ss' := 12668) ?_ (fun _ _ => rfl)
  refine go_ald (z := .int (f (i + 2))) rfl h0 (lp_at hi hL 2 (by decide) _ (by decide +kernel)) ?_
  refine go_cl (k1 := 300) (r := some (.int x1)) (st' := [.int x1]) (cs' := 109) (ss' := 12668) rfl rfl rfl rfl rfl rfl rfl g1 ?_
  refine go_seg 6 (pc' := 806) (ls' := lp_LS i) (st' := [.int (nI i + 1), .ref 0, .ref 94]) (w' := w1) (cs' := 109) (ss' := 12668) ?_ (fun _ _ => rfl)
  refine go_ald (z := .int (f (i + 1))) rfl h1 (lp_at hi hL 1 (by decide) _ (by decide +kernel)) ?_
  refine go_seg 4 (pc' := 811) (ls' := lp_LS i) (st' := [.int (nI i + 2), .ref 0, .int (f (i + 1)), .ref 94]) (w' := w1) (cs' := 109) (ss' := 12668) ?_ (fun _ _ => rfl)
  refine go_ald (z := .int (f (i + 2))) rfl h1 (lp_at hi hL 2 (by decide) _ (by decide +kernel)) ?_
  refine go_cl (k1 := 300) (r := some (.int x2)) (st' := [.int x2]) (cs' := 109) (ss' := 12668) rfl rfl rfl rfl rfl rfl rfl g2 ?_
  refine go_seg 2 (pc' := 1667) (ls' := lp_LS i) (st' := []) (w' := w2) (cs' := 109) (ss' := 12668) ?_ (fun _ _ => rfl)
  exact g
theorem lp_17 {L i n : Nat} {f : Nat → Int32} {w : pq_W} (h0 : lp_O w L f) (hW : WI n w) (hi : i + 6 ≤ L) (hL : L ≤ 3072) (hn : n ≤ 3072) : lp_R L f i n w 819 := by
  intro K
  obtain ⟨x1, w1, x2, w2, g1, g2, q2⟩ := pr_force (n := n) (a := (f (i + 1))) (b := (f (i + 2))) w hW
  have h1 : lp_O w1 L f := lp_k h0 g1
  obtain ⟨w', g⟩ := K w2 q2 (lp_k h1 g2)
  refine ⟨w', ?_⟩
  refine go_seg 5 (pc' := 824) (ls' := lp_LS i) (st' := [.int (nI i + 1), .ref 0, .ref 5]) (w' := w) (cs' := 109) (ss' := 12668) ?_ (fun _ _ => rfl)
  refine go_ald (z := .int (f (i + 1))) rfl h0 (lp_at hi hL 1 (by decide) _ (by decide +kernel)) ?_
  refine go_seg 4 (pc' := 829) (ls' := lp_LS i) (st' := [.int (nI i + 2), .ref 0, .int (f (i + 1)), .ref 5]) (w' := w) (cs' := 109) (ss' := 12668) ?_ (fun _ _ => rfl)
  refine go_ald (z := .int (f (i + 2))) rfl h0 (lp_at hi hL 2 (by decide) _ (by decide +kernel)) ?_
  refine go_cl (k1 := 300) (r := some (.int x1)) (st' := [.int x1]) (cs' := 109) (ss' := 12668) rfl rfl rfl rfl rfl rfl rfl g1 ?_
  refine go_seg 6 (pc' := 839) (ls' := lp_LS i) (st' := [.int (nI i + 1), .ref 0, .ref 94]) (w' := w1) (cs' := 109) (ss' := 12668) ?_ (fun _ _ => rfl)
  refine go_ald (z := .int (f (i + 1))) rfl h1 (lp_at hi hL 1 (by decide) _ (by decide +kernel)) ?_
  refine go_seg 4 (pc' := 844) (ls' := lp_LS i) (st' := [.int (nI i + 2), .ref 0, .int (f (i + 1)), .ref 94]) (w' := w1) (cs' := 109) (ss' := 12668) ?_ (fun _ _ => rfl)
  refine go_ald (z := .int (f (i + 2))) rfl h1 (lp_at hi hL 2 (by decide) _ (by decide +kernel)) ?_
  refine go_cl (k1 := 300) (r := some (.int x2)) (st' := [.int x2]) (cs' := 109) (ss' := 12668) rfl rfl rfl rfl rfl rfl rfl g2 ?_
  refine go_seg 2 (pc' := 1667) (ls' := lp_LS i) (st' := []) (w' := w2) (cs' := 109) (ss' := 12668) ?_ (fun _ _ => rfl)
  exact g
theorem lp_18 {L i n : Nat} {f : Nat → Int32} {w : pq_W} (h0 : lp_O w L f) (hW : WI n w) (hi : i + 6 ≤ L) (hL : L ≤ 3072) (hn : n ≤ 3072) : lp_R L f i n w 852 := by
  intro K
  obtain ⟨x1, w1, x2, w2, g1, g2, q2⟩ := pr_says (n := n) (a := (f (i + 1))) (b := (f (i + 2))) (c := (f (i + 3))) (d := (f (i + 4))) w hW
  have h1 : lp_O w1 L f := lp_k h0 g1
  obtain ⟨w', g⟩ := K w2 q2 (lp_k h1 g2)
  refine ⟨w', ?_⟩
  refine go_seg 5 (pc' := 857) (ls' := lp_LS i) (st' := [.int (nI i + 1), .ref 0, .ref 5]) (w' := w) (cs' := 109) (ss' := 12668) ?_ (fun _ _ => rfl)
  refine go_ald (z := .int (f (i + 1))) rfl h0 (lp_at hi hL 1 (by decide) _ (by decide +kernel)) ?_
  refine go_seg 4 (pc' := 862) (ls' := lp_LS i) (st' := [.int (nI i + 2), .ref 0, .int (f (i + 1)), .ref 5]) (w' := w) (cs' := 109) (ss' := 12668) ?_ (fun _ _ => rfl)
  refine go_ald (z := .int (f (i + 2))) rfl h0 (lp_at hi hL 2 (by decide) _ (by decide +kernel)) ?_
  refine go_seg 4 (pc' := 867) (ls' := lp_LS i) (st' := [.int (nI i + 3), .ref 0, .int (f (i + 2)), .int (f (i + 1)), .ref 5]) (w' := w) (cs' := 109) (ss' := 12668) ?_ (fun _ _ => rfl)
  refine go_ald (z := .int (f (i + 3))) rfl h0 (lp_at hi hL 3 (by decide) _ (by decide +kernel)) ?_
  refine go_seg 4 (pc' := 872) (ls' := lp_LS i) (st' := [.int (nI i + 4), .ref 0, .int (f (i + 3)), .int (f (i + 2)), .int (f (i + 1)), .ref 5]) (w' := w) (cs' := 109) (ss' := 12668) ?_ (fun _ _ => rfl)
  refine go_ald (z := .int (f (i + 4))) rfl h0 (lp_at hi hL 4 (by decide) _ (by decide +kernel)) ?_
  refine go_cl (k1 := 300) (r := some (.int x1)) (st' := [.int x1]) (cs' := 109) (ss' := 12668) rfl rfl rfl rfl rfl rfl rfl g1 ?_
  refine go_seg 6 (pc' := 882) (ls' := lp_LS i) (st' := [.int (nI i + 1), .ref 0, .ref 94]) (w' := w1) (cs' := 109) (ss' := 12668) ?_ (fun _ _ => rfl)
  refine go_ald (z := .int (f (i + 1))) rfl h1 (lp_at hi hL 1 (by decide) _ (by decide +kernel)) ?_
  refine go_seg 4 (pc' := 887) (ls' := lp_LS i) (st' := [.int (nI i + 2), .ref 0, .int (f (i + 1)), .ref 94]) (w' := w1) (cs' := 109) (ss' := 12668) ?_ (fun _ _ => rfl)
  refine go_ald (z := .int (f (i + 2))) rfl h1 (lp_at hi hL 2 (by decide) _ (by decide +kernel)) ?_
  refine go_seg 4 (pc' := 892) (ls' := lp_LS i) (st' := [.int (nI i + 3), .ref 0, .int (f (i + 2)), .int (f (i + 1)), .ref 94]) (w' := w1) (cs' := 109) (ss' := 12668) ?_ (fun _ _ => rfl)
  refine go_ald (z := .int (f (i + 3))) rfl h1 (lp_at hi hL 3 (by decide) _ (by decide +kernel)) ?_
  refine go_seg 4 (pc' := 897) (ls' := lp_LS i) (st' := [.int (nI i + 4), .ref 0, .int (f (i + 3)), .int (f (i + 2)), .int (f (i + 1)), .ref 94]) (w' := w1) (cs' := 109) (ss' := 12668) ?_ (fun _ _ => rfl)
  refine go_ald (z := .int (f (i + 4))) rfl h1 (lp_at hi hL 4 (by decide) _ (by decide +kernel)) ?_
  refine go_cl (k1 := 300) (r := some (.int x2)) (st' := [.int x2]) (cs' := 109) (ss' := 12668) rfl rfl rfl rfl rfl rfl rfl g2 ?_
  refine go_seg 2 (pc' := 1667) (ls' := lp_LS i) (st' := []) (w' := w2) (cs' := 109) (ss' := 12668) ?_ (fun _ _ => rfl)
  exact g
theorem lp_19 {L i n : Nat} {f : Nat → Int32} {w : pq_W} (h0 : lp_O w L f) (hW : WI n w) (hi : i + 6 ≤ L) (hL : L ≤ 3072) (hn : n ≤ 3072) : lp_R L f i n w 905 := by
  intro K
  obtain ⟨x1, w1, x2, w2, g1, g2, q2⟩ := pr_file (n := n) (a := (f (i + 1))) (b := (f (i + 2))) w hW
  have h1 : lp_O w1 L f := lp_k h0 g1
  obtain ⟨w', g⟩ := K w2 q2 (lp_k h1 g2)
  refine ⟨w', ?_⟩
  refine go_seg 5 (pc' := 910) (ls' := lp_LS i) (st' := [.int (nI i + 1), .ref 0, .ref 5]) (w' := w) (cs' := 109) (ss' := 12668) ?_ (fun _ _ => rfl)
  refine go_ald (z := .int (f (i + 1))) rfl h0 (lp_at hi hL 1 (by decide) _ (by decide +kernel)) ?_
  refine go_seg 4 (pc' := 915) (ls' := lp_LS i) (st' := [.int (nI i + 2), .ref 0, .int (f (i + 1)), .ref 5]) (w' := w) (cs' := 109) (ss' := 12668) ?_ (fun _ _ => rfl)
  refine go_ald (z := .int (f (i + 2))) rfl h0 (lp_at hi hL 2 (by decide) _ (by decide +kernel)) ?_
  refine go_cl (k1 := 300) (r := some (.int x1)) (st' := [.int x1]) (cs' := 109) (ss' := 12668) rfl rfl rfl rfl rfl rfl rfl g1 ?_
  refine go_seg 6 (pc' := 925) (ls' := lp_LS i) (st' := [.int (nI i + 1), .ref 0, .ref 94]) (w' := w1) (cs' := 109) (ss' := 12668) ?_ (fun _ _ => rfl)
  refine go_ald (z := .int (f (i + 1))) rfl h1 (lp_at hi hL 1 (by decide) _ (by decide +kernel)) ?_
  refine go_seg 4 (pc' := 930) (ls' := lp_LS i) (st' := [.int (nI i + 2), .ref 0, .int (f (i + 1)), .ref 94]) (w' := w1) (cs' := 109) (ss' := 12668) ?_ (fun _ _ => rfl)
  refine go_ald (z := .int (f (i + 2))) rfl h1 (lp_at hi hL 2 (by decide) _ (by decide +kernel)) ?_
  refine go_cl (k1 := 300) (r := some (.int x2)) (st' := [.int x2]) (cs' := 109) (ss' := 12668) rfl rfl rfl rfl rfl rfl rfl g2 ?_
  refine go_seg 2 (pc' := 1667) (ls' := lp_LS i) (st' := []) (w' := w2) (cs' := 109) (ss' := 12668) ?_ (fun _ _ => rfl)
  exact g
theorem lp_20 {L i n : Nat} {f : Nat → Int32} {w : pq_W} (h0 : lp_O w L f) (hW : WI n w) (hi : i + 6 ≤ L) (hL : L ≤ 3072) (hn : n ≤ 3072) : lp_R L f i n w 938 := by
  intro K
  obtain ⟨x1, w1, x2, w2, g1, g2, q2⟩ := pr_fly (n := n) (a := (f (i + 1))) (b := (f (i + 2))) w hW
  have h1 : lp_O w1 L f := lp_k h0 g1
  obtain ⟨w', g⟩ := K w2 q2 (lp_k h1 g2)
  refine ⟨w', ?_⟩
  refine go_seg 5 (pc' := 943) (ls' := lp_LS i) (st' := [.int (nI i + 1), .ref 0, .ref 5]) (w' := w) (cs' := 109) (ss' := 12668) ?_ (fun _ _ => rfl)
  refine go_ald (z := .int (f (i + 1))) rfl h0 (lp_at hi hL 1 (by decide) _ (by decide +kernel)) ?_
  refine go_seg 4 (pc' := 948) (ls' := lp_LS i) (st' := [.int (nI i + 2), .ref 0, .int (f (i + 1)), .ref 5]) (w' := w) (cs' := 109) (ss' := 12668) ?_ (fun _ _ => rfl)
  refine go_ald (z := .int (f (i + 2))) rfl h0 (lp_at hi hL 2 (by decide) _ (by decide +kernel)) ?_
  refine go_cl (k1 := 300) (r := some (.int x1)) (st' := [.int x1]) (cs' := 109) (ss' := 12668) rfl rfl rfl rfl rfl rfl rfl g1 ?_
  refine go_seg 6 (pc' := 958) (ls' := lp_LS i) (st' := [.int (nI i + 1), .ref 0, .ref 94]) (w' := w1) (cs' := 109) (ss' := 12668) ?_ (fun _ _ => rfl)
  refine go_ald (z := .int (f (i + 1))) rfl h1 (lp_at hi hL 1 (by decide) _ (by decide +kernel)) ?_
  refine go_seg 4 (pc' := 963) (ls' := lp_LS i) (st' := [.int (nI i + 2), .ref 0, .int (f (i + 1)), .ref 94]) (w' := w1) (cs' := 109) (ss' := 12668) ?_ (fun _ _ => rfl)
  refine go_ald (z := .int (f (i + 2))) rfl h1 (lp_at hi hL 2 (by decide) _ (by decide +kernel)) ?_
  refine go_cl (k1 := 300) (r := some (.int x2)) (st' := [.int x2]) (cs' := 109) (ss' := 12668) rfl rfl rfl rfl rfl rfl rfl g2 ?_
  refine go_seg 2 (pc' := 1667) (ls' := lp_LS i) (st' := []) (w' := w2) (cs' := 109) (ss' := 12668) ?_ (fun _ _ => rfl)
  exact g
theorem lp_21 {L i n : Nat} {f : Nat → Int32} {w : pq_W} (h0 : lp_O w L f) (hW : WI n w) (hi : i + 6 ≤ L) (hL : L ≤ 3072) (hn : n ≤ 3072) : lp_R L f i n w 971 := by
  intro K
  obtain ⟨x1, w1, x2, w2, g1, g2, q2⟩ := pr_flightIs (n := n) (a := (f (i + 1))) (b := (f (i + 2))) w hW
  have h1 : lp_O w1 L f := lp_k h0 g1
  obtain ⟨w', g⟩ := K w2 q2 (lp_k h1 g2)
  refine ⟨w', ?_⟩
  refine go_seg 5 (pc' := 976) (ls' := lp_LS i) (st' := [.int (nI i + 1), .ref 0, .ref 5]) (w' := w) (cs' := 109) (ss' := 12668) ?_ (fun _ _ => rfl)
  refine go_ald (z := .int (f (i + 1))) rfl h0 (lp_at hi hL 1 (by decide) _ (by decide +kernel)) ?_
  refine go_seg 4 (pc' := 981) (ls' := lp_LS i) (st' := [.int (nI i + 2), .ref 0, .int (f (i + 1)), .ref 5]) (w' := w) (cs' := 109) (ss' := 12668) ?_ (fun _ _ => rfl)
  refine go_ald (z := .int (f (i + 2))) rfl h0 (lp_at hi hL 2 (by decide) _ (by decide +kernel)) ?_
  refine go_cl (k1 := 300) (r := some (.int x1)) (st' := [.int x1]) (cs' := 109) (ss' := 12668) rfl rfl rfl rfl rfl rfl rfl g1 ?_
  refine go_seg 6 (pc' := 991) (ls' := lp_LS i) (st' := [.int (nI i + 1), .ref 0, .ref 94]) (w' := w1) (cs' := 109) (ss' := 12668) ?_ (fun _ _ => rfl)
  refine go_ald (z := .int (f (i + 1))) rfl h1 (lp_at hi hL 1 (by decide) _ (by decide +kernel)) ?_
  refine go_seg 4 (pc' := 996) (ls' := lp_LS i) (st' := [.int (nI i + 2), .ref 0, .int (f (i + 1)), .ref 94]) (w' := w1) (cs' := 109) (ss' := 12668) ?_ (fun _ _ => rfl)
  refine go_ald (z := .int (f (i + 2))) rfl h1 (lp_at hi hL 2 (by decide) _ (by decide +kernel)) ?_
  refine go_cl (k1 := 300) (r := some (.int x2)) (st' := [.int x2]) (cs' := 109) (ss' := 12668) rfl rfl rfl rfl rfl rfl rfl g2 ?_
  refine go_seg 2 (pc' := 1667) (ls' := lp_LS i) (st' := []) (w' := w2) (cs' := 109) (ss' := 12668) ?_ (fun _ _ => rfl)
  exact g
theorem lp_22 {L i n : Nat} {f : Nat → Int32} {w : pq_W} (h0 : lp_O w L f) (hW : WI n w) (hi : i + 6 ≤ L) (hL : L ≤ 3072) (hn : n ≤ 3072) : lp_R L f i n w 1004 := by
  intro K
  obtain ⟨x1, w1, x2, w2, g1, g2, q2⟩ := pr_row (n := n) (a := (f (i + 1))) (b := (f (i + 2))) (c := (f (i + 3))) w hW
  have h1 : lp_O w1 L f := lp_k h0 g1
  obtain ⟨w', g⟩ := K w2 q2 (lp_k h1 g2)
  refine ⟨w', ?_⟩
  refine go_seg 5 (pc' := 1009) (ls' := lp_LS i) (st' := [.int (nI i + 1), .ref 0, .ref 5]) (w' := w) (cs' := 109) (ss' := 12668) ?_ (fun _ _ => rfl)
  refine go_ald (z := .int (f (i + 1))) rfl h0 (lp_at hi hL 1 (by decide) _ (by decide +kernel)) ?_
  refine go_seg 4 (pc' := 1014) (ls' := lp_LS i) (st' := [.int (nI i + 2), .ref 0, .int (f (i + 1)), .ref 5]) (w' := w) (cs' := 109) (ss' := 12668) ?_ (fun _ _ => rfl)
  refine go_ald (z := .int (f (i + 2))) rfl h0 (lp_at hi hL 2 (by decide) _ (by decide +kernel)) ?_
  refine go_seg 4 (pc' := 1019) (ls' := lp_LS i) (st' := [.int (nI i + 3), .ref 0, .int (f (i + 2)), .int (f (i + 1)), .ref 5]) (w' := w) (cs' := 109) (ss' := 12668) ?_ (fun _ _ => rfl)
  refine go_ald (z := .int (f (i + 3))) rfl h0 (lp_at hi hL 3 (by decide) _ (by decide +kernel)) ?_
  refine go_cl (k1 := 300) (r := some (.int x1)) (st' := [.int x1]) (cs' := 109) (ss' := 12668) rfl rfl rfl rfl rfl rfl rfl g1 ?_
  refine go_seg 6 (pc' := 1029) (ls' := lp_LS i) (st' := [.int (nI i + 1), .ref 0, .ref 94]) (w' := w1) (cs' := 109) (ss' := 12668) ?_ (fun _ _ => rfl)
  refine go_ald (z := .int (f (i + 1))) rfl h1 (lp_at hi hL 1 (by decide) _ (by decide +kernel)) ?_
  refine go_seg 4 (pc' := 1034) (ls' := lp_LS i) (st' := [.int (nI i + 2), .ref 0, .int (f (i + 1)), .ref 94]) (w' := w1) (cs' := 109) (ss' := 12668) ?_ (fun _ _ => rfl)
  refine go_ald (z := .int (f (i + 2))) rfl h1 (lp_at hi hL 2 (by decide) _ (by decide +kernel)) ?_
  refine go_seg 4 (pc' := 1039) (ls' := lp_LS i) (st' := [.int (nI i + 3), .ref 0, .int (f (i + 2)), .int (f (i + 1)), .ref 94]) (w' := w1) (cs' := 109) (ss' := 12668) ?_ (fun _ _ => rfl)
  refine go_ald (z := .int (f (i + 3))) rfl h1 (lp_at hi hL 3 (by decide) _ (by decide +kernel)) ?_
  refine go_cl (k1 := 300) (r := some (.int x2)) (st' := [.int x2]) (cs' := 109) (ss' := 12668) rfl rfl rfl rfl rfl rfl rfl g2 ?_
  refine go_seg 2 (pc' := 1667) (ls' := lp_LS i) (st' := []) (w' := w2) (cs' := 109) (ss' := 12668) ?_ (fun _ _ => rfl)
  exact g
theorem lp_23 {L i n : Nat} {f : Nat → Int32} {w : pq_W} (h0 : lp_O w L f) (hW : WI n w) (hi : i + 6 ≤ L) (hL : L ≤ 3072) (hn : n ≤ 3072) : lp_R L f i n w 1047 := by
  intro K
  obtain ⟨x1, w1, x2, w2, g1, g2, q2⟩ := pr_miles (n := n) (a := (f (i + 1))) (b := (f (i + 2))) (c := (f (i + 3))) (d := (f (i + 4))) w hW
  have h1 : lp_O w1 L f := lp_k h0 g1
  obtain ⟨w', g⟩ := K w2 q2 (lp_k h1 g2)
  refine ⟨w', ?_⟩
  refine go_seg 5 (pc' := 1052) (ls' := lp_LS i) (st' := [.int (nI i + 1), .ref 0, .ref 5]) (w' := w) (cs' := 109) (ss' := 12668) ?_ (fun _ _ => rfl)
  refine go_ald (z := .int (f (i + 1))) rfl h0 (lp_at hi hL 1 (by decide) _ (by decide +kernel)) ?_
  refine go_seg 4 (pc' := 1057) (ls' := lp_LS i) (st' := [.int (nI i + 2), .ref 0, .int (f (i + 1)), .ref 5]) (w' := w) (cs' := 109) (ss' := 12668) ?_ (fun _ _ => rfl)
  refine go_ald (z := .int (f (i + 2))) rfl h0 (lp_at hi hL 2 (by decide) _ (by decide +kernel)) ?_
  refine go_seg 4 (pc' := 1062) (ls' := lp_LS i) (st' := [.int (nI i + 3), .ref 0, .int (f (i + 2)), .int (f (i + 1)), .ref 5]) (w' := w) (cs' := 109) (ss' := 12668) ?_ (fun _ _ => rfl)
  refine go_ald (z := .int (f (i + 3))) rfl h0 (lp_at hi hL 3 (by decide) _ (by decide +kernel)) ?_
  refine go_seg 4 (pc' := 1067) (ls' := lp_LS i) (st' := [.int (nI i + 4), .ref 0, .int (f (i + 3)), .int (f (i + 2)), .int (f (i + 1)), .ref 5]) (w' := w) (cs' := 109) (ss' := 12668) ?_ (fun _ _ => rfl)
  refine go_ald (z := .int (f (i + 4))) rfl h0 (lp_at hi hL 4 (by decide) _ (by decide +kernel)) ?_
  refine go_cl (k1 := 300) (r := some (.int x1)) (st' := [.int x1]) (cs' := 109) (ss' := 12668) rfl rfl rfl rfl rfl rfl rfl g1 ?_
  refine go_seg 6 (pc' := 1077) (ls' := lp_LS i) (st' := [.int (nI i + 1), .ref 0, .ref 94]) (w' := w1) (cs' := 109) (ss' := 12668) ?_ (fun _ _ => rfl)
  refine go_ald (z := .int (f (i + 1))) rfl h1 (lp_at hi hL 1 (by decide) _ (by decide +kernel)) ?_
  refine go_seg 4 (pc' := 1082) (ls' := lp_LS i) (st' := [.int (nI i + 2), .ref 0, .int (f (i + 1)), .ref 94]) (w' := w1) (cs' := 109) (ss' := 12668) ?_ (fun _ _ => rfl)
  refine go_ald (z := .int (f (i + 2))) rfl h1 (lp_at hi hL 2 (by decide) _ (by decide +kernel)) ?_
  refine go_seg 4 (pc' := 1087) (ls' := lp_LS i) (st' := [.int (nI i + 3), .ref 0, .int (f (i + 2)), .int (f (i + 1)), .ref 94]) (w' := w1) (cs' := 109) (ss' := 12668) ?_ (fun _ _ => rfl)
  refine go_ald (z := .int (f (i + 3))) rfl h1 (lp_at hi hL 3 (by decide) _ (by decide +kernel)) ?_
  refine go_seg 4 (pc' := 1092) (ls' := lp_LS i) (st' := [.int (nI i + 4), .ref 0, .int (f (i + 3)), .int (f (i + 2)), .int (f (i + 1)), .ref 94]) (w' := w1) (cs' := 109) (ss' := 12668) ?_ (fun _ _ => rfl)
  refine go_ald (z := .int (f (i + 4))) rfl h1 (lp_at hi hL 4 (by decide) _ (by decide +kernel)) ?_
  refine go_cl (k1 := 300) (r := some (.int x2)) (st' := [.int x2]) (cs' := 109) (ss' := 12668) rfl rfl rfl rfl rfl rfl rfl g2 ?_
  refine go_seg 2 (pc' := 1667) (ls' := lp_LS i) (st' := []) (w' := w2) (cs' := 109) (ss' := 12668) ?_ (fun _ _ => rfl)
  exact g
theorem lp_24 {L i n : Nat} {f : Nat → Int32} {w : pq_W} (h0 : lp_O w L f) (hW : WI n w) (hi : i + 6 ≤ L) (hL : L ≤ 3072) (hn : n ≤ 3072) : lp_R L f i n w 1100 := by
  intro K
  obtain ⟨x1, w1, x2, w2, g1, g2, q2⟩ := pr_bill (n := n) (a := (f (i + 1))) w hW
  have h1 : lp_O w1 L f := lp_k h0 g1
  obtain ⟨w', g⟩ := K w2 q2 (lp_k h1 g2)
  refine ⟨w', ?_⟩
  refine go_seg 5 (pc' := 1105) (ls' := lp_LS i) (st' := [.int (nI i + 1), .ref 0, .ref 5]) (w' := w) (cs' := 109) (ss' := 12668) ?_ (fun _ _ => rfl)
  refine go_ald (z := .int (f (i + 1))) rfl h0 (lp_at hi hL 1 (by decide) _ (by decide +kernel)) ?_
  refine go_cl (k1 := 300) (r := some (.int x1)) (st' := [.int x1]) (cs' := 109) (ss' := 12668) rfl rfl rfl rfl rfl rfl rfl g1 ?_
  refine go_seg 6 (pc' := 1115) (ls' := lp_LS i) (st' := [.int (nI i + 1), .ref 0, .ref 94]) (w' := w1) (cs' := 109) (ss' := 12668) ?_ (fun _ _ => rfl)
  refine go_ald (z := .int (f (i + 1))) rfl h1 (lp_at hi hL 1 (by decide) _ (by decide +kernel)) ?_
  refine go_cl (k1 := 300) (r := some (.int x2)) (st' := [.int x2]) (cs' := 109) (ss' := 12668) rfl rfl rfl rfl rfl rfl rfl g2 ?_
  refine go_seg 2 (pc' := 1667) (ls' := lp_LS i) (st' := []) (w' := w2) (cs' := 109) (ss' := 12668) ?_ (fun _ _ => rfl)
  exact g
theorem lp_25 {L i n : Nat} {f : Nat → Int32} {w : pq_W} (h0 : lp_O w L f) (hW : WI n w) (hi : i + 6 ≤ L) (hL : L ≤ 3072) (hn : n ≤ 3072) : lp_R L f i n w 1123 := by
  intro K
  obtain ⟨x1, w1, x2, w2, g1, g2, q2⟩ := pr_right (n := n) (a := (f (i + 1))) w hW
  have h1 : lp_O w1 L f := lp_k h0 g1
  obtain ⟨w', g⟩ := K w2 q2 (lp_k h1 g2)
  refine ⟨w', ?_⟩
  refine go_seg 5 (pc' := 1128) (ls' := lp_LS i) (st' := [.int (nI i + 1), .ref 0, .ref 5]) (w' := w) (cs' := 109) (ss' := 12668) ?_ (fun _ _ => rfl)
  refine go_ald (z := .int (f (i + 1))) rfl h0 (lp_at hi hL 1 (by decide) _ (by decide +kernel)) ?_
  refine go_cl (k1 := 300) (r := some (.int x1)) (st' := [.int x1]) (cs' := 109) (ss' := 12668) rfl rfl rfl rfl rfl rfl rfl g1 ?_
  refine go_seg 6 (pc' := 1138) (ls' := lp_LS i) (st' := [.int (nI i + 1), .ref 0, .ref 94]) (w' := w1) (cs' := 109) (ss' := 12668) ?_ (fun _ _ => rfl)
  refine go_ald (z := .int (f (i + 1))) rfl h1 (lp_at hi hL 1 (by decide) _ (by decide +kernel)) ?_
  refine go_cl (k1 := 300) (r := some (.int x2)) (st' := [.int x2]) (cs' := 109) (ss' := 12668) rfl rfl rfl rfl rfl rfl rfl g2 ?_
  refine go_seg 2 (pc' := 1667) (ls' := lp_LS i) (st' := []) (w' := w2) (cs' := 109) (ss' := 12668) ?_ (fun _ _ => rfl)
  exact g
theorem lp_26 {L i n : Nat} {f : Nat → Int32} {w : pq_W} (h0 : lp_O w L f) (hW : WI n w) (hi : i + 6 ≤ L) (hL : L ≤ 3072) (hn : n ≤ 3072) : lp_R L f i n w 1146 := by
  intro K
  obtain ⟨x1, w1, x2, w2, g1, g2, q2⟩ := pr_fee (n := n) (a := (f (i + 1))) (b := (f (i + 2))) w hW
  have h1 : lp_O w1 L f := lp_k h0 g1
  obtain ⟨w', g⟩ := K w2 q2 (lp_k h1 g2)
  refine ⟨w', ?_⟩
  refine go_seg 5 (pc' := 1151) (ls' := lp_LS i) (st' := [.int (nI i + 1), .ref 0, .ref 5]) (w' := w) (cs' := 109) (ss' := 12668) ?_ (fun _ _ => rfl)
  refine go_ald (z := .int (f (i + 1))) rfl h0 (lp_at hi hL 1 (by decide) _ (by decide +kernel)) ?_
  refine go_seg 4 (pc' := 1156) (ls' := lp_LS i) (st' := [.int (nI i + 2), .ref 0, .int (f (i + 1)), .ref 5]) (w' := w) (cs' := 109) (ss' := 12668) ?_ (fun _ _ => rfl)
  refine go_ald (z := .int (f (i + 2))) rfl h0 (lp_at hi hL 2 (by decide) _ (by decide +kernel)) ?_
  refine go_cl (k1 := 300) (r := some (.int x1)) (st' := [.int x1]) (cs' := 109) (ss' := 12668) rfl rfl rfl rfl rfl rfl rfl g1 ?_
  refine go_seg 6 (pc' := 1166) (ls' := lp_LS i) (st' := [.int (nI i + 1), .ref 0, .ref 94]) (w' := w1) (cs' := 109) (ss' := 12668) ?_ (fun _ _ => rfl)
  refine go_ald (z := .int (f (i + 1))) rfl h1 (lp_at hi hL 1 (by decide) _ (by decide +kernel)) ?_
  refine go_seg 4 (pc' := 1171) (ls' := lp_LS i) (st' := [.int (nI i + 2), .ref 0, .int (f (i + 1)), .ref 94]) (w' := w1) (cs' := 109) (ss' := 12668) ?_ (fun _ _ => rfl)
  refine go_ald (z := .int (f (i + 2))) rfl h1 (lp_at hi hL 2 (by decide) _ (by decide +kernel)) ?_
  refine go_cl (k1 := 300) (r := some (.int x2)) (st' := [.int x2]) (cs' := 109) (ss' := 12668) rfl rfl rfl rfl rfl rfl rfl g2 ?_
  refine go_seg 2 (pc' := 1667) (ls' := lp_LS i) (st' := []) (w' := w2) (cs' := 109) (ss' := 12668) ?_ (fun _ _ => rfl)
  exact g
theorem lp_27 {L i n : Nat} {f : Nat → Int32} {w : pq_W} (h0 : lp_O w L f) (hW : WI n w) (hi : i + 6 ≤ L) (hL : L ≤ 3072) (hn : n ≤ 3072) : lp_R L f i n w 1179 := by
  intro K
  by_cases e : f (i + 2) = 0
  · obtain ⟨x1, w1, x2, w2, g1, g2, q2⟩ := pr_beside (n := n) (a := (f (i + 1))) (b := 0) (Or.inl rfl) w hW
    have h1 : lp_O w1 L f := lp_k h0 g1
    obtain ⟨w', g⟩ := K w2 q2 (lp_k h1 g2)
    refine ⟨w', ?_⟩
    refine go_seg 5 (pc' := 1184) (ls' := lp_LS i) (st' := [.int (nI i + 1), .ref 0, .ref 5]) (w' := w) (cs' := 109) (ss' := 12668) ?_ (fun _ _ => rfl)
    refine go_ald (z := .int (f (i + 1))) rfl h0 (lp_at hi hL 1 (by decide) _ (by decide +kernel)) ?_
    refine go_seg 4 (pc' := 1189) (ls' := lp_LS i) (st' := [.int (nI i + 2), .ref 0, .int (f (i + 1)), .ref 5]) (w' := w) (cs' := 109) (ss' := 12668) ?_ (fun _ _ => rfl)
    refine go_ald (z := .int (f (i + 2))) rfl h0 (lp_at hi hL 2 (by decide) _ (by decide +kernel)) ?_
    refine go_if true rfl (decide_eq_true e) ?_
    refine go_seg 1 (pc' := 1198) (ls' := lp_LS i) (st' := [.int 0, .int (f (i + 1)), .ref 5]) (w' := w) (cs' := 109) (ss' := 12668) ?_ (fun _ _ => rfl)
    refine go_cl (k1 := 300) (r := some (.int x1)) (st' := [.int x1]) (cs' := 109) (ss' := 12668) rfl rfl rfl rfl rfl rfl rfl g1 ?_
    refine go_seg 6 (pc' := 1207) (ls' := lp_LS i) (st' := [.int (nI i + 1), .ref 0, .ref 94]) (w' := w1) (cs' := 109) (ss' := 12668) ?_ (fun _ _ => rfl)
    refine go_ald (z := .int (f (i + 1))) rfl h1 (lp_at hi hL 1 (by decide) _ (by decide +kernel)) ?_
    refine go_seg 4 (pc' := 1212) (ls' := lp_LS i) (st' := [.int (nI i + 2), .ref 0, .int (f (i + 1)), .ref 94]) (w' := w1) (cs' := 109) (ss' := 12668) ?_ (fun _ _ => rfl)
    refine go_ald (z := .int (f (i + 2))) rfl h1 (lp_at hi hL 2 (by decide) _ (by decide +kernel)) ?_
    refine go_if true rfl (decide_eq_true e) ?_
    refine go_seg 1 (pc' := 1221) (ls' := lp_LS i) (st' := [.int 0, .int (f (i + 1)), .ref 94]) (w' := w1) (cs' := 109) (ss' := 12668) ?_ (fun _ _ => rfl)
    refine go_cl (k1 := 300) (r := some (.int x2)) (st' := [.int x2]) (cs' := 109) (ss' := 12668) rfl rfl rfl rfl rfl rfl rfl g2 ?_
    refine go_seg 2 (pc' := 1667) (ls' := lp_LS i) (st' := []) (w' := w2) (cs' := 109) (ss' := 12668) ?_ (fun _ _ => rfl)
    exact g
  · obtain ⟨x1, w1, x2, w2, g1, g2, q2⟩ := pr_beside (n := n) (a := (f (i + 1))) (b := 1) (Or.inr rfl) w hW
    have h1 : lp_O w1 L f := lp_k h0 g1
    obtain ⟨w', g⟩ := K w2 q2 (lp_k h1 g2)
    refine ⟨w', ?_⟩
    refine go_seg 5 (pc' := 1184) (ls' := lp_LS i) (st' := [.int (nI i + 1), .ref 0, .ref 5]) (w' := w) (cs' := 109) (ss' := 12668) ?_ (fun _ _ => rfl)
    refine go_ald (z := .int (f (i + 1))) rfl h0 (lp_at hi hL 1 (by decide) _ (by decide +kernel)) ?_
    refine go_seg 4 (pc' := 1189) (ls' := lp_LS i) (st' := [.int (nI i + 2), .ref 0, .int (f (i + 1)), .ref 5]) (w' := w) (cs' := 109) (ss' := 12668) ?_ (fun _ _ => rfl)
    refine go_ald (z := .int (f (i + 2))) rfl h0 (lp_at hi hL 2 (by decide) _ (by decide +kernel)) ?_
    refine go_if false rfl (decide_eq_false e) ?_
    refine go_seg 2 (pc' := 1198) (ls' := lp_LS i) (st' := [.int 1, .int (f (i + 1)), .ref 5]) (w' := w) (cs' := 109) (ss' := 12668) ?_ (fun _ _ => rfl)
    refine go_cl (k1 := 300) (r := some (.int x1)) (st' := [.int x1]) (cs' := 109) (ss' := 12668) rfl rfl rfl rfl rfl rfl rfl g1 ?_
    refine go_seg 6 (pc' := 1207) (ls' := lp_LS i) (st' := [.int (nI i + 1), .ref 0, .ref 94]) (w' := w1) (cs' := 109) (ss' := 12668) ?_ (fun _ _ => rfl)
    refine go_ald (z := .int (f (i + 1))) rfl h1 (lp_at hi hL 1 (by decide) _ (by decide +kernel)) ?_
    refine go_seg 4 (pc' := 1212) (ls' := lp_LS i) (st' := [.int (nI i + 2), .ref 0, .int (f (i + 1)), .ref 94]) (w' := w1) (cs' := 109) (ss' := 12668) ?_ (fun _ _ => rfl)
    refine go_ald (z := .int (f (i + 2))) rfl h1 (lp_at hi hL 2 (by decide) _ (by decide +kernel)) ?_
    refine go_if false rfl (decide_eq_false e) ?_
    refine go_seg 2 (pc' := 1221) (ls' := lp_LS i) (st' := [.int 1, .int (f (i + 1)), .ref 94]) (w' := w1) (cs' := 109) (ss' := 12668) ?_ (fun _ _ => rfl)
    refine go_cl (k1 := 300) (r := some (.int x2)) (st' := [.int x2]) (cs' := 109) (ss' := 12668) rfl rfl rfl rfl rfl rfl rfl g2 ?_
    refine go_seg 2 (pc' := 1667) (ls' := lp_LS i) (st' := []) (w' := w2) (cs' := 109) (ss' := 12668) ?_ (fun _ _ => rfl)
    exact g
theorem lp_28 {L i n : Nat} {f : Nat → Int32} {w : pq_W} (h0 : lp_O w L f) (hW : WI n w) (hi : i + 6 ≤ L) (hL : L ≤ 3072) (hn : n ≤ 3072) : lp_R L f i n w 1228 := by
  intro K
  obtain ⟨x1, w1, x2, w2, g1, g2, q2⟩ := pr_go (n := n) (a := (f (i + 1))) w hW
  have h1 : lp_O w1 L f := lp_k h0 g1
  obtain ⟨w', g⟩ := K w2 q2 (lp_k h1 g2)
  refine ⟨w', ?_⟩
  refine go_seg 5 (pc' := 1233) (ls' := lp_LS i) (st' := [.int (nI i + 1), .ref 0, .ref 5]) (w' := w) (cs' := 109) (ss' := 12668) ?_ (fun _ _ => rfl)
  refine go_ald (z := .int (f (i + 1))) rfl h0 (lp_at hi hL 1 (by decide) _ (by decide +kernel)) ?_
  refine go_cl (k1 := 300) (r := some (.int x1)) (st' := [.int x1]) (cs' := 109) (ss' := 12668) rfl rfl rfl rfl rfl rfl rfl g1 ?_
  refine go_seg 6 (pc' := 1243) (ls' := lp_LS i) (st' := [.int (nI i + 1), .ref 0, .ref 94]) (w' := w1) (cs' := 109) (ss' := 12668) ?_ (fun _ _ => rfl)
  refine go_ald (z := .int (f (i + 1))) rfl h1 (lp_at hi hL 1 (by decide) _ (by decide +kernel)) ?_
  refine go_cl (k1 := 300) (r := some (.int x2)) (st' := [.int x2]) (cs' := 109) (ss' := 12668) rfl rfl rfl rfl rfl rfl rfl g2 ?_
  refine go_seg 2 (pc' := 1667) (ls' := lp_LS i) (st' := []) (w' := w2) (cs' := 109) (ss' := 12668) ?_ (fun _ _ => rfl)
  exact g
theorem lp_29 {L i n : Nat} {f : Nat → Int32} {w : pq_W} (h0 : lp_O w L f) (hW : WI n w) (hi : i + 6 ≤ L) (hL : L ≤ 3072) (hn : n ≤ 3072) : lp_R L f i n w 1251 := by
  intro K
  obtain ⟨x1, w1, x2, w2, g1, g2, q2⟩ := pr_fuel (n := n) (a := (f (i + 1))) w hW
  have h1 : lp_O w1 L f := lp_k h0 g1
  obtain ⟨w', g⟩ := K w2 q2 (lp_k h1 g2)
  refine ⟨w', ?_⟩
  refine go_seg 5 (pc' := 1256) (ls' := lp_LS i) (st' := [.int (nI i + 1), .ref 0, .ref 5]) (w' := w) (cs' := 109) (ss' := 12668) ?_ (fun _ _ => rfl)
  refine go_ald (z := .int (f (i + 1))) rfl h0 (lp_at hi hL 1 (by decide) _ (by decide +kernel)) ?_
  refine go_cl (k1 := 300) (r := some (.int x1)) (st' := [.int x1]) (cs' := 109) (ss' := 12668) rfl rfl rfl rfl rfl rfl rfl g1 ?_
  refine go_seg 6 (pc' := 1266) (ls' := lp_LS i) (st' := [.int (nI i + 1), .ref 0, .ref 94]) (w' := w1) (cs' := 109) (ss' := 12668) ?_ (fun _ _ => rfl)
  refine go_ald (z := .int (f (i + 1))) rfl h1 (lp_at hi hL 1 (by decide) _ (by decide +kernel)) ?_
  refine go_cl (k1 := 300) (r := some (.int x2)) (st' := [.int x2]) (cs' := 109) (ss' := 12668) rfl rfl rfl rfl rfl rfl rfl g2 ?_
  refine go_seg 2 (pc' := 1667) (ls' := lp_LS i) (st' := []) (w' := w2) (cs' := 109) (ss' := 12668) ?_ (fun _ _ => rfl)
  exact g
theorem lp_30 {L i n : Nat} {f : Nat → Int32} {w : pq_W} (h0 : lp_O w L f) (hW : WI n w) (hi : i + 6 ≤ L) (hL : L ≤ 3072) (hn : n ≤ 3072) : lp_R L f i n w 1274 := by
  intro K
  obtain ⟨x1, w1, x2, w2, g1, g2, q2⟩ := pr_cheapest (n := n) (a := (f (i + 1))) (b := (f (i + 2))) (c := (f (i + 3))) (d := (f (i + 4))) w hW
  have h1 : lp_O w1 L f := lp_k h0 g1
  obtain ⟨w', g⟩ := K w2 q2 (lp_k h1 g2)
  refine ⟨w', ?_⟩
  refine go_seg 5 (pc' := 1279) (ls' := lp_LS i) (st' := [.int (nI i + 1), .ref 0, .ref 5]) (w' := w) (cs' := 109) (ss' := 12668) ?_ (fun _ _ => rfl)
  refine go_ald (z := .int (f (i + 1))) rfl h0 (lp_at hi hL 1 (by decide) _ (by decide +kernel)) ?_
  refine go_seg 4 (pc' := 1284) (ls' := lp_LS i) (st' := [.int (nI i + 2), .ref 0, .int (f (i + 1)), .ref 5]) (w' := w) (cs' := 109) (ss' := 12668) ?_ (fun _ _ => rfl)
  refine go_ald (z := .int (f (i + 2))) rfl h0 (lp_at hi hL 2 (by decide) _ (by decide +kernel)) ?_
  refine go_seg 4 (pc' := 1289) (ls' := lp_LS i) (st' := [.int (nI i + 3), .ref 0, .int (f (i + 2)), .int (f (i + 1)), .ref 5]) (w' := w) (cs' := 109) (ss' := 12668) ?_ (fun _ _ => rfl)
  refine go_ald (z := .int (f (i + 3))) rfl h0 (lp_at hi hL 3 (by decide) _ (by decide +kernel)) ?_
  refine go_seg 4 (pc' := 1294) (ls' := lp_LS i) (st' := [.int (nI i + 4), .ref 0, .int (f (i + 3)), .int (f (i + 2)), .int (f (i + 1)), .ref 5]) (w' := w) (cs' := 109) (ss' := 12668) ?_ (fun _ _ => rfl)
  refine go_ald (z := .int (f (i + 4))) rfl h0 (lp_at hi hL 4 (by decide) _ (by decide +kernel)) ?_
  refine go_cl (k1 := 300) (r := some (.int x1)) (st' := [.int x1]) (cs' := 109) (ss' := 12668) rfl rfl rfl rfl rfl rfl rfl g1 ?_
  refine go_seg 6 (pc' := 1304) (ls' := lp_LS i) (st' := [.int (nI i + 1), .ref 0, .ref 94]) (w' := w1) (cs' := 109) (ss' := 12668) ?_ (fun _ _ => rfl)
  refine go_ald (z := .int (f (i + 1))) rfl h1 (lp_at hi hL 1 (by decide) _ (by decide +kernel)) ?_
  refine go_seg 4 (pc' := 1309) (ls' := lp_LS i) (st' := [.int (nI i + 2), .ref 0, .int (f (i + 1)), .ref 94]) (w' := w1) (cs' := 109) (ss' := 12668) ?_ (fun _ _ => rfl)
  refine go_ald (z := .int (f (i + 2))) rfl h1 (lp_at hi hL 2 (by decide) _ (by decide +kernel)) ?_
  refine go_seg 4 (pc' := 1314) (ls' := lp_LS i) (st' := [.int (nI i + 3), .ref 0, .int (f (i + 2)), .int (f (i + 1)), .ref 94]) (w' := w1) (cs' := 109) (ss' := 12668) ?_ (fun _ _ => rfl)
  refine go_ald (z := .int (f (i + 3))) rfl h1 (lp_at hi hL 3 (by decide) _ (by decide +kernel)) ?_
  refine go_seg 4 (pc' := 1319) (ls' := lp_LS i) (st' := [.int (nI i + 4), .ref 0, .int (f (i + 3)), .int (f (i + 2)), .int (f (i + 1)), .ref 94]) (w' := w1) (cs' := 109) (ss' := 12668) ?_ (fun _ _ => rfl)
  refine go_ald (z := .int (f (i + 4))) rfl h1 (lp_at hi hL 4 (by decide) _ (by decide +kernel)) ?_
  refine go_cl (k1 := 300) (r := some (.int x2)) (st' := [.int x2]) (cs' := 109) (ss' := 12668) rfl rfl rfl rfl rfl rfl rfl g2 ?_
  refine go_seg 2 (pc' := 1667) (ls' := lp_LS i) (st' := []) (w' := w2) (cs' := 109) (ss' := 12668) ?_ (fun _ _ => rfl)
  exact g
theorem lp_31 {L i n : Nat} {f : Nat → Int32} {w : pq_W} (h0 : lp_O w L f) (hW : WI n w) (hi : i + 6 ≤ L) (hL : L ≤ 3072) (hn : n ≤ 3072) : lp_R L f i n w 1327 := by
  intro K
  obtain ⟨x1, w1, x2, w2, g1, g2, q2⟩ := pr_gain (n := n) (a := (f (i + 1))) (b := (f (i + 2))) (c := (f (i + 3))) (d := (f (i + 4))) w hW
  have h1 : lp_O w1 L f := lp_k h0 g1
  obtain ⟨w', g⟩ := K w2 q2 (lp_k h1 g2)
  refine ⟨w', ?_⟩
  refine go_seg 5 (pc' := 1332) (ls' := lp_LS i) (st' := [.int (nI i + 1), .ref 0, .ref 5]) (w' := w) (cs' := 109) (ss' := 12668) ?_ (fun _ _ => rfl)
  refine go_ald (z := .int (f (i + 1))) rfl h0 (lp_at hi hL 1 (by decide) _ (by decide +kernel)) ?_
  refine go_seg 4 (pc' := 1337) (ls' := lp_LS i) (st' := [.int (nI i + 2), .ref 0, .int (f (i + 1)), .ref 5]) (w' := w) (cs' := 109) (ss' := 12668) ?_ (fun _ _ => rfl)
  refine go_ald (z := .int (f (i + 2))) rfl h0 (lp_at hi hL 2 (by decide) _ (by decide +kernel)) ?_
  refine go_seg 4 (pc' := 1342) (ls' := lp_LS i) (st' := [.int (nI i + 3), .ref 0, .int (f (i + 2)), .int (f (i + 1)), .ref 5]) (w' := w) (cs' := 109) (ss' := 12668) ?_ (fun _ _ => rfl)
  refine go_ald (z := .int (f (i + 3))) rfl h0 (lp_at hi hL 3 (by decide) _ (by decide +kernel)) ?_
  refine go_seg 4 (pc' := 1347) (ls' := lp_LS i) (st' := [.int (nI i + 4), .ref 0, .int (f (i + 3)), .int (f (i + 2)), .int (f (i + 1)), .ref 5]) (w' := w) (cs' := 109) (ss' := 12668) ?_ (fun _ _ => rfl)
  refine go_ald (z := .int (f (i + 4))) rfl h0 (lp_at hi hL 4 (by decide) _ (by decide +kernel)) ?_
  refine go_cl (k1 := 300) (r := some (.int x1)) (st' := [.int x1]) (cs' := 109) (ss' := 12668) rfl rfl rfl rfl rfl rfl rfl g1 ?_
  refine go_seg 6 (pc' := 1357) (ls' := lp_LS i) (st' := [.int (nI i + 1), .ref 0, .ref 94]) (w' := w1) (cs' := 109) (ss' := 12668) ?_ (fun _ _ => rfl)
  refine go_ald (z := .int (f (i + 1))) rfl h1 (lp_at hi hL 1 (by decide) _ (by decide +kernel)) ?_
  refine go_seg 4 (pc' := 1362) (ls' := lp_LS i) (st' := [.int (nI i + 2), .ref 0, .int (f (i + 1)), .ref 94]) (w' := w1) (cs' := 109) (ss' := 12668) ?_ (fun _ _ => rfl)
  refine go_ald (z := .int (f (i + 2))) rfl h1 (lp_at hi hL 2 (by decide) _ (by decide +kernel)) ?_
  refine go_seg 4 (pc' := 1367) (ls' := lp_LS i) (st' := [.int (nI i + 3), .ref 0, .int (f (i + 2)), .int (f (i + 1)), .ref 94]) (w' := w1) (cs' := 109) (ss' := 12668) ?_ (fun _ _ => rfl)
  refine go_ald (z := .int (f (i + 3))) rfl h1 (lp_at hi hL 3 (by decide) _ (by decide +kernel)) ?_
  refine go_seg 4 (pc' := 1372) (ls' := lp_LS i) (st' := [.int (nI i + 4), .ref 0, .int (f (i + 3)), .int (f (i + 2)), .int (f (i + 1)), .ref 94]) (w' := w1) (cs' := 109) (ss' := 12668) ?_ (fun _ _ => rfl)
  refine go_ald (z := .int (f (i + 4))) rfl h1 (lp_at hi hL 4 (by decide) _ (by decide +kernel)) ?_
  refine go_cl (k1 := 300) (r := some (.int x2)) (st' := [.int x2]) (cs' := 109) (ss' := 12668) rfl rfl rfl rfl rfl rfl rfl g2 ?_
  refine go_seg 2 (pc' := 1667) (ls' := lp_LS i) (st' := []) (w' := w2) (cs' := 109) (ss' := 12668) ?_ (fun _ _ => rfl)
  exact g
theorem lp_32 {L i n : Nat} {f : Nat → Int32} {w : pq_W} (h0 : lp_O w L f) (hW : WI n w) (hi : i + 6 ≤ L) (hL : L ≤ 3072) (hn : n ≤ 3072) : lp_R L f i n w 1380 := by
  intro K
  obtain ⟨x1, w1, x2, w2, g1, g2, q2⟩ := pr_voice (n := n) (a := (f (i + 1))) (b := (f (i + 2))) (c := (f (i + 3))) w hW
  have h1 : lp_O w1 L f := lp_k h0 g1
  obtain ⟨w', g⟩ := K w2 q2 (lp_k h1 g2)
  refine ⟨w', ?_⟩
  refine go_seg 5 (pc' := 1385) (ls' := lp_LS i) (st' := [.int (nI i + 1), .ref 0, .ref 5]) (w' := w) (cs' := 109) (ss' := 12668) ?_ (fun _ _ => rfl)
  refine go_ald (z := .int (f (i + 1))) rfl h0 (lp_at hi hL 1 (by decide) _ (by decide +kernel)) ?_
  refine go_seg 4 (pc' := 1390) (ls' := lp_LS i) (st' := [.int (nI i + 2), .ref 0, .int (f (i + 1)), .ref 5]) (w' := w) (cs' := 109) (ss' := 12668) ?_ (fun _ _ => rfl)
  refine go_ald (z := .int (f (i + 2))) rfl h0 (lp_at hi hL 2 (by decide) _ (by decide +kernel)) ?_
  refine go_seg 4 (pc' := 1395) (ls' := lp_LS i) (st' := [.int (nI i + 3), .ref 0, .int (f (i + 2)), .int (f (i + 1)), .ref 5]) (w' := w) (cs' := 109) (ss' := 12668) ?_ (fun _ _ => rfl)
  refine go_ald (z := .int (f (i + 3))) rfl h0 (lp_at hi hL 3 (by decide) _ (by decide +kernel)) ?_
  refine go_cl (k1 := 300) (r := some (.int x1)) (st' := [.int x1]) (cs' := 109) (ss' := 12668) rfl rfl rfl rfl rfl rfl rfl g1 ?_
  refine go_seg 6 (pc' := 1405) (ls' := lp_LS i) (st' := [.int (nI i + 1), .ref 0, .ref 94]) (w' := w1) (cs' := 109) (ss' := 12668) ?_ (fun _ _ => rfl)
  refine go_ald (z := .int (f (i + 1))) rfl h1 (lp_at hi hL 1 (by decide) _ (by decide +kernel)) ?_
  refine go_seg 4 (pc' := 1410) (ls' := lp_LS i) (st' := [.int (nI i + 2), .ref 0, .int (f (i + 1)), .ref 94]) (w' := w1) (cs' := 109) (ss' := 12668) ?_ (fun _ _ => rfl)
  refine go_ald (z := .int (f (i + 2))) rfl h1 (lp_at hi hL 2 (by decide) _ (by decide +kernel)) ?_
  refine go_seg 4 (pc' := 1415) (ls' := lp_LS i) (st' := [.int (nI i + 3), .ref 0, .int (f (i + 2)), .int (f (i + 1)), .ref 94]) (w' := w1) (cs' := 109) (ss' := 12668) ?_ (fun _ _ => rfl)
  refine go_ald (z := .int (f (i + 3))) rfl h1 (lp_at hi hL 3 (by decide) _ (by decide +kernel)) ?_
  refine go_cl (k1 := 300) (r := some (.int x2)) (st' := [.int x2]) (cs' := 109) (ss' := 12668) rfl rfl rfl rfl rfl rfl rfl g2 ?_
  refine go_seg 2 (pc' := 1667) (ls' := lp_LS i) (st' := []) (w' := w2) (cs' := 109) (ss' := 12668) ?_ (fun _ _ => rfl)
  exact g
theorem lp_33 {L i n : Nat} {f : Nat → Int32} {w : pq_W} (h0 : lp_O w L f) (hW : WI n w) (hi : i + 6 ≤ L) (hL : L ≤ 3072) (hn : n ≤ 3072) : lp_R L f i n w 1423 := by
  intro K
  obtain ⟨x1, w1, x2, w2, g1, g2, q2⟩ := pr_trace (n := n) (a := (f (i + 1))) w hW
  have h1 : lp_O w1 L f := lp_k h0 g1
  obtain ⟨w', g⟩ := K w2 q2 (lp_k h1 g2)
  refine ⟨w', ?_⟩
  refine go_seg 5 (pc' := 1428) (ls' := lp_LS i) (st' := [.int (nI i + 1), .ref 0, .ref 5]) (w' := w) (cs' := 109) (ss' := 12668) ?_ (fun _ _ => rfl)
  refine go_ald (z := .int (f (i + 1))) rfl h0 (lp_at hi hL 1 (by decide) _ (by decide +kernel)) ?_
  refine go_cl (k1 := 300) (r := some (.int x1)) (st' := [.int x1]) (cs' := 109) (ss' := 12668) rfl rfl rfl rfl rfl rfl rfl g1 ?_
  refine go_seg 6 (pc' := 1438) (ls' := lp_LS i) (st' := [.int (nI i + 1), .ref 0, .ref 94]) (w' := w1) (cs' := 109) (ss' := 12668) ?_ (fun _ _ => rfl)
  refine go_ald (z := .int (f (i + 1))) rfl h1 (lp_at hi hL 1 (by decide) _ (by decide +kernel)) ?_
  refine go_cl (k1 := 300) (r := some (.int x2)) (st' := [.int x2]) (cs' := 109) (ss' := 12668) rfl rfl rfl rfl rfl rfl rfl g2 ?_
  refine go_seg 2 (pc' := 1667) (ls' := lp_LS i) (st' := []) (w' := w2) (cs' := 109) (ss' := 12668) ?_ (fun _ _ => rfl)
  exact g
theorem lp_34 {L i n : Nat} {f : Nat → Int32} {w : pq_W} (h0 : lp_O w L f) (hW : WI n w) (hi : i + 6 ≤ L) (hL : L ≤ 3072) (hn : n ≤ 3072) : lp_R L f i n w 1446 := by
  intro K
  obtain ⟨x1, w1, x2, w2, g1, g2, q2⟩ := pr_sheet (n := n) (a := (f (i + 1))) (b := (f (i + 2))) (c := (f (i + 3))) w hW
  have h1 : lp_O w1 L f := lp_k h0 g1
  obtain ⟨w', g⟩ := K w2 q2 (lp_k h1 g2)
  refine ⟨w', ?_⟩
  refine go_seg 5 (pc' := 1451) (ls' := lp_LS i) (st' := [.int (nI i + 1), .ref 0, .ref 5]) (w' := w) (cs' := 109) (ss' := 12668) ?_ (fun _ _ => rfl)
  refine go_ald (z := .int (f (i + 1))) rfl h0 (lp_at hi hL 1 (by decide) _ (by decide +kernel)) ?_
  refine go_seg 4 (pc' := 1456) (ls' := lp_LS i) (st' := [.int (nI i + 2), .ref 0, .int (f (i + 1)), .ref 5]) (w' := w) (cs' := 109) (ss' := 12668) ?_ (fun _ _ => rfl)
  refine go_ald (z := .int (f (i + 2))) rfl h0 (lp_at hi hL 2 (by decide) _ (by decide +kernel)) ?_
  refine go_seg 4 (pc' := 1461) (ls' := lp_LS i) (st' := [.int (nI i + 3), .ref 0, .int (f (i + 2)), .int (f (i + 1)), .ref 5]) (w' := w) (cs' := 109) (ss' := 12668) ?_ (fun _ _ => rfl)
  refine go_ald (z := .int (f (i + 3))) rfl h0 (lp_at hi hL 3 (by decide) _ (by decide +kernel)) ?_
  refine go_cl (k1 := 300) (r := some (.int x1)) (st' := [.int x1]) (cs' := 109) (ss' := 12668) rfl rfl rfl rfl rfl rfl rfl g1 ?_
  refine go_seg 6 (pc' := 1471) (ls' := lp_LS i) (st' := [.int (nI i + 1), .ref 0, .ref 94]) (w' := w1) (cs' := 109) (ss' := 12668) ?_ (fun _ _ => rfl)
  refine go_ald (z := .int (f (i + 1))) rfl h1 (lp_at hi hL 1 (by decide) _ (by decide +kernel)) ?_
  refine go_seg 4 (pc' := 1476) (ls' := lp_LS i) (st' := [.int (nI i + 2), .ref 0, .int (f (i + 1)), .ref 94]) (w' := w1) (cs' := 109) (ss' := 12668) ?_ (fun _ _ => rfl)
  refine go_ald (z := .int (f (i + 2))) rfl h1 (lp_at hi hL 2 (by decide) _ (by decide +kernel)) ?_
  refine go_seg 4 (pc' := 1481) (ls' := lp_LS i) (st' := [.int (nI i + 3), .ref 0, .int (f (i + 2)), .int (f (i + 1)), .ref 94]) (w' := w1) (cs' := 109) (ss' := 12668) ?_ (fun _ _ => rfl)
  refine go_ald (z := .int (f (i + 3))) rfl h1 (lp_at hi hL 3 (by decide) _ (by decide +kernel)) ?_
  refine go_cl (k1 := 300) (r := some (.int x2)) (st' := [.int x2]) (cs' := 109) (ss' := 12668) rfl rfl rfl rfl rfl rfl rfl g2 ?_
  refine go_seg 2 (pc' := 1667) (ls' := lp_LS i) (st' := []) (w' := w2) (cs' := 109) (ss' := 12668) ?_ (fun _ _ => rfl)
  exact g
theorem lp_35 {L i n : Nat} {f : Nat → Int32} {w : pq_W} (h0 : lp_O w L f) (hW : WI n w) (hi : i + 6 ≤ L) (hL : L ≤ 3072) (hn : n ≤ 3072) : lp_R L f i n w 1489 := by
  intro K
  obtain ⟨x1, w1, x2, w2, g1, g2, q2⟩ := pr_put (n := n) (a := (f (i + 1))) (b := (f (i + 2))) (c := (f (i + 3))) w hW
  have h1 : lp_O w1 L f := lp_k h0 g1
  obtain ⟨w', g⟩ := K w2 q2 (lp_k h1 g2)
  refine ⟨w', ?_⟩
  refine go_seg 5 (pc' := 1494) (ls' := lp_LS i) (st' := [.int (nI i + 1), .ref 0, .ref 5]) (w' := w) (cs' := 109) (ss' := 12668) ?_ (fun _ _ => rfl)
  refine go_ald (z := .int (f (i + 1))) rfl h0 (lp_at hi hL 1 (by decide) _ (by decide +kernel)) ?_
  refine go_seg 4 (pc' := 1499) (ls' := lp_LS i) (st' := [.int (nI i + 2), .ref 0, .int (f (i + 1)), .ref 5]) (w' := w) (cs' := 109) (ss' := 12668) ?_ (fun _ _ => rfl)
  refine go_ald (z := .int (f (i + 2))) rfl h0 (lp_at hi hL 2 (by decide) _ (by decide +kernel)) ?_
  refine go_seg 4 (pc' := 1504) (ls' := lp_LS i) (st' := [.int (nI i + 3), .ref 0, .int (f (i + 2)), .int (f (i + 1)), .ref 5]) (w' := w) (cs' := 109) (ss' := 12668) ?_ (fun _ _ => rfl)
  refine go_ald (z := .int (f (i + 3))) rfl h0 (lp_at hi hL 3 (by decide) _ (by decide +kernel)) ?_
  refine go_cl (k1 := 300) (r := some (.int x1)) (st' := [.int x1]) (cs' := 109) (ss' := 12668) rfl rfl rfl rfl rfl rfl rfl g1 ?_
  refine go_seg 6 (pc' := 1514) (ls' := lp_LS i) (st' := [.int (nI i + 1), .ref 0, .ref 94]) (w' := w1) (cs' := 109) (ss' := 12668) ?_ (fun _ _ => rfl)
  refine go_ald (z := .int (f (i + 1))) rfl h1 (lp_at hi hL 1 (by decide) _ (by decide +kernel)) ?_
  refine go_seg 4 (pc' := 1519) (ls' := lp_LS i) (st' := [.int (nI i + 2), .ref 0, .int (f (i + 1)), .ref 94]) (w' := w1) (cs' := 109) (ss' := 12668) ?_ (fun _ _ => rfl)
  refine go_ald (z := .int (f (i + 2))) rfl h1 (lp_at hi hL 2 (by decide) _ (by decide +kernel)) ?_
  refine go_seg 4 (pc' := 1524) (ls' := lp_LS i) (st' := [.int (nI i + 3), .ref 0, .int (f (i + 2)), .int (f (i + 1)), .ref 94]) (w' := w1) (cs' := 109) (ss' := 12668) ?_ (fun _ _ => rfl)
  refine go_ald (z := .int (f (i + 3))) rfl h1 (lp_at hi hL 3 (by decide) _ (by decide +kernel)) ?_
  refine go_cl (k1 := 300) (r := some (.int x2)) (st' := [.int x2]) (cs' := 109) (ss' := 12668) rfl rfl rfl rfl rfl rfl rfl g2 ?_
  refine go_seg 2 (pc' := 1667) (ls' := lp_LS i) (st' := []) (w' := w2) (cs' := 109) (ss' := 12668) ?_ (fun _ _ => rfl)
  exact g
theorem lp_36 {L i n : Nat} {f : Nat → Int32} {w : pq_W} (h0 : lp_O w L f) (hW : WI n w) (hi : i + 6 ≤ L) (hL : L ≤ 3072) (hn : n ≤ 3072) : lp_R L f i n w 1532 := by
  intro K
  obtain ⟨x1, w1, x2, w2, g1, g2, q2⟩ := pr_move (n := n) (a := (f (i + 1))) (b := (f (i + 2))) (c := (f (i + 3))) (d := (f (i + 4))) (e := (f (i + 5))) w hW
  have h1 : lp_O w1 L f := lp_k h0 g1
  obtain ⟨w', g⟩ := K w2 q2 (lp_k h1 g2)
  refine ⟨w', ?_⟩
  refine go_seg 5 (pc' := 1537) (ls' := lp_LS i) (st' := [.int (nI i + 1), .ref 0, .ref 5]) (w' := w) (cs' := 109) (ss' := 12668) ?_ (fun _ _ => rfl)
  refine go_ald (z := .int (f (i + 1))) rfl h0 (lp_at hi hL 1 (by decide) _ (by decide +kernel)) ?_
  refine go_seg 4 (pc' := 1542) (ls' := lp_LS i) (st' := [.int (nI i + 2), .ref 0, .int (f (i + 1)), .ref 5]) (w' := w) (cs' := 109) (ss' := 12668) ?_ (fun _ _ => rfl)
  refine go_ald (z := .int (f (i + 2))) rfl h0 (lp_at hi hL 2 (by decide) _ (by decide +kernel)) ?_
  refine go_seg 4 (pc' := 1547) (ls' := lp_LS i) (st' := [.int (nI i + 3), .ref 0, .int (f (i + 2)), .int (f (i + 1)), .ref 5]) (w' := w) (cs' := 109) (ss' := 12668) ?_ (fun _ _ => rfl)
  refine go_ald (z := .int (f (i + 3))) rfl h0 (lp_at hi hL 3 (by decide) _ (by decide +kernel)) ?_
  refine go_seg 4 (pc' := 1552) (ls' := lp_LS i) (st' := [.int (nI i + 4), .ref 0, .int (f (i + 3)), .int (f (i + 2)), .int (f (i + 1)), .ref 5]) (w' := w) (cs' := 109) (ss' := 12668) ?_ (fun _ _ => rfl)
  refine go_ald (z := .int (f (i + 4))) rfl h0 (lp_at hi hL 4 (by decide) _ (by decide +kernel)) ?_
  refine go_seg 4 (pc' := 1557) (ls' := lp_LS i) (st' := [.int (nI i + 5), .ref 0, .int (f (i + 4)), .int (f (i + 3)), .int (f (i + 2)), .int (f (i + 1)), .ref 5]) (w' := w) (cs' := 109) (ss' := 12668) ?_ (fun _ _ => rfl)
  refine go_ald (z := .int (f (i + 5))) rfl h0 (lp_at hi hL 5 (by decide) _ (by decide +kernel)) ?_
  refine go_cl (k1 := 300) (r := some (.int x1)) (st' := [.int x1]) (cs' := 109) (ss' := 12668) rfl rfl rfl rfl rfl rfl rfl g1 ?_
  refine go_seg 6 (pc' := 1567) (ls' := lp_LS i) (st' := [.int (nI i + 1), .ref 0, .ref 94]) (w' := w1) (cs' := 109) (ss' := 12668) ?_ (fun _ _ => rfl)
  refine go_ald (z := .int (f (i + 1))) rfl h1 (lp_at hi hL 1 (by decide) _ (by decide +kernel)) ?_
  refine go_seg 4 (pc' := 1572) (ls' := lp_LS i) (st' := [.int (nI i + 2), .ref 0, .int (f (i + 1)), .ref 94]) (w' := w1) (cs' := 109) (ss' := 12668) ?_ (fun _ _ => rfl)
  refine go_ald (z := .int (f (i + 2))) rfl h1 (lp_at hi hL 2 (by decide) _ (by decide +kernel)) ?_
  refine go_seg 4 (pc' := 1577) (ls' := lp_LS i) (st' := [.int (nI i + 3), .ref 0, .int (f (i + 2)), .int (f (i + 1)), .ref 94]) (w' := w1) (cs' := 109) (ss' := 12668) ?_ (fun _ _ => rfl)
  refine go_ald (z := .int (f (i + 3))) rfl h1 (lp_at hi hL 3 (by decide) _ (by decide +kernel)) ?_
  refine go_seg 4 (pc' := 1582) (ls' := lp_LS i) (st' := [.int (nI i + 4), .ref 0, .int (f (i + 3)), .int (f (i + 2)), .int (f (i + 1)), .ref 94]) (w' := w1) (cs' := 109) (ss' := 12668) ?_ (fun _ _ => rfl)
  refine go_ald (z := .int (f (i + 4))) rfl h1 (lp_at hi hL 4 (by decide) _ (by decide +kernel)) ?_
  refine go_seg 4 (pc' := 1587) (ls' := lp_LS i) (st' := [.int (nI i + 5), .ref 0, .int (f (i + 4)), .int (f (i + 3)), .int (f (i + 2)), .int (f (i + 1)), .ref 94]) (w' := w1) (cs' := 109) (ss' := 12668) ?_ (fun _ _ => rfl)
  refine go_ald (z := .int (f (i + 5))) rfl h1 (lp_at hi hL 5 (by decide) _ (by decide +kernel)) ?_
  refine go_cl (k1 := 300) (r := some (.int x2)) (st' := [.int x2]) (cs' := 109) (ss' := 12668) rfl rfl rfl rfl rfl rfl rfl g2 ?_
  refine go_seg 2 (pc' := 1667) (ls' := lp_LS i) (st' := []) (w' := w2) (cs' := 109) (ss' := 12668) ?_ (fun _ _ => rfl)
  exact g
theorem lp_37 {L i n : Nat} {f : Nat → Int32} {w : pq_W} (h0 : lp_O w L f) (hW : WI n w) (hi : i + 6 ≤ L) (hL : L ≤ 3072) (hn : n ≤ 3072) : lp_R L f i n w 1595 := by
  intro K
  obtain ⟨x1, w1, x2, w2, g1, g2, q2⟩ := pr_image (n := n)  (by omega) w hW
  have h1 : lp_O w1 L f := lp_k h0 g1
  obtain ⟨w', g⟩ := K w2 q2 (lp_k h1 g2)
  refine ⟨w', ?_⟩
  refine go_seg 1 (pc' := 1596) (ls' := lp_LS i) (st' := [.ref 5]) (w' := w) (cs' := 109) (ss' := 12668) ?_ (fun _ _ => rfl)
  refine go_cl (k1 := 300) (r := some (.int x1)) (st' := [.int x1]) (cs' := 109) (ss' := 12668) rfl rfl rfl rfl rfl rfl rfl g1 ?_
  refine go_seg 2 (pc' := 1601) (ls' := lp_LS i) (st' := [.ref 94]) (w' := w1) (cs' := 109) (ss' := 12668) ?_ (fun _ _ => rfl)
  refine go_cl (k1 := 300) (r := some (.int x2)) (st' := [.int x2]) (cs' := 109) (ss' := 12668) rfl rfl rfl rfl rfl rfl rfl g2 ?_
  refine go_seg 2 (pc' := 1667) (ls' := lp_LS i) (st' := []) (w' := w2) (cs' := 109) (ss' := 12668) ?_ (fun _ _ => rfl)
  exact g
theorem lp_38 {L i n : Nat} {f : Nat → Int32} {w : pq_W} (h0 : lp_O w L f) (hW : WI n w) (hi : i + 6 ≤ L) (hL : L ≤ 3072) (hn : n ≤ 3072) : lp_R L f i n w 1608 := by
  intro K
  obtain ⟨x1, w1, x2, w2, g1, g2, q2⟩ := pr_restore (n := n)  (by omega) w hW
  have h1 : lp_O w1 L f := lp_k h0 g1
  obtain ⟨w', g⟩ := K w2 q2 (lp_k h1 g2)
  refine ⟨w', ?_⟩
  refine go_seg 1 (pc' := 1609) (ls' := lp_LS i) (st' := [.ref 5]) (w' := w) (cs' := 109) (ss' := 12668) ?_ (fun _ _ => rfl)
  refine go_cl (k1 := 300) (r := some (.int x1)) (st' := [.int x1]) (cs' := 109) (ss' := 12668) rfl rfl rfl rfl rfl rfl rfl g1 ?_
  refine go_seg 2 (pc' := 1614) (ls' := lp_LS i) (st' := [.ref 94]) (w' := w1) (cs' := 109) (ss' := 12668) ?_ (fun _ _ => rfl)
  refine go_cl (k1 := 300) (r := some (.int x2)) (st' := [.int x2]) (cs' := 109) (ss' := 12668) rfl rfl rfl rfl rfl rfl rfl g2 ?_
  refine go_seg 2 (pc' := 1667) (ls' := lp_LS i) (st' := []) (w' := w2) (cs' := 109) (ss' := 12668) ?_ (fun _ _ => rfl)
  exact g
theorem lp_39 {L i n : Nat} {f : Nat → Int32} {w : pq_W} (h0 : lp_O w L f) (hW : WI n w) (hi : i + 6 ≤ L) (hL : L ≤ 3072) (hn : n ≤ 3072) : lp_R L f i n w 1621 := by
  intro K
  obtain ⟨x1, w1, x2, w2, g1, g2, q2⟩ := pr_told (n := n) (a := (f (i + 1))) w hW
  have h1 : lp_O w1 L f := lp_k h0 g1
  obtain ⟨w', g⟩ := K w2 q2 (lp_k h1 g2)
  refine ⟨w', ?_⟩
  refine go_seg 5 (pc' := 1626) (ls' := lp_LS i) (st' := [.int (nI i + 1), .ref 0, .ref 5]) (w' := w) (cs' := 109) (ss' := 12668) ?_ (fun _ _ => rfl)
  refine go_ald (z := .int (f (i + 1))) rfl h0 (lp_at hi hL 1 (by decide) _ (by decide +kernel)) ?_
  refine go_cl (k1 := 300) (r := some (.int x1)) (st' := [.int x1]) (cs' := 109) (ss' := 12668) rfl rfl rfl rfl rfl rfl rfl g1 ?_
  refine go_seg 6 (pc' := 1636) (ls' := lp_LS i) (st' := [.int (nI i + 1), .ref 0, .ref 94]) (w' := w1) (cs' := 109) (ss' := 12668) ?_ (fun _ _ => rfl)
  refine go_ald (z := .int (f (i + 1))) rfl h1 (lp_at hi hL 1 (by decide) _ (by decide +kernel)) ?_
  refine go_cl (k1 := 300) (r := some (.int x2)) (st' := [.int x2]) (cs' := 109) (ss' := 12668) rfl rfl rfl rfl rfl rfl rfl g2 ?_
  refine go_seg 2 (pc' := 1667) (ls' := lp_LS i) (st' := []) (w' := w2) (cs' := 109) (ss' := 12668) ?_ (fun _ _ => rfl)
  exact g
theorem lp_40 {L i n : Nat} {f : Nat → Int32} {w : pq_W} (h0 : lp_O w L f) (hW : WI n w) (hi : i + 6 ≤ L) (hL : L ≤ 3072) (hn : n ≤ 3072) : lp_R L f i n w 1644 := by
  intro K
  obtain ⟨x1, w1, x2, w2, g1, g2, q2⟩ := pr_found (n := n) (a := (f (i + 1))) w hW
  have h1 : lp_O w1 L f := lp_k h0 g1
  obtain ⟨w', g⟩ := K w2 q2 (lp_k h1 g2)
  refine ⟨w', ?_⟩
  refine go_seg 5 (pc' := 1649) (ls' := lp_LS i) (st' := [.int (nI i + 1), .ref 0, .ref 5]) (w' := w) (cs' := 109) (ss' := 12668) ?_ (fun _ _ => rfl)
  refine go_ald (z := .int (f (i + 1))) rfl h0 (lp_at hi hL 1 (by decide) _ (by decide +kernel)) ?_
  refine go_cl (k1 := 300) (r := some (.int x1)) (st' := [.int x1]) (cs' := 109) (ss' := 12668) rfl rfl rfl rfl rfl rfl rfl g1 ?_
  refine go_seg 6 (pc' := 1659) (ls' := lp_LS i) (st' := [.int (nI i + 1), .ref 0, .ref 94]) (w' := w1) (cs' := 109) (ss' := 12668) ?_ (fun _ _ => rfl)
  refine go_ald (z := .int (f (i + 1))) rfl h1 (lp_at hi hL 1 (by decide) _ (by decide +kernel)) ?_
  refine go_cl (k1 := 300) (r := some (.int x2)) (st' := [.int x2]) (cs' := 109) (ss' := 12668) rfl rfl rfl rfl rfl rfl rfl g2 ?_
  refine go_seg 2 (pc' := 1667) (ls' := lp_LS i) (st' := []) (w' := w2) (cs' := 109) (ss' := 12668) ?_ (fun _ _ => rfl)
  exact g
