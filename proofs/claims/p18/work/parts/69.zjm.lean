/-! force -/
/-- the last law below n for this use from no later on -/
noncomputable def fr_l (U F : Nat → Int) (k v : Int) : Nat → Int
  | 0 => -1
  | n + 1 => if U n = k ∧ F n ≤ v then (n : Int) else fr_l U F k v n
theorem fr_lb {U F : Nat → Int} {k v : Int} : ∀ n : Nat, -1 ≤ fr_l U F k v n ∧ fr_l U F k v n < n
  | 0 => ⟨Int.le_refl _, by show (-1 : Int) < 0; decide⟩
  | n + 1 => by
    have ih := fr_lb (U := U) (F := F) (k := k) (v := v) n
    show -1 ≤ (if U n = k ∧ F n ≤ v then (n : Int) else fr_l U F k v n) ∧ (if U n = k ∧ F n ≤ v then (n : Int) else fr_l U F k v n) < ((n + 1 : Nat) : Int)
    split <;> omega
theorem fr_lc {U F U1 F1 : Nat → Int} {k v : Int} : ∀ {n : Nat}, (∀ i, i < n → U i = U1 i ∧ F i = F1 i) → fr_l U F k v n = fr_l U1 F1 k v n
  | 0, _ => rfl
  | n + 1, h => by
    show (if U n = k ∧ F n ≤ v then (n : Int) else fr_l U F k v n) = (if U1 n = k ∧ F1 n ≤ v then (n : Int) else fr_l U1 F1 k v n)
    rw [(h n (by omega)).1, (h n (by omega)).2, fr_lc (fun i hi => h i (by omega))]
theorem hf_lp {w : pq_W} {u f : Int32} {l : Nat} (ht : sx_Ty sx_T0 w) (h2 : sy_r w 23 2 = (l : Int)) (l12 : l ≤ 12) : ∀ (m : Nat) (x : Int32), m ≤ 12 → x.toInt = (m : Int) - 1 → ∃ res, pq_Go 0 pm_42 3 [(3, .int x), (0, .ref 23), (1, .int u), (2, .int f)] [] w 0 0 res ∧ ∃ y : Int32, res = (some (.int y), w) ∧ y.toInt = fr_l (fun i => sy_r w 25 i) (fun i => sy_r w 26 i) u.toInt f.toInt (min m l) := by
  intro m
  induction m with
  | zero =>
    intro x _ hx
    refine xs_seg 1 (pc' := 4) (ls' := [(3, .int x), (0, .ref 23), (1, .int u), (2, .int f)]) (st' := [.int x]) (w' := w) (cs' := 0) (ss' := 0) ?_ (fun _ _ => rfl)
    have k0 : (0 : Int32).toInt = 0 := rfl
    refine xs_if true rfl (bq_lt_t (by omega)) ?_
    exact ⟨_, go_end 2 (fun _ _ => rfl), -1, rfl, by rw [Nat.zero_min]; rfl⟩
  | succ m ih =>
    intro x hm hx
    have us : fr_l (fun i => sy_r w 25 i) (fun i => sy_r w 26 i) u.toInt f.toInt (m + 1) = if sy_r w 25 m = u.toInt ∧ sy_r w 26 m ≤ f.toInt then (m : Int) else fr_l (fun i => sy_r w 25 i) (fun i => sy_r w 26 i) u.toInt f.toInt m := rfl
    refine xs_seg 1 (pc' := 4) (ls' := [(3, .int x), (0, .ref 23), (1, .int u), (2, .int f)]) (st' := [.int x]) (w' := w) (cs' := 0) (ss' := 0) ?_ (fun _ _ => rfl)
    have k0 : (0 : Int32).toInt = 0 := rfl
    refine xs_if false rfl (bq_lt_f (by omega)) ?_
    refine xs_seg 2 (pc' := 9) (ls' := [(3, .int x), (0, .ref 23), (1, .int u), (2, .int f)]) (st' := [.ref 23, .int x]) (w' := w) (cs' := 0) (ss' := 0) ?_ (fun _ _ => rfl)
    obtain ⟨v1, gv1, lv1, uv1⟩ := wg_int (r := 23) (i := 2) ht rfl rfl
    have rv1 : v1.toInt = sy_r w 23 2 := (sy_r_of gv1).symm
    refine xs_gf (z := .int v1) rfl ht rfl rfl gv1 ?_
    by_cases c1 : l ≤ m
    · rw [show min (m + 1) l = min m l by omega]
      refine xs_cmp true rfl (bq_ge_t (by omega)) ?_
      have km1 : (-1 : Int32).toInt = -1 := rfl
      refine xs_ii (ls' := [(0, .ref 23), (1, .int u), (2, .int f)]) rfl rfl (fun _ => rfl) (fun z2 hz2 => ?_)
      have tz2 : z2.toInt = x.toInt + (-1) := by rw [← hz2, Int32.toInt_add, km1]; exact Int.bmod_eq_of_le (by omega) (by omega)
      refine xs_seg 1 (pc' := 3) (ls' := [(3, .int z2), (0, .ref 23), (1, .int u), (2, .int f)]) (st' := []) (w' := w) (cs' := 0) (ss' := 0) ?_ (fun _ _ => rfl)
      refine xs_wk (ls := [(3, .int z2), (0, .ref 23), (1, .int u), (2, .int f)]) ⟨rfl, rfl, rfl, rfl, trivial⟩ rfl rfl ?_
      exact ih z2 (by omega) (by omega)
    · rw [show min (m + 1) l = m + 1 by omega, us]
      refine xs_cmp false rfl (bq_ge_f (by omega)) ?_
      refine xs_seg 1 (pc' := 16) (ls' := [(3, .int x), (0, .ref 23), (1, .int u), (2, .int f)]) (st' := [.ref 23]) (w' := w) (cs' := 0) (ss' := 0) ?_ (fun _ _ => rfl)
      refine xs_gf (z := .ref 25) rfl ht rfl rfl (wg_ref ht rfl rfl) ?_
      refine xs_seg 1 (pc' := 20) (ls' := [(3, .int x), (0, .ref 23), (1, .int u), (2, .int f)]) (st' := [.int x, .ref 25]) (w' := w) (cs' := 0) (ss' := 0) ?_ (fun _ _ => rfl)
      obtain ⟨x3, gx3, ex3⟩ := sy_at (r := 25) (i := m) ht rfl (by omega)
      refine xs_gl (q := m) (y := x3) rfl ht rfl (by omega) (by decide) (nI_q (by omega) (by omega)) ex3.symm ?_
      refine xs_seg 1 (pc' := 22) (ls' := [(3, .int x), (0, .ref 23), (1, .int u), (2, .int f)]) (st' := [.int u, .int x3]) (w' := w) (cs' := 0) (ss' := 0) ?_ (fun _ _ => rfl)
      by_cases c2 : sy_r w 25 m = u.toInt
      · refine xs_cmp false rfl (bq_ne_f (by omega)) ?_
        refine xs_seg 1 (pc' := 26) (ls' := [(3, .int x), (0, .ref 23), (1, .int u), (2, .int f)]) (st' := [.ref 23]) (w' := w) (cs' := 0) (ss' := 0) ?_ (fun _ _ => rfl)
        refine xs_gf (z := .ref 26) rfl ht rfl rfl (wg_ref ht rfl rfl) ?_
        refine xs_seg 1 (pc' := 30) (ls' := [(3, .int x), (0, .ref 23), (1, .int u), (2, .int f)]) (st' := [.int x, .ref 26]) (w' := w) (cs' := 0) (ss' := 0) ?_ (fun _ _ => rfl)
        obtain ⟨x4, gx4, ex4⟩ := sy_at (r := 26) (i := m) ht rfl (by omega)
        refine xs_gl (q := m) (y := x4) rfl ht rfl (by omega) (by decide) (nI_q (by omega) (by omega)) ex4.symm ?_
        refine xs_seg 1 (pc' := 32) (ls' := [(3, .int x), (0, .ref 23), (1, .int u), (2, .int f)]) (st' := [.int f, .int x4]) (w' := w) (cs' := 0) (ss' := 0) ?_ (fun _ _ => rfl)
        by_cases c3 : f.toInt < sy_r w 26 m
        · rw [if_neg (by omega)]
          refine xs_cmp true rfl (bq_gt_t (by omega)) ?_
          have km1 : (-1 : Int32).toInt = -1 := rfl
          refine xs_ii (ls' := [(0, .ref 23), (1, .int u), (2, .int f)]) rfl rfl (fun _ => rfl) (fun z5 hz5 => ?_)
          have tz5 : z5.toInt = x.toInt + (-1) := by rw [← hz5, Int32.toInt_add, km1]; exact Int.bmod_eq_of_le (by omega) (by omega)
          refine xs_seg 1 (pc' := 3) (ls' := [(3, .int z5), (0, .ref 23), (1, .int u), (2, .int f)]) (st' := []) (w' := w) (cs' := 0) (ss' := 0) ?_ (fun _ _ => rfl)
          refine xs_wk (ls := [(3, .int z5), (0, .ref 23), (1, .int u), (2, .int f)]) ⟨rfl, rfl, rfl, rfl, trivial⟩ rfl rfl ?_
          have h := ih z5 (by omega) (by omega)
          rw [show min m l = m by omega] at h
          exact h
        · rw [if_pos (by omega)]
          refine xs_cmp false rfl (bq_gt_f (by omega)) ?_
          exact ⟨_, go_end 2 (fun _ _ => rfl), x, rfl, by omega⟩
      · rw [if_neg (by omega)]
        refine xs_cmp true rfl (bq_ne_t (by omega)) ?_
        have km1 : (-1 : Int32).toInt = -1 := rfl
        refine xs_ii (ls' := [(0, .ref 23), (1, .int u), (2, .int f)]) rfl rfl (fun _ => rfl) (fun z6 hz6 => ?_)
        have tz6 : z6.toInt = x.toInt + (-1) := by rw [← hz6, Int32.toInt_add, km1]; exact Int.bmod_eq_of_le (by omega) (by omega)
        refine xs_seg 1 (pc' := 3) (ls' := [(3, .int z6), (0, .ref 23), (1, .int u), (2, .int f)]) (st' := []) (w' := w) (cs' := 0) (ss' := 0) ?_ (fun _ _ => rfl)
        refine xs_wk (ls := [(3, .int z6), (0, .ref 23), (1, .int u), (2, .int f)]) ⟨rfl, rfl, rfl, rfl, trivial⟩ rfl rfl ?_
        have h := ih z6 (by omega) (by omega)
        rw [show min m l = m by omega] at h
        exact h
theorem hf_lm {w : pq_W} {u f : Int32} {l : Nat} (ht : sx_Ty sx_T0 w) (h2 : sy_r w 95 4 = (l : Int)) (l12 : l ≤ 12) : ∀ (m i : Nat) (s : Int32), m + i = l → s.toInt = fr_l (fun i => sy_r w 95 (1922 + 73 * i)) (fun i => sy_r w 95 (1923 + 73 * i)) u.toInt f.toInt i → ∃ res, pq_Go 0 pm_183 5 [(4, .int (nI i)), (3, .int s), (0, .ref 94), (1, .int u), (2, .int f)] [] w 0 0 res ∧ ∃ y : Int32, res = (some (.int y), w) ∧ y.toInt = fr_l (fun i => sy_r w 95 (1922 + 73 * i)) (fun i => sy_r w 95 (1923 + 73 * i)) u.toInt f.toInt (l) := by
  intro m
  induction m with
  | zero =>
    intro i s hi hs
    have ti : (nI i).toInt = (i : Int) := nI_toInt (by omega)
    have e : i = l := by omega
    subst e
    refine xs_seg 2 (pc' := 8) (ls' := [(4, .int (nI i)), (3, .int s), (0, .ref 94), (1, .int u), (2, .int f)]) (st' := [.ref 94, .int (nI i)]) (w' := w) (cs' := 0) (ss' := 0) ?_ (fun _ _ => rfl)
    refine xs_gf (z := .ref 95) rfl ht rfl rfl (wg_ref ht rfl rfl) ?_
    refine xs_seg 1 (pc' := 12) (ls' := [(4, .int (nI i)), (3, .int s), (0, .ref 94), (1, .int u), (2, .int f)]) (st' := [.int 4, .ref 95, .int (nI i)]) (w' := w) (cs' := 0) (ss' := 0) ?_ (fun _ _ => rfl)
    have k4 : (4 : Int32).toInt = 4 := rfl
    obtain ⟨x1, gx1, ex1⟩ := sy_at (r := 95) (i := 4) ht rfl (by omega)
    refine xs_gl (q := 4) (y := x1) rfl ht rfl (by omega) (by decide) (nI_q (by omega) (by omega)) ex1.symm ?_
    refine xs_cmp true rfl (bq_ge_t (by omega)) ?_
    exact ⟨_, go_end 2 (fun _ _ => rfl), s, rfl, hs⟩
  | succ m ih =>
    intro i s hi hs
    have ti : (nI i).toInt = (i : Int) := nI_toInt (by omega)
    have us : fr_l (fun i => sy_r w 95 (1922 + 73 * i)) (fun i => sy_r w 95 (1923 + 73 * i)) u.toInt f.toInt (i + 1) = if sy_r w 95 (1922 + 73 * i) = u.toInt ∧ sy_r w 95 (1923 + 73 * i) ≤ f.toInt then (i : Int) else fr_l (fun i => sy_r w 95 (1922 + 73 * i)) (fun i => sy_r w 95 (1923 + 73 * i)) u.toInt f.toInt i := rfl
    refine xs_seg 2 (pc' := 8) (ls' := [(4, .int (nI i)), (3, .int s), (0, .ref 94), (1, .int u), (2, .int f)]) (st' := [.ref 94, .int (nI i)]) (w' := w) (cs' := 0) (ss' := 0) ?_ (fun _ _ => rfl)
    refine xs_gf (z := .ref 95) rfl ht rfl rfl (wg_ref ht rfl rfl) ?_
    refine xs_seg 1 (pc' := 12) (ls' := [(4, .int (nI i)), (3, .int s), (0, .ref 94), (1, .int u), (2, .int f)]) (st' := [.int 4, .ref 95, .int (nI i)]) (w' := w) (cs' := 0) (ss' := 0) ?_ (fun _ _ => rfl)
    have k4 : (4 : Int32).toInt = 4 := rfl
    obtain ⟨x1, gx1, ex1⟩ := sy_at (r := 95) (i := 4) ht rfl (by omega)
    refine xs_gl (q := 4) (y := x1) rfl ht rfl (by omega) (by decide) (nI_q (by omega) (by omega)) ex1.symm ?_
    refine xs_cmp false rfl (bq_ge_f (by omega)) ?_
    refine xs_seg 4 (pc' := 24) (ls' := [(4, .int (nI i)), (3, .int s), (0, .ref 94), (1, .int u), (2, .int f)]) (st' := [.int (73 * (nI i)), .int 1922]) (w' := w) (cs' := 0) (ss' := 0) ?_ (fun _ _ => rfl)
    have k73 : (73 : Int32).toInt = 73 := rfl
    generalize hz2 : 73 * (nI i) = z2
    have tz2 : z2.toInt = 73 * (nI i).toInt := by rw [← hz2, Int32.toInt_mul, k73]; exact Int.bmod_eq_of_le (by omega) (by omega)
    refine xs_seg 1 (pc' := 25) (ls' := [(4, .int (nI i)), (3, .int s), (0, .ref 94), (1, .int u), (2, .int f)]) (st' := [.int (1922 + z2)]) (w' := w) (cs' := 0) (ss' := 0) ?_ (fun _ _ => rfl)
    have k1922 : (1922 : Int32).toInt = 1922 := rfl
    generalize hz3 : 1922 + z2 = z3
    have tz3 : z3.toInt = 1922 + z2.toInt := by rw [← hz3, Int32.toInt_add, k1922]; exact Int.bmod_eq_of_le (by omega) (by omega)
    refine xs_seg 2 (pc' := 28) (ls' := [(5, .int z3), (4, .int (nI i)), (3, .int s), (0, .ref 94), (1, .int u), (2, .int f)]) (st' := [.ref 94]) (w' := w) (cs' := 0) (ss' := 0) ?_ (fun _ _ => rfl)
    refine xs_gf (z := .ref 95) rfl ht rfl rfl (wg_ref ht rfl rfl) ?_
    refine xs_seg 3 (pc' := 35) (ls' := [(5, .int z3), (4, .int (nI i)), (3, .int s), (0, .ref 94), (1, .int u), (2, .int f)]) (st' := [.int (z3 + 0), .ref 95]) (w' := w) (cs' := 0) (ss' := 0) ?_ (fun _ _ => rfl)
    have k0 : (0 : Int32).toInt = 0 := rfl
    generalize hz4 : z3 + 0 = z4
    have tz4 : z4.toInt = z3.toInt + 0 := by rw [← hz4, Int32.toInt_add, k0]; exact Int.bmod_eq_of_le (by omega) (by omega)
    obtain ⟨x5, gx5, ex5⟩ := sy_at (r := 95) (i := (1922 + 73 * i)) ht rfl (by omega)
    refine xs_gl (q := (1922 + 73 * i)) (y := x5) rfl ht rfl (by omega) (by decide) (nI_q (by omega) (by omega)) ex5.symm ?_
    refine xs_seg 1 (pc' := 37) (ls' := [(5, .int z3), (4, .int (nI i)), (3, .int s), (0, .ref 94), (1, .int u), (2, .int f)]) (st' := [.int u, .int x5]) (w' := w) (cs' := 0) (ss' := 0) ?_ (fun _ _ => rfl)
    by_cases c2 : sy_r w 95 (1922 + 73 * i) = u.toInt
    · refine xs_cmp false rfl (bq_ne_f (by omega)) ?_
      refine xs_seg 1 (pc' := 41) (ls' := [(5, .int z3), (4, .int (nI i)), (3, .int s), (0, .ref 94), (1, .int u), (2, .int f)]) (st' := [.ref 94]) (w' := w) (cs' := 0) (ss' := 0) ?_ (fun _ _ => rfl)
      refine xs_gf (z := .ref 95) rfl ht rfl rfl (wg_ref ht rfl rfl) ?_
      refine xs_seg 3 (pc' := 48) (ls' := [(5, .int z3), (4, .int (nI i)), (3, .int s), (0, .ref 94), (1, .int u), (2, .int f)]) (st' := [.int (z3 + 1), .ref 95]) (w' := w) (cs' := 0) (ss' := 0) ?_ (fun _ _ => rfl)
      have k1 : (1 : Int32).toInt = 1 := rfl
      generalize hz6 : z3 + 1 = z6
      have tz6 : z6.toInt = z3.toInt + 1 := by rw [← hz6, Int32.toInt_add, k1]; exact Int.bmod_eq_of_le (by omega) (by omega)
      obtain ⟨x7, gx7, ex7⟩ := sy_at (r := 95) (i := (1923 + 73 * i)) ht rfl (by omega)
      refine xs_gl (q := (1923 + 73 * i)) (y := x7) rfl ht rfl (by omega) (by decide) (nI_q (by omega) (by omega)) ex7.symm ?_
      refine xs_seg 1 (pc' := 50) (ls' := [(5, .int z3), (4, .int (nI i)), (3, .int s), (0, .ref 94), (1, .int u), (2, .int f)]) (st' := [.int f, .int x7]) (w' := w) (cs' := 0) (ss' := 0) ?_ (fun _ _ => rfl)
      by_cases c3 : f.toInt < sy_r w 95 (1923 + 73 * i)
      · rw [if_neg (by omega)] at us
        refine xs_cmp true rfl (bq_gt_t (by omega)) ?_
        refine xs_seg 2 (pc' := 60) (ls' := [(3, .int s), (5, .int z3), (4, .int (nI i)), (0, .ref 94), (1, .int u), (2, .int f)]) (st' := []) (w' := w) (cs' := 0) (ss' := 0) ?_ (fun _ _ => rfl)
        refine xs_ii (ls' := [(3, .int s), (5, .int z3), (0, .ref 94), (1, .int u), (2, .int f)]) rfl rfl (fun _ => rfl) (fun z8 hz8 => ?_)
        have tz8 : z8.toInt = (nI i).toInt + 1 := by rw [← hz8, Int32.toInt_add, k1]; exact Int.bmod_eq_of_le (by omega) (by omega)
        refine xs_seg 1 (pc' := 5) (ls' := [(4, .int z8), (3, .int s), (5, .int z3), (0, .ref 94), (1, .int u), (2, .int f)]) (st' := []) (w' := w) (cs' := 0) (ss' := 0) ?_ (fun _ _ => rfl)
        have q9 : z8 = nI (i + 1) := nI_q (by omega) (by omega)
        subst q9
        refine xs_wk (ls := [(4, .int (nI (i + 1))), (3, .int s), (0, .ref 94), (1, .int u), (2, .int f)]) ⟨rfl, rfl, rfl, rfl, rfl, trivial⟩ rfl rfl ?_
        exact ih (i + 1) _ (by omega) (by omega)
      · rw [if_pos (by omega)] at us
        refine xs_cmp false rfl (bq_gt_f (by omega)) ?_
        refine xs_seg 3 (pc' := 60) (ls' := [(3, .int (nI i)), (5, .int z3), (4, .int (nI i)), (0, .ref 94), (1, .int u), (2, .int f)]) (st' := []) (w' := w) (cs' := 0) (ss' := 0) ?_ (fun _ _ => rfl)
        refine xs_ii (ls' := [(3, .int (nI i)), (5, .int z3), (0, .ref 94), (1, .int u), (2, .int f)]) rfl rfl (fun _ => rfl) (fun z10 hz10 => ?_)
        have tz10 : z10.toInt = (nI i).toInt + 1 := by rw [← hz10, Int32.toInt_add, k1]; exact Int.bmod_eq_of_le (by omega) (by omega)
        refine xs_seg 1 (pc' := 5) (ls' := [(4, .int z10), (3, .int (nI i)), (5, .int z3), (0, .ref 94), (1, .int u), (2, .int f)]) (st' := []) (w' := w) (cs' := 0) (ss' := 0) ?_ (fun _ _ => rfl)
        have q11 : z10 = nI (i + 1) := nI_q (by omega) (by omega)
        subst q11
        refine xs_wk (ls := [(4, .int (nI (i + 1))), (3, .int (nI i)), (0, .ref 94), (1, .int u), (2, .int f)]) ⟨rfl, rfl, rfl, rfl, rfl, trivial⟩ rfl rfl ?_
        exact ih (i + 1) _ (by omega) (by omega)
    · rw [if_neg (by omega)] at us
      refine xs_cmp true rfl (bq_ne_t (by omega)) ?_
      refine xs_seg 2 (pc' := 60) (ls' := [(3, .int s), (5, .int z3), (4, .int (nI i)), (0, .ref 94), (1, .int u), (2, .int f)]) (st' := []) (w' := w) (cs' := 0) (ss' := 0) ?_ (fun _ _ => rfl)
      have k1 : (1 : Int32).toInt = 1 := rfl
      refine xs_ii (ls' := [(3, .int s), (5, .int z3), (0, .ref 94), (1, .int u), (2, .int f)]) rfl rfl (fun _ => rfl) (fun z12 hz12 => ?_)
      have tz12 : z12.toInt = (nI i).toInt + 1 := by rw [← hz12, Int32.toInt_add, k1]; exact Int.bmod_eq_of_le (by omega) (by omega)
      refine xs_seg 1 (pc' := 5) (ls' := [(4, .int z12), (3, .int s), (5, .int z3), (0, .ref 94), (1, .int u), (2, .int f)]) (st' := []) (w' := w) (cs' := 0) (ss' := 0) ?_ (fun _ _ => rfl)
      have q13 : z12 = nI (i + 1) := nI_q (by omega) (by omega)
      subst q13
      refine xs_wk (ls := [(4, .int (nI (i + 1))), (3, .int s), (0, .ref 94), (1, .int u), (2, .int f)]) ⟨rfl, rfl, rfl, rfl, rfl, trivial⟩ rfl rfl ?_
      exact ih (i + 1) _ (by omega) (by omega)
theorem hf_c {w : pq_W} {u f : Int32} {l : Nat} (ht : sx_Ty sx_T0 w) (h2 : sy_r w 23 2 = (l : Int)) (l12 : l ≤ 12) : ∃ y : Int32, pq_Ru 1 42 [.ref 23, .int u, .int f] w (some (.int y), w) ∧ y.toInt = fr_l (fun i => sy_r w 25 i) (fun i => sy_r w 26 i) u.toInt f.toInt l := by
  obtain ⟨res, g, y, e, h⟩ := hf_lp (u := u) (f := f) ht h2 l12 12 11 (Nat.le_refl _) rfl
  subst e
  rw [Nat.min_eq_right l12] at h
  refine ⟨y, ru_of (k := 0) (M := pm_42) rfl (by rw [Bool.and_eq_true]; exact ⟨rfl, sq_rcv ht rfl rfl rfl⟩) ?_, h⟩
  exact go_seg 2 (pc' := 3) (ls' := [(3, .int 11), (0, .ref 23), (1, .int u), (2, .int f)]) (st' := []) (w' := w) (cs' := 0) (ss' := 0) g (fun _ _ => rfl)
theorem hf_m {w : pq_W} {u f : Int32} {l : Nat} (ht : sx_Ty sx_T0 w) (h2 : sy_r w 95 4 = (l : Int)) (l12 : l ≤ 12) : ∃ y : Int32, pq_Ru 1 183 [.ref 94, .int u, .int f] w (some (.int y), w) ∧ y.toInt = fr_l (fun i => sy_r w 95 (1922 + 73 * i)) (fun i => sy_r w 95 (1923 + 73 * i)) u.toInt f.toInt l := by
  obtain ⟨res, g, y, e, h⟩ := hf_lm (u := u) (f := f) ht h2 l12 l 0 (-1) rfl rfl
  subst e
  refine ⟨y, ru_of (k := 0) (M := pm_183) rfl (by rw [Bool.and_eq_true]; exact ⟨rfl, sq_rcv ht rfl rfl rfl⟩) ?_, h⟩
  exact go_seg 4 (pc' := 5) (ls' := [(4, .int (nI 0)), (3, .int (-1)), (0, .ref 94), (1, .int u), (2, .int f)]) (st' := []) (w' := w) (cs' := 0) (ss' := 0) g (fun _ _ => rfl)
theorem sy_15_2 : sy_15 2 = true := by decide +kernel
theorem sy_62_2 : sy_62 (-1000002) = true := by decide +kernel
theorem hp_use {w : pq_W} {x : Int32} : ∃ b : Int32, pq_Ru 1 66 [.int x] w (some (.int b), w) ∧ ((b.toInt = 1 ∧ (0 ≤ x.toInt ∧ x.toInt < 4)) ∨ (b.toInt = 0 ∧ ¬ (0 ≤ x.toInt ∧ x.toInt < 4))) := by
  have key : ∃ res, pq_Go 0 pm_66 0 (lv_args 0 [.int x]) [] w 0 0 res ∧ ∃ b : Int32, res = (some (.int b), w) ∧ ((b.toInt = 1 ∧ (0 ≤ x.toInt ∧ x.toInt < 4)) ∨ (b.toInt = 0 ∧ ¬ (0 ≤ x.toInt ∧ x.toInt < 4))) := by
    by_cases c1 : x.toInt < 0
    · refine xs_seg 1 (pc' := 1) (ls' := [(0, .int x)]) (st' := [.int x]) (w' := w) (cs' := 0) (ss' := 0) ?_ (fun _ _ => rfl)
      have k0 : (0 : Int32).toInt = 0 := rfl
      refine xs_if true rfl (bq_lt_t (by omega)) ?_
      refine xs_seg 1 (pc' := 14) (ls' := [(0, .int x)]) (st' := [.int 0]) (w' := w) (cs' := 0) (ss' := 0) ?_ (fun _ _ => rfl)
      exact ⟨_, go_end 1 (fun _ _ => rfl), 0, rfl, Or.inr ⟨rfl, by omega⟩⟩
    · refine xs_seg 1 (pc' := 1) (ls' := [(0, .int x)]) (st' := [.int x]) (w' := w) (cs' := 0) (ss' := 0) ?_ (fun _ _ => rfl)
      have k0 : (0 : Int32).toInt = 0 := rfl
      refine xs_if false rfl (bq_lt_f (by omega)) ?_
      by_cases c2 : x.toInt < 4
      · refine xs_seg 2 (pc' := 6) (ls' := [(0, .int x)]) (st' := [.int 4, .int x]) (w' := w) (cs' := 0) (ss' := 0) ?_ (fun _ _ => rfl)
        have k4 : (4 : Int32).toInt = 4 := rfl
        refine xs_cmp false rfl (bq_ge_f (by omega)) ?_
        refine xs_seg 2 (pc' := 14) (ls' := [(0, .int x)]) (st' := [.int 1]) (w' := w) (cs' := 0) (ss' := 0) ?_ (fun _ _ => rfl)
        exact ⟨_, go_end 1 (fun _ _ => rfl), 1, rfl, Or.inl ⟨rfl, by omega⟩⟩
      · refine xs_seg 2 (pc' := 6) (ls' := [(0, .int x)]) (st' := [.int 4, .int x]) (w' := w) (cs' := 0) (ss' := 0) ?_ (fun _ _ => rfl)
        have k4 : (4 : Int32).toInt = 4 := rfl
        refine xs_cmp true rfl (bq_ge_t (by omega)) ?_
        refine xs_seg 1 (pc' := 14) (ls' := [(0, .int x)]) (st' := [.int 0]) (w' := w) (cs' := 0) (ss' := 0) ?_ (fun _ _ => rfl)
        exact ⟨_, go_end 1 (fun _ _ => rfl), 0, rfl, Or.inr ⟨rfl, by omega⟩⟩
  obtain ⟨res, g, b, e, h⟩ := key
  subst e
  exact ⟨b, ru_of (k := 0) (M := pm_66) rfl rfl g, h⟩
theorem hp_day {w : pq_W} {x : Int32} : ∃ b : Int32, pq_Ru 1 67 [.int x] w (some (.int b), w) ∧ ((b.toInt = 1 ∧ (0 ≤ x.toInt ∧ x.toInt < 3001)) ∨ (b.toInt = 0 ∧ ¬ (0 ≤ x.toInt ∧ x.toInt < 3001))) := by
  have key : ∃ res, pq_Go 0 pm_67 0 (lv_args 0 [.int x]) [] w 0 0 res ∧ ∃ b : Int32, res = (some (.int b), w) ∧ ((b.toInt = 1 ∧ (0 ≤ x.toInt ∧ x.toInt < 3001)) ∨ (b.toInt = 0 ∧ ¬ (0 ≤ x.toInt ∧ x.toInt < 3001))) := by
    by_cases c1 : x.toInt < 0
    · refine xs_seg 1 (pc' := 1) (ls' := [(0, .int x)]) (st' := [.int x]) (w' := w) (cs' := 0) (ss' := 0) ?_ (fun _ _ => rfl)
      have k0 : (0 : Int32).toInt = 0 := rfl
      refine xs_if true rfl (bq_lt_t (by omega)) ?_
      refine xs_seg 1 (pc' := 16) (ls' := [(0, .int x)]) (st' := [.int 0]) (w' := w) (cs' := 0) (ss' := 0) ?_ (fun _ _ => rfl)
      exact ⟨_, go_end 1 (fun _ _ => rfl), 0, rfl, Or.inr ⟨rfl, by omega⟩⟩
    · refine xs_seg 1 (pc' := 1) (ls' := [(0, .int x)]) (st' := [.int x]) (w' := w) (cs' := 0) (ss' := 0) ?_ (fun _ _ => rfl)
      have k0 : (0 : Int32).toInt = 0 := rfl
      refine xs_if false rfl (bq_lt_f (by omega)) ?_
      by_cases c2 : x.toInt < 3001
      · refine xs_seg 2 (pc' := 8) (ls' := [(0, .int x)]) (st' := [.int 3000, .int x]) (w' := w) (cs' := 0) (ss' := 0) ?_ (fun _ _ => rfl)
        have k3000 : (3000 : Int32).toInt = 3000 := rfl
        refine xs_cmp false rfl (bq_gt_f (by omega)) ?_
        refine xs_seg 2 (pc' := 16) (ls' := [(0, .int x)]) (st' := [.int 1]) (w' := w) (cs' := 0) (ss' := 0) ?_ (fun _ _ => rfl)
        exact ⟨_, go_end 1 (fun _ _ => rfl), 1, rfl, Or.inl ⟨rfl, by omega⟩⟩
      · refine xs_seg 2 (pc' := 8) (ls' := [(0, .int x)]) (st' := [.int 3000, .int x]) (w' := w) (cs' := 0) (ss' := 0) ?_ (fun _ _ => rfl)
        have k3000 : (3000 : Int32).toInt = 3000 := rfl
        refine xs_cmp true rfl (bq_gt_t (by omega)) ?_
        refine xs_seg 1 (pc' := 16) (ls' := [(0, .int x)]) (st' := [.int 0]) (w' := w) (cs' := 0) (ss' := 0) ?_ (fun _ _ => rfl)
        exact ⟨_, go_end 1 (fun _ _ => rfl), 0, rfl, Or.inr ⟨rfl, by omega⟩⟩
  obtain ⟨res, g, b, e, h⟩ := key
  subst e
  exact ⟨b, ru_of (k := 0) (M := pm_67) rfl rfl g, h⟩
theorem frc_t {w : pq_W} {u f : Int32} {l : Nat} (ht : sx_Ty sx_T0 w) (h2 : sx_wg w 23 2 = some (.int (nI l))) (l12 : l ≤ 12) : ∃ (x : Int32) (w1 : pq_W), pq_Ru 13 80 [.ref 5, .int u, .int f] w (some (.int x), w1) ∧ x.toInt = (if (0 ≤ u.toInt ∧ u.toInt ≤ 3) ∧ (0 ≤ f.toInt ∧ f.toInt ≤ 3000) then (if 0 ≤ fr_l (fun i => sy_r w 25 i) (fun i => sy_r w 26 i) u.toInt f.toInt l then fr_l (fun i => sy_r w 25 i) (fun i => sy_r w 26 i) u.toInt f.toInt l else -1000002) else -1000001) := by
  have key : ∃ res, pq_Go 12 pm_80 0 (lv_args 0 [.ref 5, .int u, .int f]) [] w 0 0 res ∧ ∃ (x : Int32) (w1 : pq_W), res = (some (.int x), w1) ∧ x.toInt = (if (0 ≤ u.toInt ∧ u.toInt ≤ 3) ∧ (0 ≤ f.toInt ∧ f.toInt ≤ 3000) then (if 0 ≤ fr_l (fun i => sy_r w 25 i) (fun i => sy_r w 26 i) u.toInt f.toInt l then fr_l (fun i => sy_r w 25 i) (fun i => sy_r w 26 i) u.toInt f.toInt l else -1000002) else -1000001) := by
    by_cases c1 : 0 ≤ u.toInt ∧ u.toInt ≤ 3
    · refine xs_seg 1 (pc' := 1) (ls' := [(0, .ref 5), (1, .int u), (2, .int f)]) (st' := [.int u]) (w' := w) (cs' := 0) (ss' := 0) ?_ (fun _ _ => rfl)
      obtain ⟨b1, rb1, hb1⟩ := hp_use (w := w) (x := u)
      refine xs_cl (as := [.int u]) (rv := some (.int b1)) (st' := [.int b1]) (cs' := 0) (ss' := 0) (k1 := 1) rfl rfl rfl rfl rfl rfl rfl rb1 ?_
      have k0 : (0 : Int32).toInt = 0 := rfl
      refine xs_if false rfl (bq_eq_f (by omega)) ?_
      by_cases c2 : 0 ≤ f.toInt ∧ f.toInt ≤ 3000
      · refine xs_seg 1 (pc' := 8) (ls' := [(0, .ref 5), (1, .int u), (2, .int f)]) (st' := [.int f]) (w' := w) (cs' := 0) (ss' := 0) ?_ (fun _ _ => rfl)
        obtain ⟨b2, rb2, hb2⟩ := hp_day (w := w) (x := f)
        refine xs_cl (as := [.int f]) (rv := some (.int b2)) (st' := [.int b2]) (cs' := 0) (ss' := 0) (k1 := 1) rfl rfl rfl rfl rfl rfl rfl rb2 ?_
        refine xs_if true rfl (bq_ne_t (by omega)) ?_
        rw [if_pos ⟨c1, c2⟩]
        obtain ⟨y, ry, ey⟩ := hf_c (u := u) (f := f) ht (by rw [sy_r_of h2, nI_toInt (by omega)]) l12
        refine xs_seg 1 (pc' := 21) (ls' := [(0, .ref 5), (1, .int u), (2, .int f)]) (st' := [.ref 5]) (w' := w) (cs' := 0) (ss' := 0) ?_ (fun _ _ => rfl)
        refine xs_gf (z := .ref 23) rfl ht rfl rfl (wg_ref ht rfl rfl) ?_
        refine xs_seg 2 (pc' := 26) (ls' := [(0, .ref 5), (1, .int u), (2, .int f)]) (st' := [.int f, .int u, .ref 23]) (w' := w) (cs' := 0) (ss' := 0) ?_ (fun _ _ => rfl)
        refine xs_cl (as := [.ref 23, .int u, .int f]) (rv := some (.int y)) (st' := [.int y]) (cs' := 0) (ss' := 0) (k1 := 1) rfl rfl rfl rfl rfl rfl rfl ry ?_
        refine xs_seg 2 (pc' := 31) (ls' := [(3, .int y), (0, .ref 5), (1, .int u), (2, .int f)]) (st' := [.int y]) (w' := w) (cs' := 0) (ss' := 0) ?_ (fun _ _ => rfl)
        by_cases c3 : 0 ≤ fr_l (fun i => sy_r w 25 i) (fun i => sy_r w 26 i) u.toInt f.toInt l
        · rw [if_pos c3]
          refine xs_if true rfl (bq_ge_t (by omega)) ?_
          exact ⟨_, go_end 2 (fun _ _ => rfl), y, w, rfl, ey⟩
        · refine xs_if false rfl (bq_ge_f (by omega)) ?_
          rw [if_neg c3]
          obtain ⟨z, w1, r1, z1, t1, f1⟩ := sy_c (y := 2) sy_15_2 rfl ht
          refine xs_seg 2 (pc' := 36) (ls' := [(3, .int y), (0, .ref 5), (1, .int u), (2, .int f)]) (st' := [.int 2, .ref 5]) (w' := w) (cs' := 0) (ss' := 0) ?_ (fun _ _ => rfl)
          refine xs_cl (as := [.ref 5, .int 2]) (rv := some (.int z)) (st' := [.int z]) (cs' := 0) (ss' := 0) (k1 := 10) rfl rfl rfl rfl rfl rfl rfl r1 ?_
          exact ⟨_, go_end 2 (fun _ _ => rfl), z, w1, rfl, z1⟩
      · refine xs_seg 1 (pc' := 8) (ls' := [(0, .ref 5), (1, .int u), (2, .int f)]) (st' := [.int f]) (w' := w) (cs' := 0) (ss' := 0) ?_ (fun _ _ => rfl)
        obtain ⟨b3, rb3, hb3⟩ := hp_day (w := w) (x := f)
        refine xs_cl (as := [.int f]) (rv := some (.int b3)) (st' := [.int b3]) (cs' := 0) (ss' := 0) (k1 := 1) rfl rfl rfl rfl rfl rfl rfl rb3 ?_
        refine xs_if false rfl (bq_ne_f (by omega)) ?_
        rw [if_neg (fun z => c2 z.2)]
        obtain ⟨z, w1, r1, z1, t1, f1⟩ := sy_c (y := 1) sy_15_1 rfl ht
        refine xs_seg 2 (pc' := 16) (ls' := [(0, .ref 5), (1, .int u), (2, .int f)]) (st' := [.int 1, .ref 5]) (w' := w) (cs' := 0) (ss' := 0) ?_ (fun _ _ => rfl)
        refine xs_cl (as := [.ref 5, .int 1]) (rv := some (.int z)) (st' := [.int z]) (cs' := 0) (ss' := 0) (k1 := 10) rfl rfl rfl rfl rfl rfl rfl r1 ?_
        exact ⟨_, go_end 1 (fun _ _ => rfl), z, w1, rfl, z1⟩
    · refine xs_seg 1 (pc' := 1) (ls' := [(0, .ref 5), (1, .int u), (2, .int f)]) (st' := [.int u]) (w' := w) (cs' := 0) (ss' := 0) ?_ (fun _ _ => rfl)
      obtain ⟨b4, rb4, hb4⟩ := hp_use (w := w) (x := u)
      refine xs_cl (as := [.int u]) (rv := some (.int b4)) (st' := [.int b4]) (cs' := 0) (ss' := 0) (k1 := 1) rfl rfl rfl rfl rfl rfl rfl rb4 ?_
      have k0 : (0 : Int32).toInt = 0 := rfl
      refine xs_if true rfl (bq_eq_t (by omega)) ?_
      rw [if_neg (fun z => c1 z.1)]
      obtain ⟨z, w1, r1, z1, t1, f1⟩ := sy_c (y := 1) sy_15_1 rfl ht
      refine xs_seg 2 (pc' := 16) (ls' := [(0, .ref 5), (1, .int u), (2, .int f)]) (st' := [.int 1, .ref 5]) (w' := w) (cs' := 0) (ss' := 0) ?_ (fun _ _ => rfl)
      refine xs_cl (as := [.ref 5, .int 1]) (rv := some (.int z)) (st' := [.int z]) (cs' := 0) (ss' := 0) (k1 := 10) rfl rfl rfl rfl rfl rfl rfl r1 ?_
      exact ⟨_, go_end 1 (fun _ _ => rfl), z, w1, rfl, z1⟩
  obtain ⟨res, g, x, w1, e, h⟩ := key
  subst e
  exact ⟨x, w1, ru_of (k := 12) (M := pm_80) rfl (by rw [Bool.and_eq_true]; exact ⟨rfl, sq_rcv ht rfl rfl rfl⟩) g, h⟩
theorem frm_t {w : pq_W} {u f : Int32} {l : Nat} (ht : sx_Ty sx_T0 w) (h2 : sy_r w 95 4 = (l : Int)) (l12 : l ≤ 12) : ∃ (x : Int32) (w1 : pq_W), pq_Ru 13 206 [.ref 94, .int u, .int f] w (some (.int x), w1) ∧ x.toInt = (if (0 ≤ u.toInt ∧ u.toInt ≤ 3) ∧ (0 ≤ f.toInt ∧ f.toInt ≤ 3000) then (if 0 ≤ fr_l (fun i => sy_r w 95 (1922 + 73 * i)) (fun i => sy_r w 95 (1923 + 73 * i)) u.toInt f.toInt l then fr_l (fun i => sy_r w 95 (1922 + 73 * i)) (fun i => sy_r w 95 (1923 + 73 * i)) u.toInt f.toInt l else -1000002) else -1000001) := by
  have key : ∃ res, pq_Go 12 pm_206 0 (lv_args 0 [.ref 94, .int u, .int f]) [] w 0 0 res ∧ ∃ (x : Int32) (w1 : pq_W), res = (some (.int x), w1) ∧ x.toInt = (if (0 ≤ u.toInt ∧ u.toInt ≤ 3) ∧ (0 ≤ f.toInt ∧ f.toInt ≤ 3000) then (if 0 ≤ fr_l (fun i => sy_r w 95 (1922 + 73 * i)) (fun i => sy_r w 95 (1923 + 73 * i)) u.toInt f.toInt l then fr_l (fun i => sy_r w 95 (1922 + 73 * i)) (fun i => sy_r w 95 (1923 + 73 * i)) u.toInt f.toInt l else -1000002) else -1000001) := by
    by_cases c1 : 0 ≤ u.toInt ∧ u.toInt ≤ 3
    · refine xs_seg 4 (pc' := 6) (ls' := [(0, .ref 94), (1, .int u), (2, .int f)]) (st' := [.long 3, .long 0, .long (u).toInt64]) (w' := w) (cs' := 0) (ss' := 0) ?_ (fun _ _ => rfl)
      obtain ⟨b1, rb1, hb1⟩ := wi_b w u 0 3 (l := 0) (h := 3) rfl rfl
      unfold bo at hb1
      refine xs_cl (as := [.long (u).toInt64, .long 0, .long 3]) (rv := some (.int b1)) (st' := [.int b1]) (cs' := 0) (ss' := 0) (k1 := 1) rfl rfl rfl rfl rfl rfl rfl rb1 ?_
      have k0 : (0 : Int32).toInt = 0 := rfl
      refine xs_if false rfl (bq_eq_f (by omega)) ?_
      by_cases c2 : 0 ≤ f.toInt ∧ f.toInt ≤ 3000
      · refine xs_seg 4 (pc' := 18) (ls' := [(0, .ref 94), (1, .int u), (2, .int f)]) (st' := [.long 3000, .long 0, .long (f).toInt64]) (w' := w) (cs' := 0) (ss' := 0) ?_ (fun _ _ => rfl)
        obtain ⟨b2, rb2, hb2⟩ := wi_b w f 0 3000 (l := 0) (h := 3000) rfl rfl
        unfold bo at hb2
        refine xs_cl (as := [.long (f).toInt64, .long 0, .long 3000]) (rv := some (.int b2)) (st' := [.int b2]) (cs' := 0) (ss' := 0) (k1 := 1) rfl rfl rfl rfl rfl rfl rfl rb2 ?_
        refine xs_if true rfl (bq_ne_t (by omega)) ?_
        rw [if_pos ⟨c1, c2⟩]
        obtain ⟨y, ry, ey⟩ := hf_m (u := u) (f := f) ht h2 l12
        refine xs_seg 3 (pc' := 34) (ls' := [(0, .ref 94), (1, .int u), (2, .int f)]) (st' := [.int f, .int u, .ref 94]) (w' := w) (cs' := 0) (ss' := 0) ?_ (fun _ _ => rfl)
        refine xs_cl (as := [.ref 94, .int u, .int f]) (rv := some (.int y)) (st' := [.int y]) (cs' := 0) (ss' := 0) (k1 := 1) rfl rfl rfl rfl rfl rfl rfl ry ?_
        refine xs_seg 2 (pc' := 39) (ls' := [(3, .int y), (0, .ref 94), (1, .int u), (2, .int f)]) (st' := [.int y]) (w' := w) (cs' := 0) (ss' := 0) ?_ (fun _ _ => rfl)
        by_cases c3 : 0 ≤ fr_l (fun i => sy_r w 95 (1922 + 73 * i)) (fun i => sy_r w 95 (1923 + 73 * i)) u.toInt f.toInt l
        · rw [if_pos c3]
          refine xs_if true rfl (bq_ge_t (by omega)) ?_
          exact ⟨_, go_end 2 (fun _ _ => rfl), y, w, rfl, ey⟩
        · refine xs_if false rfl (bq_ge_f (by omega)) ?_
          rw [if_neg c3]
          obtain ⟨z, w1, r1, z1, t1, f1⟩ := sy_m (y := -1000002) sy_62_2 rfl ht
          refine xs_seg 2 (pc' := 45) (ls' := [(3, .int y), (0, .ref 94), (1, .int u), (2, .int f)]) (st' := [.int (-1000002), .ref 94]) (w' := w) (cs' := 0) (ss' := 0) ?_ (fun _ _ => rfl)
          refine xs_cl (as := [.ref 94, .int (-1000002)]) (rv := some (.int z)) (st' := [.int z]) (cs' := 0) (ss' := 0) (k1 := 10) rfl rfl rfl rfl rfl rfl rfl r1 ?_
          exact ⟨_, go_end 2 (fun _ _ => rfl), z, w1, rfl, z1⟩
      · refine xs_seg 4 (pc' := 18) (ls' := [(0, .ref 94), (1, .int u), (2, .int f)]) (st' := [.long 3000, .long 0, .long (f).toInt64]) (w' := w) (cs' := 0) (ss' := 0) ?_ (fun _ _ => rfl)
        obtain ⟨b3, rb3, hb3⟩ := wi_b w f 0 3000 (l := 0) (h := 3000) rfl rfl
        unfold bo at hb3
        refine xs_cl (as := [.long (f).toInt64, .long 0, .long 3000]) (rv := some (.int b3)) (st' := [.int b3]) (cs' := 0) (ss' := 0) (k1 := 1) rfl rfl rfl rfl rfl rfl rfl rb3 ?_
        refine xs_if false rfl (bq_ne_f (by omega)) ?_
        rw [if_neg (fun z => c2 z.2)]
        obtain ⟨z, w1, r1, z1, t1, f1⟩ := sy_m (y := -1000001) sy_62_1 rfl ht
        refine xs_seg 2 (pc' := 27) (ls' := [(0, .ref 94), (1, .int u), (2, .int f)]) (st' := [.int (-1000001), .ref 94]) (w' := w) (cs' := 0) (ss' := 0) ?_ (fun _ _ => rfl)
        refine xs_cl (as := [.ref 94, .int (-1000001)]) (rv := some (.int z)) (st' := [.int z]) (cs' := 0) (ss' := 0) (k1 := 10) rfl rfl rfl rfl rfl rfl rfl r1 ?_
        exact ⟨_, go_end 1 (fun _ _ => rfl), z, w1, rfl, z1⟩
    · refine xs_seg 4 (pc' := 6) (ls' := [(0, .ref 94), (1, .int u), (2, .int f)]) (st' := [.long 3, .long 0, .long (u).toInt64]) (w' := w) (cs' := 0) (ss' := 0) ?_ (fun _ _ => rfl)
      obtain ⟨b4, rb4, hb4⟩ := wi_b w u 0 3 (l := 0) (h := 3) rfl rfl
      unfold bo at hb4
      refine xs_cl (as := [.long (u).toInt64, .long 0, .long 3]) (rv := some (.int b4)) (st' := [.int b4]) (cs' := 0) (ss' := 0) (k1 := 1) rfl rfl rfl rfl rfl rfl rfl rb4 ?_
      have k0 : (0 : Int32).toInt = 0 := rfl
      refine xs_if true rfl (bq_eq_t (by omega)) ?_
      rw [if_neg (fun z => c1 z.1)]
      obtain ⟨z, w1, r1, z1, t1, f1⟩ := sy_m (y := -1000001) sy_62_1 rfl ht
      refine xs_seg 2 (pc' := 27) (ls' := [(0, .ref 94), (1, .int u), (2, .int f)]) (st' := [.int (-1000001), .ref 94]) (w' := w) (cs' := 0) (ss' := 0) ?_ (fun _ _ => rfl)
      refine xs_cl (as := [.ref 94, .int (-1000001)]) (rv := some (.int z)) (st' := [.int z]) (cs' := 0) (ss' := 0) (k1 := 10) rfl rfl rfl rfl rfl rfl rfl r1 ?_
      exact ⟨_, go_end 1 (fun _ _ => rfl), z, w1, rfl, z1⟩
  obtain ⟨res, g, x, w1, e, h⟩ := key
  subst e
  exact ⟨x, w1, ru_of (k := 12) (M := pm_206) rfl (by rw [Bool.and_eq_true]; exact ⟨rfl, sq_rcv ht rfl rfl rfl⟩) g, h⟩
