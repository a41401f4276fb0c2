/-! force -/
/-- the last law below n for this use from no later on -/
noncomputable def fr_l (U F : Nat → Int) (k v : Int) : Nat → Int
  | 0 => -1
  | n + 1 => if U n = k ∧ F n ≤ v then (n : Int) else fr_l U F k v n
theorem fr_lb {U F : Nat → Int} {k v : Int} : ∀ n : Nat, -1 ≤ fr_l U F k v n ∧ fr_l U F k v n < n
  | 0 => ⟨Int.le_refl _, by show (-1 : Int) < 0; decide⟩
  | n + 1 => by
    have ih := fr_lb (U := U) (F := F) (k := k) (v := v) n
    show -1 ≤ (if U n = k ∧ F n ≤ v then (n : Int) else fr_l U F k v n) ∧ (if U n = k ∧ F n ≤ v then (n : Int) else fr_l U F k v n) < ((n + 1 : Nat) : Int)
    split <;> omega
theorem fr_lc {U F U1 F1 : Nat → Int} {k v : Int} : ∀ {n : Nat}, (∀ i, i < n → U i = U1 i ∧ F i = F1 i) → fr_l U F k v n = fr_l U1 F1 k v n
  | 0, _ => rfl
  | n + 1, h => by
    show (if U n = k ∧ F n ≤ v then (n : Int) else fr_l U F k v n) = (if U1 n = k ∧ F1 n ≤ v then (n : Int) else fr_l U1 F1 k v n)
    rw [(h n (by omega)).1, (h n (by omega)).2, fr_lc (fun i hi => h i (by omega))]
theorem frc_k {w : pq_W} {k v : Int32} {l K : Nat} (ht : sx_Ty sx_T0 w) (h2 : sx_wg w 23 2 = some (.int (nI l))) (l12 : l ≤ 12) : ∀ (m : Nat) (x : Int32), m ≤ 12 → x.toInt = (m : Int) - 1 → ∃ res, pq_Go K pm_42 3 [(3, .int x), (0, .ref 23), (1, .int k), (2, .int v)] [] w 0 0 res ∧ ∃ y : Int32, res = (some (.int y), w) ∧ y.toInt = fr_l (fun i => sy_r w 25 i) (fun i => sy_r w 26 i) k.toInt v.toInt (min m l) := by
  intro m
  induction m with
  | zero =>
    intro x _ hx
    refine xs_seg 1 (pc' := 4) (ls' := [(3, .int x), (0, .ref 23), (1, .int k), (2, .int v)]) (st' := [.int x]) (w' := w) (cs' := 0) (ss' := 0) ?_ (fun _ _ => rfl)
    refine xs_if true rfl (br_lt_t (b := 0) rfl (by omega)) ?_
    exact ⟨_, go_end 2 (fun _ _ => rfl), -1, rfl, by rw [Nat.zero_min]; rfl⟩
  | succ m ih =>
    intro x hm hx
    have ex : x = nI m := Int32.toInt_inj.mp (by rw [nI_toInt (by omega), hx]; omega)
    subst ex
    have nx : (nI m + -1).toInt = (m : Int) - 1 := by
      rw [Int32.toInt_add, nI_toInt (by omega), show (-1 : Int32).toInt = -1 from rfl]
      exact Int.bmod_eq_of_le (by omega) (by omega)
    obtain ⟨res, gi, y, ey, vy⟩ := ih (nI m + -1) (by omega) nx
    refine xs_seg 1 (pc' := 4) (ls' := [(3, .int (nI m)), (0, .ref 23), (1, .int k), (2, .int v)]) (st' := [.int (nI m)]) (w' := w) (cs' := 0) (ss' := 0) ?_ (fun _ _ => rfl)
    refine xs_if false rfl (br_lt_f (b := 0) rfl (by rw [nI_toInt (by omega)]; omega)) ?_
    refine xs_seg 2 (pc' := 9) (ls' := [(3, .int (nI m)), (0, .ref 23), (1, .int k), (2, .int v)]) (st' := [.ref 23, .int (nI m)]) (w' := w) (cs' := 0) (ss' := 0) ?_ (fun _ _ => rfl)
    refine xs_gf (z := .int (nI l)) rfl ht rfl rfl h2 ?_
    by_cases c : l ≤ m
    · refine xs_cmp true rfl (br_ge_t (b := l) (nI_toInt (by omega)) (by rw [nI_toInt (by omega)]; omega)) ?_
      refine xs_seg 2 (pc' := 3) (ls' := [(3, .int ((nI m) + (-1))), (0, .ref 23), (1, .int k), (2, .int v)]) (st' := []) (w' := w) (cs' := 0) (ss' := 0) ?_ (fun _ _ => rfl)
      exact ⟨res, gi, y, ey, by rw [vy, Nat.min_eq_right c, Nat.min_eq_right (by omega : l ≤ m + 1)]⟩
    rw [Nat.min_eq_left (by omega : m ≤ l)] at vy
    rw [Nat.min_eq_left (by omega : m + 1 ≤ l)]
    obtain ⟨u, hu1, hu2⟩ := sy_at (r := 25) (i := m) ht rfl (by omega)
    obtain ⟨f, hf1, hf2⟩ := sy_at (r := 26) (i := m) ht rfl (by omega)
    refine xs_cmp false rfl (br_ge_f (b := l) (nI_toInt (by omega)) (by rw [nI_toInt (by omega)]; omega)) ?_
    refine xs_seg 1 (pc' := 16) (ls' := [(3, .int (nI m)), (0, .ref 23), (1, .int k), (2, .int v)]) (st' := [.ref 23]) (w' := w) (cs' := 0) (ss' := 0) ?_ (fun _ _ => rfl)
    refine xs_gf (z := .ref 25) rfl ht rfl rfl (wg_ref ht rfl rfl) ?_
    refine xs_seg 1 (pc' := 20) (ls' := [(3, .int (nI m)), (0, .ref 23), (1, .int k), (2, .int v)]) (st' := [.int (nI m), .ref 25]) (w' := w) (cs' := 0) (ss' := 0) ?_ (fun _ _ => rfl)
    refine xs_gl (q := m) (y := u) rfl ht rfl (by omega) (by decide) rfl hu2.symm ?_
    refine xs_seg 1 (pc' := 22) (ls' := [(3, .int (nI m)), (0, .ref 23), (1, .int k), (2, .int v)]) (st' := [.int k, .int u]) (w' := w) (cs' := 0) (ss' := 0) ?_ (fun _ _ => rfl)
    by_cases cu : u.toInt = k.toInt
    · refine xs_cmp false rfl (decide_eq_false (fun z => z (Int32.toInt_inj.mp cu))) ?_
      refine xs_seg 1 (pc' := 26) (ls' := [(3, .int (nI m)), (0, .ref 23), (1, .int k), (2, .int v)]) (st' := [.ref 23]) (w' := w) (cs' := 0) (ss' := 0) ?_ (fun _ _ => rfl)
      refine xs_gf (z := .ref 26) rfl ht rfl rfl (wg_ref ht rfl rfl) ?_
      refine xs_seg 1 (pc' := 30) (ls' := [(3, .int (nI m)), (0, .ref 23), (1, .int k), (2, .int v)]) (st' := [.int (nI m), .ref 26]) (w' := w) (cs' := 0) (ss' := 0) ?_ (fun _ _ => rfl)
      refine xs_gl (q := m) (y := f) rfl ht rfl (by omega) (by decide) rfl hf2.symm ?_
      refine xs_seg 1 (pc' := 32) (ls' := [(3, .int (nI m)), (0, .ref 23), (1, .int k), (2, .int v)]) (st' := [.int v, .int f]) (w' := w) (cs' := 0) (ss' := 0) ?_ (fun _ _ => rfl)
      by_cases cf : v.toInt < f.toInt
      · refine xs_cmp true rfl (br_gt_t (b := v.toInt) rfl cf) ?_
        refine xs_seg 2 (pc' := 3) (ls' := [(3, .int ((nI m) + (-1))), (0, .ref 23), (1, .int k), (2, .int v)]) (st' := []) (w' := w) (cs' := 0) (ss' := 0) ?_ (fun _ _ => rfl)
        exact ⟨res, gi, y, ey, by rw [vy, show fr_l (fun i => sy_r w 25 i) (fun i => sy_r w 26 i) k.toInt v.toInt (m + 1) = fr_l (fun i => sy_r w 25 i) (fun i => sy_r w 26 i) k.toInt v.toInt m from if_neg (fun z => by have z2 : sy_r w 26 m ≤ v.toInt := z.2; omega)]⟩
      · refine xs_cmp false rfl (br_gt_f (b := v.toInt) rfl cf) ?_
        exact ⟨_, go_end 2 (fun _ _ => rfl), nI m, rfl, by rw [nI_toInt (by omega)]; exact (if_pos ⟨by show sy_r w 25 m = k.toInt; rw [← hu2]; exact cu, by show sy_r w 26 m ≤ v.toInt; rw [← hf2]; omega⟩).symm⟩
    · refine xs_cmp true rfl (decide_eq_true (fun z => cu (by rw [z]))) ?_
      refine xs_seg 2 (pc' := 3) (ls' := [(3, .int ((nI m) + (-1))), (0, .ref 23), (1, .int k), (2, .int v)]) (st' := []) (w' := w) (cs' := 0) (ss' := 0) ?_ (fun _ _ => rfl)
      exact ⟨res, gi, y, ey, by rw [vy, show fr_l (fun i => sy_r w 25 i) (fun i => sy_r w 26 i) k.toInt v.toInt (m + 1) = fr_l (fun i => sy_r w 25 i) (fun i => sy_r w 26 i) k.toInt v.toInt m from if_neg (fun z => cu (by rw [hu2]; exact z.1))]⟩
theorem frm_k {w : pq_W} {k v : Int32} {l K : Nat} (ht : sx_Ty sx_T0 w) (h2 : sy_r w 95 4 = (l : Int)) (l12 : l ≤ 12) : ∀ (m i : Nat) (s : Int32), m + i = l → s.toInt = fr_l (fun i => sy_r w 95 (1922 + 73 * i)) (fun i => sy_r w 95 (1923 + 73 * i)) k.toInt v.toInt i → (∃ res, pq_Go K pm_183 5 [(4, .int (nI i)), (3, .int s), (0, .ref 94), (1, .int k), (2, .int v)] [] w 0 0 res ∧ ∃ y : Int32, res = (some (.int y), w) ∧ y.toInt = fr_l (fun i => sy_r w 95 (1922 + 73 * i)) (fun i => sy_r w 95 (1923 + 73 * i)) k.toInt v.toInt l) ∧ ∀ b : Int32, (∃ res, pq_Go K pm_183 5 [(4, .int (nI i)), (3, .int s), (5, .int b), (0, .ref 94), (1, .int k), (2, .int v)] [] w 0 0 res ∧ ∃ y : Int32, res = (some (.int y), w) ∧ y.toInt = fr_l (fun i => sy_r w 95 (1922 + 73 * i)) (fun i => sy_r w 95 (1923 + 73 * i)) k.toInt v.toInt l) := by
  intro m
  induction m with
  | zero =>
    intro i s hi hs
    have e : i = l := by omega
    subst e
    constructor
    · refine xs_seg 2 (pc' := 8) (ls' := [(4, .int (nI i)), (3, .int s), (0, .ref 94), (1, .int k), (2, .int v)]) (st' := [.ref 94, .int (nI i)]) (w' := w) (cs' := 0) (ss' := 0) ?_ (fun _ _ => rfl)
      refine xs_gf (z := .ref 95) rfl ht rfl rfl (rq_ge ht) ?_
      refine xs_seg 1 (pc' := 12) (ls' := [(4, .int (nI i)), (3, .int s), (0, .ref 94), (1, .int k), (2, .int v)]) (st' := [.int 4, .ref 95, .int (nI i)]) (w' := w) (cs' := 0) (ss' := 0) ?_ (fun _ _ => rfl)
      refine xs_gl (q := 4) (y := (nI i)) rfl ht rfl (by decide) (by decide) rfl (by rw [nI_toInt (by omega)]; exact h2) ?_
      refine xs_cmp true rfl (br_ge_t (b := i) (nI_toInt (by omega)) (by rw [nI_toInt (by omega)]; exact Int.le_refl _)) ?_
      exact ⟨_, go_end 2 (fun _ _ => rfl), s, rfl, hs⟩
    · intro b
      refine xs_seg 2 (pc' := 8) (ls' := [(4, .int (nI i)), (3, .int s), (5, .int b), (0, .ref 94), (1, .int k), (2, .int v)]) (st' := [.ref 94, .int (nI i)]) (w' := w) (cs' := 0) (ss' := 0) ?_ (fun _ _ => rfl)
      refine xs_gf (z := .ref 95) rfl ht rfl rfl (rq_ge ht) ?_
      refine xs_seg 1 (pc' := 12) (ls' := [(4, .int (nI i)), (3, .int s), (5, .int b), (0, .ref 94), (1, .int k), (2, .int v)]) (st' := [.int 4, .ref 95, .int (nI i)]) (w' := w) (cs' := 0) (ss' := 0) ?_ (fun _ _ => rfl)
      refine xs_gl (q := 4) (y := (nI i)) rfl ht rfl (by decide) (by decide) rfl (by rw [nI_toInt (by omega)]; exact h2) ?_
      refine xs_cmp true rfl (br_ge_t (b := i) (nI_toInt (by omega)) (by rw [nI_toInt (by omega)]; exact Int.le_refl _)) ?_
      exact ⟨_, go_end 2 (fun _ _ => rfl), s, rfl, hs⟩
  | succ m ih =>
    intro i s hi hs
    obtain ⟨u, hu1, hu2⟩ := sy_at (r := 95) (i := 1922 + 73 * i) ht rfl (by omega)
    obtain ⟨f, hf1, hf2⟩ := sy_at (r := 95) (i := 1922 + 73 * i + 1) ht rfl (by omega)
    have hb : (1922 : Int32) + 73 * nI i = nI (1922 + 73 * i) := by rw [show (1922 : Int32) = nI 1922 from rfl, show (73 : Int32) = nI 73 from rfl, nI_mul (by omega) (by omega) (by omega), nI_ad (by omega)]
    have st : fr_l (fun i => sy_r w 95 (1922 + 73 * i)) (fun i => sy_r w 95 (1923 + 73 * i)) k.toInt v.toInt (i + 1) = if u.toInt = k.toInt ∧ f.toInt ≤ v.toInt then (i : Int) else fr_l (fun i => sy_r w 95 (1922 + 73 * i)) (fun i => sy_r w 95 (1923 + 73 * i)) k.toInt v.toInt i := by
      rw [hu2, hf2, show 1922 + 73 * i + 1 = 1923 + 73 * i by omega]
      rfl
    constructor
    · refine xs_seg 2 (pc' := 8) (ls' := [(4, .int (nI i)), (3, .int s), (0, .ref 94), (1, .int k), (2, .int v)]) (st' := [.ref 94, .int (nI i)]) (w' := w) (cs' := 0) (ss' := 0) ?_ (fun _ _ => rfl)
      refine xs_gf (z := .ref 95) rfl ht rfl rfl (rq_ge ht) ?_
      refine xs_seg 1 (pc' := 12) (ls' := [(4, .int (nI i)), (3, .int s), (0, .ref 94), (1, .int k), (2, .int v)]) (st' := [.int 4, .ref 95, .int (nI i)]) (w' := w) (cs' := 0) (ss' := 0) ?_ (fun _ _ => rfl)
      refine xs_gl (q := 4) (y := (nI l)) rfl ht rfl (by decide) (by decide) rfl (by rw [nI_toInt (by omega)]; exact h2) ?_
      refine xs_cmp false rfl (br_ge_f (b := l) (nI_toInt (by omega)) (by rw [nI_toInt (by omega)]; omega)) ?_
      refine xs_seg 6 (pc' := 27) (ls' := [(5, .int (nI (1922 + 73 * i))), (4, .int (nI i)), (3, .int s), (0, .ref 94), (1, .int k), (2, .int v)]) (st' := []) (w' := w) (cs' := 0) (ss' := 0) ?_ (fun _ _ => by rw [← hb]; rfl)
      refine xs_seg 1 (pc' := 28) (ls' := [(5, .int (nI (1922 + 73 * i))), (4, .int (nI i)), (3, .int s), (0, .ref 94), (1, .int k), (2, .int v)]) (st' := [.ref 94]) (w' := w) (cs' := 0) (ss' := 0) ?_ (fun _ _ => rfl)
      refine xs_gf (z := .ref 95) rfl ht rfl rfl (rq_ge ht) ?_
      refine xs_seg 3 (pc' := 35) (ls' := [(5, .int (nI (1922 + 73 * i))), (4, .int (nI i)), (3, .int s), (0, .ref 94), (1, .int k), (2, .int v)]) (st' := [.int ((nI (1922 + 73 * i)) + 0), .ref 95]) (w' := w) (cs' := 0) (ss' := 0) ?_ (fun _ _ => rfl)
      refine xs_gl (q := (1922 + 73 * i)) (y := u) rfl ht rfl (by omega) (by decide) (Int32.add_zero _) hu2.symm ?_
      refine xs_seg 1 (pc' := 37) (ls' := [(5, .int (nI (1922 + 73 * i))), (4, .int (nI i)), (3, .int s), (0, .ref 94), (1, .int k), (2, .int v)]) (st' := [.int k, .int u]) (w' := w) (cs' := 0) (ss' := 0) ?_ (fun _ _ => rfl)
      by_cases cu : u.toInt = k.toInt
      · refine xs_cmp false rfl (decide_eq_false (fun z => z (Int32.toInt_inj.mp cu))) ?_
        refine xs_seg 1 (pc' := 41) (ls' := [(5, .int (nI (1922 + 73 * i))), (4, .int (nI i)), (3, .int s), (0, .ref 94), (1, .int k), (2, .int v)]) (st' := [.ref 94]) (w' := w) (cs' := 0) (ss' := 0) ?_ (fun _ _ => rfl)
        refine xs_gf (z := .ref 95) rfl ht rfl rfl (rq_ge ht) ?_
        refine xs_seg 3 (pc' := 48) (ls' := [(5, .int (nI (1922 + 73 * i))), (4, .int (nI i)), (3, .int s), (0, .ref 94), (1, .int k), (2, .int v)]) (st' := [.int ((nI (1922 + 73 * i)) + 1), .ref 95]) (w' := w) (cs' := 0) (ss' := 0) ?_ (fun _ _ => rfl)
        refine xs_gl (q := (1922 + 73 * i + 1)) (y := f) rfl ht rfl (by omega) (by decide) (nI_succ _).symm hf2.symm ?_
        refine xs_seg 1 (pc' := 50) (ls' := [(5, .int (nI (1922 + 73 * i))), (4, .int (nI i)), (3, .int s), (0, .ref 94), (1, .int k), (2, .int v)]) (st' := [.int v, .int f]) (w' := w) (cs' := 0) (ss' := 0) ?_ (fun _ _ => rfl)
        by_cases cf : v.toInt < f.toInt
        · refine xs_cmp true rfl (br_gt_t (b := v.toInt) rfl cf) ?_
          refine xs_seg 4 (pc' := 5) (ls' := [(4, .int (nI (i + 1))), (3, .int s), (5, .int (nI (1922 + 73 * i))), (0, .ref 94), (1, .int k), (2, .int v)]) (st' := []) (w' := w) (cs' := 0) (ss' := 0) ?_ (fun _ _ => by rw [nI_succ]; rfl)
          exact (ih (i + 1) s (by omega) (by rw [st, if_neg (fun z => by omega), hs])).2 (nI (1922 + 73 * i))
        · refine xs_cmp false rfl (br_gt_f (b := v.toInt) rfl cf) ?_
          refine xs_seg 5 (pc' := 5) (ls' := [(4, .int (nI (i + 1))), (3, .int (nI i)), (5, .int (nI (1922 + 73 * i))), (0, .ref 94), (1, .int k), (2, .int v)]) (st' := []) (w' := w) (cs' := 0) (ss' := 0) ?_ (fun _ _ => by rw [nI_succ]; rfl)
          exact (ih (i + 1) (nI i) (by omega) (by rw [st, if_pos ⟨cu, by omega⟩, nI_toInt (by omega)])).2 (nI (1922 + 73 * i))
      · refine xs_cmp true rfl (decide_eq_true (fun z => cu (by rw [z]))) ?_
        refine xs_seg 4 (pc' := 5) (ls' := [(4, .int (nI (i + 1))), (3, .int s), (5, .int (nI (1922 + 73 * i))), (0, .ref 94), (1, .int k), (2, .int v)]) (st' := []) (w' := w) (cs' := 0) (ss' := 0) ?_ (fun _ _ => by rw [nI_succ]; rfl)
        exact (ih (i + 1) s (by omega) (by rw [st, if_neg (fun z => cu z.1), hs])).2 (nI (1922 + 73 * i))
    · intro b
      refine xs_seg 2 (pc' := 8) (ls' := [(4, .int (nI i)), (3, .int s), (5, .int b), (0, .ref 94), (1, .int k), (2, .int v)]) (st' := [.ref 94, .int (nI i)]) (w' := w) (cs' := 0) (ss' := 0) ?_ (fun _ _ => rfl)
      refine xs_gf (z := .ref 95) rfl ht rfl rfl (rq_ge ht) ?_
      refine xs_seg 1 (pc' := 12) (ls' := [(4, .int (nI i)), (3, .int s), (5, .int b), (0, .ref 94), (1, .int k), (2, .int v)]) (st' := [.int 4, .ref 95, .int (nI i)]) (w' := w) (cs' := 0) (ss' := 0) ?_ (fun _ _ => rfl)
      refine xs_gl (q := 4) (y := (nI l)) rfl ht rfl (by decide) (by decide) rfl (by rw [nI_toInt (by omega)]; exact h2) ?_
      refine xs_cmp false rfl (br_ge_f (b := l) (nI_toInt (by omega)) (by rw [nI_toInt (by omega)]; omega)) ?_
      refine xs_seg 6 (pc' := 27) (ls' := [(5, .int (nI (1922 + 73 * i))), (4, .int (nI i)), (3, .int s), (0, .ref 94), (1, .int k), (2, .int v)]) (st' := []) (w' := w) (cs' := 0) (ss' := 0) ?_ (fun _ _ => by rw [← hb]; rfl)
      refine xs_seg 1 (pc' := 28) (ls' := [(5, .int (nI (1922 + 73 * i))), (4, .int (nI i)), (3, .int s), (0, .ref 94), (1, .int k), (2, .int v)]) (st' := [.ref 94]) (w' := w) (cs' := 0) (ss' := 0) ?_ (fun _ _ => rfl)
      refine xs_gf (z := .ref 95) rfl ht rfl rfl (rq_ge ht) ?_
      refine xs_seg 3 (pc' := 35) (ls' := [(5, .int (nI (1922 + 73 * i))), (4, .int (nI i)), (3, .int s), (0, .ref 94), (1, .int k), (2, .int v)]) (st' := [.int ((nI (1922 + 73 * i)) + 0), .ref 95]) (w' := w) (cs' := 0) (ss' := 0) ?_ (fun _ _ => rfl)
      refine xs_gl (q := (1922 + 73 * i)) (y := u) rfl ht rfl (by omega) (by decide) (Int32.add_zero _) hu2.symm ?_
      refine xs_seg 1 (pc' := 37) (ls' := [(5, .int (nI (1922 + 73 * i))), (4, .int (nI i)), (3, .int s), (0, .ref 94), (1, .int k), (2, .int v)]) (st' := [.int k, .int u]) (w' := w) (cs' := 0) (ss' := 0) ?_ (fun _ _ => rfl)
      by_cases cu : u.toInt = k.toInt
      · refine xs_cmp false rfl (decide_eq_false (fun z => z (Int32.toInt_inj.mp cu))) ?_
        refine xs_seg 1 (pc' := 41) (ls' := [(5, .int (nI (1922 + 73 * i))), (4, .int (nI i)), (3, .int s), (0, .ref 94), (1, .int k), (2, .int v)]) (st' := [.ref 94]) (w' := w) (cs' := 0) (ss' := 0) ?_ (fun _ _ => rfl)
        refine xs_gf (z := .ref 95) rfl ht rfl rfl (rq_ge ht) ?_
        refine xs_seg 3 (pc' := 48) (ls' := [(5, .int (nI (1922 + 73 * i))), (4, .int (nI i)), (3, .int s), (0, .ref 94), (1, .int k), (2, .int v)]) (st' := [.int ((nI (1922 + 73 * i)) + 1), .ref 95]) (w' := w) (cs' := 0) (ss' := 0) ?_ (fun _ _ => rfl)
        refine xs_gl (q := (1922 + 73 * i + 1)) (y := f) rfl ht rfl (by omega) (by decide) (nI_succ _).symm hf2.symm ?_
        refine xs_seg 1 (pc' := 50) (ls' := [(5, .int (nI (1922 + 73 * i))), (4, .int (nI i)), (3, .int s), (0, .ref 94), (1, .int k), (2, .int v)]) (st' := [.int v, .int f]) (w' := w) (cs' := 0) (ss' := 0) ?_ (fun _ _ => rfl)
        by_cases cf : v.toInt < f.toInt
        · refine xs_cmp true rfl (br_gt_t (b := v.toInt) rfl cf) ?_
          refine xs_seg 4 (pc' := 5) (ls' := [(4, .int (nI (i + 1))), (3, .int s), (5, .int (nI (1922 + 73 * i))), (0, .ref 94), (1, .int k), (2, .int v)]) (st' := []) (w' := w) (cs' := 0) (ss' := 0) ?_ (fun _ _ => by rw [nI_succ]; rfl)
          exact (ih (i + 1) s (by omega) (by rw [st, if_neg (fun z => by omega), hs])).2 (nI (1922 + 73 * i))
        · refine xs_cmp false rfl (br_gt_f (b := v.toInt) rfl cf) ?_
          refine xs_seg 5 (pc' := 5) (ls' := [(4, .int (nI (i + 1))), (3, .int (nI i)), (5, .int (nI (1922 + 73 * i))), (0, .ref 94), (1, .int k), (2, .int v)]) (st' := []) (w' := w) (cs' := 0) (ss' := 0) ?_ (fun _ _ => by rw [nI_succ]; rfl)
          exact (ih (i + 1) (nI i) (by omega) (by rw [st, if_pos ⟨cu, by omega⟩, nI_toInt (by omega)])).2 (nI (1922 + 73 * i))
      · refine xs_cmp true rfl (decide_eq_true (fun z => cu (by rw [z]))) ?_
        refine xs_seg 4 (pc' := 5) (ls' := [(4, .int (nI (i + 1))), (3, .int s), (5, .int (nI (1922 + 73 * i))), (0, .ref 94), (1, .int k), (2, .int v)]) (st' := []) (w' := w) (cs' := 0) (ss' := 0) ?_ (fun _ _ => by rw [nI_succ]; rfl)
        exact (ih (i + 1) s (by omega) (by rw [st, if_neg (fun z => cu z.1), hs])).2 (nI (1922 + 73 * i))
theorem sy_15_2 : sy_15 2 = true := by decide +kernel
theorem sy_62_2 : sy_62 (-1000002) = true := by decide +kernel
theorem frc_t {w : pq_W} {u f : Int32} {l : Nat} (ht : sx_Ty sx_T0 w) (h2 : sx_wg w 23 2 = some (.int (nI l))) (l12 : l ≤ 12) : ∃ (x : Int32) (w1 : pq_W), pq_Ru 13 80 [.ref 5, .int u, .int f] w (some (.int x), w1) ∧ x.toInt = (if (0 ≤ u.toInt ∧ u.toInt ≤ 3) ∧ (0 ≤ f.toInt ∧ f.toInt ≤ 3000) then (if 0 ≤ fr_l (fun i => sy_r w 25 i) (fun i => sy_r w 26 i) u.toInt f.toInt l then fr_l (fun i => sy_r w 25 i) (fun i => sy_r w 26 i) u.toInt f.toInt l else -1000002) else -1000001) := by
  have key : ∃ res, pq_Go 12 pm_80 0 (lv_args 0 [.ref 5, .int u, .int f]) [] w 0 0 res ∧ ∃ x : Int32, res.1 = some (.int x) ∧ x.toInt = (if (0 ≤ u.toInt ∧ u.toInt ≤ 3) ∧ (0 ≤ f.toInt ∧ f.toInt ≤ 3000) then (if 0 ≤ fr_l (fun i => sy_r w 25 i) (fun i => sy_r w 26 i) u.toInt f.toInt l then fr_l (fun i => sy_r w 25 i) (fun i => sy_r w 26 i) u.toInt f.toInt l else -1000002) else -1000001) := by
    by_cases cu : 0 ≤ u.toInt ∧ u.toInt ≤ 3
    · by_cases cf : 0 ≤ f.toInt ∧ f.toInt ≤ 3000
      · rw [if_pos ⟨cu, cf⟩]
        obtain ⟨⟨r0, w0⟩, g0, y, ey, vy⟩ := frc_k (k := u) (v := f) (K := 0) ht h2 l12 12 11 (Nat.le_refl _) rfl
        rw [Nat.min_eq_right l12] at vy
        obtain ⟨ey, ew⟩ := Prod.mk.inj ey
        subst ey
        subst ew
        have bl := fr_lb (U := fun i => sy_r w0 25 i) (F := fun i => sy_r w0 26 i) (k := u.toInt) (v := f.toInt) l
        have r2 : pq_Ru 1 42 [.ref 23, .int u, .int f] w0 (some (.int y), w0) := by
          refine ru_of (k := 0) (M := pm_42) rfl (by rw [Bool.and_eq_true]; exact ⟨rfl, sq_rcv ht rfl rfl rfl⟩) ?_
          exact go_seg 2 (pc' := 3) (ls' := [(3, .int 11), (0, .ref 23), (1, .int u), (2, .int f)]) (st' := []) (w' := w0) (cs' := 0) (ss' := 0) g0 (fun _ _ => rfl)
        by_cases cy : 0 ≤ fr_l (fun i => sy_r w0 25 i) (fun i => sy_r w0 26 i) u.toInt f.toInt l
        · rw [if_pos cy]
          refine xs_seg 1 (pc' := 1) (ls' := [(0, .ref 5), (1, .int u), (2, .int f)]) (st' := [.int u]) (w' := w0) (cs' := 0) (ss' := 0) ?_ (fun _ _ => rfl)
          refine xs_cl (as := [.int u]) (rv := some (.int 1)) (st' := [.int 1]) (cs' := 0) (ss' := 0) (k1 := 1) rfl rfl rfl rfl rfl rfl rfl (uw_t cu) ?_
          refine xs_if false rfl rfl ?_
          refine xs_seg 1 (pc' := 8) (ls' := [(0, .ref 5), (1, .int u), (2, .int f)]) (st' := [.int f]) (w' := w0) (cs' := 0) (ss' := 0) ?_ (fun _ _ => rfl)
          refine xs_cl (as := [.int f]) (rv := some (.int 1)) (st' := [.int 1]) (cs' := 0) (ss' := 0) (k1 := 1) rfl rfl rfl rfl rfl rfl rfl (fw_t cf) ?_
          refine xs_if true rfl rfl ?_
          refine xs_seg 1 (pc' := 21) (ls' := [(0, .ref 5), (1, .int u), (2, .int f)]) (st' := [.ref 5]) (w' := w0) (cs' := 0) (ss' := 0) ?_ (fun _ _ => rfl)
          refine xs_gf (z := .ref 23) rfl ht rfl rfl (wg_ref ht rfl rfl) ?_
          refine xs_seg 2 (pc' := 26) (ls' := [(0, .ref 5), (1, .int u), (2, .int f)]) (st' := [.int f, .int u, .ref 23]) (w' := w0) (cs' := 0) (ss' := 0) ?_ (fun _ _ => rfl)
          refine xs_cl (as := [.ref 23, .int u, .int f]) (rv := some (.int y)) (st' := [.int y]) (cs' := 0) (ss' := 0) (k1 := 1) rfl rfl rfl rfl rfl rfl rfl r2 ?_
          refine xs_seg 2 (pc' := 31) (ls' := [(3, .int y), (0, .ref 5), (1, .int u), (2, .int f)]) (st' := [.int y]) (w' := w0) (cs' := 0) (ss' := 0) ?_ (fun _ _ => rfl)
          refine xs_if true rfl (br_ge_t (b := 0) rfl (by rw [vy]; exact cy)) ?_
          exact ⟨_, go_end 2 (fun _ _ => rfl), y, rfl, vy⟩
        · rw [if_neg cy]
          obtain ⟨z, w1, r1, z1, t1, f1⟩ := sy_c (y := 2) sy_15_2 rfl ht
          refine xs_seg 1 (pc' := 1) (ls' := [(0, .ref 5), (1, .int u), (2, .int f)]) (st' := [.int u]) (w' := w0) (cs' := 0) (ss' := 0) ?_ (fun _ _ => rfl)
          refine xs_cl (as := [.int u]) (rv := some (.int 1)) (st' := [.int 1]) (cs' := 0) (ss' := 0) (k1 := 1) rfl rfl rfl rfl rfl rfl rfl (uw_t cu) ?_
          refine xs_if false rfl rfl ?_
          refine xs_seg 1 (pc' := 8) (ls' := [(0, .ref 5), (1, .int u), (2, .int f)]) (st' := [.int f]) (w' := w0) (cs' := 0) (ss' := 0) ?_ (fun _ _ => rfl)
          refine xs_cl (as := [.int f]) (rv := some (.int 1)) (st' := [.int 1]) (cs' := 0) (ss' := 0) (k1 := 1) rfl rfl rfl rfl rfl rfl rfl (fw_t cf) ?_
          refine xs_if true rfl rfl ?_
          refine xs_seg 1 (pc' := 21) (ls' := [(0, .ref 5), (1, .int u), (2, .int f)]) (st' := [.ref 5]) (w' := w0) (cs' := 0) (ss' := 0) ?_ (fun _ _ => rfl)
          refine xs_gf (z := .ref 23) rfl ht rfl rfl (wg_ref ht rfl rfl) ?_
          refine xs_seg 2 (pc' := 26) (ls' := [(0, .ref 5), (1, .int u), (2, .int f)]) (st' := [.int f, .int u, .ref 23]) (w' := w0) (cs' := 0) (ss' := 0) ?_ (fun _ _ => rfl)
          refine xs_cl (as := [.ref 23, .int u, .int f]) (rv := some (.int y)) (st' := [.int y]) (cs' := 0) (ss' := 0) (k1 := 1) rfl rfl rfl rfl rfl rfl rfl r2 ?_
          refine xs_seg 2 (pc' := 31) (ls' := [(3, .int y), (0, .ref 5), (1, .int u), (2, .int f)]) (st' := [.int y]) (w' := w0) (cs' := 0) (ss' := 0) ?_ (fun _ _ => rfl)
          refine xs_if false rfl (br_ge_f (b := 0) rfl (by rw [vy]; exact cy)) ?_
          refine xs_seg 2 (pc' := 36) (ls' := [(3, .int y), (0, .ref 5), (1, .int u), (2, .int f)]) (st' := [.int 2, .ref 5]) (w' := w0) (cs' := 0) (ss' := 0) ?_ (fun _ _ => rfl)
          refine xs_cl (as := [.ref 5, .int 2]) (rv := some (.int z)) (st' := [.int z]) (cs' := 0) (ss' := 0) (k1 := 10) rfl rfl rfl rfl rfl rfl rfl r1 ?_
          exact ⟨_, go_end 2 (fun _ _ => rfl), z, rfl, z1⟩
      · rw [if_neg (fun z => cf z.2)]
        obtain ⟨z, w1, r1, z1, t1, f1⟩ := sy_c (y := 1) sy_15_1 rfl ht
        refine xs_seg 1 (pc' := 1) (ls' := [(0, .ref 5), (1, .int u), (2, .int f)]) (st' := [.int u]) (w' := w) (cs' := 0) (ss' := 0) ?_ (fun _ _ => rfl)
        refine xs_cl (as := [.int u]) (rv := some (.int 1)) (st' := [.int 1]) (cs' := 0) (ss' := 0) (k1 := 1) rfl rfl rfl rfl rfl rfl rfl (uw_t cu) ?_
        refine xs_if false rfl rfl ?_
        refine xs_seg 1 (pc' := 8) (ls' := [(0, .ref 5), (1, .int u), (2, .int f)]) (st' := [.int f]) (w' := w) (cs' := 0) (ss' := 0) ?_ (fun _ _ => rfl)
        refine xs_cl (as := [.int f]) (rv := some (.int 0)) (st' := [.int 0]) (cs' := 0) (ss' := 0) (k1 := 1) rfl rfl rfl rfl rfl rfl rfl (fw_f0 cf) ?_
        refine xs_if false rfl rfl ?_
        refine xs_seg 2 (pc' := 16) (ls' := [(0, .ref 5), (1, .int u), (2, .int f)]) (st' := [.int 1, .ref 5]) (w' := w) (cs' := 0) (ss' := 0) ?_ (fun _ _ => rfl)
        refine xs_cl (as := [.ref 5, .int 1]) (rv := some (.int z)) (st' := [.int z]) (cs' := 0) (ss' := 0) (k1 := 10) rfl rfl rfl rfl rfl rfl rfl r1 ?_
        exact ⟨_, go_end 1 (fun _ _ => rfl), z, rfl, z1⟩
    · rw [if_neg (fun z => cu z.1)]
      obtain ⟨z, w1, r1, z1, t1, f1⟩ := sy_c (y := 1) sy_15_1 rfl ht
      refine xs_seg 1 (pc' := 1) (ls' := [(0, .ref 5), (1, .int u), (2, .int f)]) (st' := [.int u]) (w' := w) (cs' := 0) (ss' := 0) ?_ (fun _ _ => rfl)
      refine xs_cl (as := [.int u]) (rv := some (.int 0)) (st' := [.int 0]) (cs' := 0) (ss' := 0) (k1 := 1) rfl rfl rfl rfl rfl rfl rfl (uw_f cu) ?_
      refine xs_if true rfl rfl ?_
      refine xs_seg 2 (pc' := 16) (ls' := [(0, .ref 5), (1, .int u), (2, .int f)]) (st' := [.int 1, .ref 5]) (w' := w) (cs' := 0) (ss' := 0) ?_ (fun _ _ => rfl)
      refine xs_cl (as := [.ref 5, .int 1]) (rv := some (.int z)) (st' := [.int z]) (cs' := 0) (ss' := 0) (k1 := 10) rfl rfl rfl rfl rfl rfl rfl r1 ?_
      exact ⟨_, go_end 1 (fun _ _ => rfl), z, rfl, z1⟩
  obtain ⟨⟨r, w1⟩, g, x, e, h1⟩ := key
  have e : r = some (.int x) := e
  subst e
  exact ⟨x, w1, ru_of (k := 12) (M := pm_80) rfl (by rw [Bool.and_eq_true]; exact ⟨rfl, sq_rcv ht rfl rfl rfl⟩) g, h1⟩
theorem frm_t {w : pq_W} {u f : Int32} {l : Nat} (ht : sx_Ty sx_T0 w) (h2 : sy_r w 95 4 = (l : Int)) (l12 : l ≤ 12) : ∃ (x : Int32) (w1 : pq_W), pq_Ru 13 206 [.ref 94, .int u, .int f] w (some (.int x), w1) ∧ x.toInt = (if (0 ≤ u.toInt ∧ u.toInt ≤ 3) ∧ (0 ≤ f.toInt ∧ f.toInt ≤ 3000) then (if 0 ≤ fr_l (fun i => sy_r w 95 (1922 + 73 * i)) (fun i => sy_r w 95 (1923 + 73 * i)) u.toInt f.toInt l then fr_l (fun i => sy_r w 95 (1922 + 73 * i)) (fun i => sy_r w 95 (1923 + 73 * i)) u.toInt f.toInt l else -1000002) else -1000001) := by
  have key : ∃ res, pq_Go 12 pm_206 0 (lv_args 0 [.ref 94, .int u, .int f]) [] w 0 0 res ∧ ∃ x : Int32, res.1 = some (.int x) ∧ x.toInt = (if (0 ≤ u.toInt ∧ u.toInt ≤ 3) ∧ (0 ≤ f.toInt ∧ f.toInt ≤ 3000) then (if 0 ≤ fr_l (fun i => sy_r w 95 (1922 + 73 * i)) (fun i => sy_r w 95 (1923 + 73 * i)) u.toInt f.toInt l then fr_l (fun i => sy_r w 95 (1922 + 73 * i)) (fun i => sy_r w 95 (1923 + 73 * i)) u.toInt f.toInt l else -1000002) else -1000001) := by
    by_cases cu : 0 ≤ u.toInt ∧ u.toInt ≤ 3
    · by_cases cf : 0 ≤ f.toInt ∧ f.toInt ≤ 3000
      · rw [if_pos ⟨cu, cf⟩]
        obtain ⟨⟨⟨r0, w0⟩, g0, y, ey, vy⟩, _⟩ := frm_k (k := u) (v := f) (K := 0) ht h2 l12 l 0 (-1) rfl rfl
        obtain ⟨ey, ew⟩ := Prod.mk.inj ey
        subst ey
        subst ew
        have r2 : pq_Ru 1 183 [.ref 94, .int u, .int f] w0 (some (.int y), w0) := by
          refine ru_of (k := 0) (M := pm_183) rfl (by rw [Bool.and_eq_true]; exact ⟨rfl, sq_rcv ht rfl rfl rfl⟩) ?_
          exact go_seg 4 (pc' := 5) (ls' := [(4, .int (nI 0)), (3, .int (-1)), (0, .ref 94), (1, .int u), (2, .int f)]) (st' := []) (w' := w0) (cs' := 0) (ss' := 0) g0 (fun _ _ => rfl)
        by_cases cy : 0 ≤ fr_l (fun i => sy_r w0 95 (1922 + 73 * i)) (fun i => sy_r w0 95 (1923 + 73 * i)) u.toInt f.toInt l
        · rw [if_pos cy]
          refine xs_seg 4 (pc' := 6) (ls' := [(0, .ref 94), (1, .int u), (2, .int f)]) (st' := [.long 3, .long 0, .long (u).toInt64]) (w' := w0) (cs' := 0) (ss' := 0) ?_ (fun _ _ => rfl)
          refine xs_cl (as := [.long (u).toInt64, .long 0, .long 3]) (rv := some (.int 1)) (st' := [.int 1]) (cs' := 0) (ss' := 0) (k1 := 1) rfl rfl rfl rfl rfl rfl rfl (wi_t w0 u 0 3 0 3 rfl rfl cu) ?_
          refine xs_if false rfl rfl ?_
          refine xs_seg 4 (pc' := 18) (ls' := [(0, .ref 94), (1, .int u), (2, .int f)]) (st' := [.long 3000, .long 0, .long (f).toInt64]) (w' := w0) (cs' := 0) (ss' := 0) ?_ (fun _ _ => rfl)
          refine xs_cl (as := [.long (f).toInt64, .long 0, .long 3000]) (rv := some (.int 1)) (st' := [.int 1]) (cs' := 0) (ss' := 0) (k1 := 1) rfl rfl rfl rfl rfl rfl rfl (wi_t w0 f 0 3000 0 3000 rfl rfl cf) ?_
          refine xs_if true rfl rfl ?_
          refine xs_seg 3 (pc' := 34) (ls' := [(0, .ref 94), (1, .int u), (2, .int f)]) (st' := [.int f, .int u, .ref 94]) (w' := w0) (cs' := 0) (ss' := 0) ?_ (fun _ _ => rfl)
          refine xs_cl (as := [.ref 94, .int u, .int f]) (rv := some (.int y)) (st' := [.int y]) (cs' := 0) (ss' := 0) (k1 := 1) rfl rfl rfl rfl rfl rfl rfl r2 ?_
          refine xs_seg 2 (pc' := 39) (ls' := [(3, .int y), (0, .ref 94), (1, .int u), (2, .int f)]) (st' := [.int y]) (w' := w0) (cs' := 0) (ss' := 0) ?_ (fun _ _ => rfl)
          refine xs_if true rfl (br_ge_t (b := 0) rfl (by rw [vy]; exact cy)) ?_
          exact ⟨_, go_end 2 (fun _ _ => rfl), y, rfl, vy⟩
        · rw [if_neg cy]
          obtain ⟨z, w1, r1, z1, t1, f1⟩ := sy_m (y := -1000002) sy_62_2 rfl ht
          refine xs_seg 4 (pc' := 6) (ls' := [(0, .ref 94), (1, .int u), (2, .int f)]) (st' := [.long 3, .long 0, .long (u).toInt64]) (w' := w0) (cs' := 0) (ss' := 0) ?_ (fun _ _ => rfl)
          refine xs_cl (as := [.long (u).toInt64, .long 0, .long 3]) (rv := some (.int 1)) (st' := [.int 1]) (cs' := 0) (ss' := 0) (k1 := 1) rfl rfl rfl rfl rfl rfl rfl (wi_t w0 u 0 3 0 3 rfl rfl cu) ?_
          refine xs_if false rfl rfl ?_
          refine xs_seg 4 (pc' := 18) (ls' := [(0, .ref 94), (1, .int u), (2, .int f)]) (st' := [.long 3000, .long 0, .long (f).toInt64]) (w' := w0) (cs' := 0) (ss' := 0) ?_ (fun _ _ => rfl)
          refine xs_cl (as := [.long (f).toInt64, .long 0, .long 3000]) (rv := some (.int 1)) (st' := [.int 1]) (cs' := 0) (ss' := 0) (k1 := 1) rfl rfl rfl rfl rfl rfl rfl (wi_t w0 f 0 3000 0 3000 rfl rfl cf) ?_
          refine xs_if true rfl rfl ?_
          refine xs_seg 3 (pc' := 34) (ls' := [(0, .ref 94), (1, .int u), (2, .int f)]) (st' := [.int f, .int u, .ref 94]) (w' := w0) (cs' := 0) (ss' := 0) ?_ (fun _ _ => rfl)
          refine xs_cl (as := [.ref 94, .int u, .int f]) (rv := some (.int y)) (st' := [.int y]) (cs' := 0) (ss' := 0) (k1 := 1) rfl rfl rfl rfl rfl rfl rfl r2 ?_
          refine xs_seg 2 (pc' := 39) (ls' := [(3, .int y), (0, .ref 94), (1, .int u), (2, .int f)]) (st' := [.int y]) (w' := w0) (cs' := 0) (ss' := 0) ?_ (fun _ _ => rfl)
          refine xs_if false rfl (br_ge_f (b := 0) rfl (by rw [vy]; exact cy)) ?_
          refine xs_seg 2 (pc' := 45) (ls' := [(3, .int y), (0, .ref 94), (1, .int u), (2, .int f)]) (st' := [.int (-1000002), .ref 94]) (w' := w0) (cs' := 0) (ss' := 0) ?_ (fun _ _ => rfl)
          refine xs_cl (as := [.ref 94, .int (-1000002)]) (rv := some (.int z)) (st' := [.int z]) (cs' := 0) (ss' := 0) (k1 := 10) rfl rfl rfl rfl rfl rfl rfl r1 ?_
          exact ⟨_, go_end 2 (fun _ _ => rfl), z, rfl, z1⟩
      · rw [if_neg (fun z => cf z.2)]
        obtain ⟨z, w1, r1, z1, t1, f1⟩ := sy_m (y := -1000001) sy_62_1 rfl ht
        refine xs_seg 4 (pc' := 6) (ls' := [(0, .ref 94), (1, .int u), (2, .int f)]) (st' := [.long 3, .long 0, .long (u).toInt64]) (w' := w) (cs' := 0) (ss' := 0) ?_ (fun _ _ => rfl)
        refine xs_cl (as := [.long (u).toInt64, .long 0, .long 3]) (rv := some (.int 1)) (st' := [.int 1]) (cs' := 0) (ss' := 0) (k1 := 1) rfl rfl rfl rfl rfl rfl rfl (wi_t w u 0 3 0 3 rfl rfl cu) ?_
        refine xs_if false rfl rfl ?_
        refine xs_seg 4 (pc' := 18) (ls' := [(0, .ref 94), (1, .int u), (2, .int f)]) (st' := [.long 3000, .long 0, .long (f).toInt64]) (w' := w) (cs' := 0) (ss' := 0) ?_ (fun _ _ => rfl)
        refine xs_cl (as := [.long (f).toInt64, .long 0, .long 3000]) (rv := some (.int 0)) (st' := [.int 0]) (cs' := 0) (ss' := 0) (k1 := 1) rfl rfl rfl rfl rfl rfl rfl (wi_f w f 0 3000 0 3000 rfl rfl cf) ?_
        refine xs_if false rfl rfl ?_
        refine xs_seg 2 (pc' := 27) (ls' := [(0, .ref 94), (1, .int u), (2, .int f)]) (st' := [.int (-1000001), .ref 94]) (w' := w) (cs' := 0) (ss' := 0) ?_ (fun _ _ => rfl)
        refine xs_cl (as := [.ref 94, .int (-1000001)]) (rv := some (.int z)) (st' := [.int z]) (cs' := 0) (ss' := 0) (k1 := 10) rfl rfl rfl rfl rfl rfl rfl r1 ?_
        exact ⟨_, go_end 1 (fun _ _ => rfl), z, rfl, z1⟩
    · rw [if_neg (fun z => cu z.1)]
      obtain ⟨z, w1, r1, z1, t1, f1⟩ := sy_m (y := -1000001) sy_62_1 rfl ht
      refine xs_seg 4 (pc' := 6) (ls' := [(0, .ref 94), (1, .int u), (2, .int f)]) (st' := [.long 3, .long 0, .long (u).toInt64]) (w' := w) (cs' := 0) (ss' := 0) ?_ (fun _ _ => rfl)
      refine xs_cl (as := [.long (u).toInt64, .long 0, .long 3]) (rv := some (.int 0)) (st' := [.int 0]) (cs' := 0) (ss' := 0) (k1 := 1) rfl rfl rfl rfl rfl rfl rfl (wi_f w u 0 3 0 3 rfl rfl cu) ?_
      refine xs_if true rfl rfl ?_
      refine xs_seg 2 (pc' := 27) (ls' := [(0, .ref 94), (1, .int u), (2, .int f)]) (st' := [.int (-1000001), .ref 94]) (w' := w) (cs' := 0) (ss' := 0) ?_ (fun _ _ => rfl)
      refine xs_cl (as := [.ref 94, .int (-1000001)]) (rv := some (.int z)) (st' := [.int z]) (cs' := 0) (ss' := 0) (k1 := 10) rfl rfl rfl rfl rfl rfl rfl r1 ?_
      exact ⟨_, go_end 1 (fun _ _ => rfl), z, rfl, z1⟩
  obtain ⟨⟨r, w1⟩, g, x, e, h1⟩ := key
  have e : r = some (.int x) := e
  subst e
  exact ⟨x, w1, ru_of (k := 12) (M := pm_206) rfl (by rw [Bool.and_eq_true]; exact ⟨rfl, sq_rcv ht rfl rfl rfl⟩) g, h1⟩
