/-! the script's cell is never written -/
noncomputable def lo_L (w w1 : pq_W) : Prop := 0 < w.length → w1[0]? = w[0]? ∧ 0 < w1.length
theorem lo_rf (w : pq_W) : lo_L w w := fun h => ⟨rfl, h⟩
theorem lo_tr {a b c : pq_W} (h1 : lo_L a b) (h2 : lo_L b c) : lo_L a c := fun h => ⟨(h2 (h1 h).2).1.trans (h1 h).1, (h2 (h1 h).2).2⟩
theorem lo_set {w : pq_W} {r : Nat} {c : pq_C} (h : Nat.ble pq_E r = true) : lo_L w (w.set r c) := fun hw => by
  have h1 : pq_E ≤ r := Nat.le_of_ble_eq_true h
  have h2 : 5 ≤ r := h1
  exact ⟨List.getElem?_set_ne (by omega), by rw [List.length_set]; exact hw⟩
theorem lo_psh {w : pq_W} {c : pq_C} : lo_L w (w ++ [c]) := fun hw => ⟨List.getElem?_append_left hw, by rw [List.length_append]; omega⟩
theorem lo_if {b : Bool} {x : Option pq_R} {r : pq_R} (h : (bif b then x else none) = some r) : b = true ∧ x = some r := by
  cases b
  · cases h
  · exact ⟨rfl, h⟩
theorem lo_if2 {b : Bool} {x y : Option pq_R} {r : pq_R} (h : (bif b then x else y) = some r) : x = some r ∨ y = some r := by
  cases b
  · exact Or.inr h
  · exact Or.inl h
theorem lo_no {res : pq_R} {P : Prop} (h : (none : Option pq_R) = some res) : P := by
  cases h
set_option maxHeartbeats 2000000 in
theorem lo_do {call : Nat → List Value → pq_W → Option pq_R} {lim : Nat → Nat × Nat} {own : Nat × Nat} {ret : Option FieldType} {k : Nat → pq_L → List Value → pq_W → Nat → Nat → Option pq_R} (hc : ∀ j as w r w1, call j as w = some (r, w1) → lo_L w w1) (hk : ∀ pc ls st w cs ss res, k pc ls st w cs ss = some res → lo_L w res.2) (q : pq_N) (ls : pq_L) (st : List Value) (w : pq_W) (cs ss : Nat) (res : pq_R) (h : pq_do call lim own ret k q ls st w cs ss = some res) : lo_L w res.2 := by
  obtain ⟨p0, cat, nx, i, a, v, t⟩ := q
  match cat, h with
  | 0, h =>
    exact hk _ _ _ _ _ _ _ h
  | 1, h =>
    simp only [pq_do] at h
    repeat' (split at h)
    all_goals first | (exact hk _ _ _ _ _ _ _ h) | (exact lo_no h)
  | 2, h =>
    simp only [pq_do] at h
    repeat' (split at h)
    all_goals first | (exact hk _ _ _ _ _ _ _ h) | (exact lo_no h)
  | 3, h =>
    simp only [pq_do] at h
    repeat' (split at h)
    all_goals first | (exact hk _ _ _ _ _ _ _ h) | (exact lo_no h)
  | 4, h =>
    simp only [pq_do] at h
    repeat' (split at h)
    all_goals first | (exact hk _ _ _ _ _ _ _ h) | (exact lo_no h)
  | 5, h =>
    simp only [pq_do] at h
    repeat' (split at h)
    all_goals first | (exact hk _ _ _ _ _ _ _ h) | (exact lo_no h)
  | 6, h =>
    simp only [pq_do] at h
    repeat' (split at h)
    all_goals first | (exact hk _ _ _ _ _ _ _ h) | (exact lo_no h)
  | 7, h =>
    simp only [pq_do] at h
    repeat' (split at h)
    all_goals first | (exact hk _ _ _ _ _ _ _ h) | (exact lo_no h)
  | 8, h =>
    simp only [pq_do] at h
    repeat' (split at h)
    all_goals first | (exact hk _ _ _ _ _ _ _ h) | (exact lo_no h)
  | 9, h =>
    simp only [pq_do] at h
    repeat' (split at h)
    all_goals first | (exact hk _ _ _ _ _ _ _ h) | (exact lo_no h)
  | 10, h =>
    simp only [pq_do] at h
    split at h
    · have h := (lo_if h).2
      exact hk _ _ _ _ _ _ _ h
    · exact lo_no h
  | 11, h =>
    simp only [pq_do] at h
    split at h
    · have h := (lo_if h).2
      exact hk _ _ _ _ _ _ _ h
    · exact lo_no h
  | 12, h =>
    simp only [pq_do] at h
    split at h
    · rcases lo_if2 h with h | h
      · exact hk _ _ _ _ _ _ _ h
      · exact hk _ _ _ _ _ _ _ h
    · exact lo_no h
  | 13, h =>
    simp only [pq_do] at h
    split at h
    · rcases lo_if2 h with h | h
      · exact hk _ _ _ _ _ _ _ h
      · exact hk _ _ _ _ _ _ _ h
    · exact lo_no h
  | 14, h =>
    exact hk _ _ _ _ _ _ _ h
  | 15, h =>
    simp only [pq_do] at h
    repeat' (split at h)
    all_goals first | (exact hk _ _ _ _ _ _ _ h) | (exact lo_no h)
  | 16, h =>
    simp only [pq_do] at h
    split at h
    · have h := (lo_if h).2
      repeat' (split at h)
      all_goals first | (exact lo_no h) | (cases h; exact lo_rf _)
    · exact lo_no h
  | 17, h =>
    simp only [pq_do] at h
    split at h
    · have h := (lo_if h).2
      repeat' (split at h)
      all_goals first | (exact lo_no h) | (cases h; exact lo_rf _)
    · exact lo_no h
  | 18, h =>
    simp only [pq_do] at h
    split at h
    · have h := (lo_if h).2
      repeat' (split at h)
      all_goals first | (exact lo_no h) | (cases h; exact lo_rf _)
    · exact lo_no h
  | 19, h =>
    simp only [pq_do] at h
    split at h
    · split at h
      · have h := (lo_if h).2
        split at h
        · exact hk _ _ _ _ _ _ _ h
        · exact lo_no h
      · exact lo_no h
    · exact lo_no h
  | 20, h =>
    simp only [pq_do] at h
    split at h
    · split at h
      · obtain ⟨h9, h⟩ := lo_if h
        simp only [Bool.and_eq_true] at h9
        exact lo_tr (lo_set h9.1.1.2) (hk _ _ _ _ _ _ _ h)
      · exact lo_no h
    · exact lo_no h
  | 21, h =>
    simp only [pq_do] at h
    repeat' (split at h)
    all_goals first | (exact hk _ _ _ _ _ _ _ h) | (exact lo_no h)
  | 22, h =>
    simp only [pq_do] at h
    split at h
    · split at h
      · split at h
        · obtain ⟨h9, h⟩ := lo_if h
          exact lo_tr (lo_set h9) (hk _ _ _ _ _ _ _ h)
        · exact lo_no h
      · exact lo_no h
    · exact lo_no h
  | 23, h =>
    simp only [pq_do] at h
    repeat' (split at h)
    all_goals first | (exact hk _ _ _ _ _ _ _ h) | (exact lo_no h)
  | 24, h =>
    simp only [pq_do] at h
    split at h
    · have h := (lo_if h).2
      exact lo_tr lo_psh (hk _ _ _ _ _ _ _ h)
    · exact lo_no h
  | 25, h =>
    simp only [pq_do] at h
    split at h
    · split at h
      · split at h
        · exact lo_no h
        · have h := (lo_if h).2
          exact lo_tr lo_psh (hk _ _ _ _ _ _ _ h)
      · exact lo_no h
    · exact lo_no h
  | 26, h =>
    simp only [pq_do] at h
    split at h
    · have h := (lo_if h).2
      exact hk _ _ _ _ _ _ _ h
    · exact lo_no h
  | 27, h =>
    simp only [pq_do] at h
    split at h
    · split at h
      · split at h
        · obtain ⟨h9, h⟩ := lo_if h
          simp only [Bool.and_eq_true] at h9
          exact lo_tr (lo_set h9.1.2) (hk _ _ _ _ _ _ _ h)
        · exact lo_no h
      · exact lo_no h
    · exact lo_no h
  | 28, h =>
    have h := (lo_if h).2
    split at h
    · rename_i e
      exact lo_tr (hc _ _ _ _ _ e) (hk _ _ _ _ _ _ _ h)
    · exact lo_no h
  | 29, h =>
    simp only [pq_do] at h
    split at h
    · have h := (lo_if h).2
      exact hk _ _ _ _ _ _ _ h
    · exact lo_no h
  | 30, h =>
    exact hk _ _ _ _ _ _ _ h
  | 31, h =>
    simp only [pq_do] at h
    split at h
    · split at h
      · have h := (lo_if h).2
        exact hk _ _ _ _ _ _ _ h
      · exact lo_no h
    · exact lo_no h
  | 32, h =>
    simp only [pq_do] at h
    split at h
    · have h := (lo_if h).2
      exact hk _ _ _ _ _ _ _ h
    · exact lo_no h
  | n + 33, h =>
    exact lo_no h
theorem lo_exec {call : Nat → List Value → pq_W → Option pq_R} {lim : Nat → Nat × Nat} {own : Nat × Nat} {ret : Option FieldType} {L : pq_B} (hc : ∀ j as w r w1, call j as w = some (r, w1) → lo_L w w1) : ∀ (f pc : Nat) (ls : pq_L) (st : List Value) (w : pq_W) (cs ss : Nat) (res : pq_R), pq_exec call lim own ret L f pc ls st w cs ss = some res → lo_L w res.2
  | 0, _, _, _, _, _, _, _, h => lo_no h
  | f + 1, pc, ls, st, w, cs, ss, res, h => by
    rw [pq_exec_s] at h
    split at h
    · exact lo_do hc (fun pc ls st w cs ss res h => lo_exec hc f pc ls st w cs ss res h) _ _ _ _ _ _ _ h
    · exact lo_no h
theorem lo_run {F : Nat} : ∀ (d j : Nat) (as : List Value) (w : pq_W) (r : Option Value) (w1 : pq_W), pq_run pq_tab F d j as w = some (r, w1) → lo_L w w1
  | 0, _, _, _, _, _, h => lo_no h
  | d + 1, j, as, w, r, w1, h => by
    have h : (match pq_tab[j]? with
      | some M => bif Nat.ble (pq_sum as) (pq_mL M) && pq_rcv M as w then pq_exec (pq_run pq_tab F d) (pq_lim pq_tab) (pq_lm M) (pq_rt M) (pq_cd M) F 0 (lv_args 0 as) [] w 0 0 else none
      | none => none) = some (r, w1) := h
    split at h
    · have h := (lo_if h).2
      exact lo_exec (fun j as w r w1 h => lo_run d j as w r w1 h) _ _ _ _ _ _ _ _ h
    · exact lo_no h
theorem lo_Ru {k j : Nat} {as : List Value} {w : pq_W} {r : Option Value} {w1 : pq_W} (h : pq_Ru k j as w (r, w1)) : lo_L w w1 := by
  obtain ⟨N, h⟩ := h
  exact lo_run k j as w r w1 (h k N (Nat.le_refl _) (Nat.le_refl _))
