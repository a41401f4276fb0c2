/-! small methods of both sides, exactly -/
theorem rq_cs {w : pq_W} (ht : sx_Ty sx_T0 w) : (0 ≤ sy_r w 95 1 ∧ sy_r w 95 1 ≤ 999) ∧ (0 ≤ sy_r w 95 2 ∧ sy_r w 95 2 ≤ 8) ∧ (0 ≤ sy_r w 95 3 ∧ sy_r w 95 3 ≤ 12) ∧ (0 ≤ sy_r w 95 4 ∧ sy_r w 95 4 ≤ 12) ∧ (0 ≤ sy_r w 95 5 ∧ sy_r w 95 5 ≤ 30) ∧ (0 ≤ sy_r w 95 6 ∧ sy_r w 95 6 ≤ 40) ∧ (0 ≤ sy_r w 95 7 ∧ sy_r w 95 7 ≤ 60) := ⟨sy_rg (r := 95) ht rfl (g := (1, 1, 1, 0, 0, 0, 999)) (by decide) (k := 0) (j := 0) (by decide) (Nat.le_refl _) (Nat.le_refl _) (by decide), sy_rg (r := 95) ht rfl (g := (2, 1, 1, 0, 0, 0, 8)) (by decide) (k := 0) (j := 0) (by decide) (Nat.le_refl _) (Nat.le_refl _) (by decide), sy_rg (r := 95) ht rfl (g := (3, 1, 1, 0, 0, 0, 12)) (by decide) (k := 0) (j := 0) (by decide) (Nat.le_refl _) (Nat.le_refl _) (by decide), sy_rg (r := 95) ht rfl (g := (4, 1, 1, 0, 0, 0, 12)) (by decide) (k := 0) (j := 0) (by decide) (Nat.le_refl _) (Nat.le_refl _) (by decide), sy_rg (r := 95) ht rfl (g := (5, 1, 1, 0, 0, 0, 30)) (by decide) (k := 0) (j := 0) (by decide) (Nat.le_refl _) (Nat.le_refl _) (by decide), sy_rg (r := 95) ht rfl (g := (6, 1, 1, 0, 0, 0, 40)) (by decide) (k := 0) (j := 0) (by decide) (Nat.le_refl _) (Nat.le_refl _) (by decide), sy_rg (r := 95) ht rfl (g := (7, 1, 1, 0, 0, 0, 60)) (by decide) (k := 0) (j := 0) (by decide) (Nat.le_refl _) (Nat.le_refl _) (by decide)⟩
theorem rg_10 {w : pq_W} {i : Nat} (ht : sx_Ty sx_T0 w) (hi : i < 64) : -1 ≤ sy_r w 95 (10 + i) ∧ sy_r w 95 (10 + i) ≤ 7 := by
  have h := sy_rg (r := 95) ht rfl (g := (10, 1, 64, 0, 0, (-1), 7)) (by decide) (k := i) (j := 0) hi (Nat.le_refl _) (Nat.le_refl _) (by show 10 + 1 * i + 0 < 2858; omega)
  rw [show 10 + i = 10 + 1 * i + 0 by omega]
  exact h
theorem rg_74 {w : pq_W} {i : Nat} (ht : sx_Ty sx_T0 w) (hi : i < 64) : 0 ≤ sy_r w 95 (74 + i) ∧ sy_r w 95 (74 + i) ≤ 1 := by
  have h := sy_rg (r := 95) ht rfl (g := (74, 1, 64, 0, 0, 0, 1)) (by decide) (k := i) (j := 0) hi (Nat.le_refl _) (Nat.le_refl _) (by show 74 + 1 * i + 0 < 2858; omega)
  rw [show 74 + i = 74 + 1 * i + 0 by omega]
  exact h
theorem rg_138 {w : pq_W} {i : Nat} (ht : sx_Ty sx_T0 w) (hi : i < 8) : 0 ≤ sy_r w 95 (138 + 6 * i) ∧ sy_r w 95 (138 + 6 * i) ≤ 9999 := by
  have h := sy_rg (r := 95) ht rfl (g := (138, 6, 8, 0, 0, 0, 9999)) (by decide) (k := i) (j := 0) hi (Nat.le_refl _) (Nat.le_refl _) (by show 138 + 6 * i + 0 < 2858; omega)
  rw [show 138 + 6 * i = 138 + 6 * i + 0 by omega]
  exact h
theorem rg_139 {w : pq_W} {i : Nat} (ht : sx_Ty sx_T0 w) (hi : i < 8) : 1 ≤ sy_r w 95 (139 + 6 * i) ∧ sy_r w 95 (139 + 6 * i) ≤ 9999 := by
  have h := sy_rg (r := 95) ht rfl (g := (138, 6, 8, 1, 1, 1, 9999)) (by decide) (k := i) (j := 1) hi (Nat.le_refl _) (Nat.le_refl _) (by show 138 + 6 * i + 1 < 2858; omega)
  rw [show 139 + 6 * i = 138 + 6 * i + 1 by omega]
  exact h
theorem rg_140 {w : pq_W} {i : Nat} (ht : sx_Ty sx_T0 w) (hi : i < 8) : 0 ≤ sy_r w 95 (140 + 6 * i) ∧ sy_r w 95 (140 + 6 * i) ≤ 9999 := by
  have h := sy_rg (r := 95) ht rfl (g := (138, 6, 8, 2, 2, 0, 9999)) (by decide) (k := i) (j := 2) hi (Nat.le_refl _) (Nat.le_refl _) (by show 138 + 6 * i + 2 < 2858; omega)
  rw [show 140 + 6 * i = 138 + 6 * i + 2 by omega]
  exact h
theorem rg_187 {w : pq_W} {i : Nat} (ht : sx_Ty sx_T0 w) (hi : i < 8) : 0 ≤ sy_r w 95 (187 + 10 * i) ∧ sy_r w 95 (187 + 10 * i) ≤ 1 := by
  have h := sy_rg (r := 95) ht rfl (g := (186, 10, 8, 1, 1, 0, 1)) (by decide) (k := i) (j := 1) hi (Nat.le_refl _) (Nat.le_refl _) (by show 186 + 10 * i + 1 < 2858; omega)
  rw [show 187 + 10 * i = 186 + 10 * i + 1 by omega]
  exact h
theorem rg_266 {w : pq_W} {i : Nat} (ht : sx_Ty sx_T0 w) (hi : i < 12) : 0 ≤ sy_r w 95 (266 + 3 * i) ∧ sy_r w 95 (266 + 3 * i) ≤ 5 := by
  have h := sy_rg (r := 95) ht rfl (g := (266, 3, 12, 0, 0, 0, 5)) (by decide) (k := i) (j := 0) hi (Nat.le_refl _) (Nat.le_refl _) (by show 266 + 3 * i + 0 < 2858; omega)
  rw [show 266 + 3 * i = 266 + 3 * i + 0 by omega]
  exact h
theorem rg_267 {w : pq_W} {i : Nat} (ht : sx_Ty sx_T0 w) (hi : i < 12) : 0 ≤ sy_r w 95 (267 + 3 * i) ∧ sy_r w 95 (267 + 3 * i) ≤ 7 := by
  have h := sy_rg (r := 95) ht rfl (g := (266, 3, 12, 1, 1, 0, 7)) (by decide) (k := i) (j := 1) hi (Nat.le_refl _) (Nat.le_refl _) (by show 266 + 3 * i + 1 < 2858; omega)
  rw [show 267 + 3 * i = 266 + 3 * i + 1 by omega]
  exact h
theorem rg_268 {w : pq_W} {i : Nat} (ht : sx_Ty sx_T0 w) (hi : i < 12) : 0 ≤ sy_r w 95 (268 + 3 * i) ∧ sy_r w 95 (268 + 3 * i) ≤ 600 := by
  have h := sy_rg (r := 95) ht rfl (g := (266, 3, 12, 2, 2, 0, 600)) (by decide) (k := i) (j := 2) hi (Nat.le_refl _) (Nat.le_refl _) (by show 266 + 3 * i + 2 < 2858; omega)
  rw [show 268 + 3 * i = 266 + 3 * i + 2 by omega]
  exact h
theorem rg_302 {w : pq_W} {i : Nat} (ht : sx_Ty sx_T0 w) (hi : i < 30) : 0 ≤ sy_r w 95 (302 + 34 * i) ∧ sy_r w 95 (302 + 34 * i) ≤ 11 := by
  have h := sy_rg (r := 95) ht rfl (g := (302, 34, 30, 0, 0, 0, 11)) (by decide) (k := i) (j := 0) hi (Nat.le_refl _) (Nat.le_refl _) (by show 302 + 34 * i + 0 < 2858; omega)
  rw [show 302 + 34 * i = 302 + 34 * i + 0 by omega]
  exact h
theorem rg_305 {w : pq_W} {i : Nat} (ht : sx_Ty sx_T0 w) (hi : i < 30) : 0 ≤ sy_r w 95 (305 + 34 * i) ∧ sy_r w 95 (305 + 34 * i) ≤ 1 := by
  have h := sy_rg (r := 95) ht rfl (g := (302, 34, 30, 3, 3, 0, 1)) (by decide) (k := i) (j := 3) hi (Nat.le_refl _) (Nat.le_refl _) (by show 302 + 34 * i + 3 < 2858; omega)
  rw [show 305 + 34 * i = 302 + 34 * i + 3 by omega]
  exact h
theorem rg_307 {w : pq_W} {i : Nat} (ht : sx_Ty sx_T0 w) (hi : i < 30) : 0 ≤ sy_r w 95 (307 + 34 * i) ∧ sy_r w 95 (307 + 34 * i) ≤ 12 := by
  have h := sy_rg (r := 95) ht rfl (g := (302, 34, 30, 5, 5, 0, 12)) (by decide) (k := i) (j := 5) hi (Nat.le_refl _) (Nat.le_refl _) (by show 302 + 34 * i + 5 < 2858; omega)
  rw [show 307 + 34 * i = 302 + 34 * i + 5 by omega]
  exact h
theorem rg_cell {w : pq_W} {i j : Nat} (ht : sx_Ty sx_T0 w) (hi : i < 30) (hj : j < 12) : 0 ≤ sy_r w 95 (308 + 34 * i + j) ∧ sy_r w 95 (308 + 34 * i + j) ≤ 63 := by
  have h := sy_rg (r := 95) ht rfl (g := (302, 34, 30, 6, 17, 0, 63)) (by decide) (k := i) (j := 6 + j) hi (by show 6 ≤ 6 + j; omega) (by show 6 + j ≤ 17; omega) (by show 302 + 34 * i + (6 + j) < 2858; omega)
  rw [show 308 + 34 * i + j = 302 + 34 * i + (6 + j) by omega]
  exact h
theorem rg_rt {w : pq_W} {i j : Nat} (ht : sx_Ty sx_T0 w) (hi : i < 30) (hj : j < 8) : 0 ≤ sy_r w 95 (328 + 34 * i + j) ∧ sy_r w 95 (328 + 34 * i + j) ≤ 9999 := by
  have h := sy_rg (r := 95) ht rfl (g := (302, 34, 30, 26, 33, 0, 9999)) (by decide) (k := i) (j := 26 + j) hi (by show 26 ≤ 26 + j; omega) (by show 26 + j ≤ 33; omega) (by show 302 + 34 * i + (26 + j) < 2858; omega)
  rw [show 328 + 34 * i + j = 302 + 34 * i + (26 + j) by omega]
  exact h
theorem rg_1322 {w : pq_W} {i : Nat} (ht : sx_Ty sx_T0 w) (hi : i < 40) : 0 ≤ sy_r w 95 (1322 + 15 * i) ∧ sy_r w 95 (1322 + 15 * i) ≤ 29 := by
  have h := sy_rg (r := 95) ht rfl (g := (1322, 15, 40, 0, 0, 0, 29)) (by decide) (k := i) (j := 0) hi (Nat.le_refl _) (Nat.le_refl _) (by show 1322 + 15 * i + 0 < 2858; omega)
  rw [show 1322 + 15 * i = 1322 + 15 * i + 0 by omega]
  exact h
theorem rg_1324 {w : pq_W} {i : Nat} (ht : sx_Ty sx_T0 w) (hi : i < 40) : 0 ≤ sy_r w 95 (1324 + 15 * i) ∧ sy_r w 95 (1324 + 15 * i) ≤ 12 := by
  have h := sy_rg (r := 95) ht rfl (g := (1322, 15, 40, 2, 2, 0, 12)) (by decide) (k := i) (j := 2) hi (Nat.le_refl _) (Nat.le_refl _) (by show 1322 + 15 * i + 2 < 2858; omega)
  rw [show 1324 + 15 * i = 1322 + 15 * i + 2 by omega]
  exact h
theorem rg_tell {w : pq_W} {i j : Nat} (ht : sx_Ty sx_T0 w) (hi : i < 40) (hj : j < 12) : -1 ≤ sy_r w 95 (1325 + 15 * i + j) ∧ sy_r w 95 (1325 + 15 * i + j) ≤ 63 := by
  have h := sy_rg (r := 95) ht rfl (g := (1322, 15, 40, 3, 14, (-1), 63)) (by decide) (k := i) (j := 3 + j) hi (by show 3 ≤ 3 + j; omega) (by show 3 + j ≤ 14; omega) (by show 1322 + 15 * i + (3 + j) < 2858; omega)
  rw [show 1325 + 15 * i + j = 1322 + 15 * i + (3 + j) by omega]
  exact h
theorem rg_1922 {w : pq_W} {i : Nat} (ht : sx_Ty sx_T0 w) (hi : i < 12) : 0 ≤ sy_r w 95 (1922 + 73 * i) ∧ sy_r w 95 (1922 + 73 * i) ≤ 3 := by
  have h := sy_rg (r := 95) ht rfl (g := (1922, 73, 12, 0, 0, 0, 3)) (by decide) (k := i) (j := 0) hi (Nat.le_refl _) (Nat.le_refl _) (by show 1922 + 73 * i + 0 < 2858; omega)
  rw [show 1922 + 73 * i = 1922 + 73 * i + 0 by omega]
  exact h
theorem rg_1924 {w : pq_W} {i : Nat} (ht : sx_Ty sx_T0 w) (hi : i < 12) : 0 ≤ sy_r w 95 (1924 + 73 * i) ∧ sy_r w 95 (1924 + 73 * i) ≤ 70 := by
  have h := sy_rg (r := 95) ht rfl (g := (1922, 73, 12, 2, 2, 0, 70)) (by decide) (k := i) (j := 2) hi (Nat.le_refl _) (Nat.le_refl _) (by show 1922 + 73 * i + 2 < 2858; omega)
  rw [show 1924 + 73 * i = 1922 + 73 * i + 2 by omega]
  exact h
theorem rg_2798 {w : pq_W} {i : Nat} (ht : sx_Ty sx_T0 w) (hi : i < 60) : 0 ≤ sy_r w 95 (2798 + i) ∧ sy_r w 95 (2798 + i) ≤ 255 := by
  have h := sy_rg (r := 95) ht rfl (g := (2798, 1, 60, 0, 0, 0, 255)) (by decide) (k := i) (j := 0) hi (Nat.le_refl _) (Nat.le_refl _) (by show 2798 + 1 * i + 0 < 2858; omega)
  rw [show 2798 + i = 2798 + 1 * i + 0 by omega]
  exact h
theorem hp_cell {w : pq_W} {x : Int32} : ∃ b : Int32, pq_Ru 1 13 [.int x] w (some (.int b), w) ∧ ((b.toInt = 1 ∧ (0 ≤ x.toInt ∧ x.toInt < 64)) ∨ (b.toInt = 0 ∧ ¬ (0 ≤ x.toInt ∧ x.toInt < 64))) := by
  have key : ∃ res, pq_Go 0 pm_13 0 (lv_args 0 [.int x]) [] w 0 0 res ∧ ∃ b : Int32, res = (some (.int b), w) ∧ ((b.toInt = 1 ∧ (0 ≤ x.toInt ∧ x.toInt < 64)) ∨ (b.toInt = 0 ∧ ¬ (0 ≤ x.toInt ∧ x.toInt < 64))) := by
    by_cases c1 : x.toInt < 0
    · refine xs_seg 1 (pc' := 1) (ls' := [(0, .int x)]) (st' := [.int x]) (w' := w) (cs' := 0) (ss' := 0) ?_ (fun _ _ => rfl)
      have k0 : (0 : Int32).toInt = 0 := rfl
      refine xs_if true rfl (bq_lt_t (by omega)) ?_
      refine xs_seg 1 (pc' := 15) (ls' := [(0, .int x)]) (st' := [.int 0]) (w' := w) (cs' := 0) (ss' := 0) ?_ (fun _ _ => rfl)
      exact ⟨_, go_end 1 (fun _ _ => rfl), 0, rfl, Or.inr ⟨rfl, by omega⟩⟩
    · refine xs_seg 1 (pc' := 1) (ls' := [(0, .int x)]) (st' := [.int x]) (w' := w) (cs' := 0) (ss' := 0) ?_ (fun _ _ => rfl)
      have k0 : (0 : Int32).toInt = 0 := rfl
      refine xs_if false rfl (bq_lt_f (by omega)) ?_
      by_cases c2 : x.toInt < 64
      · refine xs_seg 2 (pc' := 7) (ls' := [(0, .int x)]) (st' := [.int 64, .int x]) (w' := w) (cs' := 0) (ss' := 0) ?_ (fun _ _ => rfl)
        have k64 : (64 : Int32).toInt = 64 := rfl
        refine xs_cmp false rfl (bq_ge_f (by omega)) ?_
        refine xs_seg 2 (pc' := 15) (ls' := [(0, .int x)]) (st' := [.int 1]) (w' := w) (cs' := 0) (ss' := 0) ?_ (fun _ _ => rfl)
        exact ⟨_, go_end 1 (fun _ _ => rfl), 1, rfl, Or.inl ⟨rfl, by omega⟩⟩
      · refine xs_seg 2 (pc' := 7) (ls' := [(0, .int x)]) (st' := [.int 64, .int x]) (w' := w) (cs' := 0) (ss' := 0) ?_ (fun _ _ => rfl)
        have k64 : (64 : Int32).toInt = 64 := rfl
        refine xs_cmp true rfl (bq_ge_t (by omega)) ?_
        refine xs_seg 1 (pc' := 15) (ls' := [(0, .int x)]) (st' := [.int 0]) (w' := w) (cs' := 0) (ss' := 0) ?_ (fun _ _ => rfl)
        exact ⟨_, go_end 1 (fun _ _ => rfl), 0, rfl, Or.inr ⟨rfl, by omega⟩⟩
  obtain ⟨res, g, b, e, h⟩ := key
  subst e
  exact ⟨b, ru_of (k := 0) (M := pm_13) rfl rfl g, h⟩
theorem hp_lon {w : pq_W} {x : Int32} : ∃ b : Int32, pq_Ru 1 14 [.int x] w (some (.int b), w) ∧ ((b.toInt = 1 ∧ (-1 ≤ x.toInt ∧ x.toInt < 8)) ∨ (b.toInt = 0 ∧ ¬ (-1 ≤ x.toInt ∧ x.toInt < 8))) := by
  have key : ∃ res, pq_Go 0 pm_14 0 (lv_args 0 [.int x]) [] w 0 0 res ∧ ∃ b : Int32, res = (some (.int b), w) ∧ ((b.toInt = 1 ∧ (-1 ≤ x.toInt ∧ x.toInt < 8)) ∨ (b.toInt = 0 ∧ ¬ (-1 ≤ x.toInt ∧ x.toInt < 8))) := by
    by_cases c1 : x.toInt < -1
    · refine xs_seg 2 (pc' := 2) (ls' := [(0, .int x)]) (st' := [.int (-1), .int x]) (w' := w) (cs' := 0) (ss' := 0) ?_ (fun _ _ => rfl)
      have km1 : (-1 : Int32).toInt = -1 := rfl
      refine xs_cmp true rfl (bq_lt_t (by omega)) ?_
      refine xs_seg 1 (pc' := 16) (ls' := [(0, .int x)]) (st' := [.int 0]) (w' := w) (cs' := 0) (ss' := 0) ?_ (fun _ _ => rfl)
      exact ⟨_, go_end 1 (fun _ _ => rfl), 0, rfl, Or.inr ⟨rfl, by omega⟩⟩
    · refine xs_seg 2 (pc' := 2) (ls' := [(0, .int x)]) (st' := [.int (-1), .int x]) (w' := w) (cs' := 0) (ss' := 0) ?_ (fun _ _ => rfl)
      have km1 : (-1 : Int32).toInt = -1 := rfl
      refine xs_cmp false rfl (bq_lt_f (by omega)) ?_
      by_cases c2 : x.toInt < 8
      · refine xs_seg 2 (pc' := 8) (ls' := [(0, .int x)]) (st' := [.int 8, .int x]) (w' := w) (cs' := 0) (ss' := 0) ?_ (fun _ _ => rfl)
        have k8 : (8 : Int32).toInt = 8 := rfl
        refine xs_cmp false rfl (bq_ge_f (by omega)) ?_
        refine xs_seg 2 (pc' := 16) (ls' := [(0, .int x)]) (st' := [.int 1]) (w' := w) (cs' := 0) (ss' := 0) ?_ (fun _ _ => rfl)
        exact ⟨_, go_end 1 (fun _ _ => rfl), 1, rfl, Or.inl ⟨rfl, by omega⟩⟩
      · refine xs_seg 2 (pc' := 8) (ls' := [(0, .int x)]) (st' := [.int 8, .int x]) (w' := w) (cs' := 0) (ss' := 0) ?_ (fun _ _ => rfl)
        have k8 : (8 : Int32).toInt = 8 := rfl
        refine xs_cmp true rfl (bq_ge_t (by omega)) ?_
        refine xs_seg 1 (pc' := 16) (ls' := [(0, .int x)]) (st' := [.int 0]) (w' := w) (cs' := 0) (ss' := 0) ?_ (fun _ _ => rfl)
        exact ⟨_, go_end 1 (fun _ _ => rfl), 0, rfl, Or.inr ⟨rfl, by omega⟩⟩
  obtain ⟨res, g, b, e, h⟩ := key
  subst e
  exact ⟨b, ru_of (k := 0) (M := pm_14) rfl rfl g, h⟩
theorem hp_land {w : pq_W} {x : Int32} : ∃ b : Int32, pq_Ru 1 24 [.int x] w (some (.int b), w) ∧ ((b.toInt = 1 ∧ (0 ≤ x.toInt ∧ x.toInt < 8)) ∨ (b.toInt = 0 ∧ ¬ (0 ≤ x.toInt ∧ x.toInt < 8))) := by
  have key : ∃ res, pq_Go 0 pm_24 0 (lv_args 0 [.int x]) [] w 0 0 res ∧ ∃ b : Int32, res = (some (.int b), w) ∧ ((b.toInt = 1 ∧ (0 ≤ x.toInt ∧ x.toInt < 8)) ∨ (b.toInt = 0 ∧ ¬ (0 ≤ x.toInt ∧ x.toInt < 8))) := by
    by_cases c1 : x.toInt < 0
    · refine xs_seg 1 (pc' := 1) (ls' := [(0, .int x)]) (st' := [.int x]) (w' := w) (cs' := 0) (ss' := 0) ?_ (fun _ _ => rfl)
      have k0 : (0 : Int32).toInt = 0 := rfl
      refine xs_if true rfl (bq_lt_t (by omega)) ?_
      refine xs_seg 1 (pc' := 15) (ls' := [(0, .int x)]) (st' := [.int 0]) (w' := w) (cs' := 0) (ss' := 0) ?_ (fun _ _ => rfl)
      exact ⟨_, go_end 1 (fun _ _ => rfl), 0, rfl, Or.inr ⟨rfl, by omega⟩⟩
    · refine xs_seg 1 (pc' := 1) (ls' := [(0, .int x)]) (st' := [.int x]) (w' := w) (cs' := 0) (ss' := 0) ?_ (fun _ _ => rfl)
      have k0 : (0 : Int32).toInt = 0 := rfl
      refine xs_if false rfl (bq_lt_f (by omega)) ?_
      by_cases c2 : x.toInt < 8
      · refine xs_seg 2 (pc' := 7) (ls' := [(0, .int x)]) (st' := [.int 8, .int x]) (w' := w) (cs' := 0) (ss' := 0) ?_ (fun _ _ => rfl)
        have k8 : (8 : Int32).toInt = 8 := rfl
        refine xs_cmp false rfl (bq_ge_f (by omega)) ?_
        refine xs_seg 2 (pc' := 15) (ls' := [(0, .int x)]) (st' := [.int 1]) (w' := w) (cs' := 0) (ss' := 0) ?_ (fun _ _ => rfl)
        exact ⟨_, go_end 1 (fun _ _ => rfl), 1, rfl, Or.inl ⟨rfl, by omega⟩⟩
      · refine xs_seg 2 (pc' := 7) (ls' := [(0, .int x)]) (st' := [.int 8, .int x]) (w' := w) (cs' := 0) (ss' := 0) ?_ (fun _ _ => rfl)
        have k8 : (8 : Int32).toInt = 8 := rfl
        refine xs_cmp true rfl (bq_ge_t (by omega)) ?_
        refine xs_seg 1 (pc' := 15) (ls' := [(0, .int x)]) (st' := [.int 0]) (w' := w) (cs' := 0) (ss' := 0) ?_ (fun _ _ => rfl)
        exact ⟨_, go_end 1 (fun _ _ => rfl), 0, rfl, Or.inr ⟨rfl, by omega⟩⟩
  obtain ⟨res, g, b, e, h⟩ := key
  subst e
  exact ⟨b, ru_of (k := 0) (M := pm_24) rfl rfl g, h⟩
theorem hp_kind {w : pq_W} {x : Int32} : ∃ b : Int32, pq_Ru 1 32 [.int x] w (some (.int b), w) ∧ ((b.toInt = 1 ∧ (0 ≤ x.toInt ∧ x.toInt < 6)) ∨ (b.toInt = 0 ∧ ¬ (0 ≤ x.toInt ∧ x.toInt < 6))) := by
  have key : ∃ res, pq_Go 0 pm_32 0 (lv_args 0 [.int x]) [] w 0 0 res ∧ ∃ b : Int32, res = (some (.int b), w) ∧ ((b.toInt = 1 ∧ (0 ≤ x.toInt ∧ x.toInt < 6)) ∨ (b.toInt = 0 ∧ ¬ (0 ≤ x.toInt ∧ x.toInt < 6))) := by
    by_cases c1 : x.toInt < 0
    · refine xs_seg 1 (pc' := 1) (ls' := [(0, .int x)]) (st' := [.int x]) (w' := w) (cs' := 0) (ss' := 0) ?_ (fun _ _ => rfl)
      have k0 : (0 : Int32).toInt = 0 := rfl
      refine xs_if true rfl (bq_lt_t (by omega)) ?_
      refine xs_seg 1 (pc' := 15) (ls' := [(0, .int x)]) (st' := [.int 0]) (w' := w) (cs' := 0) (ss' := 0) ?_ (fun _ _ => rfl)
      exact ⟨_, go_end 1 (fun _ _ => rfl), 0, rfl, Or.inr ⟨rfl, by omega⟩⟩
    · refine xs_seg 1 (pc' := 1) (ls' := [(0, .int x)]) (st' := [.int x]) (w' := w) (cs' := 0) (ss' := 0) ?_ (fun _ _ => rfl)
      have k0 : (0 : Int32).toInt = 0 := rfl
      refine xs_if false rfl (bq_lt_f (by omega)) ?_
      by_cases c2 : x.toInt < 6
      · refine xs_seg 2 (pc' := 7) (ls' := [(0, .int x)]) (st' := [.int 6, .int x]) (w' := w) (cs' := 0) (ss' := 0) ?_ (fun _ _ => rfl)
        have k6 : (6 : Int32).toInt = 6 := rfl
        refine xs_cmp false rfl (bq_ge_f (by omega)) ?_
        refine xs_seg 2 (pc' := 15) (ls' := [(0, .int x)]) (st' := [.int 1]) (w' := w) (cs' := 0) (ss' := 0) ?_ (fun _ _ => rfl)
        exact ⟨_, go_end 1 (fun _ _ => rfl), 1, rfl, Or.inl ⟨rfl, by omega⟩⟩
      · refine xs_seg 2 (pc' := 7) (ls' := [(0, .int x)]) (st' := [.int 6, .int x]) (w' := w) (cs' := 0) (ss' := 0) ?_ (fun _ _ => rfl)
        have k6 : (6 : Int32).toInt = 6 := rfl
        refine xs_cmp true rfl (bq_ge_t (by omega)) ?_
        refine xs_seg 1 (pc' := 15) (ls' := [(0, .int x)]) (st' := [.int 0]) (w' := w) (cs' := 0) (ss' := 0) ?_ (fun _ _ => rfl)
        exact ⟨_, go_end 1 (fun _ _ => rfl), 0, rfl, Or.inr ⟨rfl, by omega⟩⟩
  obtain ⟨res, g, b, e, h⟩ := key
  subst e
  exact ⟨b, ru_of (k := 0) (M := pm_32) rfl rfl g, h⟩
theorem hp_rp {w : pq_W} {x : Int32} : ∃ b : Int32, pq_Ru 1 88 [.int x] w (some (.int b), w) ∧ ((b.toInt = 1 ∧ (0 ≤ x.toInt ∧ x.toInt < 70)) ∨ (b.toInt = 0 ∧ ¬ (0 ≤ x.toInt ∧ x.toInt < 70))) := by
  have key : ∃ res, pq_Go 0 pm_88 0 (lv_args 0 [.int x]) [] w 0 0 res ∧ ∃ b : Int32, res = (some (.int b), w) ∧ ((b.toInt = 1 ∧ (0 ≤ x.toInt ∧ x.toInt < 70)) ∨ (b.toInt = 0 ∧ ¬ (0 ≤ x.toInt ∧ x.toInt < 70))) := by
    by_cases c1 : x.toInt < 0
    · refine xs_seg 1 (pc' := 1) (ls' := [(0, .int x)]) (st' := [.int x]) (w' := w) (cs' := 0) (ss' := 0) ?_ (fun _ _ => rfl)
      have k0 : (0 : Int32).toInt = 0 := rfl
      refine xs_if true rfl (bq_lt_t (by omega)) ?_
      refine xs_seg 1 (pc' := 15) (ls' := [(0, .int x)]) (st' := [.int 0]) (w' := w) (cs' := 0) (ss' := 0) ?_ (fun _ _ => rfl)
      exact ⟨_, go_end 1 (fun _ _ => rfl), 0, rfl, Or.inr ⟨rfl, by omega⟩⟩
    · refine xs_seg 1 (pc' := 1) (ls' := [(0, .int x)]) (st' := [.int x]) (w' := w) (cs' := 0) (ss' := 0) ?_ (fun _ _ => rfl)
      have k0 : (0 : Int32).toInt = 0 := rfl
      refine xs_if false rfl (bq_lt_f (by omega)) ?_
      by_cases c2 : x.toInt < 70
      · refine xs_seg 2 (pc' := 7) (ls' := [(0, .int x)]) (st' := [.int 70, .int x]) (w' := w) (cs' := 0) (ss' := 0) ?_ (fun _ _ => rfl)
        have k70 : (70 : Int32).toInt = 70 := rfl
        refine xs_cmp false rfl (bq_ge_f (by omega)) ?_
        refine xs_seg 2 (pc' := 15) (ls' := [(0, .int x)]) (st' := [.int 1]) (w' := w) (cs' := 0) (ss' := 0) ?_ (fun _ _ => rfl)
        exact ⟨_, go_end 1 (fun _ _ => rfl), 1, rfl, Or.inl ⟨rfl, by omega⟩⟩
      · refine xs_seg 2 (pc' := 7) (ls' := [(0, .int x)]) (st' := [.int 70, .int x]) (w' := w) (cs' := 0) (ss' := 0) ?_ (fun _ _ => rfl)
        have k70 : (70 : Int32).toInt = 70 := rfl
        refine xs_cmp true rfl (bq_ge_t (by omega)) ?_
        refine xs_seg 1 (pc' := 15) (ls' := [(0, .int x)]) (st' := [.int 0]) (w' := w) (cs' := 0) (ss' := 0) ?_ (fun _ _ => rfl)
        exact ⟨_, go_end 1 (fun _ _ => rfl), 0, rfl, Or.inr ⟨rfl, by omega⟩⟩
  obtain ⟨res, g, b, e, h⟩ := key
  subst e
  exact ⟨b, ru_of (k := 0) (M := pm_88) rfl rfl g, h⟩
theorem hp_sh {w : pq_W} {x : Int32} : ∃ b : Int32, pq_Ru 1 18 [.int x] w (some (.int b), w) ∧ ((b.toInt = 1 ∧ (0 ≤ x.toInt ∧ x.toInt < 4)) ∨ (b.toInt = 0 ∧ ¬ (0 ≤ x.toInt ∧ x.toInt < 4))) := by
  have key : ∃ res, pq_Go 0 pm_18 0 (lv_args 0 [.int x]) [] w 0 0 res ∧ ∃ b : Int32, res = (some (.int b), w) ∧ ((b.toInt = 1 ∧ (0 ≤ x.toInt ∧ x.toInt < 4)) ∨ (b.toInt = 0 ∧ ¬ (0 ≤ x.toInt ∧ x.toInt < 4))) := by
    by_cases c1 : x.toInt < 0
    · refine xs_seg 1 (pc' := 1) (ls' := [(0, .int x)]) (st' := [.int x]) (w' := w) (cs' := 0) (ss' := 0) ?_ (fun _ _ => rfl)
      have k0 : (0 : Int32).toInt = 0 := rfl
      refine xs_if true rfl (bq_lt_t (by omega)) ?_
      refine xs_seg 1 (pc' := 14) (ls' := [(0, .int x)]) (st' := [.int 0]) (w' := w) (cs' := 0) (ss' := 0) ?_ (fun _ _ => rfl)
      exact ⟨_, go_end 1 (fun _ _ => rfl), 0, rfl, Or.inr ⟨rfl, by omega⟩⟩
    · refine xs_seg 1 (pc' := 1) (ls' := [(0, .int x)]) (st' := [.int x]) (w' := w) (cs' := 0) (ss' := 0) ?_ (fun _ _ => rfl)
      have k0 : (0 : Int32).toInt = 0 := rfl
      refine xs_if false rfl (bq_lt_f (by omega)) ?_
      by_cases c2 : x.toInt < 4
      · refine xs_seg 2 (pc' := 6) (ls' := [(0, .int x)]) (st' := [.int 4, .int x]) (w' := w) (cs' := 0) (ss' := 0) ?_ (fun _ _ => rfl)
        have k4 : (4 : Int32).toInt = 4 := rfl
        refine xs_cmp false rfl (bq_ge_f (by omega)) ?_
        refine xs_seg 2 (pc' := 14) (ls' := [(0, .int x)]) (st' := [.int 1]) (w' := w) (cs' := 0) (ss' := 0) ?_ (fun _ _ => rfl)
        exact ⟨_, go_end 1 (fun _ _ => rfl), 1, rfl, Or.inl ⟨rfl, by omega⟩⟩
      · refine xs_seg 2 (pc' := 6) (ls' := [(0, .int x)]) (st' := [.int 4, .int x]) (w' := w) (cs' := 0) (ss' := 0) ?_ (fun _ _ => rfl)
        have k4 : (4 : Int32).toInt = 4 := rfl
        refine xs_cmp true rfl (bq_ge_t (by omega)) ?_
        refine xs_seg 1 (pc' := 14) (ls' := [(0, .int x)]) (st' := [.int 0]) (w' := w) (cs' := 0) (ss' := 0) ?_ (fun _ _ => rfl)
        exact ⟨_, go_end 1 (fun _ _ => rfl), 0, rfl, Or.inr ⟨rfl, by omega⟩⟩
  obtain ⟨res, g, b, e, h⟩ := key
  subst e
  exact ⟨b, ru_of (k := 0) (M := pm_18) rfl rfl g, h⟩
theorem hp_al {w : pq_W} {x : Int32} (ht : sx_Ty sx_T0 w) : ∃ b : Int32, pq_Ru 1 33 [.ref 15, .int x] w (some (.int b), w) ∧ ((b.toInt = 1 ∧ (0 ≤ x.toInt ∧ x.toInt < sy_r w 15 0)) ∨ (b.toInt = 0 ∧ ¬ (0 ≤ x.toInt ∧ x.toInt < sy_r w 15 0))) := by
  have key : ∃ res, pq_Go 0 pm_33 0 (lv_args 0 [.ref 15, .int x]) [] w 0 0 res ∧ ∃ b : Int32, res = (some (.int b), w) ∧ ((b.toInt = 1 ∧ (0 ≤ x.toInt ∧ x.toInt < sy_r w 15 0)) ∨ (b.toInt = 0 ∧ ¬ (0 ≤ x.toInt ∧ x.toInt < sy_r w 15 0))) := by
    by_cases c1 : x.toInt < 0
    · refine xs_seg 1 (pc' := 1) (ls' := [(0, .ref 15), (1, .int x)]) (st' := [.int x]) (w' := w) (cs' := 0) (ss' := 0) ?_ (fun _ _ => rfl)
      have k0 : (0 : Int32).toInt = 0 := rfl
      refine xs_if true rfl (bq_lt_t (by omega)) ?_
      refine xs_seg 1 (pc' := 23) (ls' := [(0, .ref 15), (1, .int x)]) (st' := [.int 0]) (w' := w) (cs' := 0) (ss' := 0) ?_ (fun _ _ => rfl)
      exact ⟨_, go_end 1 (fun _ _ => rfl), 0, rfl, Or.inr ⟨rfl, by omega⟩⟩
    · refine xs_seg 1 (pc' := 1) (ls' := [(0, .ref 15), (1, .int x)]) (st' := [.int x]) (w' := w) (cs' := 0) (ss' := 0) ?_ (fun _ _ => rfl)
      have k0 : (0 : Int32).toInt = 0 := rfl
      refine xs_if false rfl (bq_lt_f (by omega)) ?_
      refine xs_seg 2 (pc' := 6) (ls' := [(0, .ref 15), (1, .int x)]) (st' := [.ref 15, .int x]) (w' := w) (cs' := 0) (ss' := 0) ?_ (fun _ _ => rfl)
      obtain ⟨v2, gv2, lv2, uv2⟩ := wg_int (r := 15) (i := 0) ht rfl rfl
      have rv2 : v2.toInt = sy_r w 15 0 := (sy_r_of gv2).symm
      refine xs_gf (z := .int v2) rfl ht rfl rfl gv2 ?_
      by_cases c3 : x.toInt < sy_r w 15 0
      · refine xs_cmp false rfl (bq_ge_f (by omega)) ?_
        refine xs_seg 2 (pc' := 15) (ls' := [(0, .ref 15), (1, .int x)]) (st' := [.int 8, .int x]) (w' := w) (cs' := 0) (ss' := 0) ?_ (fun _ _ => rfl)
        have k8 : (8 : Int32).toInt = 8 := rfl
        refine xs_cmp false rfl (bq_ge_f (by omega)) ?_
        refine xs_seg 2 (pc' := 23) (ls' := [(0, .ref 15), (1, .int x)]) (st' := [.int 1]) (w' := w) (cs' := 0) (ss' := 0) ?_ (fun _ _ => rfl)
        exact ⟨_, go_end 1 (fun _ _ => rfl), 1, rfl, Or.inl ⟨rfl, by omega⟩⟩
      · refine xs_cmp true rfl (bq_ge_t (by omega)) ?_
        refine xs_seg 1 (pc' := 23) (ls' := [(0, .ref 15), (1, .int x)]) (st' := [.int 0]) (w' := w) (cs' := 0) (ss' := 0) ?_ (fun _ _ => rfl)
        exact ⟨_, go_end 1 (fun _ _ => rfl), 0, rfl, Or.inr ⟨rfl, by omega⟩⟩
  obtain ⟨res, g, b, e, h⟩ := key
  subst e
  exact ⟨b, ru_of (k := 0) (M := pm_33) rfl (by rw [Bool.and_eq_true]; exact ⟨rfl, sq_rcv ht rfl rfl rfl⟩) g, h⟩
theorem hp_pl {w : pq_W} {x : Int32} (ht : sx_Ty sx_T0 w) : ∃ b : Int32, pq_Ru 1 36 [.ref 15, .int x] w (some (.int b), w) ∧ ((b.toInt = 1 ∧ (0 ≤ x.toInt ∧ x.toInt < sy_r w 15 4)) ∨ (b.toInt = 0 ∧ ¬ (0 ≤ x.toInt ∧ x.toInt < sy_r w 15 4))) := by
  have key : ∃ res, pq_Go 0 pm_36 0 (lv_args 0 [.ref 15, .int x]) [] w 0 0 res ∧ ∃ b : Int32, res = (some (.int b), w) ∧ ((b.toInt = 1 ∧ (0 ≤ x.toInt ∧ x.toInt < sy_r w 15 4)) ∨ (b.toInt = 0 ∧ ¬ (0 ≤ x.toInt ∧ x.toInt < sy_r w 15 4))) := by
    by_cases c1 : x.toInt < 0
    · refine xs_seg 1 (pc' := 1) (ls' := [(0, .ref 15), (1, .int x)]) (st' := [.int x]) (w' := w) (cs' := 0) (ss' := 0) ?_ (fun _ _ => rfl)
      have k0 : (0 : Int32).toInt = 0 := rfl
      refine xs_if true rfl (bq_lt_t (by omega)) ?_
      refine xs_seg 1 (pc' := 23) (ls' := [(0, .ref 15), (1, .int x)]) (st' := [.int 0]) (w' := w) (cs' := 0) (ss' := 0) ?_ (fun _ _ => rfl)
      exact ⟨_, go_end 1 (fun _ _ => rfl), 0, rfl, Or.inr ⟨rfl, by omega⟩⟩
    · refine xs_seg 1 (pc' := 1) (ls' := [(0, .ref 15), (1, .int x)]) (st' := [.int x]) (w' := w) (cs' := 0) (ss' := 0) ?_ (fun _ _ => rfl)
      have k0 : (0 : Int32).toInt = 0 := rfl
      refine xs_if false rfl (bq_lt_f (by omega)) ?_
      refine xs_seg 2 (pc' := 6) (ls' := [(0, .ref 15), (1, .int x)]) (st' := [.ref 15, .int x]) (w' := w) (cs' := 0) (ss' := 0) ?_ (fun _ _ => rfl)
      obtain ⟨v2, gv2, lv2, uv2⟩ := wg_int (r := 15) (i := 4) ht rfl rfl
      have rv2 : v2.toInt = sy_r w 15 4 := (sy_r_of gv2).symm
      refine xs_gf (z := .int v2) rfl ht rfl rfl gv2 ?_
      by_cases c3 : x.toInt < sy_r w 15 4
      · refine xs_cmp false rfl (bq_ge_f (by omega)) ?_
        refine xs_seg 2 (pc' := 15) (ls' := [(0, .ref 15), (1, .int x)]) (st' := [.int 12, .int x]) (w' := w) (cs' := 0) (ss' := 0) ?_ (fun _ _ => rfl)
        have k12 : (12 : Int32).toInt = 12 := rfl
        refine xs_cmp false rfl (bq_ge_f (by omega)) ?_
        refine xs_seg 2 (pc' := 23) (ls' := [(0, .ref 15), (1, .int x)]) (st' := [.int 1]) (w' := w) (cs' := 0) (ss' := 0) ?_ (fun _ _ => rfl)
        exact ⟨_, go_end 1 (fun _ _ => rfl), 1, rfl, Or.inl ⟨rfl, by omega⟩⟩
      · refine xs_cmp true rfl (bq_ge_t (by omega)) ?_
        refine xs_seg 1 (pc' := 23) (ls' := [(0, .ref 15), (1, .int x)]) (st' := [.int 0]) (w' := w) (cs' := 0) (ss' := 0) ?_ (fun _ _ => rfl)
        exact ⟨_, go_end 1 (fun _ _ => rfl), 0, rfl, Or.inr ⟨rfl, by omega⟩⟩
  obtain ⟨res, g, b, e, h⟩ := key
  subst e
  exact ⟨b, ru_of (k := 0) (M := pm_36) rfl (by rw [Bool.and_eq_true]; exact ⟨rfl, sq_rcv ht rfl rfl rfl⟩) g, h⟩
theorem hp_fl {w : pq_W} {x : Int32} (ht : sx_Ty sx_T0 w) : ∃ b : Int32, pq_Ru 1 41 [.ref 29, .int x] w (some (.int b), w) ∧ ((b.toInt = 1 ∧ (0 ≤ x.toInt ∧ x.toInt < sy_r w 29 0)) ∨ (b.toInt = 0 ∧ ¬ (0 ≤ x.toInt ∧ x.toInt < sy_r w 29 0))) := by
  have key : ∃ res, pq_Go 0 pm_41 0 (lv_args 0 [.ref 29, .int x]) [] w 0 0 res ∧ ∃ b : Int32, res = (some (.int b), w) ∧ ((b.toInt = 1 ∧ (0 ≤ x.toInt ∧ x.toInt < sy_r w 29 0)) ∨ (b.toInt = 0 ∧ ¬ (0 ≤ x.toInt ∧ x.toInt < sy_r w 29 0))) := by
    by_cases c1 : x.toInt < 0
    · refine xs_seg 1 (pc' := 1) (ls' := [(0, .ref 29), (1, .int x)]) (st' := [.int x]) (w' := w) (cs' := 0) (ss' := 0) ?_ (fun _ _ => rfl)
      have k0 : (0 : Int32).toInt = 0 := rfl
      refine xs_if true rfl (bq_lt_t (by omega)) ?_
      refine xs_seg 1 (pc' := 23) (ls' := [(0, .ref 29), (1, .int x)]) (st' := [.int 0]) (w' := w) (cs' := 0) (ss' := 0) ?_ (fun _ _ => rfl)
      exact ⟨_, go_end 1 (fun _ _ => rfl), 0, rfl, Or.inr ⟨rfl, by omega⟩⟩
    · refine xs_seg 1 (pc' := 1) (ls' := [(0, .ref 29), (1, .int x)]) (st' := [.int x]) (w' := w) (cs' := 0) (ss' := 0) ?_ (fun _ _ => rfl)
      have k0 : (0 : Int32).toInt = 0 := rfl
      refine xs_if false rfl (bq_lt_f (by omega)) ?_
      refine xs_seg 2 (pc' := 6) (ls' := [(0, .ref 29), (1, .int x)]) (st' := [.ref 29, .int x]) (w' := w) (cs' := 0) (ss' := 0) ?_ (fun _ _ => rfl)
      obtain ⟨v2, gv2, lv2, uv2⟩ := wg_int (r := 29) (i := 0) ht rfl rfl
      have rv2 : v2.toInt = sy_r w 29 0 := (sy_r_of gv2).symm
      refine xs_gf (z := .int v2) rfl ht rfl rfl gv2 ?_
      by_cases c3 : x.toInt < sy_r w 29 0
      · refine xs_cmp false rfl (bq_ge_f (by omega)) ?_
        refine xs_seg 2 (pc' := 15) (ls' := [(0, .ref 29), (1, .int x)]) (st' := [.int 30, .int x]) (w' := w) (cs' := 0) (ss' := 0) ?_ (fun _ _ => rfl)
        have k30 : (30 : Int32).toInt = 30 := rfl
        refine xs_cmp false rfl (bq_ge_f (by omega)) ?_
        refine xs_seg 2 (pc' := 23) (ls' := [(0, .ref 29), (1, .int x)]) (st' := [.int 1]) (w' := w) (cs' := 0) (ss' := 0) ?_ (fun _ _ => rfl)
        exact ⟨_, go_end 1 (fun _ _ => rfl), 1, rfl, Or.inl ⟨rfl, by omega⟩⟩
      · refine xs_cmp true rfl (bq_ge_t (by omega)) ?_
        refine xs_seg 1 (pc' := 23) (ls' := [(0, .ref 29), (1, .int x)]) (st' := [.int 0]) (w' := w) (cs' := 0) (ss' := 0) ?_ (fun _ _ => rfl)
        exact ⟨_, go_end 1 (fun _ _ => rfl), 0, rfl, Or.inr ⟨rfl, by omega⟩⟩
  obtain ⟨res, g, b, e, h⟩ := key
  subst e
  exact ⟨b, ru_of (k := 0) (M := pm_41) rfl (by rw [Bool.and_eq_true]; exact ⟨rfl, sq_rcv ht rfl rfl rfl⟩) g, h⟩
theorem hp_lw {w : pq_W} {x : Int32} (ht : sx_Ty sx_T0 w) : ∃ b : Int32, pq_Ru 1 45 [.ref 23, .int x] w (some (.int b), w) ∧ ((b.toInt = 1 ∧ (0 ≤ x.toInt ∧ x.toInt < sy_r w 23 2)) ∨ (b.toInt = 0 ∧ ¬ (0 ≤ x.toInt ∧ x.toInt < sy_r w 23 2))) := by
  have key : ∃ res, pq_Go 0 pm_45 0 (lv_args 0 [.ref 23, .int x]) [] w 0 0 res ∧ ∃ b : Int32, res = (some (.int b), w) ∧ ((b.toInt = 1 ∧ (0 ≤ x.toInt ∧ x.toInt < sy_r w 23 2)) ∨ (b.toInt = 0 ∧ ¬ (0 ≤ x.toInt ∧ x.toInt < sy_r w 23 2))) := by
    by_cases c1 : x.toInt < 0
    · refine xs_seg 1 (pc' := 1) (ls' := [(0, .ref 23), (1, .int x)]) (st' := [.int x]) (w' := w) (cs' := 0) (ss' := 0) ?_ (fun _ _ => rfl)
      have k0 : (0 : Int32).toInt = 0 := rfl
      refine xs_if true rfl (bq_lt_t (by omega)) ?_
      refine xs_seg 1 (pc' := 23) (ls' := [(0, .ref 23), (1, .int x)]) (st' := [.int 0]) (w' := w) (cs' := 0) (ss' := 0) ?_ (fun _ _ => rfl)
      exact ⟨_, go_end 1 (fun _ _ => rfl), 0, rfl, Or.inr ⟨rfl, by omega⟩⟩
    · refine xs_seg 1 (pc' := 1) (ls' := [(0, .ref 23), (1, .int x)]) (st' := [.int x]) (w' := w) (cs' := 0) (ss' := 0) ?_ (fun _ _ => rfl)
      have k0 : (0 : Int32).toInt = 0 := rfl
      refine xs_if false rfl (bq_lt_f (by omega)) ?_
      refine xs_seg 2 (pc' := 6) (ls' := [(0, .ref 23), (1, .int x)]) (st' := [.ref 23, .int x]) (w' := w) (cs' := 0) (ss' := 0) ?_ (fun _ _ => rfl)
      obtain ⟨v2, gv2, lv2, uv2⟩ := wg_int (r := 23) (i := 2) ht rfl rfl
      have rv2 : v2.toInt = sy_r w 23 2 := (sy_r_of gv2).symm
      refine xs_gf (z := .int v2) rfl ht rfl rfl gv2 ?_
      by_cases c3 : x.toInt < sy_r w 23 2
      · refine xs_cmp false rfl (bq_ge_f (by omega)) ?_
        refine xs_seg 2 (pc' := 15) (ls' := [(0, .ref 23), (1, .int x)]) (st' := [.int 12, .int x]) (w' := w) (cs' := 0) (ss' := 0) ?_ (fun _ _ => rfl)
        have k12 : (12 : Int32).toInt = 12 := rfl
        refine xs_cmp false rfl (bq_ge_f (by omega)) ?_
        refine xs_seg 2 (pc' := 23) (ls' := [(0, .ref 23), (1, .int x)]) (st' := [.int 1]) (w' := w) (cs' := 0) (ss' := 0) ?_ (fun _ _ => rfl)
        exact ⟨_, go_end 1 (fun _ _ => rfl), 1, rfl, Or.inl ⟨rfl, by omega⟩⟩
      · refine xs_cmp true rfl (bq_ge_t (by omega)) ?_
        refine xs_seg 1 (pc' := 23) (ls' := [(0, .ref 23), (1, .int x)]) (st' := [.int 0]) (w' := w) (cs' := 0) (ss' := 0) ?_ (fun _ _ => rfl)
        exact ⟨_, go_end 1 (fun _ _ => rfl), 0, rfl, Or.inr ⟨rfl, by omega⟩⟩
  obtain ⟨res, g, b, e, h⟩ := key
  subst e
  exact ⟨b, ru_of (k := 0) (M := pm_45) rfl (by rw [Bool.and_eq_true]; exact ⟨rfl, sq_rcv ht rfl rfl rfl⟩) g, h⟩
theorem hr_cell {w : pq_W} {x : Int32} : ∃ b : Int32, pq_Ru 2 160 [.int x] w (some (.int b), w) ∧ ((b.toInt = 1 ∧ (0 ≤ x.toInt ∧ x.toInt ≤ 63)) ∨ (b.toInt = 0 ∧ ¬ (0 ≤ x.toInt ∧ x.toInt ≤ 63))) := by
  have key : ∃ res, pq_Go 1 pm_160 0 (lv_args 0 [.int x]) [] w 0 0 res ∧ ∃ b : Int32, res = (some (.int b), w) ∧ ((b.toInt = 1 ∧ (0 ≤ x.toInt ∧ x.toInt ≤ 63)) ∨ (b.toInt = 0 ∧ ¬ (0 ≤ x.toInt ∧ x.toInt ≤ 63))) := by
    refine xs_seg 4 (pc' := 6) (ls' := [(0, .int x)]) (st' := [.long 63, .long 0, .long (x).toInt64]) (w' := w) (cs' := 0) (ss' := 0) ?_ (fun _ _ => rfl)
    obtain ⟨b1, rb1, hb1⟩ := wi_b w x 0 63 (l := 0) (h := 63) rfl rfl
    unfold bo at hb1
    refine xs_cl (as := [.long (x).toInt64, .long 0, .long 63]) (rv := some (.int b1)) (st' := [.int b1]) (cs' := 0) (ss' := 0) (k1 := 1) rfl rfl rfl rfl rfl rfl rfl rb1 ?_
    rcases hb1 with e | e
    · obtain rfl : b1 = 1 := Int32.toInt_inj.mp e.1
      exact ⟨_, go_end 1 (fun _ _ => rfl), 1, rfl, Or.inl ⟨rfl, by omega⟩⟩
    · obtain rfl : b1 = 0 := Int32.toInt_inj.mp e.1
      exact ⟨_, go_end 1 (fun _ _ => rfl), 0, rfl, Or.inr ⟨rfl, by omega⟩⟩
  obtain ⟨res, g, b, e, h⟩ := key
  subst e
  exact ⟨b, ru_of (k := 1) (M := pm_160) rfl rfl g, h⟩
theorem hr_land {w : pq_W} {x : Int32} : ∃ b : Int32, pq_Ru 2 167 [.int x] w (some (.int b), w) ∧ ((b.toInt = 1 ∧ (0 ≤ x.toInt ∧ x.toInt ≤ 7)) ∨ (b.toInt = 0 ∧ ¬ (0 ≤ x.toInt ∧ x.toInt ≤ 7))) := by
  have key : ∃ res, pq_Go 1 pm_167 0 (lv_args 0 [.int x]) [] w 0 0 res ∧ ∃ b : Int32, res = (some (.int b), w) ∧ ((b.toInt = 1 ∧ (0 ≤ x.toInt ∧ x.toInt ≤ 7)) ∨ (b.toInt = 0 ∧ ¬ (0 ≤ x.toInt ∧ x.toInt ≤ 7))) := by
    refine xs_seg 4 (pc' := 6) (ls' := [(0, .int x)]) (st' := [.long 7, .long 0, .long (x).toInt64]) (w' := w) (cs' := 0) (ss' := 0) ?_ (fun _ _ => rfl)
    obtain ⟨b1, rb1, hb1⟩ := wi_b w x 0 7 (l := 0) (h := 7) rfl rfl
    unfold bo at hb1
    refine xs_cl (as := [.long (x).toInt64, .long 0, .long 7]) (rv := some (.int b1)) (st' := [.int b1]) (cs' := 0) (ss' := 0) (k1 := 1) rfl rfl rfl rfl rfl rfl rfl rb1 ?_
    rcases hb1 with e | e
    · obtain rfl : b1 = 1 := Int32.toInt_inj.mp e.1
      exact ⟨_, go_end 1 (fun _ _ => rfl), 1, rfl, Or.inl ⟨rfl, by omega⟩⟩
    · obtain rfl : b1 = 0 := Int32.toInt_inj.mp e.1
      exact ⟨_, go_end 1 (fun _ _ => rfl), 0, rfl, Or.inr ⟨rfl, by omega⟩⟩
  obtain ⟨res, g, b, e, h⟩ := key
  subst e
  exact ⟨b, ru_of (k := 1) (M := pm_167) rfl rfl g, h⟩
theorem hr_sh {w : pq_W} {x : Int32} : ∃ b : Int32, pq_Ru 2 164 [.int x] w (some (.int b), w) ∧ ((b.toInt = 1 ∧ (0 ≤ x.toInt ∧ x.toInt ≤ 3)) ∨ (b.toInt = 0 ∧ ¬ (0 ≤ x.toInt ∧ x.toInt ≤ 3))) := by
  have key : ∃ res, pq_Go 1 pm_164 0 (lv_args 0 [.int x]) [] w 0 0 res ∧ ∃ b : Int32, res = (some (.int b), w) ∧ ((b.toInt = 1 ∧ (0 ≤ x.toInt ∧ x.toInt ≤ 3)) ∨ (b.toInt = 0 ∧ ¬ (0 ≤ x.toInt ∧ x.toInt ≤ 3))) := by
    refine xs_seg 4 (pc' := 6) (ls' := [(0, .int x)]) (st' := [.long 3, .long 0, .long (x).toInt64]) (w' := w) (cs' := 0) (ss' := 0) ?_ (fun _ _ => rfl)
    obtain ⟨b1, rb1, hb1⟩ := wi_b w x 0 3 (l := 0) (h := 3) rfl rfl
    unfold bo at hb1
    refine xs_cl (as := [.long (x).toInt64, .long 0, .long 3]) (rv := some (.int b1)) (st' := [.int b1]) (cs' := 0) (ss' := 0) (k1 := 1) rfl rfl rfl rfl rfl rfl rfl rb1 ?_
    rcases hb1 with e | e
    · obtain rfl : b1 = 1 := Int32.toInt_inj.mp e.1
      exact ⟨_, go_end 1 (fun _ _ => rfl), 1, rfl, Or.inl ⟨rfl, by omega⟩⟩
    · obtain rfl : b1 = 0 := Int32.toInt_inj.mp e.1
      exact ⟨_, go_end 1 (fun _ _ => rfl), 0, rfl, Or.inr ⟨rfl, by omega⟩⟩
  obtain ⟨res, g, b, e, h⟩ := key
  subst e
  exact ⟨b, ru_of (k := 1) (M := pm_164) rfl rfl g, h⟩
theorem hr_ol {w : pq_W} {x y : Int32} {i k q : Nat} (hi : i < 8) (hk : k < 6) (ex : x.toInt = (i : Int)) (ey : y.toInt = (k : Int)) (hq : q = 138 + 6 * i + k) : pq_Ru 1 168 [.int x, .int y] w (some (.int (nI q)), w) := by
  have key : ∃ res, pq_Go 0 pm_168 0 (lv_args 0 [.int x, .int y]) [] w 0 0 res ∧ res = (some (.int (nI q)), w) := by
    refine xs_seg 4 (pc' := 7) (ls' := [(0, .int x), (1, .int y)]) (st' := [.int (6 * x), .int 138]) (w' := w) (cs' := 0) (ss' := 0) ?_ (fun _ _ => rfl)
    have k6 : (6 : Int32).toInt = 6 := rfl
    generalize hz1 : 6 * x = z1
    have tz1 : z1.toInt = 6 * x.toInt := by rw [← hz1, Int32.toInt_mul, k6]; exact Int.bmod_eq_of_le (by omega) (by omega)
    refine xs_seg 1 (pc' := 8) (ls' := [(0, .int x), (1, .int y)]) (st' := [.int (138 + z1)]) (w' := w) (cs' := 0) (ss' := 0) ?_ (fun _ _ => rfl)
    have k138 : (138 : Int32).toInt = 138 := rfl
    generalize hz2 : 138 + z1 = z2
    have tz2 : z2.toInt = 138 + z1.toInt := by rw [← hz2, Int32.toInt_add, k138]; exact Int.bmod_eq_of_le (by omega) (by omega)
    refine xs_seg 2 (pc' := 10) (ls' := [(0, .int x), (1, .int y)]) (st' := [.int (z2 + y)]) (w' := w) (cs' := 0) (ss' := 0) ?_ (fun _ _ => rfl)
    generalize hz3 : z2 + y = z3
    have tz3 : z3.toInt = z2.toInt + y.toInt := by rw [← hz3, Int32.toInt_add]; exact Int.bmod_eq_of_le (by omega) (by omega)
    exact ⟨_, go_end 1 (fun _ _ => rfl), by rw [show z3 = nI q from nI_q (by omega) (by omega)]⟩
  obtain ⟨res, g, e⟩ := key
  subst e
  exact ru_of (k := 0) (M := pm_168) rfl rfl g
theorem hr_oa {w : pq_W} {x y : Int32} {i k q : Nat} (hi : i < 8) (hk : k < 10) (ex : x.toInt = (i : Int)) (ey : y.toInt = (k : Int)) (hq : q = 186 + 10 * i + k) : pq_Ru 1 171 [.int x, .int y] w (some (.int (nI q)), w) := by
  have key : ∃ res, pq_Go 0 pm_171 0 (lv_args 0 [.int x, .int y]) [] w 0 0 res ∧ res = (some (.int (nI q)), w) := by
    refine xs_seg 4 (pc' := 7) (ls' := [(0, .int x), (1, .int y)]) (st' := [.int (10 * x), .int 186]) (w' := w) (cs' := 0) (ss' := 0) ?_ (fun _ _ => rfl)
    have k10 : (10 : Int32).toInt = 10 := rfl
    generalize hz1 : 10 * x = z1
    have tz1 : z1.toInt = 10 * x.toInt := by rw [← hz1, Int32.toInt_mul, k10]; exact Int.bmod_eq_of_le (by omega) (by omega)
    refine xs_seg 1 (pc' := 8) (ls' := [(0, .int x), (1, .int y)]) (st' := [.int (186 + z1)]) (w' := w) (cs' := 0) (ss' := 0) ?_ (fun _ _ => rfl)
    have k186 : (186 : Int32).toInt = 186 := rfl
    generalize hz2 : 186 + z1 = z2
    have tz2 : z2.toInt = 186 + z1.toInt := by rw [← hz2, Int32.toInt_add, k186]; exact Int.bmod_eq_of_le (by omega) (by omega)
    refine xs_seg 2 (pc' := 10) (ls' := [(0, .int x), (1, .int y)]) (st' := [.int (z2 + y)]) (w' := w) (cs' := 0) (ss' := 0) ?_ (fun _ _ => rfl)
    generalize hz3 : z2 + y = z3
    have tz3 : z3.toInt = z2.toInt + y.toInt := by rw [← hz3, Int32.toInt_add]; exact Int.bmod_eq_of_le (by omega) (by omega)
    exact ⟨_, go_end 1 (fun _ _ => rfl), by rw [show z3 = nI q from nI_q (by omega) (by omega)]⟩
  obtain ⟨res, g, e⟩ := key
  subst e
  exact ru_of (k := 0) (M := pm_171) rfl rfl g
theorem hr_of {w : pq_W} {x y : Int32} {i k q : Nat} (hi : i < 30) (hk : k < 34) (ex : x.toInt = (i : Int)) (ey : y.toInt = (k : Int)) (hq : q = 302 + 34 * i + k) : pq_Ru 1 182 [.int x, .int y] w (some (.int (nI q)), w) := by
  have key : ∃ res, pq_Go 0 pm_182 0 (lv_args 0 [.int x, .int y]) [] w 0 0 res ∧ res = (some (.int (nI q)), w) := by
    refine xs_seg 4 (pc' := 7) (ls' := [(0, .int x), (1, .int y)]) (st' := [.int (34 * x), .int 302]) (w' := w) (cs' := 0) (ss' := 0) ?_ (fun _ _ => rfl)
    have k34 : (34 : Int32).toInt = 34 := rfl
    generalize hz1 : 34 * x = z1
    have tz1 : z1.toInt = 34 * x.toInt := by rw [← hz1, Int32.toInt_mul, k34]; exact Int.bmod_eq_of_le (by omega) (by omega)
    refine xs_seg 1 (pc' := 8) (ls' := [(0, .int x), (1, .int y)]) (st' := [.int (302 + z1)]) (w' := w) (cs' := 0) (ss' := 0) ?_ (fun _ _ => rfl)
    have k302 : (302 : Int32).toInt = 302 := rfl
    generalize hz2 : 302 + z1 = z2
    have tz2 : z2.toInt = 302 + z1.toInt := by rw [← hz2, Int32.toInt_add, k302]; exact Int.bmod_eq_of_le (by omega) (by omega)
    refine xs_seg 2 (pc' := 10) (ls' := [(0, .int x), (1, .int y)]) (st' := [.int (z2 + y)]) (w' := w) (cs' := 0) (ss' := 0) ?_ (fun _ _ => rfl)
    generalize hz3 : z2 + y = z3
    have tz3 : z3.toInt = z2.toInt + y.toInt := by rw [← hz3, Int32.toInt_add]; exact Int.bmod_eq_of_le (by omega) (by omega)
    exact ⟨_, go_end 1 (fun _ _ => rfl), by rw [show z3 = nI q from nI_q (by omega) (by omega)]⟩
  obtain ⟨res, g, e⟩ := key
  subst e
  exact ru_of (k := 0) (M := pm_182) rfl rfl g
theorem hr_is {w : pq_W} {x : Int32} {c : Nat} (ht : sx_Ty sx_T0 w) (hc : c < 8 ∧ -2147483648 < sy_r w 95 c) : ∃ b : Int32, pq_Ru 3 175 [.ref 94, .int x, .int (nI c)] w (some (.int b), w) ∧ ((b.toInt = 1 ∧ (0 ≤ x.toInt ∧ x.toInt < sy_r w 95 c)) ∨ (b.toInt = 0 ∧ ¬ (0 ≤ x.toInt ∧ x.toInt < sy_r w 95 c))) := by
  have key : ∃ res, pq_Go 2 pm_175 0 (lv_args 0 [.ref 94, .int x, .int (nI c)]) [] w 0 0 res ∧ ∃ b : Int32, res = (some (.int b), w) ∧ ((b.toInt = 1 ∧ (0 ≤ x.toInt ∧ x.toInt < sy_r w 95 c)) ∨ (b.toInt = 0 ∧ ¬ (0 ≤ x.toInt ∧ x.toInt < sy_r w 95 c))) := by
    have tc : (nI c).toInt = (c : Int) := nI_toInt (by omega)
    have ib := sy_rb w 95 c
    refine xs_seg 4 (pc' := 4) (ls' := [(0, .ref 94), (1, .int x), (2, .int (nI c))]) (st' := [.ref 94, .long 0, .long (x).toInt64]) (w' := w) (cs' := 0) (ss' := 0) ?_ (fun _ _ => rfl)
    refine xs_gf (z := .ref 95) rfl ht rfl rfl (wg_ref ht rfl rfl) ?_
    refine xs_seg 1 (pc' := 8) (ls' := [(0, .ref 94), (1, .int x), (2, .int (nI c))]) (st' := [.int (nI c), .ref 95, .long 0, .long (x).toInt64]) (w' := w) (cs' := 0) (ss' := 0) ?_ (fun _ _ => rfl)
    obtain ⟨x1, gx1, ex1⟩ := sy_at (r := 95) (i := c) ht rfl (by omega)
    refine xs_gl (q := c) (y := x1) rfl ht rfl (by omega) (by decide) (nI_q (by omega) (by omega)) ex1.symm ?_
    refine xs_seg 2 (pc' := 11) (ls' := [(0, .ref 94), (1, .int x), (2, .int (nI c))]) (st' := [.int (x1 - 1), .long 0, .long (x).toInt64]) (w' := w) (cs' := 0) (ss' := 0) ?_ (fun _ _ => rfl)
    have k1 : (1 : Int32).toInt = 1 := rfl
    generalize hz2 : x1 - 1 = z2
    have tz2 : z2.toInt = x1.toInt - 1 := by rw [← hz2, Int32.toInt_sub, k1]; exact Int.bmod_eq_of_le (by omega) (by omega)
    refine xs_seg 1 (pc' := 12) (ls' := [(0, .ref 94), (1, .int x), (2, .int (nI c))]) (st' := [.long (z2).toInt64, .long 0, .long (x).toInt64]) (w' := w) (cs' := 0) (ss' := 0) ?_ (fun _ _ => rfl)
    obtain ⟨b3, rb3, hb3⟩ := wi_b w x 0 ((z2).toInt64) (l := 0) (h := z2.toInt) rfl (Int32.toInt_toInt64 _)
    unfold bo at hb3
    refine xs_cl (as := [.long (x).toInt64, .long 0, .long (z2).toInt64]) (rv := some (.int b3)) (st' := [.int b3]) (cs' := 0) (ss' := 0) (k1 := 1) rfl rfl rfl rfl rfl rfl rfl rb3 ?_
    rcases hb3 with e | e
    · obtain rfl : b3 = 1 := Int32.toInt_inj.mp e.1
      exact ⟨_, go_end 1 (fun _ _ => rfl), 1, rfl, Or.inl ⟨rfl, by omega⟩⟩
    · obtain rfl : b3 = 0 := Int32.toInt_inj.mp e.1
      exact ⟨_, go_end 1 (fun _ _ => rfl), 0, rfl, Or.inr ⟨rfl, by omega⟩⟩
  obtain ⟨res, g, b, e, h⟩ := key
  subst e
  exact ⟨b, ru_of (k := 2) (M := pm_175) rfl (by rw [Bool.and_eq_true]; exact ⟨rfl, sq_rcv ht rfl rfl rfl⟩) g, h⟩
theorem hr_pl {w : pq_W} {p k q : Nat} {x y : Int32} (ht : sx_Ty sx_T0 w) (hp : p < 12) (hk : k < 3) (ex : x.toInt = (p : Int)) (ey : y.toInt = (k : Int)) (hq : q = 266 + 3 * p + k) : ∃ b : Int32, pq_Ru 1 177 [.ref 94, .int x, .int y] w (some (.int b), w) ∧ b.toInt = sy_r w 95 q := by
  have key : ∃ res, pq_Go 0 pm_177 0 (lv_args 0 [.ref 94, .int x, .int y]) [] w 0 0 res ∧ ∃ b : Int32, res = (some (.int b), w) ∧ b.toInt = sy_r w 95 q := by
    refine xs_seg 1 (pc' := 1) (ls' := [(0, .ref 94), (1, .int x), (2, .int y)]) (st' := [.ref 94]) (w' := w) (cs' := 0) (ss' := 0) ?_ (fun _ _ => rfl)
    refine xs_gf (z := .ref 95) rfl ht rfl rfl (wg_ref ht rfl rfl) ?_
    refine xs_seg 4 (pc' := 10) (ls' := [(0, .ref 94), (1, .int x), (2, .int y)]) (st' := [.int (3 * x), .int 266, .ref 95]) (w' := w) (cs' := 0) (ss' := 0) ?_ (fun _ _ => rfl)
    have k3 : (3 : Int32).toInt = 3 := rfl
    generalize hz1 : 3 * x = z1
    have tz1 : z1.toInt = 3 * x.toInt := by rw [← hz1, Int32.toInt_mul, k3]; exact Int.bmod_eq_of_le (by omega) (by omega)
    refine xs_seg 1 (pc' := 11) (ls' := [(0, .ref 94), (1, .int x), (2, .int y)]) (st' := [.int (266 + z1), .ref 95]) (w' := w) (cs' := 0) (ss' := 0) ?_ (fun _ _ => rfl)
    have k266 : (266 : Int32).toInt = 266 := rfl
    generalize hz2 : 266 + z1 = z2
    have tz2 : z2.toInt = 266 + z1.toInt := by rw [← hz2, Int32.toInt_add, k266]; exact Int.bmod_eq_of_le (by omega) (by omega)
    refine xs_seg 2 (pc' := 13) (ls' := [(0, .ref 94), (1, .int x), (2, .int y)]) (st' := [.int (z2 + y), .ref 95]) (w' := w) (cs' := 0) (ss' := 0) ?_ (fun _ _ => rfl)
    generalize hz3 : z2 + y = z3
    have tz3 : z3.toInt = z2.toInt + y.toInt := by rw [← hz3, Int32.toInt_add]; exact Int.bmod_eq_of_le (by omega) (by omega)
    obtain ⟨x4, gx4, ex4⟩ := sy_at (r := 95) (i := (266 + 3 * p + k)) ht rfl (by omega)
    refine xs_gl (q := (266 + 3 * p + k)) (y := x4) rfl ht rfl (by omega) (by decide) (nI_q (by omega) (by omega)) ex4.symm ?_
    exact ⟨_, go_end 1 (fun _ _ => rfl), _, rfl, by rw [ex4, hq]⟩
  obtain ⟨res, g, b, e, h⟩ := key
  subst e
  exact ⟨b, ru_of (k := 0) (M := pm_177) rfl (by rw [Bool.and_eq_true]; exact ⟨rfl, sq_rcv ht rfl rfl rfl⟩) g, h⟩
