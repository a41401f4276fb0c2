/-! image and restore, the class: texts and laws, at any place -/
noncomputable def zi_iv (lo : Int) : List (Int × Int) := [(lo, 100000), (0, 60), (0, 12), (0, 59), (-128, 127), (0, 11), (0, 3), (0, 11), sy_full, (0, 11), (0, 60), (0, 719), sy_full]
noncomputable def zi_O (d : Nat) : sx_O := [sh_o (23 + d) 1 (fx_i 1), sh_o (23 + d) 2 (fx_i 2), (24 + d, sx_y 3, fx_i 4), (25 + d, sx_y 5, fx_i 6), (26 + d, sx_y 7, fx_i 8), (27 + d, sx_y 9, fx_i 10), (28 + d, sx_y 11, fx_i 12)]
theorem zi_i : ng_chk ci_A [] [] 299 147 pm_147 0 (zi_iv 0) [] [(0, .inr (.inr 5))] [] (sh_o 5 15 (fx_i 0) :: zi_O 0) [(mc_any, zi_O 34, [], [])] [] 2000 = true := by decide +kernel
theorem zi_r : ng_chk ci_N [] [] 299 152 pm_152 0 (zi_iv 1) [] [(0, .inr (.inr 5))] [] (sh_o 5 15 (fx_i 0) :: zi_O 34) [(mc_any, zi_O 0, [], [])] [] 2000 = true := by decide +kernel
noncomputable def zi_p (w : pq_W) (d c i : Nat) : Nat → Int := fx_p [sy_r w 5 15, sy_r w (23 + d) 1, sy_r w (23 + d) 2, ((if c = 24 then i else 0 : Nat) : Int), sy_r w (24 + d) (if c = 24 then i else 0), ((if c = 25 then i else 0 : Nat) : Int), sy_r w (25 + d) (if c = 25 then i else 0), ((if c = 26 then i else 0 : Nat) : Int), sy_r w (26 + d) (if c = 26 then i else 0), ((if c = 27 then i else 0 : Nat) : Int), sy_r w (27 + d) (if c = 27 then i else 0), ((if c = 28 then i else 0 : Nat) : Int), sy_r w (28 + d) (if c = 28 then i else 0)]
theorem zi_g {w : pq_W} {d c i : Nat} (ht : sx_Ty sx_T0 w) (hd : d = 0 ∨ d = 34) (h : te_c c i) (lo : Int) (h1 : lo ≤ sy_r w 5 15) (h2 : sy_r w 5 15 ≤ 100000) : sx_ivs (zi_p w d c i) 0 (zi_iv lo) ∧ ng_eqs (zi_p w d c i) w (zi_O d) := by
  have s1 : 0 ≤ sy_r w (23 + d) 1 ∧ sy_r w (23 + d) 1 ≤ 60 := by
    rcases hd with rfl | rfl
    · obtain ⟨_, _, _, a, b⟩ := sq_fat (r := 23) (i := 1) (lo := 0) (hi := 60) ht rfl rfl
      exact ⟨a, b⟩
    · obtain ⟨_, _, _, a, b⟩ := sq_fat (r := 57) (i := 1) (lo := 0) (hi := 60) ht rfl rfl
      exact ⟨a, b⟩
  have s2 : 0 ≤ sy_r w (23 + d) 2 ∧ sy_r w (23 + d) 2 ≤ 12 := by
    rcases hd with rfl | rfl
    · obtain ⟨_, _, _, a, b⟩ := sq_fat (r := 23) (i := 2) (lo := 0) (hi := 12) ht rfl rfl
      exact ⟨a, b⟩
    · obtain ⟨_, _, _, a, b⟩ := sq_fat (r := 57) (i := 2) (lo := 0) (hi := 12) ht rfl rfl
      exact ⟨a, b⟩
  have bd : ∀ n N : Nat, (c = n → i < N) → 0 < N → (if c = n then i else 0) < N := fun n N hN h0 => by
    split
    · rename_i e
      exact hN e
    · exact h0
  unfold te_c at h
  have b24 := bd 24 60 (by omega) (by decide)
  have v24 : -128 ≤ sy_r w (24 + d) (if c = 24 then i else 0) ∧ sy_r w (24 + d) (if c = 24 then i else 0) ≤ 127 := by
    generalize (if c = 24 then i else 0) = j at b24
    rcases hd with rfl | rfl
    · have z := sy_rg (r := 24) ht rfl (g := (0, 1, 60, 0, 0, -128, 127)) (by decide) (k := j) (j := 0) b24 (Nat.le_refl _) (Nat.le_refl _) (by show 0 + 1 * j + 0 < 60; omega)
      have z : -128 ≤ sy_r w 24 (0 + 1 * j + 0) ∧ sy_r w 24 (0 + 1 * j + 0) ≤ 127 := z
      rw [show 0 + 1 * j + 0 = j by omega] at z
      exact z
    · have z := sy_rg (r := 58) ht rfl (g := (0, 1, 60, 0, 0, -128, 127)) (by decide) (k := j) (j := 0) b24 (Nat.le_refl _) (Nat.le_refl _) (by show 0 + 1 * j + 0 < 60; omega)
      have z : -128 ≤ sy_r w 58 (0 + 1 * j + 0) ∧ sy_r w 58 (0 + 1 * j + 0) ≤ 127 := z
      rw [show 0 + 1 * j + 0 = j by omega] at z
      exact z
  have b25 := bd 25 12 (by omega) (by decide)
  have v25 : 0 ≤ sy_r w (25 + d) (if c = 25 then i else 0) ∧ sy_r w (25 + d) (if c = 25 then i else 0) ≤ 3 := by
    generalize (if c = 25 then i else 0) = j at b25
    rcases hd with rfl | rfl
    · have z := sy_rg (r := 25) ht rfl (g := (0, 1, 12, 0, 0, 0, 3)) (by decide) (k := j) (j := 0) b25 (Nat.le_refl _) (Nat.le_refl _) (by show 0 + 1 * j + 0 < 12; omega)
      have z : 0 ≤ sy_r w 25 (0 + 1 * j + 0) ∧ sy_r w 25 (0 + 1 * j + 0) ≤ 3 := z
      rw [show 0 + 1 * j + 0 = j by omega] at z
      exact z
    · have z := sy_rg (r := 59) ht rfl (g := (0, 1, 12, 0, 0, 0, 3)) (by decide) (k := j) (j := 0) b25 (Nat.le_refl _) (Nat.le_refl _) (by show 0 + 1 * j + 0 < 12; omega)
      have z : 0 ≤ sy_r w 59 (0 + 1 * j + 0) ∧ sy_r w 59 (0 + 1 * j + 0) ≤ 3 := z
      rw [show 0 + 1 * j + 0 = j by omega] at z
      exact z
  have b26 := bd 26 12 (by omega) (by decide)
  have v26 := sy_rb w (26 + d) (if c = 26 then i else 0)
  have b27 := bd 27 12 (by omega) (by decide)
  have v27 : 0 ≤ sy_r w (27 + d) (if c = 27 then i else 0) ∧ sy_r w (27 + d) (if c = 27 then i else 0) ≤ 60 := by
    generalize (if c = 27 then i else 0) = j at b27
    rcases hd with rfl | rfl
    · have z := sy_rg (r := 27) ht rfl (g := (0, 1, 12, 0, 0, 0, 60)) (by decide) (k := j) (j := 0) b27 (Nat.le_refl _) (Nat.le_refl _) (by show 0 + 1 * j + 0 < 12; omega)
      have z : 0 ≤ sy_r w 27 (0 + 1 * j + 0) ∧ sy_r w 27 (0 + 1 * j + 0) ≤ 60 := z
      rw [show 0 + 1 * j + 0 = j by omega] at z
      exact z
    · have z := sy_rg (r := 61) ht rfl (g := (0, 1, 12, 0, 0, 0, 60)) (by decide) (k := j) (j := 0) b27 (Nat.le_refl _) (Nat.le_refl _) (by show 0 + 1 * j + 0 < 12; omega)
      have z : 0 ≤ sy_r w 61 (0 + 1 * j + 0) ∧ sy_r w 61 (0 + 1 * j + 0) ≤ 60 := z
      rw [show 0 + 1 * j + 0 = j by omega] at z
      exact z
  have b28 := bd 28 720 (by omega) (by decide)
  have v28 := sy_rb w (28 + d) (if c = 28 then i else 0)
  exact ⟨⟨h1, h2, s1.1, s1.2, s2.1, s2.2, by show (0 : Int) ≤ ((if c = 24 then i else 0 : Nat) : Int); omega, by show ((if c = 24 then i else 0 : Nat) : Int) ≤ 59; omega, v24.1, v24.2, by show (0 : Int) ≤ ((if c = 25 then i else 0 : Nat) : Int); omega, by show ((if c = 25 then i else 0 : Nat) : Int) ≤ 11; omega, v25.1, v25.2, by show (0 : Int) ≤ ((if c = 26 then i else 0 : Nat) : Int); omega, by show ((if c = 26 then i else 0 : Nat) : Int) ≤ 11; omega, v26.1, v26.2, by show (0 : Int) ≤ ((if c = 27 then i else 0 : Nat) : Int); omega, by show ((if c = 27 then i else 0 : Nat) : Int) ≤ 11; omega, v27.1, v27.2, by show (0 : Int) ≤ ((if c = 28 then i else 0 : Nat) : Int); omega, by show ((if c = 28 then i else 0 : Nat) : Int) ≤ 719; omega, v28.1, v28.2, trivial⟩, sh_eo (n := 1) (by rw [sx_y_ev]; rfl) rfl (sh_eo (n := 2) (by rw [sx_y_ev]; rfl) rfl ⟨zf_e rfl (by rw [sx_y_ev]; rfl), zf_e rfl (by rw [sx_y_ev]; rfl), zf_e rfl (by rw [sx_y_ev]; rfl), zf_e rfl (by rw [sx_y_ev]; rfl), zf_e rfl (by rw [sx_y_ev]; rfl), trivial⟩)⟩
theorem zi_out {w w1 : pq_W} {d d1 c i : Nat} (h : te_c c i) (e : ng_eqs (zi_p w d c i) w1 (zi_O d1)) : sy_r w1 (c + d1) i = sy_r w (c + d) i := by
  obtain ⟨e1, e2, e24, e25, e26, e27, e28, _⟩ := e
  have g : ∀ (n k : Nat), sy_r w1 (n + d1) (sx_ev (zi_p w d c i) (sx_y k)).toNat = sx_ev (zi_p w d c i) (sx_y (k + 1)) → zi_p w d c i k = (i : Int) → zi_p w d c i (k + 1) = sy_r w (n + d) i → sy_r w1 (n + d1) i = sy_r w (n + d) i := fun n k h1 h2 h3 => by
    rw [sx_y_ev, sx_y_ev, h2, Int.toNat_natCast, h3] at h1
    exact h1
  rcases h with ⟨rfl, h⟩ | ⟨rfl, h⟩ | ⟨rfl, h⟩ | ⟨rfl, h⟩ | ⟨rfl, h⟩ | ⟨rfl, h⟩
  · have : i = 1 ∨ i = 2 := by omega
    rcases this with rfl | rfl
    · have e1 : sy_r w1 (23 + d1) (sx_ev (zi_p w d 23 1) (1, [])).toNat = sx_ev (zi_p w d 23 1) (sx_y 1) := e1
      rw [ng_ek, sx_y_ev] at e1
      exact e1
    · have e2 : sy_r w1 (23 + d1) (sx_ev (zi_p w d 23 2) (2, [])).toNat = sx_ev (zi_p w d 23 2) (sx_y 2) := e2
      rw [ng_ek, sx_y_ev] at e2
      exact e2
  · exact g 24 3 e24 rfl rfl
  · exact g 25 5 e25 rfl rfl
  · exact g 26 7 e26 rfl rfl
  · exact g 27 9 e27 rfl rfl
  · exact g 28 11 e28 rfl rfl
theorem zi_ci {w w1 : pq_W} {x : Option Value} (ht : sx_Ty sx_T0 w) (h1 : 0 ≤ sy_r w 5 15) (h2 : sy_r w 5 15 ≤ 100000) (g : pq_Ru 300 147 [.ref 5] w (x, w1)) {c i : Nat} (h : te_c c i) : sy_r w1 (c + 34) i = sy_r w c i := by
  obtain ⟨a, b⟩ := zi_g (d := 0) ht (Or.inl rfl) h 0 h1 h2
  obtain ⟨res2, g2, _, _, z, hz, e⟩ := sh_one (M := pm_147) (ls := lv_args 0 [.ref 5]) (zi_p w 0 c i) zi_i rfl a ⟨rfl, trivial⟩ (sh_eo (n := 15) (by rw [sx_y_ev]; rfl) rfl b) ht
  cases List.mem_singleton.mp hz
  have q := ru_det g (ru_of (k := 299) (M := pm_147) rfl (by rw [Bool.and_eq_true]; exact ⟨rfl, sq_rcv ht rfl rfl rfl⟩) g2)
  subst q
  exact zi_out (d1 := 34) h e.2.1
theorem zi_cr {w w1 : pq_W} {x : Option Value} (ht : sx_Ty sx_T0 w) (h1 : 1 ≤ sy_r w 5 15) (h2 : sy_r w 5 15 ≤ 100000) (g : pq_Ru 300 152 [.ref 5] w (x, w1)) {c i : Nat} (h : te_c c i) : sy_r w1 c i = sy_r w (c + 34) i := by
  obtain ⟨a, b⟩ := zi_g (d := 34) ht (Or.inr rfl) h 1 h1 h2
  obtain ⟨res2, g2, _, _, z, hz, e⟩ := sh_one (M := pm_152) (ls := lv_args 0 [.ref 5]) (zi_p w 34 c i) zi_r rfl a ⟨rfl, trivial⟩ (sh_eo (n := 15) (by rw [sx_y_ev]; rfl) rfl b) ht
  cases List.mem_singleton.mp hz
  have q := ru_det g (ru_of (k := 299) (M := pm_152) rfl (by rw [Bool.and_eq_true]; exact ⟨rfl, sq_rcv ht rfl rfl rfl⟩) g2)
  subst q
  exact zi_out (d1 := 0) h e.2.1
