/-! image and restore, the class: flights, at any place -/
noncomputable def zf_iv (lo : Int) : List (Int × Int) := [(lo, 100000), (0, 40), (0, 29), sy_full, (0, 29), sy_full, (0, 39), sy_full, (0, 39), sy_full, (0, 69), sy_full, (0, 839), sy_full]
noncomputable def zf_O (d : Nat) : sx_O := [sh_o (29 + d) 7 (fx_i 1), (30 + d, sx_y 2, fx_i 3), (31 + d, sx_y 4, fx_i 5), (36 + d, sx_y 6, fx_i 7), (37 + d, sx_y 8, fx_i 9), (38 + d, sx_y 10, fx_i 11), (39 + d, sx_y 12, fx_i 13)]
theorem zf_i : ng_chk ci_A [] [] 299 147 pm_147 0 (zf_iv 0) [] [(0, .inr (.inr 5))] [] (sh_o 5 15 (fx_i 0) :: zf_O 0) [(mc_any, zf_O 34, [], [])] [] 2000 = true := by decide +kernel
theorem zf_r : ng_chk ci_N [] [] 299 152 pm_152 0 (zf_iv 1) [] [(0, .inr (.inr 5))] [] (sh_o 5 15 (fx_i 0) :: zf_O 34) [(mc_any, zf_O 0, [], [])] [] 2000 = true := by decide +kernel
noncomputable def zf_ok (c i : Nat) : Prop := (c = 29 ∧ i = 7) ∨ (c = 30 ∧ i < 30) ∨ (c = 31 ∧ i < 30) ∨ (c = 36 ∧ i < 40) ∨ (c = 37 ∧ i < 40) ∨ (c = 38 ∧ i < 70) ∨ (c = 39 ∧ i < 840)
theorem zf_e {p : Nat → Int} {w : pq_W} {c n i : Nat} {v : Int} (h : p n = (i : Int)) (hv : sy_r w c i = v) : sy_r w c (sx_ev p (sx_y n)).toNat = v := by
  rw [sx_y_ev, h, Int.toNat_natCast]
  exact hv
noncomputable def zf_p (w : pq_W) (d c i : Nat) : Nat → Int := fx_p [sy_r w 5 15, sy_r w (29 + d) 7, ((if c = 30 then i else 0 : Nat) : Int), sy_r w (30 + d) (if c = 30 then i else 0), ((if c = 31 then i else 0 : Nat) : Int), sy_r w (31 + d) (if c = 31 then i else 0), ((if c = 36 then i else 0 : Nat) : Int), sy_r w (36 + d) (if c = 36 then i else 0), ((if c = 37 then i else 0 : Nat) : Int), sy_r w (37 + d) (if c = 37 then i else 0), ((if c = 38 then i else 0 : Nat) : Int), sy_r w (38 + d) (if c = 38 then i else 0), ((if c = 39 then i else 0 : Nat) : Int), sy_r w (39 + d) (if c = 39 then i else 0)]
theorem zf_g {w : pq_W} {d c i : Nat} (ht : sx_Ty sx_T0 w) (hd : d = 0 ∨ d = 34) (h : zf_ok c i) (lo : Int) (h1 : lo ≤ sy_r w 5 15) (h2 : sy_r w 5 15 ≤ 100000) : sx_ivs (zf_p w d c i) 0 (zf_iv lo) ∧ ng_eqs (zf_p w d c i) w (zf_O d) := by
  have h29 : 0 ≤ sy_r w (29 + d) 7 ∧ sy_r w (29 + d) 7 ≤ 40 := by
    rcases hd with rfl | rfl
    · obtain ⟨_, _, _, a, b⟩ := sq_fat (r := 29) (i := 7) (lo := 0) (hi := 40) ht rfl rfl
      exact ⟨a, b⟩
    · obtain ⟨_, _, _, a, b⟩ := sq_fat (r := 63) (i := 7) (lo := 0) (hi := 40) ht rfl rfl
      exact ⟨a, b⟩
  have bd : ∀ n N : Nat, (c = n → i < N) → 0 < N → (0 : Int) ≤ ((if c = n then i else 0 : Nat) : Int) ∧ ((if c = n then i else 0 : Nat) : Int) ≤ (N : Int) - 1 := fun n N hN h0 => by
    split
    · rename_i e
      have := hN e
      omega
    · omega
  unfold zf_ok at h
  have b30 := bd 30 30 (by omega) (by decide)
  have b31 := bd 31 30 (by omega) (by decide)
  have b36 := bd 36 40 (by omega) (by decide)
  have b37 := bd 37 40 (by omega) (by decide)
  have b38 := bd 38 70 (by omega) (by decide)
  have b39 := bd 39 840 (by omega) (by decide)
  exact ⟨⟨h1, h2, h29.1, h29.2, b30.1, b30.2, (sy_rb w _ _).1, (sy_rb w _ _).2, b31.1, b31.2, (sy_rb w _ _).1, (sy_rb w _ _).2, b36.1, b36.2, (sy_rb w _ _).1, (sy_rb w _ _).2, b37.1, b37.2, (sy_rb w _ _).1, (sy_rb w _ _).2, b38.1, b38.2, (sy_rb w _ _).1, (sy_rb w _ _).2, b39.1, b39.2, (sy_rb w _ _).1, (sy_rb w _ _).2, trivial⟩, sh_eo (n := 7) (by rw [sx_y_ev]; rfl) rfl ⟨zf_e rfl (by rw [sx_y_ev]; rfl), zf_e rfl (by rw [sx_y_ev]; rfl), zf_e rfl (by rw [sx_y_ev]; rfl), zf_e rfl (by rw [sx_y_ev]; rfl), zf_e rfl (by rw [sx_y_ev]; rfl), zf_e rfl (by rw [sx_y_ev]; rfl), trivial⟩⟩
theorem zf_out {w w1 : pq_W} {d d1 c i : Nat} (h : zf_ok c i) (e : ng_eqs (zf_p w d c i) w1 (zf_O d1)) : sy_r w1 (c + d1) i = sy_r w (c + d) i := by
  obtain ⟨e0, e30, e31, e36, e37, e38, e39, _⟩ := e
  have g : ∀ (n k : Nat), sy_r w1 (n + d1) (sx_ev (zf_p w d c i) (sx_y k)).toNat = sx_ev (zf_p w d c i) (sx_y (k + 1)) → zf_p w d c i k = (i : Int) → zf_p w d c i (k + 1) = sy_r w (n + d) i → sy_r w1 (n + d1) i = sy_r w (n + d) i := fun n k h1 h2 h3 => by
    rw [sx_y_ev, sx_y_ev, h2, Int.toNat_natCast, h3] at h1
    exact h1
  rcases h with ⟨rfl, rfl⟩ | ⟨rfl, h⟩ | ⟨rfl, h⟩ | ⟨rfl, h⟩ | ⟨rfl, h⟩ | ⟨rfl, h⟩ | ⟨rfl, h⟩
  · have e0 : sy_r w1 (29 + d1) (sx_ev (zf_p w d 29 7) (7, [])).toNat = sx_ev (zf_p w d 29 7) (sx_y 1) := e0
    rw [ng_ek, sx_y_ev] at e0
    exact e0
  · exact g 30 2 e30 rfl rfl
  · exact g 31 4 e31 rfl rfl
  · exact g 36 6 e36 rfl rfl
  · exact g 37 8 e37 rfl rfl
  · exact g 38 10 e38 rfl rfl
  · exact g 39 12 e39 rfl rfl
theorem zf_ci {w w1 : pq_W} {x : Option Value} (ht : sx_Ty sx_T0 w) (h1 : 0 ≤ sy_r w 5 15) (h2 : sy_r w 5 15 ≤ 100000) (g : pq_Ru 300 147 [.ref 5] w (x, w1)) {c i : Nat} (h : zf_ok c i) : sy_r w1 (c + 34) i = sy_r w c i := by
  obtain ⟨a, b⟩ := zf_g (d := 0) ht (Or.inl rfl) h 0 h1 h2
  obtain ⟨res2, g2, _, _, z, hz, e⟩ := sh_one (M := pm_147) (ls := lv_args 0 [.ref 5]) (zf_p w 0 c i) zf_i rfl a ⟨rfl, trivial⟩ (sh_eo (n := 15) (by rw [sx_y_ev]; rfl) rfl b) ht
  cases List.mem_singleton.mp hz
  have q := ru_det g (ru_of (k := 299) (M := pm_147) rfl (by rw [Bool.and_eq_true]; exact ⟨rfl, sq_rcv ht rfl rfl rfl⟩) g2)
  subst q
  exact zf_out h e.2.1
theorem zf_cr {w w1 : pq_W} {x : Option Value} (ht : sx_Ty sx_T0 w) (h1 : 1 ≤ sy_r w 5 15) (h2 : sy_r w 5 15 ≤ 100000) (g : pq_Ru 300 152 [.ref 5] w (x, w1)) {c i : Nat} (h : zf_ok c i) : sy_r w1 c i = sy_r w (c + 34) i := by
  obtain ⟨a, b⟩ := zf_g (d := 34) ht (Or.inr rfl) h 1 h1 h2
  obtain ⟨res2, g2, _, _, z, hz, e⟩ := sh_one (M := pm_152) (ls := lv_args 0 [.ref 5]) (zf_p w 34 c i) zf_r rfl a ⟨rfl, trivial⟩ (sh_eo (n := 15) (by rw [sx_y_ev]; rfl) rfl b) ht
  cases List.mem_singleton.mp hz
  have q := ru_det g (ru_of (k := 299) (M := pm_152) rfl (by rw [Bool.and_eq_true]; exact ⟨rfl, sq_rcv ht rfl rfl rfl⟩) g2)
  subst q
  exact zf_out (d1 := 0) h e.2.1
