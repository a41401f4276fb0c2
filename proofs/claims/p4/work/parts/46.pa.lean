/-! pay, airline, plane -/
theorem fr_cat {A B : sx_A} {w w1 w2 : pq_W} (f : sx_Fr A w w1) (g : sx_Fr B w1 w2) : sx_Fr (A ++ B) w w2 := fun r i h => by
  rw [g r i (fun ⟨q, hq, e⟩ => h ⟨q, List.mem_append_right _ hq, e⟩), f r i (fun ⟨q, hq, e⟩ => h ⟨q, List.mem_append_left _ hq, e⟩)]
theorem kz_pay {xa xl xn : Int32} {w : pq_W} (ht : sx_Ty sx_T0 w) (hJ : JJ w) : ∃ res, pq_Ru 300 193 [.ref 94, .int xa, .int xl, .int xn] w res ∧ kz_P w res := by
  have hy := mo_yT ht (Or.inl rfl)
  have hy2 : 0 ≤ sy_r w 95 2 ∧ sy_r w 95 2 ≤ 8 := hy.1
  have main : ∃ res, pq_Go 299 pm_193 0 (lv_args 0 [.ref 94, .int xa, .int xl, .int xn]) [] w 0 0 res ∧ kz_P w res := by
    refine ng_go (J := sx_tt) (Post := kz_P w) (fx_p [xa.toInt, xl.toInt, xn.toInt, sy_r w 95 2]) mc_p1 rfl ⟨xa.minValue_le_toInt, xa.toInt_le, xl.minValue_le_toInt, xl.toInt_le, xn.minValue_le_toInt, xn.toInt_le, hy2.1, hy2.2, trivial⟩ trivial ⟨rfl, ng_iy ⟨xa, rfl, rfl⟩ rfl, ng_iy ⟨xl, rfl, rfl⟩ rfl, ng_iy ⟨xn, rfl, rfl⟩ rfl, trivial⟩ trivial (mc_eo (n := 2) (by rw [sx_y_ev]; rfl) rfl trivial) ht sx_ctn (fun _ _ _ => trivial) ⟨fun x w2 t2 f2 a => kz_er hJ t2 f2 (mc_ans a.1), trivial⟩ ⟨fun ls2 st2 w2 t2 f2 q => ?_, trivial⟩
    obtain ⟨a1, a2, _, a4, _⟩ := q
    cases ng_st0 a2
    obtain ⟨c0, c1, c2, c3, _⟩ := a1
    obtain ⟨d1, d2, d3, d4, d5, d6, _⟩ := a4
    have d1 : 0 + (-1 * xa.toInt + 0) ≤ 0 := d1
    have d2 : 1 + (1 * xa.toInt + (-1 * sy_r w 95 2 + 0)) ≤ 0 := d2
    have d3 : 0 + (-1 * xl.toInt + 0) ≤ 0 := d3
    have d4 : -7 + (1 * xl.toInt + 0) ≤ 0 := d4
    have d5 : 1 + (-1 * xn.toInt + 0) ≤ 0 := d5
    have d6 : -99999 + (1 * xn.toInt + 0) ≤ 0 := d6
    obtain ⟨a, ea⟩ : ∃ a : Nat, (a : Int) = xa.toInt := ⟨xa.toInt.toNat, by omega⟩
    obtain ⟨l, el⟩ : ∃ l : Nat, (l : Int) = xl.toInt := ⟨xl.toInt.toNat, by omega⟩
    have ha8 : a < 8 := by omega
    have hl8 : l < 8 := by omega
    have f2 : sx_Fr [(97, 0, 5)] w w2 := f2
    have s2 : ∀ i, sy_r w2 95 i = sy_r w 95 i := fun i => fr_no f2 ⟨Or.inl (by decide), trivial⟩
    have hM := hJ.2.1
    have k := hM.2.2.2 a ha8
    have hc : 0 ≤ sy_r w 95 (186 + 10 * a) ∧ sy_r w 95 (186 + 10 * a) ≤ mo_C := ⟨k.2.1, k.2.2.1⟩
    unfold mo_C at hc
    have hd := mo_air_bd hM ha8 hl8
    have c0 : pq_lk ls2 0 = some (.ref 94) := c0
    have g1 : ng_i ls2 1 (a : Int) := ng_yi c1 (show xa.toInt = (a : Int) by omega)
    have g2 : ng_i ls2 2 (l : Int) := ng_yi c2 (show xl.toInt = (l : Int) by omega)
    have g3 : ng_i ls2 3 xn.toInt := ng_yi c3 rfl
    have ck := List.all_eq_true.mp (List.all_eq_true.mp mc_p2 a (List.mem_range.mpr ha8)) l (List.mem_range.mpr hl8)
    refine ng_go (J := sx_tt) (Post := kz_P w) (fx_p [xn.toInt, sy_r w 95 (186 + 10 * a), sy_r w 95 (188 + 10 * a + l)]) ck rfl ⟨(show 1 ≤ xn.toInt by omega), (show xn.toInt ≤ 99999 by omega), hc.1, hc.2, hd.1, hd.2, trivial⟩ trivial ⟨c0, ng_ik g1 rfl, ng_ik g2 rfl, ng_iy g3 rfl, trivial⟩ trivial (mc_eo (n := 186 + 10 * a) (by rw [sx_y_ev, s2]; rfl) (by omega) (mc_eo (n := 188 + 10 * a + l) (by rw [sx_y_ev, s2]; rfl) (by omega) trivial)) t2 sx_ctn (fun _ _ _ => trivial) ⟨fun x w3 t3 f3 q => ?_, fun x w3 t3 f3 q => ?_, trivial⟩ trivial
    all_goals
      obtain ⟨q1, q2, q3, _⟩ := q
      have f3 : sx_Fr [(97, 0, 5), (95, 186 + 10 * (a : Int), 186 + 10 * (a : Int)), (95, 188 + 10 * (a : Int) + (l : Int), 188 + 10 * (a : Int) + (l : Int))] w2 w3 := f3
      have f4 : sx_Fr [(97, 0, 5), (95, 186 + 10 * (a : Int), 186 + 10 * (a : Int)), (95, 188 + 10 * (a : Int) + (l : Int), 188 + 10 * (a : Int) + (l : Int))] w w3 := sx_Fr_trans (fr_wk (A := [(97, 0, 5)]) ⟨⟨0, 5, List.mem_cons_self, by omega, by omega⟩, trivial⟩ f2) f3
      have so : ∀ i : Nat, i ≠ 186 + 10 * a → i ≠ 188 + 10 * a + l → sy_r w3 95 i = sy_r w 95 i := fun i hi hi2 => fr_no f4 ⟨Or.inl (by decide), Or.inr (by omega), Or.inr (by omega), trivial⟩
      refine kz_mk hJ t3 f4 ⟨⟨0, 100000, by decide, by omega, by omega⟩, (by first | exact ⟨138, 1321, by decide, by omega, by omega⟩ | exact ⟨3, 9, by decide, by omega, by omega⟩ | exact ⟨2, 2, by decide, by omega, by omega⟩ | exact ⟨302, 1321, by decide, by omega, by omega⟩), (by first | exact ⟨138, 1321, by decide, by omega, by omega⟩ | exact ⟨3, 9, by decide, by omega, by omega⟩ | exact ⟨2, 2, by decide, by omega, by omega⟩ | exact ⟨302, 1321, by decide, by omega, by omega⟩), trivial⟩ ?_ (mc_ans q1)
      have hm0 : mo_N (sy_r w3 95) (fun _ _ => mo_B (sy_r w 95 0 / 100).toNat) := ?_
      · refine ⟨by rw [so 0 (by omega) (by omega)]; exact hM.1, ?_⟩
        rw [so 0 (by omega) (by omega)]
        exact hm0
    · obtain ⟨q2, q4⟩ := mc_oe (n := 186 + 10 * a) q2 (by omega)
      obtain ⟨q4, _⟩ := mc_oe (n := 188 + 10 * a + l) q4 (by omega)
      rw [sx_y_ev] at q2 q4
      have q2 : sy_r w3 95 (186 + 10 * a) = sy_r w 95 (186 + 10 * a) := q2
      have q4 : sy_r w3 95 (188 + 10 * a + l) = sy_r w 95 (188 + 10 * a + l) := q4
      refine mo_N_fr hM.2 (by rw [so 2 (by omega) (by omega)]; exact hy.1) (so 3 (by omega) (by omega)) (so 5 (by omega) (by omega)) (so 6 (by omega) (by omega)) (fun i _ _ => ?_)
      by_cases e : i = 186 + 10 * a
      · rw [e]; exact q2
      · by_cases e2 : i = 188 + 10 * a + l
        · rw [e2]; exact q4
        · exact so i e e2
    · obtain ⟨q2, q4⟩ := mc_oe (n := 186 + 10 * a) q2 (by omega)
      obtain ⟨q4, _⟩ := mc_oe (n := 188 + 10 * a + l) q4 (by omega)
      have q2 : sy_r w3 95 (186 + 10 * a) = 0 + (-1 * xn.toInt + (1 * sy_r w 95 (186 + 10 * a) + 0)) := q2
      have q4 : sy_r w3 95 (188 + 10 * a + l) = 0 + (-1 * xn.toInt + (1 * sy_r w 95 (188 + 10 * a + l) + 0)) := q4
      have q5 : 0 + (1 * xn.toInt + (-1 * sy_r w 95 (186 + 10 * a) + 0)) ≤ 0 := q3.1
      have q6 : 0 + (1 * xn.toInt + (-1 * sy_r w 95 (188 + 10 * a + l) + 0)) ≤ 0 := q3.2.1
      exact mo_pay (a0 := a) (l0 := l) (n := xn.toInt) hM.2 ha8 hl8 (by omega) (by rw [so 2 (by omega) (by omega)]; exact hy.1) (so 3 (by omega) (by omega)) (so 5 (by omega) (by omega)) (so 6 (by omega) (by omega)) (fun i h1 h2 => so i (by omega) (by omega)) (fun b hb hne j hj => so _ (by omega) (by omega)) (by omega) (by omega) (so _ (by omega) (by omega)) (by omega) (by omega) (fun l' hl' hne => so _ (by omega) (by omega))
  obtain ⟨res, g1, g2⟩ := main
  refine ⟨res, ru_of (k := 299) (M := pm_193) rfl ?_ g1, g2⟩
  rw [Bool.and_eq_true]
  exact ⟨rfl, sq_rcv ht rfl rfl rfl⟩
theorem mo_B_nn (y : Nat) : 0 ≤ mo_B y := (mo_B_le y).1
theorem mc_ds_of {p : Nat → Int} {w : pq_W} {a : Nat} (h : ng_eqs p w (mc_ds a)) : ∀ l : Nat, l < 8 → sy_r w 95 (188 + 10 * a + l) = 0 := by
  obtain ⟨h0, h⟩ := mc_oe (n := 188 + 10 * a + 0) (show ng_eqs p w (mc_o (188 + 10 * (a : Int) + ((0 : Nat) : Int)) (.inl (.inl (0, []))) :: _) from h) (by omega)
  obtain ⟨h1, h⟩ := mc_oe (n := 188 + 10 * a + 1) (show ng_eqs p w (mc_o (188 + 10 * (a : Int) + ((1 : Nat) : Int)) (.inl (.inl (0, []))) :: _) from h) (by omega)
  obtain ⟨h2, h⟩ := mc_oe (n := 188 + 10 * a + 2) (show ng_eqs p w (mc_o (188 + 10 * (a : Int) + ((2 : Nat) : Int)) (.inl (.inl (0, []))) :: _) from h) (by omega)
  obtain ⟨h3, h⟩ := mc_oe (n := 188 + 10 * a + 3) (show ng_eqs p w (mc_o (188 + 10 * (a : Int) + ((3 : Nat) : Int)) (.inl (.inl (0, []))) :: _) from h) (by omega)
  obtain ⟨h4, h⟩ := mc_oe (n := 188 + 10 * a + 4) (show ng_eqs p w (mc_o (188 + 10 * (a : Int) + ((4 : Nat) : Int)) (.inl (.inl (0, []))) :: _) from h) (by omega)
  obtain ⟨h5, h⟩ := mc_oe (n := 188 + 10 * a + 5) (show ng_eqs p w (mc_o (188 + 10 * (a : Int) + ((5 : Nat) : Int)) (.inl (.inl (0, []))) :: _) from h) (by omega)
  obtain ⟨h6, h⟩ := mc_oe (n := 188 + 10 * a + 6) (show ng_eqs p w (mc_o (188 + 10 * (a : Int) + ((6 : Nat) : Int)) (.inl (.inl (0, []))) :: _) from h) (by omega)
  obtain ⟨h7, h⟩ := mc_oe (n := 188 + 10 * a + 7) (show ng_eqs p w (mc_o (188 + 10 * (a : Int) + ((7 : Nat) : Int)) (.inl (.inl (0, []))) :: _) from h) (by omega)
  rw [ng_ek] at h0 h1 h2 h3 h4 h5 h6 h7
  intro l hl
  match l, hl with
  | 0, _ => exact h0
  | 1, _ => exact h1
  | 2, _ => exact h2
  | 3, _ => exact h3
  | 4, _ => exact h4
  | 5, _ => exact h5
  | 6, _ => exact h6
  | 7, _ => exact h7
theorem kz_airline {xc : Int32} {w : pq_W} (ht : sx_Ty sx_T0 w) (hJ : JJ w) : ∃ res, pq_Ru 300 173 [.ref 94, .int xc] w res ∧ kz_PGa w res := by
  have hy := mo_yT ht (Or.inl rfl)
  have hy2 : 0 ≤ sy_r w 95 2 ∧ sy_r w 95 2 ≤ 8 := hy.1
  have main : ∃ res, pq_Go 299 pm_173 0 (lv_args 0 [.ref 94, .int xc]) [] w 0 0 res ∧ kz_PGa w res := by
    refine ng_go (J := sx_tt) (Post := kz_PGa w) (fx_p [xc.toInt, sy_r w 95 2]) mc_a1 rfl ⟨xc.minValue_le_toInt, xc.toInt_le, hy2.1, hy2.2, trivial⟩ trivial ⟨rfl, ng_iy ⟨xc, rfl, rfl⟩ rfl, trivial⟩ trivial (mc_eo (n := 2) (by rw [sx_y_ev]; rfl) rfl trivial) ht sx_ctn (fun _ _ _ => trivial) ⟨fun x w2 t2 f2 a => kz_erGa hJ t2 f2 (mc_ans a.1), trivial⟩ ⟨fun ls2 st2 w2 t2 f2 q => ?_, trivial⟩
    obtain ⟨a1, a2, _, a4, _⟩ := q
    cases ng_st0 a2
    obtain ⟨c0, c1, c2, _⟩ := a1
    obtain ⟨d1, d2, d3, _⟩ := a4
    have d1 : 0 + (-1 * xc.toInt + 0) ≤ 0 := d1
    have d2 : -999999 + (1 * xc.toInt + 0) ≤ 0 := d2
    have d3 : -7 + (1 * sy_r w 95 2 + 0) ≤ 0 := d3
    obtain ⟨a, ea⟩ : ∃ a : Nat, (a : Int) = sy_r w 95 2 := ⟨(sy_r w 95 2).toNat, by omega⟩
    have ha8 : a < 8 := by omega
    have f2 : sx_Fr [(97, 0, 5)] w w2 := f2
    have s2 : ∀ i, sy_r w2 95 i = sy_r w 95 i := fun i => fr_no f2 ⟨Or.inl (by decide), trivial⟩
    have hM := hJ.2.1
    have c0 : pq_lk ls2 0 = some (.ref 94) := c0
    have g1 : ng_i ls2 1 xc.toInt := ng_yi c1 rfl
    have g2 : ng_i ls2 2 (a : Int) := ng_yi c2 ea.symm
    have ck := List.all_eq_true.mp mc_a2 a (List.mem_range.mpr ha8)
    refine ng_go (J := sx_tt) (Post := kz_PGa w) (fx_p [xc.toInt]) ck rfl ⟨(show 0 ≤ xc.toInt by omega), (show xc.toInt ≤ 999999 by omega), trivial⟩ trivial ⟨c0, ng_iy g1 rfl, ng_ik g2 rfl, trivial⟩ trivial (mc_eo (n := 2) (by rw [ng_ek, s2]; exact ea.symm) rfl trivial) t2 sx_ctn (fun _ _ _ => trivial) ⟨fun x w3 t3 f3 q => ?_, trivial⟩ trivial
    obtain ⟨q1, q2, _⟩ := q
    have f3 : sx_Fr [(95, 2, 2), (95, 186 + 10 * (a : Int), 195 + 10 * (a : Int))] w2 w3 := f3
    have f4 : sx_Fr [(97, 0, 5), (95, 2, 2), (95, 186 + 10 * (a : Int), 195 + 10 * (a : Int))] w w3 := fr_cat f2 f3
    have so : ∀ i : Nat, i ≠ 2 → ¬ (186 + 10 * a ≤ i ∧ i ≤ 195 + 10 * a) → sy_r w3 95 i = sy_r w 95 i := fun i hi hi2 => fr_no f4 ⟨Or.inl (by decide), Or.inr (by omega), Or.inr (by omega), trivial⟩
    obtain ⟨_, q2⟩ := mc_oe (n := 2) q2 rfl
    obtain ⟨q3, q2⟩ := mc_oe (n := 186 + 10 * a) q2 (by omega)
    rw [sx_y_ev] at q3
    have q3 : sy_r w3 95 (186 + 10 * a) = xc.toInt := q3
    have q2 := mc_ds_of q2
    have hm0 : mo_N (sy_r w3 95) (fun _ _ => mo_B (sy_r w 95 0 / 100).toNat) := mo_airline (a0 := a) hM.2 (fun _ _ => mo_B_nn _) (mo_yT t3 (Or.inl rfl)).1 (so 3 (by omega) (by omega)) (so 5 (by omega) (by omega)) (so 6 (by omega) (by omega)) (fun i h1 h2 => so i (by omega) (by omega)) (fun b hb hne j hj => so _ (by omega) (by omega)) (by omega) q2
    refine kz_mkGa hJ t3 f4 ⟨⟨0, 100000, by decide, by omega, by omega⟩, (by first | exact ⟨138, 1321, by decide, by omega, by omega⟩ | exact ⟨3, 9, by decide, by omega, by omega⟩ | exact ⟨2, 2, by decide, by omega, by omega⟩ | exact ⟨302, 1321, by decide, by omega, by omega⟩), (by first | exact ⟨138, 1321, by decide, by omega, by omega⟩ | exact ⟨3, 9, by decide, by omega, by omega⟩ | exact ⟨2, 2, by decide, by omega, by omega⟩ | exact ⟨302, 1321, by decide, by omega, by omega⟩), trivial⟩ ?_ (mc_ans q1)
    refine ⟨by rw [so 0 (by omega) (by omega)]; exact hM.1, ?_⟩
    rw [so 0 (by omega) (by omega)]
    exact hm0
  obtain ⟨res, g1, g2⟩ := main
  refine ⟨res, ru_of (k := 299) (M := pm_173) rfl ?_ g1, g2⟩
  rw [Bool.and_eq_true]
  exact ⟨rfl, sq_rcv ht rfl rfl rfl⟩
-- plane: symbols 0 kind, 1 airline, 2 weight, 3 how many airlines, 4 how many planes
theorem mc_l1 : ng_chk [(97, 0, 5)] [] [] 299 174 pm_174 0 [sy_full, sy_full, sy_full, (0, 8), (0, 12)] [] [(0, fx_r), (1, fx_i 0), (2, fx_i 1), (3, fx_i 2)] [] [mc_o 2 (fx_i 3), mc_o 3 (fx_i 4)] [(mc_any, [], [], [])] [(83, (ng_L [(0, fx_r), (1, fx_i 0), (2, fx_i 1), (3, fx_i 2), (4, fx_i 4)], [], [], [(0, [(0, -1)]), (-5, [(0, 1)]), (0, [(1, -1)]), (-7, [(1, 1)]), (1, [(2, -1)]), (-600, [(2, 1)]), (-11, [(4, 1)])], []))] 300 = true := by decide +kernel
theorem mc_l2 : ((List.range 12).all fun p => ng_chk [(95, 3, 3), (95, 266 + 3 * p, 268 + 3 * p)] [] [] 299 174 pm_174 83 [(0, 5), (0, 7), (1, 600)] [] [(0, fx_r), (1, fx_i 0), (2, fx_i 1), (3, fx_i 2), (4, fx_k p)] [] [mc_o 3 (fx_k p)] [(mc_any, [mc_o 3 (fx_k (p + 1))], [], [])] [] 300) = true := by decide +kernel
theorem kz_plane {xk xa xw : Int32} {w : pq_W} (ht : sx_Ty sx_T0 w) (hJ : JJ w) : ∃ res, pq_Ru 300 174 [.ref 94, .int xk, .int xa, .int xw] w res ∧ kz_P w res := by
  have hy := mo_yT ht (Or.inl rfl)
  have hy2 : 0 ≤ sy_r w 95 2 ∧ sy_r w 95 2 ≤ 8 := hy.1
  have hy3 : 0 ≤ sy_r w 95 3 ∧ sy_r w 95 3 ≤ 12 := hy.2.1
  have main : ∃ res, pq_Go 299 pm_174 0 (lv_args 0 [.ref 94, .int xk, .int xa, .int xw]) [] w 0 0 res ∧ kz_P w res := by
    refine ng_go (J := sx_tt) (Post := kz_P w) (fx_p [xk.toInt, xa.toInt, xw.toInt, sy_r w 95 2, sy_r w 95 3]) mc_l1 rfl ⟨xk.minValue_le_toInt, xk.toInt_le, xa.minValue_le_toInt, xa.toInt_le, xw.minValue_le_toInt, xw.toInt_le, hy2.1, hy2.2, hy3.1, hy3.2, trivial⟩ trivial ⟨rfl, ng_iy ⟨xk, rfl, rfl⟩ rfl, ng_iy ⟨xa, rfl, rfl⟩ rfl, ng_iy ⟨xw, rfl, rfl⟩ rfl, trivial⟩ trivial (mc_eo (n := 2) (by rw [sx_y_ev]; rfl) rfl (mc_eo (n := 3) (by rw [sx_y_ev]; rfl) rfl trivial)) ht sx_ctn (fun _ _ _ => trivial) ⟨fun x w2 t2 f2 a => kz_er hJ t2 f2 (mc_ans a.1), trivial⟩ ⟨fun ls2 st2 w2 t2 f2 q => ?_, trivial⟩
    obtain ⟨a1, a2, _, a4, _⟩ := q
    cases ng_st0 a2
    obtain ⟨c0, c1, c2, c3, c4, _⟩ := a1
    obtain ⟨d1, d2, d3, d4, d5, d6, d7, _⟩ := a4
    have d1 : 0 + (-1 * xk.toInt + 0) ≤ 0 := d1
    have d2 : -5 + (1 * xk.toInt + 0) ≤ 0 := d2
    have d3 : 0 + (-1 * xa.toInt + 0) ≤ 0 := d3
    have d4 : -7 + (1 * xa.toInt + 0) ≤ 0 := d4
    have d5 : 1 + (-1 * xw.toInt + 0) ≤ 0 := d5
    have d6 : -600 + (1 * xw.toInt + 0) ≤ 0 := d6
    have d7 : -11 + (1 * sy_r w 95 3 + 0) ≤ 0 := d7
    obtain ⟨p, ep⟩ : ∃ p : Nat, (p : Int) = sy_r w 95 3 := ⟨(sy_r w 95 3).toNat, by omega⟩
    have hp12 : p < 12 := by omega
    have f2 : sx_Fr [(97, 0, 5)] w w2 := f2
    have s2 : ∀ i, sy_r w2 95 i = sy_r w 95 i := fun i => fr_no f2 ⟨Or.inl (by decide), trivial⟩
    have hM := hJ.2.1
    have c0 : pq_lk ls2 0 = some (.ref 94) := c0
    have g1 : ng_i ls2 1 xk.toInt := ng_yi c1 rfl
    have g2 : ng_i ls2 2 xa.toInt := ng_yi c2 rfl
    have g3 : ng_i ls2 3 xw.toInt := ng_yi c3 rfl
    have g4 : ng_i ls2 4 (p : Int) := ng_yi c4 ep.symm
    have ck := List.all_eq_true.mp mc_l2 p (List.mem_range.mpr hp12)
    refine ng_go (J := sx_tt) (Post := kz_P w) (fx_p [xk.toInt, xa.toInt, xw.toInt]) ck rfl ⟨(show 0 ≤ xk.toInt by omega), (show xk.toInt ≤ 5 by omega), (show 0 ≤ xa.toInt by omega), (show xa.toInt ≤ 7 by omega), (show 1 ≤ xw.toInt by omega), (show xw.toInt ≤ 600 by omega), trivial⟩ trivial ⟨c0, ng_iy g1 rfl, ng_iy g2 rfl, ng_iy g3 rfl, ng_ik g4 rfl, trivial⟩ trivial (mc_eo (n := 3) (by rw [ng_ek, s2]; exact ep.symm) rfl trivial) t2 sx_ctn (fun _ _ _ => trivial) ⟨fun x w3 t3 f3 q => ?_, trivial⟩ trivial
    obtain ⟨q1, q2, _⟩ := q
    have f3 : sx_Fr [(95, 3, 3), (95, 266 + 3 * (p : Int), 268 + 3 * (p : Int))] w2 w3 := f3
    have f4 : sx_Fr [(97, 0, 5), (95, 3, 3), (95, 266 + 3 * (p : Int), 268 + 3 * (p : Int))] w w3 := fr_cat f2 f3
    have so : ∀ i : Nat, i ≠ 3 → ¬ (266 + 3 * p ≤ i ∧ i ≤ 268 + 3 * p) → sy_r w3 95 i = sy_r w 95 i := fun i hi hi2 => fr_no f4 ⟨Or.inl (by decide), Or.inr (by omega), Or.inr (by omega), trivial⟩
    obtain ⟨q2, _⟩ := mc_oe (n := 3) q2 rfl
    rw [ng_ek] at q2
    have hm0 : mo_N (sy_r w3 95) (fun _ _ => mo_B (sy_r w 95 0 / 100).toNat) := mo_plane (p0 := p) hM.2 (mo_yT t3 (Or.inl rfl)) ep (by rw [q2, ← ep]) (so 5 (by omega) (by omega)) (so 6 (by omega) (by omega)) (fun i h1 h2 h3 => so i (by omega) h3)
    refine kz_mk hJ t3 f4 ⟨⟨0, 100000, by decide, by omega, by omega⟩, (by first | exact ⟨138, 1321, by decide, by omega, by omega⟩ | exact ⟨3, 9, by decide, by omega, by omega⟩ | exact ⟨2, 2, by decide, by omega, by omega⟩ | exact ⟨302, 1321, by decide, by omega, by omega⟩), (by first | exact ⟨138, 1321, by decide, by omega, by omega⟩ | exact ⟨3, 9, by decide, by omega, by omega⟩ | exact ⟨2, 2, by decide, by omega, by omega⟩ | exact ⟨302, 1321, by decide, by omega, by omega⟩), trivial⟩ ?_ (mc_ans q1)
    refine ⟨by rw [so 0 (by omega) (by omega)]; exact hM.1, ?_⟩
    rw [so 0 (by omega) (by omega)]
    exact hm0
  obtain ⟨res, g1, g2⟩ := main
  refine ⟨res, ru_of (k := 299) (M := pm_174) rfl ?_ g1, g2⟩
  rw [Bool.and_eq_true]
  exact ⟨rfl, sq_rcv ht rfl rfl rfl⟩
