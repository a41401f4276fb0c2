/-! fuel of both sides, exactly -/
theorem sq_fat {w : pq_W} {r ci i : Nat} {fs : List sx_ft} {lo hi : Int} (ht : sx_Ty sx_T0 w) (hT : sx_T0[r]? = some (.inl (ci, fs))) (hf : fs[i]? = some (.inl (lo, hi))) : ∃ x : Int32, sx_wg w r i = some (.int x) ∧ x.toInt = sy_r w r i ∧ lo ≤ sy_r w r i ∧ sy_r w r i ≤ hi := by
  obtain ⟨c, h1, h2⟩ := sx_Ty_get ht hT
  match c, h1, h2 with
  | .inr (c, vs), h1, h2 =>
    obtain ⟨e1, e2, h3⟩ := h2
    have hl : i < vs.length := by
      rw [e2]
      exact (List.getElem?_eq_some_iff.mp hf).1
    have hv : vs[i]? = some vs[i] := List.getElem?_eq_getElem hl
    have h4 := h3 i _ _ hf hv
    have hg : sx_wg w r i = some vs[i] := by
      rw [sx_wg_of h1]
      exact hv
    generalize vs[i] = v at h4 hg
    match v, h4, hg with
    | .int x, h4, hg => exact ⟨x, hg, (sy_r_of hg).symm, by rw [sy_r_of hg]; exact h4.1, by rw [sy_r_of hg]; exact h4.2⟩
theorem sq_rcv {w : pq_W} {r ci : Nat} {fs : List sx_ft} {M : pq_M} {xs : List Value} (ht : sx_Ty sx_T0 w) (hT : sx_T0[r]? = some (.inl (ci, fs))) (h1 : (pq_ns M).headD 9 = 1) (h2 : (pq_ns M).getD 6 99 = ci) : pq_rcv M (.ref r :: xs) w = true := by
  obtain ⟨c, k1, k2⟩ := sx_Ty_get ht hT
  match c, k1, k2 with
  | .inr (c, vs), k1, k2 =>
    unfold pq_rcv
    rw [h1]
    show (match w[r]? with
      | some (.inr (ci, _)) => Nat.beq ci ((pq_ns M).getD 6 99)
      | _ => false) = true
    rw [k1]
    show Nat.beq c ((pq_ns M).getD 6 99) = true
    rw [h2, k2.1]
    exact Nat.beq_refl ci
noncomputable def fu_P (A : sx_A) : sx_P := (sx_T0, A, [], [])
noncomputable def fu_sl (r : Nat) : List (Nat × sx_V) := [(0, .inr (.inr r)), (1, fx_i 0)]
noncomputable def fu_S (r j : Nat) (M : pq_M) (i : Int × Int) (O : sx_O) : sx_S := sq_s0 9 j M 0 [i, (0, 999)] [] (fu_sl r) [] O []
noncomputable def fu_b : List sq_Ae := [(.inl (.inl (fx_k (-1000001))), [], [], [])]
theorem fu_m1 : fx_go (fu_P [(95, 1, 1)]) [(.inl (.inl (fx_i 1)), [(95, (1, []), fx_i 0)], [], [])] [] 100 (fu_S 94 230 pm_230 (0, 999) [(95, (1, []), fx_i 1)]) = true := by decide +kernel
theorem fu_m2 : fx_go (fu_P [(97, 0, 5)]) fu_b [] 100 (fu_S 94 230 pm_230 (-2147483648, -1) []) = true := by decide +kernel
theorem fu_m3 : fx_go (fu_P [(97, 0, 5)]) fu_b [] 100 (fu_S 94 230 pm_230 (1000, 2147483647) []) = true := by decide +kernel
theorem fu_c1 : fx_go (fu_P [(6, 9, 9)]) [(.inl (.inl (fx_i 1)), [(6, (9, []), fx_i 0)], [], [])] [] 100 (fu_S 5 121 pm_121 (0, 999) [(6, (9, []), fx_i 1)]) = true := by decide +kernel
theorem fu_c2 : fx_go (fu_P [(93, 0, 100000)]) fu_b [] 100 (fu_S 5 121 pm_121 (-2147483648, -1) []) = true := by decide +kernel
theorem fu_c3 : fx_go (fu_P [(93, 0, 100000)]) fu_b [] 100 (fu_S 5 121 pm_121 (1000, 2147483647) []) = true := by decide +kernel
noncomputable def fu_Q (cr ix : Nat) (A2 : sx_A) (v : Int32) (w : pq_W) (res : pq_R) : Prop := sx_Ty sx_T0 res.2 ∧ ∃ x : Int32, res.1 = some (.int x) ∧ ((0 ≤ v.toInt ∧ v.toInt ≤ 999 ∧ x.toInt = sy_r w cr ix ∧ sy_r res.2 cr ix = v.toInt ∧ sx_Fr [(cr, ix, ix)] w res.2) ∨ (¬ (0 ≤ v.toInt ∧ v.toInt ≤ 999) ∧ x.toInt = -1000001 ∧ sx_Fr A2 w res.2))
theorem fu_fin {r j : Nat} {M : pq_M} {v : Int32} {w : pq_W} {Q : pq_R → Prop} (hru : ∀ res, pq_Go 9 M 0 (lv_args 0 [.ref r, .int v]) [] w 0 0 res → pq_Ru 10 j [.ref r, .int v] w res) (h : ∃ res, pq_Go 9 M 0 (lv_args 0 [.ref r, .int v]) [] w 0 0 res ∧ Q res) : ∃ res, pq_Ru 10 j [.ref r, .int v] w res ∧ Q res := by
  obtain ⟨res, g, q⟩ := h
  exact ⟨res, hru res g, q⟩
theorem fu_gen {r j cr ix : Nat} {M : pq_M} {A2 : sx_A} (hM : pq_tab[j]? = some M) (hs : Nat.ble 2 (pq_mL M) = true) (k1 : fx_go (fu_P [(cr, ix, ix)]) [(.inl (.inl (fx_i 1)), [(cr, ((ix : Int), []), fx_i 0)], [], [])] [] 100 (fu_S r j M (0, 999) [(cr, ((ix : Int), []), fx_i 1)]) = true) (k2 : fx_go (fu_P A2) fu_b [] 100 (fu_S r j M (-2147483648, -1) []) = true) (k3 : fx_go (fu_P A2) fu_b [] 100 (fu_S r j M (1000, 2147483647) []) = true) (v : Int32) (w : pq_W) (ht : sx_Ty sx_T0 w) (hrc : pq_rcv M [.ref r, .int v] w = true) (hx : ∃ x : Int32, sx_wg w cr ix = some (.int x) ∧ x.toInt = sy_r w cr ix ∧ 0 ≤ sy_r w cr ix ∧ sy_r w cr ix ≤ 999) : ∃ res, pq_Ru 10 j [.ref r, .int v] w res ∧ fu_Q cr ix A2 v w res := by
  have hl : ∀ p : Nat → Int, p 0 = v.toInt → sx_lm p (fu_sl r) (lv_args 0 [.ref r, .int v]) := fun p hp => sy_lm1 ⟨.ref r, rfl, rfl⟩ (sy_lm1 ⟨.int v, rfl, by
    show v.toInt = sx_ev p (sx_y 0)
    rw [sx_y_ev, hp]⟩ sy_lm0)
  have hru : ∀ res, pq_Go 9 M 0 (lv_args 0 [.ref r, .int v]) [] w 0 0 res → pq_Ru 10 j [.ref r, .int v] w res := fun res g => ru_of hM (by rw [Bool.and_eq_true]; exact ⟨hs, hrc⟩) g
  have hb := v.minValue_le_toInt
  have hb2 := v.toInt_le
  by_cases h0 : 0 ≤ v.toInt
  · by_cases h1 : v.toInt ≤ 999
    · obtain ⟨x, x1, x2, x3, x4⟩ := hx
      refine fu_fin hru ?_
      refine sq_sg (P := fu_P [(cr, ix, ix)]) (S := fu_S r j M (0, 999) [(cr, ((ix : Int), []), fx_i 1)]) (J := sx_tt) (w0 := w) (p0 := fx_p [v.toInt, x.toInt]) (Post := fu_Q cr ix A2 v w) k1 (sq_s0_ok hM ⟨h0, h1, (show 0 ≤ x.toInt by omega), (show x.toInt ≤ 999 by omega), trivial⟩ sy_F0 (hl _ rfl) trivial (sy_O1 ⟨ix, by show (ix : Int) = (ix : Int) + 0; omega, _, x1, by show x.toInt = 0 + (1 * x.toInt + 0); omega⟩ sy_O0) ht (sx_Fr_refl _ _) rfl) sx_ctn (fun _ _ _ => trivial)
        (fun p rr w2 e t f al => ?_) (fun h hh a2 ha2 p ls2 st w2 e t f hq => by cases hh)
      · obtain ⟨a1, a2, _, _⟩ := sy_one al
        match rr, a1 with
        | some (.int y), a1 =>
          have a1 : y.toInt = 0 + (1 * p 1 + 0) := a1
          have e1 : p 1 = x.toInt := e 1 (by show 1 < 2; decide)
          have e0 : p 0 = v.toInt := e 0 (by show 0 < 2; decide)
          obtain ⟨i, i1, z, i2, i3⟩ := a2 _ List.mem_cons_self
          have i1 : (i : Int) = (ix : Int) + 0 := i1
          have ei : i = ix := by omega
          subst ei
          match z, i2, i3 with
          | .int z, i2, i3 =>
            have i3 : z.toInt = 0 + (1 * p 0 + 0) := i3
            refine ⟨t, y, rfl, Or.inl ⟨h0, h1, by omega, ?_, f⟩⟩
            show sy_r w2 cr i = v.toInt
            rw [sy_r_of i2]
            omega
    · refine fu_fin hru ?_
      refine sq_sg (P := fu_P A2) (S := fu_S r j M (1000, 2147483647) []) (J := sx_tt) (w0 := w) (p0 := fx_p [v.toInt, 0]) (Post := fu_Q cr ix A2 v w) k3 (sq_s0_ok hM ⟨(show 1000 ≤ v.toInt by omega), hb2, (by decide : (0 : Int) ≤ 0), (by decide : (0 : Int) ≤ 999), trivial⟩ sy_F0 (hl _ rfl) trivial sy_O0 ht (sx_Fr_refl _ _) rfl) sx_ctn (fun _ _ _ => trivial)
        (fun p rr w2 e t f al => ?_) (fun h hh a2 ha2 p ls2 st w2 e t f hq => by cases hh)
      · obtain ⟨a1, _⟩ := sy_one al
        match rr, a1 with
        | some (.int y), a1 =>
          have a1 : y.toInt = -1000001 + 0 := a1
          exact ⟨t, y, rfl, Or.inr ⟨fun h => h1 h.2, by omega, f⟩⟩
  · refine fu_fin hru ?_
    refine sq_sg (P := fu_P A2) (S := fu_S r j M (-2147483648, -1) []) (J := sx_tt) (w0 := w) (p0 := fx_p [v.toInt, 0]) (Post := fu_Q cr ix A2 v w) k2 (sq_s0_ok hM ⟨hb, (show v.toInt ≤ -1 by omega), (by decide : (0 : Int) ≤ 0), (by decide : (0 : Int) ≤ 999), trivial⟩ sy_F0 (hl _ rfl) trivial sy_O0 ht (sx_Fr_refl _ _) rfl) sx_ctn (fun _ _ _ => trivial)
      (fun p rr w2 e t f al => ?_) (fun h hh a2 ha2 p ls2 st w2 e t f hq => by cases hh)
    · obtain ⟨a1, _⟩ := sy_one al
      match rr, a1 with
      | some (.int y), a1 =>
        have a1 : y.toInt = -1000001 + 0 := a1
        exact ⟨t, y, rfl, Or.inr ⟨fun h => h0 h.1, by omega, f⟩⟩
theorem kx_m_fuel (v : Int32) (w : pq_W) (ht : sx_Ty sx_T0 w) : ∃ res, pq_Ru 10 230 [.ref 94, .int v] w res ∧ fu_Q 95 1 [(97, 0, 5)] v w res := by
  refine fu_gen (M := pm_230) rfl rfl fu_m1 fu_m2 fu_m3 v w ht (sq_rcv ht rfl rfl rfl) ?_
  obtain ⟨x, h1, h2⟩ := sy_at (r := 95) ht rfl (i := 1) (by decide)
  exact ⟨x, h1, h2, (fx_fuel ht).1, (fx_fuel ht).2⟩
theorem kx_c_fuel (v : Int32) (w : pq_W) (ht : sx_Ty sx_T0 w) : ∃ res, pq_Ru 10 121 [.ref 5, .int v] w res ∧ fu_Q 6 9 [(93, 0, 100000)] v w res :=
  fu_gen (M := pm_121) rfl rfl fu_c1 fu_c2 fu_c3 v w ht (sq_rcv ht rfl rfl rfl) (sq_fat (r := 6) ht rfl rfl)
