/-! isRow. Symbols 0 sheet, 1 low, 2 size -/
noncomputable def ir_b (g k : sx_V) : List (Nat × sx_V) := [(0, fx_r), (1, fx_i 0), (2, fx_i 1), (3, fx_i 2), (4, g), (5, k)]
noncomputable def ir_iv (z : Int × Int) : List (Int × Int) := [(0, 3), (-1, 0), z]
noncomputable def ir_hd (k : sx_V) (C : List sx_F) : List (Nat × ng_Al) := [(28, (ng_L (ir_b (fx_k 1) k), [], [], C, [])), (28, (ng_L (ir_b (fx_k 0) k), [], [], [], []))]
theorem ir_1 : ng_chk [] [] [] 29 209 pm_209 0 (ir_iv (0, 24)) [] [(0, fx_r), (1, fx_i 0), (2, fx_i 1)] [] [(99, sx_y 0, fx_i 2)] [] (ir_hd (fx_k 0) [(2, [(2, -1)]), (-12, [(2, 1)])]) 100 = true := by decide +kernel
-- symbols 3 what stands there (and 4 k)
theorem ir_2 : ng_chk [] [] [] 29 209 pm_209 28 (ir_iv (2, 12) ++ [sy_full]) [] (ir_b (fx_k 1) (fx_k 0)) [] [(100, (0, [(0, 24)]), fx_i 3)] [] (ir_hd (fx_k 1) [(0, [(3, -1)]), (-63, [(3, 1)])]) 100 = true := by decide +kernel
theorem ir_3 : ng_chk [] [] [] 29 209 pm_209 28 (ir_iv (2, 12) ++ [sy_full]) [] (ir_b (fx_k 1) (.inl (.inl (-1, [(2, 1)])))) [] [(100, (-1, [(0, 24), (2, 1)]), fx_i 3)] [] (ir_hd (fx_i 2) [(0, [(3, -1)]), (-63, [(3, 1)])]) 100 = true := by decide +kernel
theorem ir_4 : ng_chk [] [] [] 29 209 pm_209 28 (ir_iv (2, 12) ++ [sy_full, (1, 10)]) [(2, [(2, -1), (4, 1)])] (ir_b (fx_k 1) (fx_i 4)) [] [(100, (0, [(0, 24), (4, 1)]), fx_i 3)] [] (ir_hd (.inl (.inl (1, [(4, 1)]))) [(0, [(1, 1), (3, -1)]), (-63, [(3, 1)])]) 100 = true := by decide +kernel
-- symbol 3 k
theorem ir_5 : ng_chk [] [] [] 29 209 pm_209 28 (ir_iv (0, 24) ++ [(0, 24)]) [] (ir_b (fx_k 0) (fx_i 3)) [] [] [(.inl (.inl (fx_k 0)), [], [], [])] [] 100 = true := by decide +kernel
theorem ir_6 : ng_chk [] [] [] 29 209 pm_209 28 (ir_iv (2, 12)) [] (ir_b (fx_k 1) (fx_i 2)) [] [] [] [(103, ([], [fx_k 1, fx_k (-2), fx_i 2, .inl (.inl (0, [(0, 24)])), .inr (.inr 100), fx_r], [], [], []))] 100 = true := by decide +kernel
theorem ir_7 : ng_chk [] [] [] 29 209 pm_209 106 [] [] [] [fx_k 1000000] [] [(.inl (.inl (fx_k 0)), [], [], [])] [] 100 = true := by decide +kernel
theorem ir_8 : ng_chk [] [] [] 29 209 pm_209 106 [(0, 110)] [] [] [fx_i 0] [] [(.inl (.inl (fx_k 1)), [], [], [])] [] 100 = true := by decide +kernel
noncomputable def irR (w : pq_W) (s : Nat) (k : Nat) : Int := sy_r w 100 (24 * s + k)
/-- a sheet's numbers are a row that is a way -/
noncomputable def ir_ok (w : pq_W) (s : Nat) (lo : Int) : Prop := 2 ≤ sy_r w 99 s ∧ sy_r w 99 s ≤ 12 ∧ (∀ k : Nat, (k : Int) < sy_r w 99 s → lo ≤ irR w s k ∧ irR w s k ≤ 63) ∧ 0 ≤ irR w s ((sy_r w 99 s).toNat - 1) ∧ gR (irR w s) ((sy_r w 99 s).toNat - 1) (irR w s ((sy_r w 99 s).toNat - 1)).toNat
noncomputable def ir_P (w : pq_W) (s : Nat) (lo : Int) (res : pq_R) : Prop := sx_Ty sx_T0 res.2 ∧ sx_Fr gA w res.2 ∧ ∃ x : Int32, res.1 = some (.int x) ∧ (x.toInt = 0 ∨ (x.toInt = 1 ∧ ir_ok w s lo))
noncomputable def irB (ls : pq_L) (a b c d e : Int) : Prop := pq_lk ls 0 = some (.ref 94) ∧ ng_i ls 1 a ∧ ng_i ls 2 b ∧ ng_i ls 3 c ∧ ng_i ls 4 d ∧ ng_i ls 5 e
theorem irB_of {p : Nat → Int} {ls : pq_L} {g k : sx_V} {a b c : Int} (h : ng_sl p ls (ng_L (ir_b g k))) (e0 : p 0 = a) (e1 : p 1 = b) (e2 : p 2 = c) : (pq_lk ls 0 = some (.ref 94) ∧ ng_i ls 1 a ∧ ng_i ls 2 b ∧ ng_i ls 3 c) ∧ ng_d p ls 4 g ∧ ng_d p ls 5 k := ⟨⟨h.1, ng_yi h.2.1 e0, ng_yi h.2.2.1 e1, ng_yi h.2.2.2.1 e2⟩, h.2.2.2.2.1, h.2.2.2.2.2.1⟩
theorem ir_sz {w : pq_W} (ht : sx_Ty sx_T0 w) {s : Nat} (hs : s < 4) : 0 ≤ sy_r w 99 s ∧ sy_r w 99 s ≤ 24 := by
  have := sy_rg (r := 99) ht rfl (g := (0, 1, 4, 0, 0, 0, 24)) (by decide) (k := s) (j := 0) hs (Nat.le_refl _) (Nat.le_refl _) (by show 0 + 1 * s + 0 < 4; omega)
  have this : 0 ≤ sy_r w 99 (0 + 1 * s + 0) ∧ sy_r w 99 (0 + 1 * s + 0) ≤ 24 := this
  rw [show 0 + 1 * s + 0 = s by omega] at this
  exact this
theorem kx_isrow {w : pq_W} {s : Nat} {xs xl : Int32} (ht : sx_Ty sx_T0 w) (hs : s < 4) (es : xs.toInt = s) (hl : -1 ≤ xl.toInt ∧ xl.toInt ≤ 0) : ∃ res, pq_Ru 30 209 [.ref 94, .int xs, .int xl] w res ∧ ir_P w s xl.toInt res := by
  have hsv : (0 : Int) ≤ s ∧ (s : Int) ≤ 3 := by omega
  have hz := ir_sz ht hs
  obtain ⟨sz, esz⟩ : ∃ sz : Nat, (sz : Int) = sy_r w 99 s := ⟨(sy_r w 99 s).toNat, by omega⟩
  have etn : (sy_r w 99 s).toNat = sz := by omega
  -- no row
  have bad : ∀ ls w2 (k : Int), 0 ≤ k ∧ k ≤ 24 → irB ls s xl.toInt sz 0 k → sx_Ty sx_T0 w2 → sx_Fr [] w w2 → ∃ res, pq_Go 29 pm_209 28 ls [] w2 0 0 res ∧ ir_P w s xl.toInt res := by
    intro ls w2 k hk hb t2 f2
    refine ng_go (J := sx_tt) (Post := ir_P w s xl.toInt) (fx_p [s, xl.toInt, sz, k]) ir_5 rfl ⟨hsv.1, hsv.2, hl.1, hl.2, (show (0 : Int) ≤ sz by omega), (show (sz : Int) ≤ 24 by omega), hk.1, hk.2, trivial⟩ trivial ⟨hb.1, ng_iy hb.2.1 rfl, ng_iy hb.2.2.1 rfl, ng_iy hb.2.2.2.1 rfl, ng_ik hb.2.2.2.2.1 rfl, ng_iy hb.2.2.2.2.2 rfl, trivial⟩ trivial trivial t2 sx_ctn (fun _ _ _ => trivial) ⟨fun x w3 t3 f3 q => ?_, trivial⟩ trivial
    obtain ⟨⟨y, y1, y2⟩, _⟩ := q
    rw [ng_ek] at y2
    exact ⟨t3, ng_n2 (sx_Fr_trans f2 f3), y, y1, Or.inl y2⟩
  -- the numbers one by one
  have loop : 2 ≤ sz → sz ≤ 12 → ∀ (m k : Nat), k + m = sz → ∀ ls w2, irB ls s xl.toInt sz 1 k → sx_Ty sx_T0 w2 → sx_Fr [] w w2 → (∀ k' : Nat, k' < k → (if k' = 0 ∨ k' + 1 = sz then 0 else xl.toInt) ≤ irR w s k' ∧ irR w s k' ≤ 63) → ∃ res, pq_Go 29 pm_209 28 ls [] w2 0 0 res ∧ ir_P w s xl.toInt res := by
    intro z2 z12 m
    induction m with
    | zero =>
      intro k hk ls w2 hb t2 f2 hi
      refine ng_go (J := sx_tt) (Post := ir_P w s xl.toInt) (fx_p [s, xl.toInt, sz]) ir_6 rfl ⟨hsv.1, hsv.2, hl.1, hl.2, (show (2 : Int) ≤ sz by omega), (show (sz : Int) ≤ 12 by omega), trivial⟩ trivial ⟨hb.1, ng_iy hb.2.1 rfl, ng_iy hb.2.2.1 rfl, ng_iy hb.2.2.2.1 rfl, ng_ik hb.2.2.2.2.1 rfl, ng_iy hb.2.2.2.2.2 (show (sz : Int) = k by omega), trivial⟩ trivial trivial t2 sx_ctn (fun _ _ _ => trivial) trivial ⟨fun ls3 st3 w3 t3 f3 q => ?_, trivial⟩
      obtain ⟨_, a2, _⟩ := q
      have f3 : sx_Fr [] w w3 := sx_Fr_trans f2 f3
      match st3, a2 with
      | [.int a4, .int a3, .int a2', .int a1, .ref r1, .ref r2], h =>
        obtain ⟨k1, k2, k3, k4, k5, k6, _⟩ := h
        have k1 : a4.toInt = sx_ev _ (1, []) := k1
        have k3 : a2'.toInt = sx_ev _ (sx_y 2) := k3
        have k4 : a1.toInt = 0 + (24 * (s : Int) + 0) := k4
        have k5 : r1 = 100 := k5
        have k6 : r2 = 94 := k6
        subst k5
        subst k6
        rw [ng_ek] at k1
        rw [sx_y_ev] at k3
        have k3 : a2'.toInt = sz := k3
        have hrow : ∀ k', k' < sz → -1 ≤ sy_r w3 100 (24 * s + k') ∧ sy_r w3 100 (24 * s + k') ≤ 63 := fun k' hk' => by
          rw [ng_nil f3]
          have := hi k' (by omega)
          unfold irR at this
          split at this <;> omega
        have hlast : 0 ≤ irR w s (sz - 1) := by
          have := hi (sz - 1) (by omega)
          rw [if_pos (Or.inr (by omega))] at this
          exact this.1
        obtain ⟨⟨r4, w4⟩, g1, t4, f4, x, rfl, hx⟩ := gone_ok (r := 100) (fi := 24 * s) (sz := sz) (xf := a1) (xz := a2') (xl := a3) (xs := a4) (s := 1) t3 (Or.inr rfl) (Or.inl rfl) (by show ((24 * s : Nat) : Int) ≤ 72; omega) (by omega) (by omega) k3 k1 hrow (by rw [ng_nil f3]; exact hlast)
        have t4 : sx_Ty sx_T0 w4 := t4
        have f4 : sx_Fr gA w3 w4 := f4
        have hx : gw (fun k => sy_r w3 100 (24 * s + k)) 1 (sz - 1) (sy_r w3 100 (24 * s + (sz - 1))).toNat x.toInt := hx
        have erow : (fun k => sy_r w3 100 (24 * s + k)) = irR w s := funext (fun k => ng_nil f3 100 _)
        rw [erow, show sy_r w3 100 (24 * s + (sz - 1)) = irR w s (sz - 1) from ng_nil f3 100 _] at hx
        have back : ∃ res, pq_Go 29 pm_209 106 ls3 [.int x] w4 0 0 res ∧ ir_P w s xl.toInt res := by
          rcases hx with ⟨h1, h2, h3⟩ | ⟨h1, h2⟩
          · have h2 : 0 ≤ x.toInt := h2
            have h3 : x.toInt ≤ 10 * ((sz - 1 : Nat) : Int) := h3
            refine ng_go (J := sx_tt) (Post := ir_P w s xl.toInt) (fx_p [x.toInt]) ir_8 rfl ⟨h2, (show x.toInt ≤ 110 by omega), trivial⟩ trivial trivial ⟨by show x.toInt = sx_ev _ (sx_y 0); rw [sx_y_ev]; rfl, trivial⟩ trivial t4 sx_ctn (fun _ _ _ => trivial) ⟨fun r w5 t5 f5 q => ?_, trivial⟩ trivial
            obtain ⟨⟨y, y1, y2⟩, _⟩ := q
            rw [ng_ek] at y2
            refine ⟨t5, sx_Fr_trans (sx_Fr_trans (ng_n2 f3) f4) (ng_n2 f5), y, y1, Or.inr ⟨y2, by omega, by omega, fun k' hk' => ?_, by rw [etn]; exact hlast, by rw [etn]; exact h1⟩⟩
            have := hi k' (by omega)
            split at this <;> omega
          · refine ng_go (J := sx_tt) (Post := ir_P w s xl.toInt) (fx_p []) ir_7 rfl trivial trivial trivial ⟨by show x.toInt = sx_ev _ (1000000, []); rw [ng_ek]; exact h2, trivial⟩ trivial t4 sx_ctn (fun _ _ _ => trivial) ⟨fun r w5 t5 f5 q => ?_, trivial⟩ trivial
            obtain ⟨⟨y, y1, y2⟩, _⟩ := q
            rw [ng_ek] at y2
            exact ⟨t5, sx_Fr_trans (sx_Fr_trans (ng_n2 f3) f4) (ng_n2 f5), y, y1, Or.inl y2⟩
        obtain ⟨res, e1, e2⟩ := back
        exact ⟨res, go_cl (j := 210) (n := 6) (as := [.ref 94, .ref 100, .int a1, .int a2', .int a3, .int a4]) (k1 := 20) rfl rfl rfl rfl rfl rfl rfl g1 e1, e2⟩
    | succ m ih =>
      intro k hk ls w2 hb t2 f2 hi
      have xb := sy_rb w 100 (24 * s + k)
      -- on
      have good : ∀ ls3 w3, irB ls3 s xl.toInt sz 1 ((k + 1 : Nat) : Int) → sx_Ty sx_T0 w3 → sx_Fr [] w2 w3 → (if k = 0 ∨ k + 1 = sz then 0 else xl.toInt) ≤ irR w s k ∧ irR w s k ≤ 63 → ∃ res, pq_Go 29 pm_209 28 ls3 [] w3 0 0 res ∧ ir_P w s xl.toInt res := by
        intro ls3 w3 b3 t3 f3 hk3
        refine ih (k + 1) (by omega) ls3 w3 b3 t3 (sx_Fr_trans f2 f3) (fun k' hk' => ?_)
        by_cases e : k' = k
        · subst e
          exact hk3
        · exact hi k' (by omega)
      have badk : ∀ ls3 w3, irB ls3 s xl.toInt sz 0 ((k + 1 : Nat) : Int) → sx_Ty sx_T0 w3 → sx_Fr [] w2 w3 → ∃ res, pq_Go 29 pm_209 28 ls3 [] w3 0 0 res ∧ ir_P w s xl.toInt res := fun ls3 w3 b3 t3 f3 => bad ls3 w3 _ (by omega) b3 t3 (sx_Fr_trans f2 f3)
      have zv : (2 : Int) ≤ sz ∧ (sz : Int) ≤ 12 := by omega
      by_cases e0 : k = 0
      · subst e0
        refine ng_go (J := sx_tt) (Post := ir_P w s xl.toInt) (fx_p [s, xl.toInt, sz, irR w s 0]) ir_2 rfl ⟨hsv.1, hsv.2, hl.1, hl.2, zv.1, zv.2, xb.1, xb.2, trivial⟩ trivial ⟨hb.1, ng_iy hb.2.1 rfl, ng_iy hb.2.2.1 rfl, ng_iy hb.2.2.2.1 rfl, ng_ik hb.2.2.2.2.1 rfl, ng_ik hb.2.2.2.2.2 rfl, trivial⟩ trivial ⟨?_, trivial⟩ t2 sx_ctn (fun _ _ _ => trivial) trivial ⟨fun ls3 st3 w3 t3 f3 q => ?_, fun ls3 st3 w3 t3 f3 q => ?_, trivial⟩
        · show sy_r w2 100 (0 + (24 * (s : Int) + 0)).toNat = sx_ev _ (sx_y 3)
          rw [sx_y_ev, show (0 + (24 * (s : Int) + 0)).toNat = 24 * s + 0 by omega, ng_nil f2]
          rfl
        · obtain ⟨a1, a2, _, a4, _⟩ := q
          cases ng_st0 a2
          obtain ⟨q0, q4, q5⟩ := irB_of (a := (s : Int)) (b := xl.toInt) (c := (sz : Int)) a1 rfl rfl rfl
          have u1 : 0 + (-1 * irR w s 0 + 0) ≤ 0 := a4.1
          have u2 : -63 + (1 * irR w s 0 + 0) ≤ 0 := a4.2.1
          exact good ls3 w3 ⟨q0.1, q0.2.1, q0.2.2.1, q0.2.2.2, ng_ki q4 rfl, ng_ki q5 rfl⟩ t3 f3 (by rw [if_pos (Or.inl rfl)]; omega)
        · obtain ⟨a1, a2, _⟩ := q
          cases ng_st0 a2
          obtain ⟨q0, q4, q5⟩ := irB_of (a := (s : Int)) (b := xl.toInt) (c := (sz : Int)) a1 rfl rfl rfl
          exact badk ls3 w3 ⟨q0.1, q0.2.1, q0.2.2.1, q0.2.2.2, ng_ki q4 rfl, ng_ki q5 rfl⟩ t3 f3
      · by_cases e1 : k + 1 = sz
        · refine ng_go (J := sx_tt) (Post := ir_P w s xl.toInt) (fx_p [s, xl.toInt, sz, irR w s k]) ir_3 rfl ⟨hsv.1, hsv.2, hl.1, hl.2, zv.1, zv.2, xb.1, xb.2, trivial⟩ trivial ⟨hb.1, ng_iy hb.2.1 rfl, ng_iy hb.2.2.1 rfl, ng_iy hb.2.2.2.1 rfl, ng_ik hb.2.2.2.2.1 rfl, ng_if hb.2.2.2.2.2 (by show -1 + (1 * (sz : Int) + 0) = _; omega), trivial⟩ trivial ⟨?_, trivial⟩ t2 sx_ctn (fun _ _ _ => trivial) trivial ⟨fun ls3 st3 w3 t3 f3 q => ?_, fun ls3 st3 w3 t3 f3 q => ?_, trivial⟩
          · show sy_r w2 100 (-1 + (24 * (s : Int) + (1 * (sz : Int) + 0))).toNat = sx_ev _ (sx_y 3)
            rw [sx_y_ev, show (-1 + (24 * (s : Int) + (1 * (sz : Int) + 0))).toNat = 24 * s + k by omega, ng_nil f2]
            rfl
          · obtain ⟨a1, a2, _, a4, _⟩ := q
            cases ng_st0 a2
            obtain ⟨q0, q4, q5⟩ := irB_of (a := (s : Int)) (b := xl.toInt) (c := (sz : Int)) a1 rfl rfl rfl
            have u1 : 0 + (-1 * irR w s k + 0) ≤ 0 := a4.1
            have u2 : -63 + (1 * irR w s k + 0) ≤ 0 := a4.2.1
            exact good ls3 w3 ⟨q0.1, q0.2.1, q0.2.2.1, q0.2.2.2, ng_ki q4 rfl, ng_yi q5 (show (sz : Int) = _ by omega)⟩ t3 f3 (by rw [if_pos (Or.inr e1)]; omega)
          · obtain ⟨a1, a2, _⟩ := q
            cases ng_st0 a2
            obtain ⟨q0, q4, q5⟩ := irB_of (a := (s : Int)) (b := xl.toInt) (c := (sz : Int)) a1 rfl rfl rfl
            exact badk ls3 w3 ⟨q0.1, q0.2.1, q0.2.2.1, q0.2.2.2, ng_ki q4 rfl, ng_yi q5 (show (sz : Int) = _ by omega)⟩ t3 f3
        · refine ng_go (J := sx_tt) (Post := ir_P w s xl.toInt) (fx_p [s, xl.toInt, sz, irR w s k, k]) ir_4 rfl ⟨hsv.1, hsv.2, hl.1, hl.2, zv.1, zv.2, xb.1, xb.2, (show (1 : Int) ≤ k by omega), (show (k : Int) ≤ 10 by omega), trivial⟩ ⟨by show 2 + (-1 * (sz : Int) + (1 * (k : Int) + 0)) ≤ 0; omega, trivial⟩ ⟨hb.1, ng_iy hb.2.1 rfl, ng_iy hb.2.2.1 rfl, ng_iy hb.2.2.2.1 rfl, ng_ik hb.2.2.2.2.1 rfl, ng_iy hb.2.2.2.2.2 rfl, trivial⟩ trivial ⟨?_, trivial⟩ t2 sx_ctn (fun _ _ _ => trivial) trivial ⟨fun ls3 st3 w3 t3 f3 q => ?_, fun ls3 st3 w3 t3 f3 q => ?_, trivial⟩
          · show sy_r w2 100 (0 + (24 * (s : Int) + (1 * (k : Int) + 0))).toNat = sx_ev _ (sx_y 3)
            rw [sx_y_ev, show (0 + (24 * (s : Int) + (1 * (k : Int) + 0))).toNat = 24 * s + k by omega, ng_nil f2]
            rfl
          · obtain ⟨a1, a2, _, a4, _⟩ := q
            cases ng_st0 a2
            obtain ⟨q0, q4, q5⟩ := irB_of (a := (s : Int)) (b := xl.toInt) (c := (sz : Int)) a1 rfl rfl rfl
            have u1 : 0 + (1 * xl.toInt + (-1 * irR w s k + 0)) ≤ 0 := a4.1
            have u2 : -63 + (1 * irR w s k + 0) ≤ 0 := a4.2.1
            exact good ls3 w3 ⟨q0.1, q0.2.1, q0.2.2.1, q0.2.2.2, ng_ki q4 rfl, ng_fi q5 (by show 1 + (1 * (k : Int) + 0) = _; omega)⟩ t3 f3 (by rw [if_neg (by omega)]; omega)
          · obtain ⟨a1, a2, _⟩ := q
            cases ng_st0 a2
            obtain ⟨q0, q4, q5⟩ := irB_of (a := (s : Int)) (b := xl.toInt) (c := (sz : Int)) a1 rfl rfl rfl
            exact badk ls3 w3 ⟨q0.1, q0.2.1, q0.2.2.1, q0.2.2.2, ng_ki q4 rfl, ng_fi q5 (by show 1 + (1 * (k : Int) + 0) = _; omega)⟩ t3 f3
  have main : ∃ res, pq_Go 29 pm_209 0 (lv_args 0 [.ref 94, .int xs, .int xl]) [] w 0 0 res ∧ ir_P w s xl.toInt res := by
    refine ng_go (J := sx_tt) (Post := ir_P w s xl.toInt) (fx_p [s, xl.toInt, sz]) ir_1 rfl ⟨hsv.1, hsv.2, hl.1, hl.2, (show (0 : Int) ≤ sz by omega), (show (sz : Int) ≤ 24 by omega), trivial⟩ trivial ⟨rfl, ng_iy ⟨xs, rfl, es⟩ rfl, ng_iy ⟨xl, rfl, rfl⟩ rfl, trivial⟩ trivial ⟨?_, trivial⟩ ht sx_ctn (fun _ _ _ => trivial) trivial ⟨fun ls2 st2 w2 t2 f2 q => ?_, fun ls2 st2 w2 t2 f2 q => ?_, trivial⟩
    · show sy_r w 99 (sx_ev _ (sx_y 0)).toNat = sx_ev _ (sx_y 2)
      rw [sx_y_ev, sx_y_ev]
      show sy_r w 99 (s : Int).toNat = (sz : Int)
      rw [Int.toNat_natCast]
      exact esz.symm
    · obtain ⟨a1, a2, _, a4, _⟩ := q
      cases ng_st0 a2
      obtain ⟨q0, q4, q5⟩ := irB_of (a := (s : Int)) (b := xl.toInt) (c := (sz : Int)) a1 rfl rfl rfl
      have u1 : 2 + (-1 * (sz : Int) + 0) ≤ 0 := a4.1
      have u2 : -12 + (1 * (sz : Int) + 0) ≤ 0 := a4.2.1
      exact loop (by omega) (by omega) sz 0 (by omega) ls2 w2 ⟨q0.1, q0.2.1, q0.2.2.1, q0.2.2.2, ng_ki q4 rfl, ng_ki q5 rfl⟩ t2 f2 (fun k' hk' => by omega)
    · obtain ⟨a1, a2, _⟩ := q
      cases ng_st0 a2
      obtain ⟨q0, q4, q5⟩ := irB_of (a := (s : Int)) (b := xl.toInt) (c := (sz : Int)) a1 rfl rfl rfl
      exact bad ls2 w2 0 (by omega) ⟨q0.1, q0.2.1, q0.2.2.1, q0.2.2.2, ng_ki q4 rfl, ng_ki q5 rfl⟩ t2 f2
  obtain ⟨res, g1, g2⟩ := main
  refine ⟨res, ru_of (k := 29) (M := pm_209) rfl ?_ g1, g2⟩
  rw [Bool.and_eq_true]
  exact ⟨rfl, sq_rcv ht rfl rfl rfl⟩
