/-! the reference's isRow answers 1 where the numbers are a row -/
theorem irx_1 : ng_chk [] [] [] 29 209 pm_209 0 (ir_iv (2, 12)) [] [(0, fx_r), (1, fx_i 0), (2, fx_i 1)] [] [(99, sx_y 0, fx_i 2)] [] [(28, (ng_L (ir_b (fx_k 1) (fx_k 0)), [], [], [], []))] 100 = true := by decide +kernel
theorem irx_2 : ng_chk [] [] [] 29 209 pm_209 28 (ir_iv (2, 12) ++ [(0, 63)]) [] (ir_b (fx_k 1) (fx_k 0)) [] [(100, (0, [(0, 24)]), fx_i 3)] [] [(28, (ng_L (ir_b (fx_k 1) (fx_k 1)), [], [], [], []))] 100 = true := by decide +kernel
theorem irx_3 : ng_chk [] [] [] 29 209 pm_209 28 (ir_iv (2, 12) ++ [(0, 63)]) [] (ir_b (fx_k 1) (.inl (.inl (-1, [(2, 1)])))) [] [(100, (-1, [(0, 24), (2, 1)]), fx_i 3)] [] [(28, (ng_L (ir_b (fx_k 1) (fx_i 2)), [], [], [], []))] 100 = true := by decide +kernel
theorem irx_4 : ng_chk [] [] [] 29 209 pm_209 28 (ir_iv (2, 12) ++ [(-1, 63), (1, 10)]) [(2, [(2, -1), (4, 1)]), (0, [(1, 1), (3, -1)])] (ir_b (fx_k 1) (fx_i 4)) [] [(100, (0, [(0, 24), (4, 1)]), fx_i 3)] [] [(28, (ng_L (ir_b (fx_k 1) (.inl (.inl (1, [(4, 1)])))), [], [], [], []))] 100 = true := by decide +kernel
noncomputable def irx_P (res : pq_R) : Prop := ∃ x : Int32, res.1 = some (.int x) ∧ x.toInt = 1
theorem irx_row {w : pq_W} {s : Nat} {xs xl : Int32} (ht : sx_Ty sx_T0 w) (hs : s < 4) (es : xs.toInt = s) (hl : -1 ≤ xl.toInt ∧ xl.toInt ≤ 0) (ok : ir_ok w s xl.toInt) : ∃ res, pq_Ru 30 209 [.ref 94, .int xs, .int xl] w res ∧ irx_P res := by
  have hsv : (0 : Int) ≤ s ∧ (s : Int) ≤ 3 := by omega
  obtain ⟨o1, o2, o3, o4, o5⟩ := ok
  obtain ⟨sz, esz⟩ : ∃ sz : Nat, (sz : Int) = sy_r w 99 s := ⟨(sy_r w 99 s).toNat, by omega⟩
  have etn : (sy_r w 99 s).toNat = sz := by omega
  rw [etn] at o4 o5
  have z2 : 2 ≤ sz := by omega
  have z12 : sz ≤ 12 := by omega
  have zv : (2 : Int) ≤ sz ∧ (sz : Int) ≤ 12 := by omega
  have hi : ∀ k, k < sz → xl.toInt ≤ irR w s k ∧ irR w s k ≤ 63 := fun k hk => o3 k (by omega)
  have h0 : 0 ≤ irR w s 0 := by
    have h5 : ∀ (j c : Nat), gR (irR w s) j c → 0 ≤ irR w s 0 := by
      intro j
      induction j with
      | zero =>
        intro c hg0
        have hg0 : irR w s 0 = c := hg0
        omega
      | succ j ih =>
        rintro c ⟨_, _, _, d, _, hg0⟩
        exact ih d hg0
    exact h5 _ _ o5
  have loop : ∀ (m k : Nat), k + m = sz → ∀ ls w2, irB ls s xl.toInt sz 1 k → sx_Ty sx_T0 w2 → sx_Fr [] w w2 → ∃ res, pq_Go 29 pm_209 28 ls [] w2 0 0 res ∧ irx_P res := by
    intro m
    induction m with
    | zero =>
      intro k hk ls w2 hb t2 f2
      refine ng_go (J := sx_tt) (Post := irx_P) (fx_p [s, xl.toInt, sz]) ir_6 rfl ⟨hsv.1, hsv.2, hl.1, hl.2, zv.1, zv.2, trivial⟩ trivial ⟨hb.1, ng_iy hb.2.1 rfl, ng_iy hb.2.2.1 rfl, ng_iy hb.2.2.2.1 rfl, ng_ik hb.2.2.2.2.1 rfl, ng_iy hb.2.2.2.2.2 (show (sz : Int) = k by omega), trivial⟩ trivial trivial t2 sx_ctn (fun _ _ _ => trivial) trivial ⟨fun ls3 st3 w3 t3 f3 q => ?_, trivial⟩
      obtain ⟨_, a2, _⟩ := q
      have f3 : sx_Fr [] w w3 := sx_Fr_trans f2 f3
      match st3, a2 with
      | [.int a4, .int a3, .int a2', .int a1, .ref r1, .ref r2], h =>
        obtain ⟨k1, k2, k3, k4, k5, k6, _⟩ := h
        have k1 : a4.toInt = sx_ev _ (1, []) := k1
        have k3 : a2'.toInt = sx_ev _ (sx_y 2) := k3
        have k4 : a1.toInt = 0 + (24 * (s : Int) + 0) := k4
        have k5 : r1 = 100 := k5
        have k6 : r2 = 94 := k6
        subst k5
        subst k6
        rw [ng_ek] at k1
        rw [sx_y_ev] at k3
        have k3 : a2'.toInt = sz := k3
        have hrow : ∀ k', k' < sz → -1 ≤ sy_r w3 100 (24 * s + k') ∧ sy_r w3 100 (24 * s + k') ≤ 63 := fun k' hk' => by
          rw [ng_nil f3]
          have := hi k' hk'
          unfold irR at this
          omega
        obtain ⟨⟨r4, w4⟩, g1, t4, f4, x, rfl, hx⟩ := gone_ok (r := 100) (fi := 24 * s) (sz := sz) (xf := a1) (xz := a2') (xl := a3) (xs := a4) (s := 1) t3 (Or.inr rfl) (Or.inl rfl) (by show ((24 * s : Nat) : Int) ≤ 72; omega) (by omega) (by omega) k3 k1 hrow (by rw [ng_nil f3]; exact o4)
        have t4 : sx_Ty sx_T0 w4 := t4
        have hx : gw (fun k => sy_r w3 100 (24 * s + k)) 1 (sz - 1) (sy_r w3 100 (24 * s + (sz - 1))).toNat x.toInt := hx
        have erow : (fun k => sy_r w3 100 (24 * s + k)) = irR w s := funext (fun k => ng_nil f3 100 _)
        rw [erow, show sy_r w3 100 (24 * s + (sz - 1)) = irR w s (sz - 1) from ng_nil f3 100 _] at hx
        have back : ∃ res, pq_Go 29 pm_209 106 ls3 [.int x] w4 0 0 res ∧ irx_P res := by
          rcases hx with ⟨_, h2, h3⟩ | ⟨h1, _⟩
          · have h2 : 0 ≤ x.toInt := h2
            have h3 : x.toInt ≤ 10 * ((sz - 1 : Nat) : Int) := h3
            refine ng_go (J := sx_tt) (Post := irx_P) (fx_p [x.toInt]) ir_8 rfl ⟨h2, (show x.toInt ≤ 110 by omega), trivial⟩ trivial trivial ⟨by show x.toInt = sx_ev _ (sx_y 0); rw [sx_y_ev]; rfl, trivial⟩ trivial t4 sx_ctn (fun _ _ _ => trivial) ⟨fun r w5 t5 f5 q => ?_, trivial⟩ trivial
            obtain ⟨⟨y, y1, y2⟩, _⟩ := q
            rw [ng_ek] at y2
            exact ⟨y, y1, y2⟩
          · exact absurd o5 h1
        obtain ⟨res, e1, e2⟩ := back
        exact ⟨res, go_cl (j := 210) (n := 6) (as := [.ref 94, .ref 100, .int a1, .int a2', .int a3, .int a4]) (k1 := 20) rfl rfl rfl rfl rfl rfl rfl g1 e1, e2⟩
    | succ m ih =>
      intro k hk ls w2 hb t2 f2
      have hik := hi k (by omega)
      by_cases e0 : k = 0
      · subst e0
        refine ng_go (J := sx_tt) (Post := irx_P) (fx_p [s, xl.toInt, sz, irR w s 0]) irx_2 rfl ⟨hsv.1, hsv.2, hl.1, hl.2, zv.1, zv.2, h0, hik.2, trivial⟩ trivial ⟨hb.1, ng_iy hb.2.1 rfl, ng_iy hb.2.2.1 rfl, ng_iy hb.2.2.2.1 rfl, ng_ik hb.2.2.2.2.1 rfl, ng_ik hb.2.2.2.2.2 rfl, trivial⟩ trivial ⟨?_, trivial⟩ t2 sx_ctn (fun _ _ _ => trivial) trivial ⟨fun ls3 st3 w3 t3 f3 q => ?_, trivial⟩
        · show sy_r w2 100 (0 + (24 * (s : Int) + 0)).toNat = sx_ev _ (sx_y 3)
          rw [sx_y_ev, show (0 + (24 * (s : Int) + 0)).toNat = 24 * s + 0 by omega, ng_nil f2]
          rfl
        · obtain ⟨a1, a2, _⟩ := q
          cases ng_st0 a2
          obtain ⟨q0, q4, q5⟩ := irB_of (a := (s : Int)) (b := xl.toInt) (c := (sz : Int)) a1 rfl rfl rfl
          exact ih 1 (by omega) ls3 w3 ⟨q0.1, q0.2.1, q0.2.2.1, q0.2.2.2, ng_ki q4 rfl, ng_ki q5 rfl⟩ t3 (sx_Fr_trans f2 f3)
      · by_cases e1 : k + 1 = sz
        · have hl4 : 0 ≤ irR w s k := by
            have : sz - 1 = k := by omega
            rw [← this]
            exact o4
          refine ng_go (J := sx_tt) (Post := irx_P) (fx_p [s, xl.toInt, sz, irR w s k]) irx_3 rfl ⟨hsv.1, hsv.2, hl.1, hl.2, zv.1, zv.2, hl4, hik.2, trivial⟩ trivial ⟨hb.1, ng_iy hb.2.1 rfl, ng_iy hb.2.2.1 rfl, ng_iy hb.2.2.2.1 rfl, ng_ik hb.2.2.2.2.1 rfl, ng_if hb.2.2.2.2.2 (by show -1 + (1 * (sz : Int) + 0) = _; omega), trivial⟩ trivial ⟨?_, trivial⟩ t2 sx_ctn (fun _ _ _ => trivial) trivial ⟨fun ls3 st3 w3 t3 f3 q => ?_, trivial⟩
          · show sy_r w2 100 (-1 + (24 * (s : Int) + (1 * (sz : Int) + 0))).toNat = sx_ev _ (sx_y 3)
            rw [sx_y_ev, show (-1 + (24 * (s : Int) + (1 * (sz : Int) + 0))).toNat = 24 * s + k by omega, ng_nil f2]
            rfl
          · obtain ⟨a1, a2, _⟩ := q
            cases ng_st0 a2
            obtain ⟨q0, q4, q5⟩ := irB_of (a := (s : Int)) (b := xl.toInt) (c := (sz : Int)) a1 rfl rfl rfl
            exact ih (k + 1) (by omega) ls3 w3 ⟨q0.1, q0.2.1, q0.2.2.1, q0.2.2.2, ng_ki q4 rfl, ng_yi q5 (show (sz : Int) = _ by omega)⟩ t3 (sx_Fr_trans f2 f3)
        · refine ng_go (J := sx_tt) (Post := irx_P) (fx_p [s, xl.toInt, sz, irR w s k, k]) irx_4 rfl ⟨hsv.1, hsv.2, hl.1, hl.2, zv.1, zv.2, (show (-1 : Int) ≤ irR w s k by omega), hik.2, (show (1 : Int) ≤ k by omega), (show (k : Int) ≤ 10 by omega), trivial⟩ ⟨by show 2 + (-1 * (sz : Int) + (1 * (k : Int) + 0)) ≤ 0; omega, by show 0 + (1 * xl.toInt + (-1 * irR w s k + 0)) ≤ 0; omega, trivial⟩ ⟨hb.1, ng_iy hb.2.1 rfl, ng_iy hb.2.2.1 rfl, ng_iy hb.2.2.2.1 rfl, ng_ik hb.2.2.2.2.1 rfl, ng_iy hb.2.2.2.2.2 rfl, trivial⟩ trivial ⟨?_, trivial⟩ t2 sx_ctn (fun _ _ _ => trivial) trivial ⟨fun ls3 st3 w3 t3 f3 q => ?_, trivial⟩
          · show sy_r w2 100 (0 + (24 * (s : Int) + (1 * (k : Int) + 0))).toNat = sx_ev _ (sx_y 3)
            rw [sx_y_ev, show (0 + (24 * (s : Int) + (1 * (k : Int) + 0))).toNat = 24 * s + k by omega, ng_nil f2]
            rfl
          · obtain ⟨a1, a2, _⟩ := q
            cases ng_st0 a2
            obtain ⟨q0, q4, q5⟩ := irB_of (a := (s : Int)) (b := xl.toInt) (c := (sz : Int)) a1 rfl rfl rfl
            exact ih (k + 1) (by omega) ls3 w3 ⟨q0.1, q0.2.1, q0.2.2.1, q0.2.2.2, ng_ki q4 rfl, ng_fi q5 (by show 1 + (1 * (k : Int) + 0) = _; omega)⟩ t3 (sx_Fr_trans f2 f3)
  have main : ∃ res, pq_Go 29 pm_209 0 (lv_args 0 [.ref 94, .int xs, .int xl]) [] w 0 0 res ∧ irx_P res := by
    refine ng_go (J := sx_tt) (Post := irx_P) (fx_p [s, xl.toInt, sz]) irx_1 rfl ⟨hsv.1, hsv.2, hl.1, hl.2, zv.1, zv.2, trivial⟩ trivial ⟨rfl, ng_iy ⟨xs, rfl, es⟩ rfl, ng_iy ⟨xl, rfl, rfl⟩ rfl, trivial⟩ trivial ⟨?_, trivial⟩ ht sx_ctn (fun _ _ _ => trivial) trivial ⟨fun ls2 st2 w2 t2 f2 q => ?_, trivial⟩
    · show sy_r w 99 (sx_ev _ (sx_y 0)).toNat = sx_ev _ (sx_y 2)
      rw [sx_y_ev, sx_y_ev]
      show sy_r w 99 (s : Int).toNat = (sz : Int)
      rw [Int.toNat_natCast]
      exact esz.symm
    · obtain ⟨a1, a2, _⟩ := q
      cases ng_st0 a2
      obtain ⟨q0, q4, q5⟩ := irB_of (a := (s : Int)) (b := xl.toInt) (c := (sz : Int)) a1 rfl rfl rfl
      exact loop sz 0 (by omega) ls2 w2 ⟨q0.1, q0.2.1, q0.2.2.1, q0.2.2.2, ng_ki q4 rfl, ng_ki q5 rfl⟩ t2 f2
  obtain ⟨res, g1, g2⟩ := main
  refine ⟨res, ru_of (k := 29) (M := pm_209) rfl ?_ g1, g2⟩
  rw [Bool.and_eq_true]
  exact ⟨rfl, sq_rcv ht rfl rfl rfl⟩
/-- exactly -/
theorem irx_exact {w : pq_W} {s : Nat} {xs xl : Int32} (ht : sx_Ty sx_T0 w) (hs : s < 4) (es : xs.toInt = s) (hl : -1 ≤ xl.toInt ∧ xl.toInt ≤ 0) : ∃ res, pq_Ru 30 209 [.ref 94, .int xs, .int xl] w res ∧ sx_Ty sx_T0 res.2 ∧ sx_Fr gA w res.2 ∧ ∃ x : Int32, res.1 = some (.int x) ∧ ((x.toInt = 1 ∧ ir_ok w s xl.toInt) ∨ (x.toInt = 0 ∧ ¬ ir_ok w s xl.toInt)) := by
  obtain ⟨res, g, t, f, x, x1, x2⟩ := kx_isrow ht hs es hl
  refine ⟨res, g, t, f, x, x1, ?_⟩
  rcases x2 with x2 | x2
  · refine Or.inr ⟨x2, fun ok => ?_⟩
    obtain ⟨res2, g2, y, y1, y2⟩ := irx_row ht hs es hl ok
    have e := ru_det g g2
    subst e
    rw [x1] at y1
    cases y1
    omega
  · exact Or.inl x2
