/-! milesOf, knownOn, findFees: what they come to over rows that are ways -/
noncomputable def mWay (w : pq_W) (r b : Nat) : Prop := 2 ≤ sy_r w r b ∧ sy_r w r b ≤ 12 ∧ 0 ≤ sy_r w r (b + (sy_r w r b).toNat) ∧ sy_r w r (b + (sy_r w r b).toNat) ≤ 63 ∧ gR (fun k => sy_r w r (b + 1 + k)) ((sy_r w r b).toNat - 1) (sy_r w r (b + (sy_r w r b).toNat)).toNat
theorem gR_congr {f g : Nat → Int} : ∀ {k c : Nat}, (∀ i, i ≤ k → f i = g i) → gR f k c → gR g k c
  | 0, c, h, hr => (h 0 (Nat.le_refl _)).symm.trans hr
  | k + 1, c, h, hr => by
    obtain ⟨h1, m, hm, d, hd, h2⟩ := hr
    refine ⟨?_, m, hm, d, hd, gR_congr (fun i hi => h i (by omega)) h2⟩
    rw [← h (k + 1) (Nat.le_refl _)]
    exact h1
theorem mWay_congr {w w1 : pq_W} {r r1 b b1 : Nat} (h : mWay w r b) (he : ∀ i, i ≤ 12 → sy_r w1 r1 (b1 + i) = sy_r w r (b + i)) : mWay w1 r1 b1 := by
  obtain ⟨h1, h2, h3, h4, h5⟩ := h
  have e0 : sy_r w1 r1 b1 = sy_r w r b := he 0 (by omega)
  have el := he (sy_r w r b).toNat (by omega)
  refine ⟨by rw [e0]; exact h1, by rw [e0]; exact h2, by rw [e0, el]; exact h3, by rw [e0, el]; exact h4, ?_⟩
  rw [e0, el]
  refine gR_congr (fun i hi => ?_) h5
  show sy_r w r (b + 1 + i) = sy_r w1 r1 (b1 + 1 + i)
  rw [show b1 + 1 + i = b1 + (1 + i) by omega, show b + 1 + i = b + (1 + i) by omega]
  exact (he (1 + i) (by omega)).symm
noncomputable def ml_b : List (Nat × sx_V) := [(0, fx_r), (1, fx_i 0), (2, fx_i 1), (3, fx_i 2), (4, fx_i 3)]
noncomputable def ml_iv : List (Int × Int) := [(0, 2800), (2, 12), sy_full, sy_full]
noncomputable def ml_st (n : Int) : List sx_V := [fx_k n, fx_i 2, fx_i 1, fx_i 0, .inr (.inr 95), fx_r]
theorem ml_1 : ng_chk [] [] [] 29 220 pm_220 0 ml_iv [] ml_b [] [] [] [(9, (ng_L ml_b, ml_st 1, [], [], []))] 60 = true := by decide +kernel
theorem ml_2 : ng_chk [] [] [] 29 220 pm_220 12 (ml_iv ++ [(0, 110)]) [] ml_b [fx_i 4] [] [] [(23, (ng_L (ml_b ++ [(5, fx_i 4)]), ml_st (-1), [], [], []))] 60 = true := by decide +kernel
theorem ml_3 : ng_chk [] [] [] 29 220 pm_220 26 (ml_iv ++ [(0, 110), (-110, 0)]) [] (ml_b ++ [(5, fx_i 4)]) [fx_i 5] [] [(.inl (.inr (0, 110)), [], [], [])] [] 60 = true := by decide +kernel
noncomputable def mlB (ls : pq_L) (a b c d : Int) : Prop := pq_lk ls 0 = some (.ref 94) ∧ ng_i ls 1 a ∧ ng_i ls 2 b ∧ ng_i ls 3 c ∧ ng_i ls 4 d
theorem ml_way {w : pq_W} {b : Nat} (ht : sx_Ty sx_T0 w) (hb : (307 ≤ b ∧ b ≤ 1293 ∧ (b - 307) % 34 = 0) ∨ (1324 ≤ b ∧ b ≤ 1909 ∧ (b - 1324) % 15 = 0)) (h : mWay w 95 b) : ∀ k, k < (sy_r w 95 b).toNat → -1 ≤ sy_r w 95 (b + 1 + k) ∧ sy_r w 95 (b + 1 + k) ≤ 63 := by
  intro k hk
  have h2 := h.2.1
  rcases hb with ⟨h3, h4, h5⟩ | ⟨h3, h4, h5⟩
  · have := sy_rg (r := 95) ht rfl (g := (302, 34, 30, 6, 17, 0, 63)) (by decide) (k := (b - 307) / 34) (j := 6 + k) (by show _ < 30; omega) (by show 6 ≤ 6 + k; omega) (by show 6 + k ≤ 17; omega) (by show 302 + 34 * ((b - 307) / 34) + (6 + k) < 2858; omega)
    have e : 302 + 34 * ((b - 307) / 34) + (6 + k) = b + 1 + k := by omega
    have this : 0 ≤ sy_r w 95 (302 + 34 * ((b - 307) / 34) + (6 + k)) ∧ sy_r w 95 (302 + 34 * ((b - 307) / 34) + (6 + k)) ≤ 63 := this
    rw [e] at this
    omega
  · have := sy_rg (r := 95) ht rfl (g := (1322, 15, 40, 3, 14, -1, 63)) (by decide) (k := (b - 1324) / 15) (j := 3 + k) (by show _ < 40; omega) (by show 3 ≤ 3 + k; omega) (by show 3 + k ≤ 14; omega) (by show 1322 + 15 * ((b - 1324) / 15) + (3 + k) < 2858; omega)
    have e : 1322 + 15 * ((b - 1324) / 15) + (3 + k) = b + 1 + k := by omega
    have this : -1 ≤ sy_r w 95 (1322 + 15 * ((b - 1324) / 15) + (3 + k)) ∧ sy_r w 95 (1322 + 15 * ((b - 1324) / 15) + (3 + k)) ≤ 63 := this
    rw [e] at this
    exact this
theorem kx_miles {w : pq_W} {b : Nat} {xf xz xl xw : Int32} (ht : sx_Ty sx_T0 w) (hb : (307 ≤ b ∧ b ≤ 1293 ∧ (b - 307) % 34 = 0) ∨ (1324 ≤ b ∧ b ≤ 1909 ∧ (b - 1324) % 15 = 0)) (h : mWay w 95 b) (ef : xf.toInt = (b : Int) + 1) (ez : xz.toInt = sy_r w 95 b) : ∃ res, pq_Ru 30 220 [.ref 94, .int xf, .int xz, .int xl, .int xw] w res ∧ sx_Ty sx_T0 res.2 ∧ sx_Fr gA w res.2 ∧ ∃ x : Int32, res.1 = some (.int x) ∧ 0 ≤ x.toInt ∧ x.toInt ≤ 110 := by
  have hrow := ml_way ht hb h
  obtain ⟨h1, h2, h3, h4, h5⟩ := h
  obtain ⟨sz, hsz⟩ : ∃ sz : Nat, (sz : Int) = sy_r w 95 b := ⟨(sy_r w 95 b).toNat, by omega⟩
  have esz : (sy_r w 95 b).toNat = sz := by omega
  rw [esz] at hrow h3 h4 h5
  have elast : b + 1 + (sz - 1) = b + sz := by omega
  have lb : -2147483648 ≤ xl.toInt ∧ xl.toInt ≤ 2147483647 := ⟨xl.minValue_le_toInt, xl.toInt_le⟩
  have wb : -2147483648 ≤ xw.toInt ∧ xw.toInt ≤ 2147483647 := ⟨xw.minValue_le_toInt, xw.toInt_le⟩
  have hbb : (b : Int) + 1 ≤ 2800 := by omega
  -- one call of gone
  have gone1 : ∀ (w2 : pq_W) (s : Int) (a1 a2 a3 a4 : Int32), sx_Ty sx_T0 w2 → (∀ i, sy_r w2 95 i = sy_r w 95 i) → (s = 1 ∨ s = -1) → a1.toInt = (b : Int) + 1 → a2.toInt = sy_r w 95 b → a4.toInt = s → ∃ res, pq_Ru 20 210 [.ref 94, .ref 95, .int a1, .int a2, .int a3, .int a4] w2 res ∧ sx_Ty sx_T0 res.2 ∧ sx_Fr gA w2 res.2 ∧ ∃ x : Int32, res.1 = some (.int x) ∧ gq_lo s (sz - 1) ≤ x.toInt ∧ x.toInt ≤ gq_hi s (sz - 1) := by
    intro w2 s a1 a2 a3 a4 t2 e2 hs q1 q2 q4
    obtain ⟨res, g1, g2, g3, x, g4, g5⟩ := gone_ok (r := 95) (fi := b + 1) (sz := sz) (xf := a1) (xz := a2) (xl := a3) (xs := a4) (s := s) t2 (Or.inl rfl) hs (by show ((b + 1 : Nat) : Int) ≤ 2800; omega) (by omega) (by omega) (by omega) q4 (fun k hk => by rw [e2]; exact hrow k hk) (by rw [e2, elast]; exact h3)
    refine ⟨res, g1, g2, g3, x, g4, ?_⟩
    have g5 : gw (fun k => sy_r w2 95 (b + 1 + k)) s (sz - 1) (sy_r w2 95 (b + 1 + (sz - 1))).toNat x.toInt := g5
    rw [e2, elast] at g5
    rcases g5 with ⟨_, g6⟩ | ⟨g6, _⟩
    · exact g6
    · exact absurd (gR_congr (fun i _ => (e2 _).symm) h5) g6
  have iv : ∀ (p : Nat → Int) (rest : List (Int × Int)), p 0 = (b : Int) + 1 → p 1 = sz → p 2 = xl.toInt → p 3 = xw.toInt → sx_ivs p 4 rest → sx_ivs p 0 (ml_iv ++ rest) := by
    intro p rest e0 e1 e2 e3 hr
    exact ⟨by show (0 : Int) ≤ p 0; omega, by show p 0 ≤ 2800; omega, by show (2 : Int) ≤ p 1; omega, by show p 1 ≤ 12; omega, by rw [e2]; exact lb.1, by rw [e2]; exact lb.2, by rw [e3]; exact wb.1, by rw [e3]; exact wb.2, hr⟩
  have slo : ∀ {p : Nat → Int} {ls : pq_L} {rest : List (Nat × sx_V)}, ng_sl p ls (ng_L (ml_b ++ rest)) → p 0 = (b : Int) + 1 → p 1 = sz → p 2 = xl.toInt → p 3 = xw.toInt → mlB ls ((b : Int) + 1) sz xl.toInt xw.toInt ∧ ng_sl p ls (ng_L rest) := fun h e0 e1 e2 e3 => ⟨⟨h.1, ng_yi h.2.1 e0, ng_yi h.2.2.1 e1, ng_yi h.2.2.2.1 e2, ng_yi h.2.2.2.2.1 e3⟩, h.2.2.2.2.2⟩
  have slt : ∀ {p : Nat → Int} {ls : pq_L} {rest : List (Nat × sx_V)}, mlB ls ((b : Int) + 1) sz xl.toInt xw.toInt → p 0 = (b : Int) + 1 → p 1 = sz → p 2 = xl.toInt → p 3 = xw.toInt → ng_sl0 p ls rest → ng_sl0 p ls (ml_b ++ rest) := fun h e0 e1 e2 e3 hr => ⟨h.1, ng_iy h.2.1 e0, ng_iy h.2.2.1 e1, ng_iy h.2.2.2.1 e2, ng_iy h.2.2.2.2 e3, hr⟩
  -- the stack of a call
  have stk : ∀ {p : Nat → Int} {n : Int} {st : List Value}, sx_sm p (ml_st n) st → p 0 = (b : Int) + 1 → p 1 = sz → ∃ a1 a2 a3 a4 : Int32, st = [.int a4, .int a3, .int a2, .int a1, .ref 95, .ref 94] ∧ a1.toInt = (b : Int) + 1 ∧ a2.toInt = sy_r w 95 b ∧ a4.toInt = n := by
    intro p n st h e0 e1
    match st, h with
    | [.int a4, .int a3, .int a2, .int a1, .ref r1, .ref r2], h =>
      obtain ⟨k1, k2, k3, k4, k5, k6, _⟩ := h
      have k1 : a4.toInt = sx_ev p (n, []) := k1
      have k3 : a2.toInt = sx_ev p (sx_y 1) := k3
      have k4 : a1.toInt = sx_ev p (sx_y 0) := k4
      have k5 : r1 = 95 := k5
      have k6 : r2 = 94 := k6
      rw [ng_ek] at k1
      rw [sx_y_ev] at k3 k4
      subst k5
      subst k6
      exact ⟨a1, a2, a3, a4, rfl, by omega, by omega, k1⟩
  have main : ∃ res, pq_Go 29 pm_220 0 (lv_args 0 [.ref 94, .int xf, .int xz, .int xl, .int xw]) [] w 0 0 res ∧ (sx_Ty sx_T0 res.2 ∧ sx_Fr gA w res.2 ∧ ∃ x : Int32, res.1 = some (.int x) ∧ 0 ≤ x.toInt ∧ x.toInt ≤ 110) := by
    refine ng_go (J := sx_tt) (Post := fun res => sx_Ty sx_T0 res.2 ∧ sx_Fr gA w res.2 ∧ ∃ x : Int32, res.1 = some (.int x) ∧ 0 ≤ x.toInt ∧ x.toInt ≤ 110) (fx_p [(b : Int) + 1, sz, xl.toInt, xw.toInt]) ml_1 rfl (iv _ [] rfl rfl rfl rfl trivial) trivial (slt (rest := []) ⟨rfl, ⟨xf, rfl, ef⟩, ⟨xz, rfl, by omega⟩, ⟨xl, rfl, rfl⟩, ⟨xw, rfl, rfl⟩⟩ rfl rfl rfl rfl trivial) trivial trivial ht sx_ctn (fun _ _ _ => trivial) trivial ⟨fun ls2 st2 w2 t2 f2 a => ?_, trivial⟩
    obtain ⟨a1, a2, _⟩ := a
    have f2 : sx_Fr [] w w2 := f2
    obtain ⟨b1, _⟩ := slo (rest := []) a1 rfl rfl rfl rfl
    obtain ⟨x1, x2, x3, x4, rfl, q1, q2, q4⟩ := stk a2 rfl rfl
    obtain ⟨⟨r2, w3⟩, g1, t3, f3, y1, rfl, y2, y3⟩ := gone1 w2 1 x1 x2 x3 x4 t2 (fun i => ng_nil f2 95 i) (Or.inl rfl) q1 q2 q4
    have y2 : (0 : Int) ≤ y1.toInt := y2
    have y3 : y1.toInt ≤ 10 * ((sz - 1 : Nat) : Int) := y3
    have f3 : sx_Fr gA w2 w3 := f3
    have t3 : sx_Ty sx_T0 w3 := t3
    have back : ∃ res, pq_Go 29 pm_220 12 ls2 [.int y1] w3 0 0 res ∧ (sx_Ty sx_T0 res.2 ∧ sx_Fr gA w res.2 ∧ ∃ x : Int32, res.1 = some (.int x) ∧ 0 ≤ x.toInt ∧ x.toInt ≤ 110) := by
      refine ng_go (J := sx_tt) (Post := fun res => sx_Ty sx_T0 res.2 ∧ sx_Fr gA w res.2 ∧ ∃ x : Int32, res.1 = some (.int x) ∧ 0 ≤ x.toInt ∧ x.toInt ≤ 110) (fx_p [(b : Int) + 1, sz, xl.toInt, xw.toInt, y1.toInt]) ml_2 rfl (iv _ _ rfl rfl rfl rfl ⟨y2, (by show y1.toInt ≤ 110; omega), trivial⟩) trivial (slt (rest := []) b1 rfl rfl rfl rfl trivial) ⟨by show y1.toInt = sx_ev _ (sx_y 4); rw [sx_y_ev]; rfl, trivial⟩ trivial t3 sx_ctn (fun _ _ _ => trivial) trivial ⟨fun ls4 st4 w4 t4 f4 a => ?_, trivial⟩
      obtain ⟨a1, a2, _⟩ := a
      have f4 : sx_Fr [] w3 w4 := f4
      obtain ⟨b1, b2⟩ := slo a1 rfl rfl rfl rfl
      obtain ⟨x1, x2, x3, x4, rfl, q1, q2, q4⟩ := stk a2 rfl rfl
      have hf4 : sx_Fr gA w w4 := sx_Fr_trans (sx_Fr_trans (ng_n2 f2) f3) (ng_n2 f4)
      obtain ⟨⟨r5, w5⟩, g5, t5, f5, z1, rfl, z2, z3⟩ := gone1 w4 (-1) x1 x2 x3 x4 t4 (fun i => sy_r_fr hf4 (gA_r (Or.inl rfl))) (Or.inr rfl) q1 q2 q4
      have z2 : -10 * ((sz - 1 : Nat) : Int) ≤ z1.toInt := z2
      have z3 : z1.toInt ≤ 0 := z3
      have f5 : sx_Fr gA w4 w5 := f5
      have t5 : sx_Ty sx_T0 w5 := t5
      have b5 : ng_i ls4 5 y1.toInt := ng_yi b2.1 rfl
      have last : ∃ res, pq_Go 29 pm_220 26 ls4 [.int z1] w5 0 0 res ∧ (sx_Ty sx_T0 res.2 ∧ sx_Fr gA w res.2 ∧ ∃ x : Int32, res.1 = some (.int x) ∧ 0 ≤ x.toInt ∧ x.toInt ≤ 110) := by
        refine ng_go (J := sx_tt) (Post := fun res => sx_Ty sx_T0 res.2 ∧ sx_Fr gA w res.2 ∧ ∃ x : Int32, res.1 = some (.int x) ∧ 0 ≤ x.toInt ∧ x.toInt ≤ 110) (fx_p [(b : Int) + 1, sz, xl.toInt, xw.toInt, y1.toInt, z1.toInt]) ml_3 rfl (iv _ _ rfl rfl rfl rfl ⟨y2, (by show y1.toInt ≤ 110; omega), (by show -110 ≤ z1.toInt; omega), z3, trivial⟩) trivial (slt b1 rfl rfl rfl rfl ⟨ng_iy b5 rfl, trivial⟩) ⟨by show z1.toInt = sx_ev _ (sx_y 5); rw [sx_y_ev]; rfl, trivial⟩ trivial t5 sx_ctn (fun _ _ _ => trivial) ⟨fun x w6 t6 f6 a => ?_, trivial⟩ trivial
        obtain ⟨⟨y, e1, e2⟩, _⟩ := a
        exact ⟨t6, sx_Fr_trans (sx_Fr_trans hf4 f5) (ng_n2 f6), y, e1, e2⟩
      obtain ⟨res, e1, e2⟩ := last
      exact ⟨res, go_cl (j := 210) (n := 6) (as := [.ref 94, .ref 95, .int x1, .int x2, .int x3, .int x4]) (k1 := 20) rfl rfl rfl rfl rfl rfl rfl g5 e1, e2⟩
    obtain ⟨res, e1, e2⟩ := back
    exact ⟨res, go_cl (j := 210) (n := 6) (as := [.ref 94, .ref 95, .int x1, .int x2, .int x3, .int x4]) (k1 := 20) rfl rfl rfl rfl rfl rfl rfl g1 e1, e2⟩
  obtain ⟨res, g1, g2⟩ := main
  refine ⟨res, ru_of (k := 29) (M := pm_220) rfl ?_ g1, g2⟩
  rw [Bool.and_eq_true]
  exact ⟨rfl, sq_rcv ht rfl rfl rfl⟩
