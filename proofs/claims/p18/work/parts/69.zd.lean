/-! file and fly of the class, whole -/
noncomputable def fi_g (E : Int) (row : Bool) (c : Int) : Prop := E = 0 ∧ row = true ∧ ¬ c = 30
noncomputable def fcQ (w : pq_W) (xp xs E : Int) (row : Bool) (q : Nat) (res : pq_R) : Prop := (∃ y : Int32, res.1 = some (.int y) ∧ y.toInt = fi_X E row (sy_r w 29 0)) ∧ ((¬ fi_g E row (sy_r w 29 0) ∧ sx_Fr [(93, 0, 100000)] w res.2) ∨ (fi_g E row (sy_r w 29 0) ∧ ∃ f s n : Nat, f < 30 ∧ sy_r w 29 0 = (f : Int) ∧ s < 4 ∧ xs = (s : Int) ∧ sy_r w 92 s = (n : Int) ∧ n ≤ 12 ∧ ad_E w xp (sy_r w 6 8) s f n q res.2))
theorem ad_Em {w w3 w1 : pq_W} {p d : Int} {s f n q : Nat} (h0 : sx_Fr [] w w3) (h : ad_E w3 p d s f n q w1) : ad_E w p d s f n q w1 := by
  obtain ⟨h1, h2, h3, h4, h5, h6, h7⟩ := h
  refine ⟨h1, fr_cat h0 h2, h3, h4, h5, h6, ?_⟩
  rw [h7, show sy_r w3 39 = sy_r w 39 from funext (fun i => ng_nil h0 39 i), show (fun k => sy_r w3 91 (24 * s + k)) = (fun k => sy_r w 91 (24 * s + k)) from funext (fun i => ng_nil h0 91 _)]
theorem fcx_g : ng_chk [] [] [] 299 82 pm_82 75 [(0, 11), (0, 3), (0, 29), sy_full] [] (fi_s2 5) [fx_k 1] [sh_o 29 0 (fx_i 2), sh_o 6 8 (fx_i 3)] [] [(119, ([], [fx_i 1, .inr (.inr 89), fx_i 3, fx_i 0, .inr (.inr 29)], [], [], []))] 6000 = true := by decide +kernel
theorem fcx_ok {xp xs : Int32} {w : pq_W} {q : Nat} (hq : q < 840) (ht : sx_Ty sx_T0 w) (hZ : ∀ a : Nat, a < 8 → sy_r w 15 0 ≤ a → sy_r w 17 a = 0) (hW : ∀ s, s < 4 → 0 ≤ sy_r w 90 s ∧ sy_r w 90 s ≤ 32) (hz : ∀ s, s < 4 → 0 ≤ sy_r w 92 s ∧ sy_r w 92 s ≤ 24) {E : Int} (hE : E = fi_E xp.toInt xs.toInt (sy_r w 15 4) (sy_r w 90 xs.toInt.toNat) (sy_r w 17 (sy_r w 20 xp.toInt.toNat).toNat)) {row : Bool} (hr : row = true ↔ rk_ok (rc_row w xs.toInt.toNat) (sy_r w 92 xs.toInt.toNat) 0) : ∃ res, pq_Go 299 pm_82 0 (lv_args 0 [.ref 5, .int xp, .int xs]) [] w 0 0 res ∧ fcQ w xp.toInt xs.toInt E row q res := by
  obtain ⟨_, _, _, n1, n2⟩ := sq_fat (r := 15) (i := 4) (lo := 0) (hi := 12) ht rfl rfl
  obtain ⟨_, _, _, m1, m2⟩ := sq_fat (r := 15) (i := 0) (lo := 0) (hi := 8) ht rfl rfl
  obtain ⟨_, _, _, u1, u2⟩ := sq_fat (r := 29) (i := 0) (lo := 0) (hi := 30) ht rfl rfl
  refine fi_gen (P := fi_c) fic_1 fic_2 fic_3 fic_4 rfl (fun p => p) (fun a => a) (fun v p h => by show 0 + (1 * v 0 + 0) = _; omega) (fun v p h => by show 0 + (1 * v 3 + 0) = _; omega) xp xs ht ⟨n1, n2⟩ (fun p hp => ?_) hW (fun a ha => fi_em ht ha) ⟨m1, m2⟩ hZ hE (fun x w1 t1 f1 h1 h2 => ?_) (fun e0 ls w1 c0 c1 c2 p1 p2 s1 s2 t1 f1 => ?_)
  · have := sy_rg (r := 20) ht rfl (g := (0, 1, 12, 0, 0, 0, 7)) (by decide) (k := p) (j := 0) hp (Nat.le_refl _) (Nat.le_refl _) (by show 0 + 1 * p + 0 < 12; omega)
    have e : 0 + 1 * p + 0 = p := by omega
    have h : 0 ≤ sy_r w 20 (0 + 1 * p + 0) ∧ sy_r w 20 (0 + 1 * p + 0) ≤ 7 := this
    rw [e] at h
    exact h
  · have f1 : sx_Fr [(93, 0, 100000)] w w1 := f1
    exact ⟨⟨x, rfl, by rw [h1]; exact (if_neg h2).symm⟩, Or.inl ⟨fun h => h2 h.1, f1⟩⟩
  · have p2 : xp.toInt < sy_r w 15 4 := p2
    obtain ⟨s, es⟩ : ∃ s : Nat, (s : Int) = xs.toInt := ⟨xs.toInt.toNat, by omega⟩
    have est : xs.toInt.toNat = s := by omega
    rw [est] at hr
    have hs4 : s < 4 := by omega
    have sm : ∀ r i, sy_r w1 r i = sy_r w r i := fun r i => ng_nil f1 r i
    obtain ⟨⟨r2, w2⟩, g2, t2, f2, x, x1, x2⟩ := rc_isrow (w := w1) (s := s) (xs := xs) (xg := nI 0) t1 hs4 es.symm (Or.inl rfl) (by rw [sm]; exact hz s hs4)
    have x1 : r2 = some (.int x) := x1
    subst x1
    have f2 : sx_Fr [] w1 w2 := f2
    have f12 : sx_Fr [] w w2 := sx_Fr_trans f1 f2
    have t2 : sx_Ty sx_T0 w2 := t2
    have c29 : sy_r w2 29 0 = sy_r w 29 0 := ng_nil f12 29 0
    have ok : rk_ok (rc_row w1 s) (sy_r w1 92 s) (-(nI 0).toInt) ↔ row = true := by
      rw [hr, show rc_row w1 s = rc_row w s from funext (fun k => sm 91 _), sm]
      exact Iff.rfl
    have hp : 0 ≤ xp.toInt ∧ xp.toInt ≤ 11 := by omega
    have key : ∃ res, pq_Go 299 pm_82 75 ls [.int x] w2 0 0 res ∧ fcQ w xp.toInt xs.toInt E row q res := by
      subst e0
      rcases x2 with ⟨x2, x3⟩ | ⟨x2, x3⟩
      · have er : row = true := ok.mp x3
        subst er
        by_cases hc : sy_r w 29 0 = 30
        · refine ng_go (J := sx_tt) (Post := fcQ w xp.toInt xs.toInt 0 true q) (fx_p [xp.toInt, xs.toInt]) fic_f rfl ⟨hp.1, hp.2, s1, s2, trivial⟩ trivial ⟨c0, ng_iy c1 rfl, ng_iy c2 rfl, trivial⟩ ⟨by show x.toInt = sx_ev _ (1, []); rw [ng_ek, x2], trivial⟩ (sh_eo (n := 0) (by rw [ng_ek, c29, hc]) rfl trivial) t2 sx_ctn (fun _ _ _ => trivial) ⟨fun y w3 t3 f3 a => ?_, trivial⟩ trivial
          have f3 : sx_Fr [(93, 0, 100000)] w2 w3 := f3
          obtain ⟨z, z1, z2⟩ := sh_ans a.1
          exact ⟨⟨z, z1, by rw [z2, hc]; rfl⟩, Or.inl ⟨fun h => h.2.2 hc, fr_cat f12 f3⟩⟩
        · have hok := (hr.mp rfl : rk_ok (rc_row w s) (sy_r w 92 s) 0)
          obtain ⟨n, en⟩ : ∃ n : Nat, sy_r w 92 s = (n : Int) := ⟨(sy_r w 92 s).toNat, by have := hok.1; omega⟩
          obtain ⟨f, ef⟩ : ∃ f : Nat, sy_r w 29 0 = (f : Int) := ⟨(sy_r w 29 0).toNat, by omega⟩
          have db := sy_rb w 6 8
          have hn12 : n ≤ 12 := by have := hok.2.1; omega
          refine ng_go (J := sx_tt) (Post := fcQ w xp.toInt xs.toInt 0 true q) (fx_p [xp.toInt, xs.toInt, sy_r w 29 0, sy_r w 6 8]) fcx_g rfl ⟨hp.1, hp.2, s1, s2, u1, (show sy_r w 29 0 ≤ 29 by omega), db.1, db.2, trivial⟩ trivial ⟨c0, ng_iy c1 rfl, ng_iy c2 rfl, trivial⟩ ⟨by show x.toInt = sx_ev _ (1, []); rw [ng_ek, x2], trivial⟩ (sh_eo (n := 0) (by rw [sx_y_ev, c29]; rfl) rfl (sh_eo (n := 8) (by rw [sx_y_ev, ng_nil f12]; rfl) rfl trivial)) t2 sx_ctn (fun _ _ _ => trivial) trivial ⟨fun ls3 st3 w3 t3 f3 a => ?_, trivial⟩
          obtain ⟨_, q0, _⟩ := a
          obtain ⟨y1, s1', rfl, z1, q1⟩ := vo_si q0
          obtain ⟨s2', rfl, q2⟩ := vo_sr q1
          obtain ⟨y3, s3', rfl, z3, q3⟩ := vo_si q2
          obtain ⟨y4, s4', rfl, z4, q4⟩ := vo_si q3
          obtain ⟨s5', rfl, q5⟩ := vo_sr q4
          cases vo_s0 q5
          have z1 : y1.toInt = xs.toInt := z1
          have z3 : y3.toInt = sy_r w 6 8 := z3
          have z4 : y4.toInt = xp.toInt := z4
          have f3 : sx_Fr [] w2 w3 := f3
          have f13 : sx_Fr [] w w3 := sx_Fr_trans f12 f3
          obtain ⟨⟨r4, w4⟩, g4, ⟨y, k1, k2⟩, k3⟩ := ad_ok (w := w3) (xp := y4) (xd := y3) (xs := y1) (s := s) (f := f) (n := n) (q := q) (by rw [z4]; exact hp) (by omega) (by rw [ng_nil f13, ef]) hs4 (by rw [z1, es]) hn12 (by rw [ng_nil f13, en]) hq t3
          have k1 : r4 = some (.int y) := k1
          subst k1
          rw [z3, z4] at k3
          exact ⟨(some (.int y), w4), go_cl (j := 86) (n := 5) (as := [.ref 29, .int y4, .int y3, .ref 89, .int y1]) (r := some (.int y)) (st' := [.int y]) (cs' := 0) (ss' := 0) (k1 := 10) rfl rfl rfl rfl rfl rfl rfl g4 (go_end 1 (fun _ _ => rfl)), ⟨y, rfl, by rw [k2, ef]; exact (if_neg (by omega)).symm⟩, Or.inr ⟨⟨rfl, rfl, hc⟩, f, s, n, by omega, ef, hs4, es.symm, en, hn12, ad_Em f13 k3⟩⟩
      · have er : row = false := by
          cases row with
          | false => rfl
          | true => exact absurd (ok.mpr rfl) x3
        subst er
        refine ng_go (J := sx_tt) (Post := fcQ w xp.toInt xs.toInt 0 false q) (fx_p [xp.toInt, xs.toInt]) fic_z rfl ⟨hp.1, hp.2, s1, s2, trivial⟩ trivial ⟨c0, ng_iy c1 rfl, ng_iy c2 rfl, trivial⟩ ⟨by show x.toInt = sx_ev _ (0, []); rw [ng_ek, x2], trivial⟩ trivial t2 sx_ctn (fun _ _ _ => trivial) ⟨fun y w3 t3 f3 a => ?_, trivial⟩ trivial
        have f3 : sx_Fr [(93, 0, 100000)] w2 w3 := f3
        obtain ⟨z, z1, z2⟩ := sh_ans a.1
        exact ⟨⟨z, z1, by rw [z2]; rfl⟩, Or.inl ⟨fun h => absurd h.2.1 (by decide), fr_cat f12 f3⟩⟩
    obtain ⟨res, k1, k2⟩ := key
    exact ⟨res, go_cl (j := 84) (n := 3) (as := [.ref 89, .int xs, .int (nI 0)]) (r := some (.int x)) (st' := [.int x]) (cs' := 0) (ss' := 0) (k1 := 10) rfl rfl rfl rfl rfl rfl rfl g2 k1, k2⟩
/-! fly -/
-- cell and place of how many flights, the widths' cell, the findings' cell; symbols 0 flight, 1 sheet, 2 how many, 3 width
noncomputable def fy_1 (cn pn ce j : Nat) (M : pq_M) (r0 : Nat) : Bool := fi_z.all fun z => ng_chk [(ce, 0, 100000)] [] [] 299 j M 0 [z.1, z.2.1, (0, 30)] z.2.2 (fi_s2 r0) [] [sh_o cn pn (fx_i 2)] [(sh_x (-1000001), [], [], [])] [] 6000
noncomputable def fy_2 (cn pn wr ce j : Nat) (M : pq_M) (r0 : Nat) : Bool := ng_chk [(ce, 0, 100000)] [] [] 299 j M 0 [(0, 29), (0, 3), (0, 30)] [(1, [(0, 1), (2, -1)])] (fi_s2 r0) [] [sh_o cn pn (fx_i 2), (wr, (0, [(1, 1)]), fx_k 0)] [(sh_x (-1000002), [], [], [])] [] 6000
noncomputable def fy_4 (cn pn wr j : Nat) (M : pq_M) (r0 pc r1 : Nat) (g : Int) : Bool := ng_chk [] [] [] 299 j M 0 [(0, 29), (0, 3), (0, 30), (1, 32)] [(1, [(0, 1), (2, -1)])] (fi_s2 r0) [] [sh_o cn pn (fx_i 2), (wr, (0, [(1, 1)]), fx_i 3)] [] [(pc, (ng_L (fi_s2 r0), [fx_k g, fx_i 1, .inr (.inr r1)], [], [], []))] 6000
theorem fyc_1 : fy_1 29 0 93 89 pm_89 5 = true := by decide +kernel
theorem fyc_2 : fy_2 29 0 90 93 89 pm_89 5 = true := by decide +kernel
theorem fyc_4 : fy_4 29 0 90 89 pm_89 5 47 89 1 = true := by decide +kernel
theorem fym_1 : fy_1 95 5 97 212 pm_212 94 = true := by decide +kernel
theorem fym_2 : fy_2 95 5 98 97 212 pm_212 94 = true := by decide +kernel
theorem fym_4 : fy_4 95 5 98 212 pm_212 94 42 94 (-1) = true := by decide +kernel
noncomputable def fy_E (g s c wd : Int) : Int := if g < 0 ∨ c ≤ g ∨ s < 0 ∨ 3 < s then -1000001 else if wd = 0 then -1000002 else 0
noncomputable def fy_X (E : Int) (row : Bool) (c v : Int) : Int := if E = 0 then (if row = true then (if c = 40 then -1000004 else v) else -1000005) else E
theorem fy_gen {cn pn wr ce j : Nat} {M : pq_M} {r0 pc r1 : Nat} {gv : Int} {xg : Int32} (k1 : fy_1 cn pn ce j M r0 = true) (k2 : fy_2 cn pn wr ce j M r0 = true) (k4 : fy_4 cn pn wr j M r0 pc r1 gv = true) (hM : pq_tab[j]? = some M) (hgv : xg.toInt = gv) (xp xs : Int32) {w : pq_W} (ht : sx_Ty sx_T0 w) (hn : 0 ≤ sy_r w cn pn ∧ sy_r w cn pn ≤ 30) (hW : ∀ s, s < 4 → 0 ≤ sy_r w wr s ∧ sy_r w wr s ≤ 32) {E : Int} (hE0 : E = fy_E xp.toInt xs.toInt (sy_r w cn pn) (sy_r w wr xs.toInt.toNat)) {Post : pq_R → Prop}
    (hE : ∀ (x : Int32) (w1 : pq_W), sx_Ty sx_T0 w1 → sx_Fr [(ce, 0, 100000)] w w1 → x.toInt = E → E ≠ 0 → Post (some (.int x), w1))
    (hS : E = 0 → ∀ (ls : pq_L) (w1 : pq_W), pq_lk ls 0 = some (.ref r0) → ng_i ls 1 xp.toInt → ng_i ls 2 xs.toInt → 0 ≤ xp.toInt → xp.toInt < sy_r w cn pn → 0 ≤ xs.toInt → xs.toInt ≤ 3 → sx_Ty sx_T0 w1 → sx_Fr [] w w1 → ∃ res, pq_Go 299 M pc ls [.int xg, .int xs, .ref r1] w1 0 0 res ∧ Post res) : ∃ res, pq_Go 299 M 0 (lv_args 0 [.ref r0, .int xp, .int xs]) [] w 0 0 res ∧ Post res := by
  have rp := sh_i32 xp
  have rs := sh_i32 xs
  have sl : ∀ v : Nat → Int, v 0 = xp.toInt → v 1 = xs.toInt → ng_sl0 v (lv_args 0 [.ref r0, .int xp, .int xs]) (fi_s2 r0) := fun v v0 v1 => ⟨rfl, ng_iy ⟨xp, rfl, rfl⟩ v0, ng_iy ⟨xs, rfl, rfl⟩ v1, trivial⟩
  have one : ∀ {C : List sx_F} {iv : List (Int × Int)} {O : sx_O} {e : Int} (v : Nat → Int), ng_chk [(ce, 0, 100000)] [] [] 299 j M 0 iv C (fi_s2 r0) [] O [(sh_x e, [], [], [])] [] 6000 = true → sx_ivs v 0 iv → ng_fs v C → v 0 = xp.toInt → v 1 = xs.toInt → ng_eqs v w O → E = e → e ≠ 0 → ∃ res, pq_Go 299 M 0 (lv_args 0 [.ref r0, .int xp, .int xs]) [] w 0 0 res ∧ Post res := fun {C iv O e} v hk hi hC v0 v1 hO h1 h2 => by
    obtain ⟨⟨r, w1⟩, g, t, f, q, hq, a⟩ := sh_onc v hk hM hi hC (sl v v0 v1) hO ht
    cases List.mem_singleton.mp hq
    obtain ⟨x, x1, x2⟩ := sh_ans a.1
    have x1 : r = some (.int x) := x1
    subst x1
    exact ⟨_, g, hE x w1 t f (x2.trans h1.symm) (by rw [h1]; exact h2)⟩
  by_cases b0 : xp.toInt < 0 ∨ sy_r w cn pn ≤ xp.toInt ∨ xs.toInt < 0 ∨ 3 < xs.toInt
  · have e1 : E = -1000001 := by rw [hE0]; exact if_pos b0
    have bad : ∀ z ∈ fi_z, (z.1.1 ≤ xp.toInt ∧ xp.toInt ≤ z.1.2) → (z.2.1.1 ≤ xs.toInt ∧ xs.toInt ≤ z.2.1.2) → ng_fs (fx_p [xp.toInt, xs.toInt, sy_r w cn pn]) z.2.2 → ∃ res, pq_Go 299 M 0 (lv_args 0 [.ref r0, .int xp, .int xs]) [] w 0 0 res ∧ Post res := fun z hz h1 h2 h3 =>
      one (fx_p [xp.toInt, xs.toInt, sy_r w cn pn]) (List.all_eq_true.mp k1 z hz) ⟨h1.1, h1.2, h2.1, h2.2, hn.1, hn.2, trivial⟩ h3 rfl rfl (sh_eo (n := pn) (by rw [sx_y_ev]; rfl) rfl trivial) e1 (by decide)
    by_cases c1 : xp.toInt < 0
    · exact bad _ List.mem_cons_self ⟨rp.1, by show xp.toInt ≤ -1; omega⟩ ⟨rs.1, rs.2⟩ trivial
    by_cases c2 : sy_r w cn pn ≤ xp.toInt
    · exact bad _ (List.mem_cons_of_mem _ List.mem_cons_self) ⟨rp.1, rp.2⟩ ⟨rs.1, rs.2⟩ ⟨by show 0 + (-1 * xp.toInt + (1 * sy_r w cn pn + 0)) ≤ 0; omega, trivial⟩
    by_cases c3 : xs.toInt < 0
    · exact bad _ (List.mem_cons_of_mem _ (List.mem_cons_of_mem _ List.mem_cons_self)) ⟨rp.1, rp.2⟩ ⟨rs.1, by show xs.toInt ≤ -1; omega⟩ trivial
    · exact bad _ (List.mem_cons_of_mem _ (List.mem_cons_of_mem _ (List.mem_cons_of_mem _ List.mem_cons_self))) ⟨rp.1, rp.2⟩ ⟨by show 4 ≤ xs.toInt; omega, rs.2⟩ trivial
  have hp : 0 ≤ xp.toInt ∧ xp.toInt ≤ 29 := by omega
  have hs : 0 ≤ xs.toInt ∧ xs.toInt ≤ 3 := by omega
  obtain ⟨s, es⟩ : ∃ s : Nat, (s : Int) = xs.toInt := ⟨xs.toInt.toNat, by omega⟩
  have est : xs.toInt.toNat = s := by omega
  rw [est] at hE0
  have hs4 : s < 4 := by omega
  have hC1 : 1 + (1 * xp.toInt + (-1 * sy_r w cn pn + 0)) ≤ 0 := by omega
  have wid : ∀ (v : Nat → Int) (q : sx_F) (O : sx_O), v 1 = xs.toInt → sy_r w wr s = sx_ev v q → ng_eqs v w O → ng_eqs v w ((wr, (0, [(1, 1)]), .inl (.inl q)) :: O) := fun v q O v1 h hO => by
    refine ⟨?_, hO⟩
    rw [show sx_ev v (0, [(1, 1)]) = (s : Int) by show 0 + (1 * v 1 + 0) = (s : Int); omega, Int.toNat_natCast]
    exact h
  by_cases w0 : sy_r w wr s = 0
  · exact one (fx_p [xp.toInt, xs.toInt, sy_r w cn pn]) k2 ⟨hp.1, hp.2, hs.1, hs.2, hn.1, hn.2, trivial⟩ ⟨hC1, trivial⟩ rfl rfl (sh_eo (n := pn) (by rw [sx_y_ev]; rfl) rfl (wid _ _ _ rfl (by rw [ng_ek]; exact w0) trivial)) (by rw [hE0]; unfold fy_E; rw [if_neg b0, if_pos w0]) (by decide)
  have hw := hW s hs4
  have e0 : E = 0 := by rw [hE0]; unfold fy_E; rw [if_neg b0, if_neg w0]
  unfold fy_4 at k4
  refine ng_go (J := sx_tt) (Post := Post) (fx_p [xp.toInt, xs.toInt, sy_r w cn pn, sy_r w wr s]) k4 hM ⟨hp.1, hp.2, hs.1, hs.2, hn.1, hn.2, (show 1 ≤ sy_r w wr s by omega), hw.2, trivial⟩ ⟨hC1, trivial⟩ (sl _ rfl rfl) trivial (sh_eo (n := pn) (by rw [sx_y_ev]; rfl) rfl (wid _ _ _ rfl (by rw [sx_y_ev]; rfl) trivial)) ht sx_ctn (fun _ _ _ => trivial) trivial ⟨fun ls st w1 t1 f1 al => ?_, trivial⟩
  obtain ⟨a1, q0, _⟩ := al
  obtain ⟨c0, c1, c2, _⟩ := a1
  obtain ⟨x0, s0, rfl, z0, q1⟩ := vo_sk q0
  obtain ⟨x1, s1, rfl, z1, q2⟩ := vo_si q1
  obtain ⟨s2, rfl, q3⟩ := vo_sr q2
  cases vo_s0 q3
  have kx0 : x0 = xg := Int32.toInt_inj.mp (z0.trans hgv.symm)
  have kx1 : x1 = xs := Int32.toInt_inj.mp z1
  subst kx0
  subst kx1
  exact hS e0 ls w1 c0 (ng_yi c1 rfl) (ng_yi c2 rfl) hp.1 (by omega) hs.1 hs.2 t1 f1
noncomputable def fy_g (E : Int) (row : Bool) (c : Int) : Prop := E = 0 ∧ row = true ∧ ¬ c = 40
noncomputable def fyQ (w : pq_W) (xg xs E : Int) (row : Bool) (q : Nat) (res : pq_R) : Prop := (∃ y : Int32, res.1 = some (.int y) ∧ y.toInt = fy_X E row (sy_r w 29 7) (tf_c (sy_r res.2 36) xg ((sy_r w 29 7).toNat + 1) : Nat)) ∧ ((¬ fy_g E row (sy_r w 29 7) ∧ sx_Fr [(93, 0, 100000)] w res.2) ∨ (fy_g E row (sy_r w 29 7) ∧ ∃ t s n : Nat, t < 40 ∧ sy_r w 29 7 = (t : Int) ∧ s < 4 ∧ xs = (s : Int) ∧ sy_r w 92 s = (n : Int) ∧ n ≤ 12 ∧ af_E w xg (sy_r w 6 8) s t n q res.2))
theorem af_Em {w w3 w1 : pq_W} {p d : Int} {s f n q : Nat} (h0 : sx_Fr [] w w3) (h : af_E w3 p d s f n q w1) : af_E w p d s f n q w1 := by
  obtain ⟨h1, h2, h3, h4, h5, h6, h7⟩ := h
  refine ⟨h1, fr_cat h0 h2, h3, h4, h5, h6, ?_⟩
  rw [h7, show sy_r w3 39 = sy_r w 39 from funext (fun i => ng_nil h0 39 i), show (fun k => sy_r w3 91 (24 * s + k)) = (fun k => sy_r w 91 (24 * s + k)) from funext (fun i => ng_nil h0 91 _)]
theorem af_En {w w1 w3 : pq_W} {p d : Int} {s f n q : Nat} (ht : sx_Ty sx_T0 w3) (h0 : sx_Fr [] w1 w3) (h : af_E w p d s f n q w1) : af_E w p d s f n q w3 := by
  obtain ⟨h1, h2, h3, h4, h5, h6, h7⟩ := h
  exact ⟨ht, sx_Fr_trans h2 (fun r i _ => h0 r i (fun ⟨q, hq, _⟩ => by cases hq)), by rw [ng_nil h0, h3], by rw [ng_nil h0, h4], by rw [ng_nil h0, h5], by rw [ng_nil h0, h6], by rw [ng_nil h0, h7]⟩
theorem fyx_z : ng_chk [(93, 0, 100000)] [] [] 299 89 pm_89 50 [(0, 29), (0, 3)] [] (fi_s2 5) [fx_k 0] [] [(sh_x (-1000005), [], [], [])] [] 6000 = true := by decide +kernel
theorem fyx_f : ng_chk [(93, 0, 100000)] [] [] 299 89 pm_89 50 [(0, 29), (0, 3)] [] (fi_s2 5) [fx_k 1] [sh_o 29 7 (fx_k 40)] [(sh_x (-1000004), [], [], [])] [] 6000 = true := by decide +kernel
theorem fyx_g : ng_chk [] [] [] 299 89 pm_89 50 [(0, 29), (0, 3), (0, 39), sy_full] [] (fi_s2 5) [fx_k 1] [sh_o 29 7 (fx_i 2), sh_o 6 8 (fx_i 3)] [] [(94, (ng_L (fi_s2 5), [fx_i 1, .inr (.inr 89), fx_i 3, fx_i 0, .inr (.inr 29)], [], [], []))] 6000 = true := by decide +kernel
theorem fyx_h : ng_chk [] [] [] 299 89 pm_89 97 [(0, 29), (0, 3)] [] (fi_s2 5) [] [] [] [(102, ([], [fx_i 0, .inr (.inr 29)], [], [], []))] 6000 = true := by decide +kernel
theorem fyx_ok {xg xs : Int32} {w : pq_W} {q : Nat} (hq : q < 840) (ht : sx_Ty sx_T0 w) (hW : ∀ s, s < 4 → 0 ≤ sy_r w 90 s ∧ sy_r w 90 s ≤ 32) (hz : ∀ s, s < 4 → 0 ≤ sy_r w 92 s ∧ sy_r w 92 s ≤ 24) {E : Int} (hE : E = fy_E xg.toInt xs.toInt (sy_r w 29 0) (sy_r w 90 xs.toInt.toNat)) {row : Bool} (hr : row = true ↔ rk_ok (rc_row w xs.toInt.toNat) (sy_r w 92 xs.toInt.toNat) (-1)) : ∃ res, pq_Go 299 pm_89 0 (lv_args 0 [.ref 5, .int xg, .int xs]) [] w 0 0 res ∧ fyQ w xg.toInt xs.toInt E row q res := by
  obtain ⟨_, _, _, n1, n2⟩ := sq_fat (r := 29) (i := 0) (lo := 0) (hi := 30) ht rfl rfl
  obtain ⟨_, _, _, u1, u2⟩ := sq_fat (r := 29) (i := 7) (lo := 0) (hi := 40) ht rfl rfl
  refine fy_gen (xg := nI 1) fyc_1 fyc_2 fyc_4 rfl rfl xg xs ht ⟨n1, n2⟩ hW hE (fun x w1 t1 f1 h1 h2 => ?_) (fun e0 ls w1 c0 c1 c2 p1 p2 s1 s2 t1 f1 => ?_)
  · exact ⟨⟨x, rfl, by rw [h1]; exact (if_neg h2).symm⟩, Or.inl ⟨fun h => h2 h.1, f1⟩⟩
  · obtain ⟨s, es⟩ : ∃ s : Nat, (s : Int) = xs.toInt := ⟨xs.toInt.toNat, by omega⟩
    have est : xs.toInt.toNat = s := by omega
    rw [est] at hr
    have hs4 : s < 4 := by omega
    have sm : ∀ r i, sy_r w1 r i = sy_r w r i := fun r i => ng_nil f1 r i
    obtain ⟨⟨r2, w2⟩, g2, t2, f2, x, x1, x2⟩ := rc_isrow (w := w1) (s := s) (xs := xs) (xg := nI 1) t1 hs4 es.symm (Or.inr rfl) (by rw [sm]; exact hz s hs4)
    have x1 : r2 = some (.int x) := x1
    subst x1
    have f2 : sx_Fr [] w1 w2 := f2
    have f12 : sx_Fr [] w w2 := sx_Fr_trans f1 f2
    have t2 : sx_Ty sx_T0 w2 := t2
    have c29 : sy_r w2 29 7 = sy_r w 29 7 := ng_nil f12 29 7
    have ok : rk_ok (rc_row w1 s) (sy_r w1 92 s) (-(nI 1).toInt) ↔ row = true := by
      rw [hr, show rc_row w1 s = rc_row w s from funext (fun k => sm 91 _), sm]
      exact Iff.rfl
    have hp : 0 ≤ xg.toInt ∧ xg.toInt ≤ 29 := by omega
    have key : ∃ res, pq_Go 299 pm_89 50 ls [.int x] w2 0 0 res ∧ fyQ w xg.toInt xs.toInt E row q res := by
      subst e0
      rcases x2 with ⟨x2, x3⟩ | ⟨x2, x3⟩
      · have er : row = true := ok.mp x3
        subst er
        by_cases hc : sy_r w 29 7 = 40
        · refine ng_go (J := sx_tt) (Post := fyQ w xg.toInt xs.toInt 0 true q) (fx_p [xg.toInt, xs.toInt]) fyx_f rfl ⟨hp.1, hp.2, s1, s2, trivial⟩ trivial ⟨c0, ng_iy c1 rfl, ng_iy c2 rfl, trivial⟩ ⟨by show x.toInt = sx_ev _ (1, []); rw [ng_ek, x2], trivial⟩ (sh_eo (n := 7) (by rw [ng_ek, c29, hc]) rfl trivial) t2 sx_ctn (fun _ _ _ => trivial) ⟨fun y w3 t3 f3 a => ?_, trivial⟩ trivial
          have f3 : sx_Fr [(93, 0, 100000)] w2 w3 := f3
          obtain ⟨z, z1, z2⟩ := sh_ans a.1
          exact ⟨⟨z, z1, by rw [z2, hc]; rfl⟩, Or.inl ⟨fun h => h.2.2 hc, fr_cat f12 f3⟩⟩
        · have hok := (hr.mp rfl : rk_ok (rc_row w s) (sy_r w 92 s) (-1))
          obtain ⟨n, en⟩ : ∃ n : Nat, sy_r w 92 s = (n : Int) := ⟨(sy_r w 92 s).toNat, by have := hok.1; omega⟩
          obtain ⟨t, et⟩ : ∃ t : Nat, sy_r w 29 7 = (t : Int) := ⟨(sy_r w 29 7).toNat, by omega⟩
          have db := sy_rb w 6 8
          have hn12 : n ≤ 12 := by have := hok.2.1; omega
          refine ng_go (J := sx_tt) (Post := fyQ w xg.toInt xs.toInt 0 true q) (fx_p [xg.toInt, xs.toInt, sy_r w 29 7, sy_r w 6 8]) fyx_g rfl ⟨hp.1, hp.2, s1, s2, u1, (show sy_r w 29 7 ≤ 39 by omega), db.1, db.2, trivial⟩ trivial ⟨c0, ng_iy c1 rfl, ng_iy c2 rfl, trivial⟩ ⟨by show x.toInt = sx_ev _ (1, []); rw [ng_ek, x2], trivial⟩ (sh_eo (n := 7) (by rw [sx_y_ev, c29]; rfl) rfl (sh_eo (n := 8) (by rw [sx_y_ev, ng_nil f12]; rfl) rfl trivial)) t2 sx_ctn (fun _ _ _ => trivial) trivial ⟨fun ls3 st3 w3 t3 f3 a => ?_, trivial⟩
          obtain ⟨⟨b0, b1, b2, _⟩, q0, _⟩ := a
          obtain ⟨y1, s1', rfl, z1, q1⟩ := vo_si q0
          obtain ⟨s2', rfl, q2⟩ := vo_sr q1
          obtain ⟨y3, s3', rfl, z3, q3⟩ := vo_si q2
          obtain ⟨y4, s4', rfl, z4, q4⟩ := vo_si q3
          obtain ⟨s5', rfl, q5⟩ := vo_sr q4
          cases vo_s0 q5
          have z1 : y1.toInt = xs.toInt := z1
          have z3 : y3.toInt = sy_r w 6 8 := z3
          have z4 : y4.toInt = xg.toInt := z4
          have f3 : sx_Fr [] w2 w3 := f3
          have f13 : sx_Fr [] w w3 := sx_Fr_trans f12 f3
          obtain ⟨⟨r4, w4⟩, g4, k1, k3⟩ := af_ok (w := w3) (xg := y4) (xd := y3) (xs := y1) (s := s) (t := t) (n := n) (q := q) (by rw [z4]; exact hp) (by omega) (by rw [ng_nil f13, et]) hs4 (by rw [z1, es]) hn12 (by rw [ng_nil f13, en]) hq t3
          have k1 : r4 = none := k1
          subst k1
          rw [z3, z4] at k3
          have t4 : sx_Ty sx_T0 w4 := k3.1
          have k29 : sy_r w4 29 7 = (t : Int) + 1 := k3.2.2.1
          have back : ∃ res, pq_Go 299 pm_89 97 ls3 [] w4 0 0 res ∧ fyQ w xg.toInt xs.toInt 0 true q res := by
            refine ng_go (J := sx_tt) (Post := fyQ w xg.toInt xs.toInt 0 true q) (fx_p [xg.toInt, xs.toInt]) fyx_h rfl ⟨hp.1, hp.2, s1, s2, trivial⟩ trivial ⟨b0, ng_iy (ng_yi b1 rfl) rfl, ng_iy (ng_yi b2 rfl) rfl, trivial⟩ trivial trivial t4 sx_ctn (fun _ _ _ => trivial) trivial ⟨fun ls5 st5 w5 t5 f5 a => ?_, trivial⟩
            obtain ⟨_, p0, _⟩ := a
            obtain ⟨v1, s6', rfl, z5, p1⟩ := vo_si p0
            obtain ⟨s7', rfl, p2⟩ := vo_sr p1
            cases vo_s0 p2
            have z5 : v1.toInt = xg.toInt := z5
            have f5 : sx_Fr [] w4 w5 := f5
            obtain ⟨⟨r6, w6⟩, g6, ⟨y, y5, y6⟩, t6, f6⟩ := tf_ok (w := w5) (xg := v1) (n := t + 1) (by rw [z5]; exact hp) (by omega) (by rw [ng_nil f5, k29]; omega) t5
            have y5 : r6 = some (.int y) := y5
            subst y5
            have t6 : sx_Ty sx_T0 w6 := t6
            have f6 : sx_Fr [] w5 w6 := f6
            refine ⟨(some (.int y), w6), go_cl (j := 91) (n := 2) (as := [.ref 29, .int v1]) (r := some (.int y)) (st' := [.int y]) (cs' := 0) (ss' := 0) (k1 := 6) rfl rfl rfl rfl rfl rfl rfl g6 (go_end 1 (fun _ _ => rfl)), ⟨y, rfl, ?_⟩, Or.inr ⟨⟨rfl, rfl, hc⟩, t, s, n, by omega, et, hs4, es.symm, en, hn12, af_En t6 (sx_Fr_trans f5 f6) (af_Em f13 k3)⟩⟩
            show y.toInt = fy_X 0 true (sy_r w 29 7) (tf_c (sy_r w6 36) xg.toInt ((sy_r w 29 7).toNat + 1) : Nat)
            rw [y6, z5, show sy_r w6 36 = sy_r w5 36 from funext (fun i => ng_nil f6 36 i), show (sy_r w 29 7).toNat = t by omega]
            exact (if_neg hc).symm
          obtain ⟨res, h1, h2⟩ := back
          exact ⟨res, go_cl (j := 90) (n := 5) (as := [.ref 29, .int y4, .int y3, .ref 89, .int y1]) (r := none) (st' := []) (cs' := 0) (ss' := 0) (k1 := 10) rfl rfl rfl rfl rfl rfl rfl g4 h1, h2⟩
      · have er : row = false := by
          cases row with
          | false => rfl
          | true => exact absurd (ok.mpr rfl) x3
        subst er
        refine ng_go (J := sx_tt) (Post := fyQ w xg.toInt xs.toInt 0 false q) (fx_p [xg.toInt, xs.toInt]) fyx_z rfl ⟨hp.1, hp.2, s1, s2, trivial⟩ trivial ⟨c0, ng_iy c1 rfl, ng_iy c2 rfl, trivial⟩ ⟨by show x.toInt = sx_ev _ (0, []); rw [ng_ek, x2], trivial⟩ trivial t2 sx_ctn (fun _ _ _ => trivial) ⟨fun y w3 t3 f3 a => ?_, trivial⟩ trivial
        have f3 : sx_Fr [(93, 0, 100000)] w2 w3 := f3
        obtain ⟨z, z1, z2⟩ := sh_ans a.1
        exact ⟨⟨z, z1, by rw [z2]; rfl⟩, Or.inl ⟨fun h => absurd h.2.1 (by decide), fr_cat f12 f3⟩⟩
    obtain ⟨res, k1, k2⟩ := key
    exact ⟨res, go_cl (j := 84) (n := 3) (as := [.ref 89, .int xs, .int (nI 1)]) (r := some (.int x)) (st' := [.int x]) (cs' := 0) (ss' := 0) (k1 := 10) rfl rfl rfl rfl rfl rfl rfl g2 k1, k2⟩
