/-! file: the answer, and how many flights, exactly -/
abbrev fi_T : Type := (Nat × Nat) × (Nat × sx_F) × (Nat × sx_F) × Nat × (Nat × Nat) × Nat
noncomputable def fi_c : fi_T := ((15, 4), (20, (0, [(0, 1)])), (17, (0, [(3, 1)])), 90, (15, 0), 93)
noncomputable def fi_m : fi_T := ((95, 3), (95, (267, [(0, 3)])), (95, (187, [(3, 10)])), 98, (95, 2), 97)
noncomputable def fi_A (P : fi_T) : sx_A := [(P.2.2.2.2.2, 0, 100000)]
noncomputable def fi_sl (r0 : Nat) (a b : sx_V) : List (Nat × sx_V) := [(0, .inr (.inr r0)), (1, a), (2, b)]
noncomputable def fi_s2 (r0 : Nat) : List (Nat × sx_V) := fi_sl r0 (fx_i 0) (fx_i 1)
noncomputable def fi_o (P : fi_T) : Nat × sx_F × sx_V := sh_o P.1.1 P.1.2 (fx_i 2)
noncomputable def fi_z : List ((Int × Int) × (Int × Int) × List sx_F) := [(sh_lo, sy_full, []), (sy_full, sy_full, [(0, [(0, -1), (2, 1)])]), (sy_full, sh_lo, []), (sy_full, (4, 2147483647), [])]
noncomputable def fi_1 (P : fi_T) (j : Nat) (M : pq_M) (r0 : Nat) : Bool := fi_z.all fun z => ng_chk (fi_A P) [] [] 299 j M 0 [z.1, z.2.1, (0, 12)] z.2.2 (fi_s2 r0) [] [fi_o P] [(sh_x (-1000001), [], [], [])] [] 6000
noncomputable def fi_2 (P : fi_T) (j : Nat) (M : pq_M) (r0 : Nat) : Bool := ng_chk (fi_A P) [] [] 299 j M 0 [(0, 11), (0, 3), (0, 12)] [(1, [(0, 1), (2, -1)])] (fi_s2 r0) [] [fi_o P, (P.2.2.2.1, (0, [(1, 1)]), fx_k 0)] [(sh_x (-1000002), [], [], [])] [] 6000
noncomputable def fi_3 (P : fi_T) (j : Nat) (M : pq_M) (r0 : Nat) : Bool := ng_chk (fi_A P) [] [] 299 j M 0 [(0, 11), (0, 3), (0, 12), (0, 7), (1, 32), (0, 8)] [(1, [(0, 1), (2, -1)]), (1, [(3, 1), (5, -1)])] (fi_s2 r0) [] [fi_o P, (P.2.2.2.1, (0, [(1, 1)]), fx_i 4), (P.2.1.1, P.2.1.2, fx_i 3), (P.2.2.1.1, P.2.2.1.2, fx_k 1), sh_o P.2.2.2.2.1.1 P.2.2.2.2.1.2 (fx_i 5)] [(sh_x (-1000003), [], [], [])] [] 6000
noncomputable def fi_4 (P : fi_T) (j : Nat) (M : pq_M) (r0 pc r1 : Nat) : Bool := ng_chk [] [] [] 299 j M 0 [(0, 11), (0, 3), (0, 12), (0, 7), (1, 32)] [(1, [(0, 1), (2, -1)])] (fi_s2 r0) [] [fi_o P, (P.2.2.2.1, (0, [(1, 1)]), fx_i 4), (P.2.1.1, P.2.1.2, fx_i 3), (P.2.2.1.1, P.2.2.1.2, fx_k 0)] [] [(pc, (ng_L (fi_s2 r0), [fx_k 0, fx_i 1, .inr (.inr r1)], [], [], []))] 6000
theorem fic_1 : fi_1 fi_c 82 pm_82 5 = true := by decide +kernel
theorem fic_2 : fi_2 fi_c 82 pm_82 5 = true := by decide +kernel
theorem fic_3 : fi_3 fi_c 82 pm_82 5 = true := by decide +kernel
theorem fic_4 : fi_4 fi_c 82 pm_82 5 72 89 = true := by decide +kernel
theorem fim_1 : fi_1 fi_m 208 pm_208 94 = true := by decide +kernel
theorem fim_2 : fi_2 fi_m 208 pm_208 94 = true := by decide +kernel
theorem fim_3 : fi_3 fi_m 208 pm_208 94 = true := by decide +kernel
theorem fim_4 : fi_4 fi_m 208 pm_208 94 68 94 = true := by decide +kernel
noncomputable def fi_E (p s np wd en : Int) : Int := if p < 0 ∨ np ≤ p ∨ s < 0 ∨ 3 < s then -1000001 else if wd = 0 then -1000002 else if en = 1 then -1000003 else 0
noncomputable def fi_X (E : Int) (row : Bool) (c : Int) : Int := if E = 0 then (if row = true then (if c = 30 then -1000004 else c) else -1000005) else E
noncomputable def fi_Y (E : Int) (row : Bool) (c : Int) : Int := if E = 0 ∧ row = true ∧ ¬ c = 30 then c + 1 else c
theorem fi_gen {P : fi_T} {j : Nat} {M : pq_M} {r0 pc r1 : Nat} (k1 : fi_1 P j M r0 = true) (k2 : fi_2 P j M r0 = true) (k3 : fi_3 P j M r0 = true) (k4 : fi_4 P j M r0 pc r1 = true) (hM : pq_tab[j]? = some M) (el ee : Nat → Nat) (hl : ∀ (v : Nat → Int) (p : Nat), v 0 = p → sx_ev v P.2.1.2 = (el p : Nat)) (he : ∀ (v : Nat → Int) (a : Nat), v 3 = a → sx_ev v P.2.2.1.2 = (ee a : Nat)) (xp xs : Int32) {w : pq_W} (ht : sx_Ty sx_T0 w) (hn : 0 ≤ sy_r w P.1.1 P.1.2 ∧ sy_r w P.1.1 P.1.2 ≤ 12) (hL : ∀ p, p < 12 → 0 ≤ sy_r w P.2.1.1 (el p) ∧ sy_r w P.2.1.1 (el p) ≤ 7) (hW : ∀ s, s < 4 → 0 ≤ sy_r w P.2.2.2.1 s ∧ sy_r w P.2.2.2.1 s ≤ 32) (hD : ∀ a, a < 8 → sy_r w P.2.2.1.1 (ee a) = 0 ∨ sy_r w P.2.2.1.1 (ee a) = 1) (hA : 0 ≤ sy_r w P.2.2.2.2.1.1 P.2.2.2.2.1.2 ∧ sy_r w P.2.2.2.2.1.1 P.2.2.2.2.1.2 ≤ 8) (hZ : ∀ a : Nat, a < 8 → sy_r w P.2.2.2.2.1.1 P.2.2.2.2.1.2 ≤ a → sy_r w P.2.2.1.1 (ee a) = 0) {E : Int} (hE0 : E = fi_E xp.toInt xs.toInt (sy_r w P.1.1 P.1.2) (sy_r w P.2.2.2.1 xs.toInt.toNat) (sy_r w P.2.2.1.1 (ee (sy_r w P.2.1.1 (el xp.toInt.toNat)).toNat))) {Post : pq_R → Prop}
    (hE : ∀ (x : Int32) (w1 : pq_W), sx_Ty sx_T0 w1 → sx_Fr (fi_A P) w w1 → x.toInt = E → E ≠ 0 → Post (some (.int x), w1))
    (hS : E = 0 → ∀ (ls : pq_L) (w1 : pq_W), pq_lk ls 0 = some (.ref r0) → ng_i ls 1 xp.toInt → ng_i ls 2 xs.toInt → 0 ≤ xp.toInt → xp.toInt < sy_r w P.1.1 P.1.2 → 0 ≤ xs.toInt → xs.toInt ≤ 3 → sx_Ty sx_T0 w1 → sx_Fr [] w w1 → ∃ res, pq_Go 299 M pc ls [.int (nI 0), .int xs, .ref r1] w1 0 0 res ∧ Post res) : ∃ res, pq_Go 299 M 0 (lv_args 0 [.ref r0, .int xp, .int xs]) [] w 0 0 res ∧ Post res := by
  have rp := sh_i32 xp
  have rs := sh_i32 xs
  have sl : ∀ v : Nat → Int, v 0 = xp.toInt → v 1 = xs.toInt → ng_sl0 v (lv_args 0 [.ref r0, .int xp, .int xs]) (fi_s2 r0) := fun v v0 v1 => ⟨rfl, ng_iy ⟨xp, rfl, rfl⟩ v0, ng_iy ⟨xs, rfl, rfl⟩ v1, trivial⟩
  have one : ∀ {C : List sx_F} {iv : List (Int × Int)} {O : sx_O} {e : Int} (v : Nat → Int), ng_chk (fi_A P) [] [] 299 j M 0 iv C (fi_s2 r0) [] O [(sh_x e, [], [], [])] [] 6000 = true → sx_ivs v 0 iv → ng_fs v C → v 0 = xp.toInt → v 1 = xs.toInt → ng_eqs v w O → E = e → e ≠ 0 → ∃ res, pq_Go 299 M 0 (lv_args 0 [.ref r0, .int xp, .int xs]) [] w 0 0 res ∧ Post res := fun {C iv O e} v hk hi hC v0 v1 hO h1 h2 => by
    obtain ⟨⟨r, w1⟩, g, t, f, q, hq, a⟩ := sh_onc v hk hM hi hC (sl v v0 v1) hO ht
    cases List.mem_singleton.mp hq
    obtain ⟨x, x1, x2⟩ := sh_ans a.1
    have x1 : r = some (.int x) := x1
    subst x1
    exact ⟨_, g, hE x w1 t f (x2.trans h1.symm) (by rw [h1]; exact h2)⟩
  by_cases b0 : xp.toInt < 0 ∨ sy_r w P.1.1 P.1.2 ≤ xp.toInt ∨ xs.toInt < 0 ∨ 3 < xs.toInt
  · have e1 : E = -1000001 := by rw [hE0]; exact if_pos b0
    have bad : ∀ z ∈ fi_z, (z.1.1 ≤ xp.toInt ∧ xp.toInt ≤ z.1.2) → (z.2.1.1 ≤ xs.toInt ∧ xs.toInt ≤ z.2.1.2) → ng_fs (fx_p [xp.toInt, xs.toInt, sy_r w P.1.1 P.1.2]) z.2.2 → ∃ res, pq_Go 299 M 0 (lv_args 0 [.ref r0, .int xp, .int xs]) [] w 0 0 res ∧ Post res := fun z hz h1 h2 h3 =>
      one (fx_p [xp.toInt, xs.toInt, sy_r w P.1.1 P.1.2]) (List.all_eq_true.mp k1 z hz) ⟨h1.1, h1.2, h2.1, h2.2, hn.1, hn.2, trivial⟩ h3 rfl rfl (sh_eo (n := P.1.2) (by rw [sx_y_ev]; rfl) rfl trivial) e1 (by decide)
    by_cases c1 : xp.toInt < 0
    · exact bad _ List.mem_cons_self ⟨rp.1, by show xp.toInt ≤ -1; omega⟩ ⟨rs.1, rs.2⟩ trivial
    by_cases c2 : sy_r w P.1.1 P.1.2 ≤ xp.toInt
    · exact bad _ (List.mem_cons_of_mem _ List.mem_cons_self) ⟨rp.1, rp.2⟩ ⟨rs.1, rs.2⟩ ⟨by show 0 + (-1 * xp.toInt + (1 * sy_r w P.1.1 P.1.2 + 0)) ≤ 0; omega, trivial⟩
    by_cases c3 : xs.toInt < 0
    · exact bad _ (List.mem_cons_of_mem _ (List.mem_cons_of_mem _ List.mem_cons_self)) ⟨rp.1, rp.2⟩ ⟨rs.1, by show xs.toInt ≤ -1; omega⟩ trivial
    · exact bad _ (List.mem_cons_of_mem _ (List.mem_cons_of_mem _ (List.mem_cons_of_mem _ List.mem_cons_self))) ⟨rp.1, rp.2⟩ ⟨by show 4 ≤ xs.toInt; omega, rs.2⟩ trivial
  have hp : 0 ≤ xp.toInt ∧ xp.toInt ≤ 11 := by omega
  have hs : 0 ≤ xs.toInt ∧ xs.toInt ≤ 3 := by omega
  obtain ⟨p, ep⟩ : ∃ p : Nat, (p : Int) = xp.toInt := ⟨xp.toInt.toNat, by omega⟩
  obtain ⟨s, es⟩ : ∃ s : Nat, (s : Int) = xs.toInt := ⟨xs.toInt.toNat, by omega⟩
  have ept : xp.toInt.toNat = p := by omega
  have est : xs.toInt.toNat = s := by omega
  rw [ept, est] at hE0
  have hp12 : p < 12 := by omega
  have hs4 : s < 4 := by omega
  have hC1 : 1 + (1 * xp.toInt + (-1 * sy_r w P.1.1 P.1.2 + 0)) ≤ 0 := by omega
  have wid : ∀ (v : Nat → Int) (q : sx_F) (O : sx_O), v 1 = xs.toInt → sy_r w P.2.2.2.1 s = sx_ev v q → ng_eqs v w O → ng_eqs v w ((P.2.2.2.1, (0, [(1, 1)]), .inl (.inl q)) :: O) := fun v q O v1 h hO => by
    refine ⟨?_, hO⟩
    rw [show sx_ev v (0, [(1, 1)]) = (s : Int) by show 0 + (1 * v 1 + 0) = (s : Int); omega, Int.toNat_natCast]
    exact h
  by_cases w0 : sy_r w P.2.2.2.1 s = 0
  · exact one (fx_p [xp.toInt, xs.toInt, sy_r w P.1.1 P.1.2]) k2 ⟨hp.1, hp.2, hs.1, hs.2, hn.1, hn.2, trivial⟩ ⟨hC1, trivial⟩ rfl rfl (sh_eo (n := P.1.2) (by rw [sx_y_ev]; rfl) rfl (wid _ _ _ rfl (by rw [ng_ek]; exact w0) trivial)) (by rw [hE0]; unfold fi_E; rw [if_neg b0, if_pos w0]) (by decide)
  have hw := hW s hs4
  have hL1 := hL p hp12
  obtain ⟨a, ea⟩ : ∃ a : Nat, (a : Int) = sy_r w P.2.1.1 (el p) := ⟨(sy_r w P.2.1.1 (el p)).toNat, by omega⟩
  have eat : (sy_r w P.2.1.1 (el p)).toNat = a := by omega
  rw [eat] at hE0
  have ha8 : a < 8 := by omega
  have lin : ∀ (v : Nat → Int) (O : sx_O), v 0 = xp.toInt → v 3 = (a : Int) → ng_eqs v w O → ng_eqs v w ((P.2.1.1, P.2.1.2, fx_i 3) :: O) := fun v O v0 v3 hO => by
    refine ⟨?_, hO⟩
    rw [hl v p (by rw [v0, ep]), Int.toNat_natCast, sx_y_ev, v3, ea]
  have end' : ∀ (v : Nat → Int) (c : Int) (O : sx_O), v 3 = (a : Int) → sy_r w P.2.2.1.1 (ee a) = c → ng_eqs v w O → ng_eqs v w ((P.2.2.1.1, P.2.2.1.2, fx_k c) :: O) := fun v c O v3 h hO => by
    refine ⟨?_, hO⟩
    rw [he v a v3, Int.toNat_natCast, ng_ek]
    exact h
  by_cases d1 : sy_r w P.2.2.1.1 (ee a) = 1
  · have hal : (a : Int) < sy_r w P.2.2.2.2.1.1 P.2.2.2.2.1.2 := by
      have := hZ a ha8
      omega
    exact one (fx_p [xp.toInt, xs.toInt, sy_r w P.1.1 P.1.2, (a : Int), sy_r w P.2.2.2.1 s, sy_r w P.2.2.2.2.1.1 P.2.2.2.2.1.2]) k3 ⟨hp.1, hp.2, hs.1, hs.2, hn.1, hn.2, (show (0 : Int) ≤ a by omega), (show (a : Int) ≤ 7 by omega), (show 1 ≤ sy_r w P.2.2.2.1 s by omega), hw.2, hA.1, hA.2, trivial⟩ ⟨hC1, by show 1 + (1 * (a : Int) + (-1 * sy_r w P.2.2.2.2.1.1 P.2.2.2.2.1.2 + 0)) ≤ 0; omega, trivial⟩ rfl rfl (sh_eo (n := P.1.2) (by rw [sx_y_ev]; rfl) rfl (wid _ _ _ rfl (by rw [sx_y_ev]; rfl) (lin _ _ rfl rfl (end' _ _ _ rfl d1 (sh_eo (n := P.2.2.2.2.1.2) (by rw [sx_y_ev]; rfl) rfl trivial))))) (by rw [hE0]; unfold fi_E; rw [if_neg b0, if_neg w0, if_pos d1]) (by decide)
  have d0 : sy_r w P.2.2.1.1 (ee a) = 0 := (hD a ha8).resolve_right d1
  have e0 : E = 0 := by rw [hE0]; unfold fi_E; rw [if_neg b0, if_neg w0, if_neg d1]
  unfold fi_4 at k4
  refine ng_go (J := sx_tt) (Post := Post) (fx_p [xp.toInt, xs.toInt, sy_r w P.1.1 P.1.2, (a : Int), sy_r w P.2.2.2.1 s]) k4 hM ⟨hp.1, hp.2, hs.1, hs.2, hn.1, hn.2, (show (0 : Int) ≤ a by omega), (show (a : Int) ≤ 7 by omega), (show 1 ≤ sy_r w P.2.2.2.1 s by omega), hw.2, trivial⟩ ⟨hC1, trivial⟩ (sl _ rfl rfl) trivial (sh_eo (n := P.1.2) (by rw [sx_y_ev]; rfl) rfl (wid _ _ _ rfl (by rw [sx_y_ev]; rfl) (lin _ _ rfl rfl (end' _ _ _ rfl d0 trivial)))) ht sx_ctn (fun _ _ _ => trivial) trivial ⟨fun ls st w1 t1 f1 al => ?_, trivial⟩
  obtain ⟨a1, q, _⟩ := al
  obtain ⟨c0, c1, c2, _⟩ := a1
  obtain ⟨x0, s0, rfl, z0, qs1⟩ := vo_sk q
  obtain ⟨x1, s1, rfl, z1, qs2⟩ := vo_si qs1
  obtain ⟨s2, rfl, qs3⟩ := vo_sr qs2
  cases vo_s0 qs3
  have kx0 : x0 = nI 0 := Int32.toInt_inj.mp z0
  have kx1 : x1 = xs := Int32.toInt_inj.mp z1
  subst kx0
  subst kx1
  exact hS e0 ls w1 c0 (ng_yi c1 rfl) (ng_yi c2 rfl) hp.1 (by omega) hs.1 hs.2 t1 f1
noncomputable def fi_Q (cr cp : Nat) (E : Int) (row : Bool) (c : Int) (res : pq_R) : Prop := ∃ y : Int32, res.1 = some (.int y) ∧ y.toInt = fi_X E row c ∧ sy_r res.2 cr cp = fi_Y E row c
theorem fi_QE {cr cp : Nat} {E : Int} {row : Bool} {c : Int} {x : Int32} {w1 : pq_W} (h1 : x.toInt = E) (h2 : E ≠ 0) (h3 : sy_r w1 cr cp = c) : fi_Q cr cp E row c (some (.int x), w1) := ⟨x, rfl, by rw [h1]; exact (if_neg h2).symm, by rw [h3]; exact (if_neg (fun h => h2 h.1)).symm⟩
theorem fi_Qk {cr cp : Nat} {c : Int} {x : Option Value} {w1 : pq_W} (h1 : ∃ y : Int32, x = some (.int y) ∧ y.toInt = -1000005) (h3 : sy_r w1 cr cp = c) : fi_Q cr cp 0 false c (x, w1) := by
  obtain ⟨y, rfl, h1⟩ := h1
  exact ⟨y, rfl, by rw [h1]; rfl, by rw [h3]; exact (if_neg (fun h => absurd h.2.1 (by decide))).symm⟩
theorem fi_Qf {cr cp : Nat} {x : Option Value} {w1 : pq_W} (h1 : ∃ y : Int32, x = some (.int y) ∧ y.toInt = -1000004) (h3 : sy_r w1 cr cp = 30) : fi_Q cr cp 0 true 30 (x, w1) := by
  obtain ⟨y, rfl, h1⟩ := h1
  exact ⟨y, rfl, by rw [h1]; rfl, by rw [h3]; rfl⟩
theorem fi_Qg {cr cp : Nat} {c : Int} {x : Option Value} {w1 : pq_W} (hc : ¬ c = 30) (h1 : ∃ y : Int32, x = some (.int y) ∧ y.toInt = c) (h3 : sy_r w1 cr cp = c + 1) : fi_Q cr cp 0 true c (x, w1) := by
  obtain ⟨y, rfl, h1⟩ := h1
  exact ⟨y, rfl, by rw [h1]; exact (if_neg hc).symm, by rw [h3]; exact (if_pos ⟨rfl, rfl, hc⟩).symm⟩
theorem fi_em {w : pq_W} (ht : sx_Ty sx_T0 w) {a : Nat} (ha : a < 8) : sy_r w 17 a = 0 ∨ sy_r w 17 a = 1 := by
  have h := sy_rg (r := 17) ht rfl (g := (0, 1, 8, 0, 0, 0, 1)) (by decide) (k := a) (j := 0) ha (Nat.le_refl _) (Nat.le_refl _) (by show 0 + 1 * a + 0 < 8; omega)
  have h : 0 ≤ sy_r w 17 (0 + 1 * a + 0) ∧ sy_r w 17 (0 + 1 * a + 0) ≤ 1 := h
  rw [show 0 + 1 * a + 0 = a by omega] at h
  omega
theorem fi_em2 {w : pq_W} (ht : sx_Ty sx_T0 w) {a : Nat} (ha : a < 8) : sy_r w 95 (187 + 10 * a) = 0 ∨ sy_r w 95 (187 + 10 * a) = 1 := by
  have h := sy_rg (r := 95) ht rfl (g := (186, 10, 8, 1, 1, 0, 1)) (by decide) (k := a) (j := 1) ha (Nat.le_refl _) (Nat.le_refl _) (by show 186 + 10 * a + 1 < 2858; omega)
  have h : 0 ≤ sy_r w 95 (186 + 10 * a + 1) ∧ sy_r w 95 (186 + 10 * a + 1) ≤ 1 := h
  rw [show 187 + 10 * a = 186 + 10 * a + 1 by omega]
  omega
-- the class, behind isRow
theorem fic_z : ng_chk [(93, 0, 100000)] [] [] 299 82 pm_82 75 [(0, 11), (0, 3)] [] (fi_s2 5) [fx_k 0] [] [(sh_x (-1000005), [], [], [])] [] 6000 = true := by decide +kernel
theorem fic_f : ng_chk [(93, 0, 100000)] [] [] 299 82 pm_82 75 [(0, 11), (0, 3)] [] (fi_s2 5) [fx_k 1] [sh_o 29 0 (fx_k 30)] [(sh_x (-1000004), [], [], [])] [] 6000 = true := by decide +kernel
noncomputable def fi_AN : sh_AN := [(87, [(31, ([(5, false, 0, 3000)], [(39, none)], false, [], 5, true))])]
theorem fic_g : ng_chk [(29, 0, 0), (30, 0, 100000), (31, 0, 100000), (38, 0, 100000), (39, 0, 100000)] [] fi_AN 299 82 pm_82 75 [(0, 11), (0, 3), (0, 29)] [] (fi_s2 5) [fx_k 1] [sh_o 29 0 (fx_i 2)] [(.inl (.inl (fx_i 2)), [sh_o 29 0 (.inl (.inl (1, [(2, 1)])))], [], [])] [] 6000 = true := by decide +kernel
theorem fic_ok {xp xs : Int32} {w : pq_W} (ht : sx_Ty sx_T0 w) (hZ : ∀ a : Nat, a < 8 → sy_r w 15 0 ≤ a → sy_r w 17 a = 0) (hW : ∀ s, s < 4 → 0 ≤ sy_r w 90 s ∧ sy_r w 90 s ≤ 32) (hz : ∀ s, s < 4 → 0 ≤ sy_r w 92 s ∧ sy_r w 92 s ≤ 24) {E : Int} (hE : E = fi_E xp.toInt xs.toInt (sy_r w 15 4) (sy_r w 90 xs.toInt.toNat) (sy_r w 17 (sy_r w 20 xp.toInt.toNat).toNat)) {row : Bool} (hr : row = true ↔ rk_ok (rc_row w xs.toInt.toNat) (sy_r w 92 xs.toInt.toNat) 0) : ∃ res, pq_Go 299 pm_82 0 (lv_args 0 [.ref 5, .int xp, .int xs]) [] w 0 0 res ∧ fi_Q 29 0 E row (sy_r w 29 0) res := by
  obtain ⟨_, _, _, n1, n2⟩ := sq_fat (r := 15) (i := 4) (lo := 0) (hi := 12) ht rfl rfl
  obtain ⟨_, _, _, m1, m2⟩ := sq_fat (r := 15) (i := 0) (lo := 0) (hi := 8) ht rfl rfl
  obtain ⟨_, _, _, u1, u2⟩ := sq_fat (r := 29) (i := 0) (lo := 0) (hi := 30) ht rfl rfl
  refine fi_gen (P := fi_c) fic_1 fic_2 fic_3 fic_4 rfl (fun p => p) (fun a => a) (fun v p h => by show 0 + (1 * v 0 + 0) = _; omega) (fun v p h => by show 0 + (1 * v 3 + 0) = _; omega) xp xs ht ⟨n1, n2⟩ (fun p hp => ?_) hW (fun a ha => fi_em ht ha) ⟨m1, m2⟩ hZ hE (fun x w1 t1 f1 h1 h2 => ?_) (fun e0 ls w1 c0 c1 c2 p1 p2 s1 s2 t1 f1 => ?_)
  · have := sy_rg (r := 20) ht rfl (g := (0, 1, 12, 0, 0, 0, 7)) (by decide) (k := p) (j := 0) hp (Nat.le_refl _) (Nat.le_refl _) (by show 0 + 1 * p + 0 < 12; omega)
    have e : 0 + 1 * p + 0 = p := by omega
    have h : 0 ≤ sy_r w 20 (0 + 1 * p + 0) ∧ sy_r w 20 (0 + 1 * p + 0) ≤ 7 := this
    rw [e] at h
    exact h
  · have f1 : sx_Fr [(93, 0, 100000)] w w1 := f1
    exact fi_QE h1 h2 (fr_no f1 ⟨Or.inl (by decide), trivial⟩)
  · have p2 : xp.toInt < sy_r w 15 4 := p2
    obtain ⟨s, es⟩ : ∃ s : Nat, (s : Int) = xs.toInt := ⟨xs.toInt.toNat, by omega⟩
    have est : xs.toInt.toNat = s := by omega
    rw [est] at hr
    have hs4 : s < 4 := by omega
    have sm : ∀ r i, sy_r w1 r i = sy_r w r i := fun r i => ng_nil f1 r i
    obtain ⟨⟨r2, w2⟩, g2, t2, f2, x, x1, x2⟩ := rc_isrow (w := w1) (s := s) (xs := xs) (xg := nI 0) t1 hs4 es.symm (Or.inl rfl) (by rw [sm]; exact hz s hs4)
    have x1 : r2 = some (.int x) := x1
    subst x1
    have f2 : sx_Fr [] w1 w2 := f2
    have t2 : sx_Ty sx_T0 w2 := t2
    have c29 : sy_r w2 29 0 = sy_r w 29 0 := by rw [ng_nil f2, sm]
    have ok : rk_ok (rc_row w1 s) (sy_r w1 92 s) (-(nI 0).toInt) ↔ row = true := by
      rw [hr, show rc_row w1 s = rc_row w s from funext (fun k => sm 91 _), sm]
      exact Iff.rfl
    have hp : 0 ≤ xp.toInt ∧ xp.toInt ≤ 11 := by omega
    have key : ∃ res, pq_Go 299 pm_82 75 ls [.int x] w2 0 0 res ∧ fi_Q 29 0 E row (sy_r w 29 0) res := by
      subst e0
      rcases x2 with ⟨x2, x3⟩ | ⟨x2, x3⟩
      · have er : row = true := ok.mp x3
        subst er
        by_cases hc : sy_r w 29 0 = 30
        · rw [hc]
          refine ng_go (J := sx_tt) (Post := fi_Q 29 0 0 true 30) (fx_p [xp.toInt, xs.toInt]) fic_f rfl ⟨hp.1, hp.2, s1, s2, trivial⟩ trivial ⟨c0, ng_iy c1 rfl, ng_iy c2 rfl, trivial⟩ ⟨by show x.toInt = sx_ev _ (1, []); rw [ng_ek, x2], trivial⟩ (sh_eo (n := 0) (by rw [ng_ek, c29, hc]) rfl trivial) t2 sx_ctn (fun _ _ _ => trivial) ⟨fun y w3 t3 f3 q => ?_, trivial⟩ trivial
          have f3 : sx_Fr [(93, 0, 100000)] w2 w3 := f3
          exact fi_Qf (sh_ans q.1) (by rw [fr_no f3 ⟨Or.inl (by decide), trivial⟩, c29, hc])
        · refine ng_go (J := sx_tt) (Post := fi_Q 29 0 0 true (sy_r w 29 0)) (fx_p [xp.toInt, xs.toInt, sy_r w 29 0]) fic_g rfl ⟨hp.1, hp.2, s1, s2, u1, (show sy_r w 29 0 ≤ 29 by omega), trivial⟩ trivial ⟨c0, ng_iy c1 rfl, ng_iy c2 rfl, trivial⟩ ⟨by show x.toInt = sx_ev _ (1, []); rw [ng_ek, x2], trivial⟩ (sh_eo (n := 0) (by rw [sx_y_ev, c29]; rfl) rfl trivial) t2 sx_ctn (fun _ _ _ => trivial) ⟨fun y w3 t3 f3 q => ?_, trivial⟩ trivial
          obtain ⟨o1, _⟩ := sh_oe (n := 0) q.2.1 rfl
          obtain ⟨z, z1, z2⟩ := q.1
          exact fi_Qg hc ⟨z, z1, z2.trans (sx_y_ev _ _)⟩ (o1.trans (by show 1 + (1 * sy_r w 29 0 + 0) = _; omega))
      · have er : row = false := by
          cases row with
          | false => rfl
          | true => exact absurd (ok.mpr rfl) x3
        subst er
        refine ng_go (J := sx_tt) (Post := fi_Q 29 0 0 false (sy_r w 29 0)) (fx_p [xp.toInt, xs.toInt]) fic_z rfl ⟨hp.1, hp.2, s1, s2, trivial⟩ trivial ⟨c0, ng_iy c1 rfl, ng_iy c2 rfl, trivial⟩ ⟨by show x.toInt = sx_ev _ (0, []); rw [ng_ek, x2], trivial⟩ trivial t2 sx_ctn (fun _ _ _ => trivial) ⟨fun y w3 t3 f3 q => ?_, trivial⟩ trivial
        have f3 : sx_Fr [(93, 0, 100000)] w2 w3 := f3
        exact fi_Qk (sh_ans q.1) (by rw [fr_no f3 ⟨Or.inl (by decide), trivial⟩, c29])
    obtain ⟨res, k1, k2⟩ := key
    exact ⟨res, go_cl (j := 84) (n := 3) (as := [.ref 89, .int xs, .int (nI 0)]) (r := some (.int x)) (st' := [.int x]) (cs' := 0) (ss' := 0) (k1 := 10) rfl rfl rfl rfl rfl rfl rfl g2 k1, k2⟩
-- the reference, behind isRow
theorem fim_z : ng_chk [(97, 0, 5)] [] [] 299 208 pm_208 71 [(0, 11), (0, 3)] [] (fi_s2 94) [fx_k 0] [] [(sh_x (-1000005), [], [], [])] [] 6000 = true := by decide +kernel
theorem fim_f : ng_chk [(97, 0, 5)] [] [] 299 208 pm_208 71 [(0, 11), (0, 3)] [] (fi_s2 94) [fx_k 1] [mc_o 5 (fx_k 30)] [(sh_x (-1000004), [], [], [])] [] 6000 = true := by decide +kernel
theorem fim_g : ng_chk [] [] [] 299 208 pm_208 71 [(0, 11), (0, 3), (0, 29)] [] (fi_s2 94) [fx_k 1] [mc_o 5 (fx_i 2)] [] [(104, (ng_L [(0, fx_r), (1, fx_i 0), (2, fx_i 1), (3, fx_i 2), (4, fx_k 0)], [], [], [], []))] 200 = true := by decide +kernel
theorem fim_7 : ng_chk [(95, 5, 5)] [] [] 299 208 pm_208 186 [(0, 11), (0, 3), (0, 12), (0, 29)] [] (fc_b (fx_i 3) (fx_i 2)) [] [(99, sx_y 1, fx_i 2), mc_o 5 (fx_i 3)] [(.inl (.inl (fx_i 3)), [mc_o 5 (.inl (.inl (1, [(3, 1)])))], [], [])] [] 100 = true := by decide +kernel
theorem fim_ok {xp xs : Int32} {w : pq_W} (ht : sx_Ty sx_T0 w) (hZ : ∀ a : Nat, a < 8 → sy_r w 95 2 ≤ a → sy_r w 95 (187 + 10 * a) = 0) (hW : ∀ s, s < 4 → 0 ≤ sy_r w 98 s ∧ sy_r w 98 s ≤ 32) {E : Int} (hE : E = fi_E xp.toInt xs.toInt (sy_r w 95 3) (sy_r w 98 xs.toInt.toNat) (sy_r w 95 (187 + 10 * (sy_r w 95 (267 + 3 * xp.toInt.toNat)).toNat))) {row : Bool} (hr : row = true ↔ ir_ok w xs.toInt.toNat 0) : ∃ res, pq_Go 299 pm_208 0 (lv_args 0 [.ref 94, .int xp, .int xs]) [] w 0 0 res ∧ fi_Q 95 5 E row (sy_r w 95 5) res := by
  have hy := mo_yT ht (Or.inl rfl)
  have hy5 : 0 ≤ sy_r w 95 5 ∧ sy_r w 95 5 ≤ 30 := hy.2.2.1
  refine fi_gen (P := fi_m) fim_1 fim_2 fim_3 fim_4 rfl (fun p => 267 + 3 * p) (fun a => 187 + 10 * a) (fun v p h => by show 267 + (3 * v 0 + 0) = _; omega) (fun v p h => by show 187 + (10 * v 3 + 0) = _; omega) xp xs ht hy.2.1 (fun p hp => ?_) hW (fun a ha => fi_em2 ht ha) hy.1 hZ hE (fun x w1 t1 f1 h1 h2 => ?_) (fun e0 ls w1 c0 c1 c2 p1 p2 s1 s2 t1 f1 => ?_)
  · have := sy_rg (r := 95) ht rfl (g := (266, 3, 12, 1, 1, 0, 7)) (by decide) (k := p) (j := 1) hp (Nat.le_refl _) (Nat.le_refl _) (by show 266 + 3 * p + 1 < 2858; omega)
    have e : 266 + 3 * p + 1 = 267 + 3 * p := by omega
    have h : 0 ≤ sy_r w 95 (266 + 3 * p + 1) ∧ sy_r w 95 (266 + 3 * p + 1) ≤ 7 := this
    rw [e] at h
    exact h
  · have f1 : sx_Fr [(97, 0, 100000)] w w1 := f1
    exact fi_QE h1 h2 (fr_no f1 ⟨Or.inl (by decide), trivial⟩)
  · have p2 : xp.toInt < sy_r w 95 3 := p2
    have hy3 : 0 ≤ sy_r w 95 3 ∧ sy_r w 95 3 ≤ 12 := hy.2.1
    obtain ⟨s, es⟩ : ∃ s : Nat, (s : Int) = xs.toInt := ⟨xs.toInt.toNat, by omega⟩
    have est : xs.toInt.toNat = s := by omega
    rw [est] at hr
    have hs4 : s < 4 := by omega
    have sm : ∀ r i, sy_r w1 r i = sy_r w r i := fun r i => ng_nil f1 r i
    obtain ⟨⟨r2, w2⟩, g2, t2, f2, x, x1, x2⟩ := irx_exact (w := w1) (s := s) (xs := xs) (xl := nI 0) t1 hs4 es.symm (by decide)
    have x1 : r2 = some (.int x) := x1
    subst x1
    have f2 : sx_Fr [(106, 0, 63), (107, 0, 63)] w1 w2 := f2
    have t2 : sx_Ty sx_T0 w2 := t2
    have n2 : ∀ r i, r ≠ 106 → r ≠ 107 → sy_r w2 r i = sy_r w r i := fun r i h1 h2 => by rw [fr_no f2 ⟨Or.inl (fun e => h1 e.symm), Or.inl (fun e => h2 e.symm), trivial⟩, sm]
    have c5 : sy_r w2 95 5 = sy_r w 95 5 := n2 95 5 (by decide) (by decide)
    have ok : ir_ok w1 s (nI 0).toInt ↔ row = true := by
      rw [hr]
      unfold ir_ok
      rw [show irR w1 s = irR w s from funext (fun k => sm 100 _), sm]
      exact Iff.rfl
    have hp : 0 ≤ xp.toInt ∧ xp.toInt ≤ 11 := by omega
    have key : ∃ res, pq_Go 299 pm_208 71 ls [.int x] w2 0 0 res ∧ fi_Q 95 5 E row (sy_r w 95 5) res := by
      subst e0
      rcases x2 with ⟨x2, x3⟩ | ⟨x2, x3⟩
      · have er : row = true := ok.mp x3
        subst er
        by_cases hc : sy_r w 95 5 = 30
        · rw [hc]
          refine ng_go (J := sx_tt) (Post := fi_Q 95 5 0 true 30) (fx_p [xp.toInt, xs.toInt]) fim_f rfl ⟨hp.1, hp.2, s1, s2, trivial⟩ trivial ⟨c0, ng_iy c1 rfl, ng_iy c2 rfl, trivial⟩ ⟨by show x.toInt = sx_ev _ (1, []); rw [ng_ek, x2], trivial⟩ (mc_eo (n := 5) (by rw [ng_ek, c5, hc]) rfl trivial) t2 sx_ctn (fun _ _ _ => trivial) ⟨fun y w3 t3 f3 q => ?_, trivial⟩ trivial
          have f3 : sx_Fr [(97, 0, 5)] w2 w3 := f3
          exact fi_Qf (sh_ans q.1) (by rw [fr_no f3 ⟨Or.inl (by decide), trivial⟩, c5, hc])
        · have hok := ok.mpr rfl
          obtain ⟨f, ef⟩ : ∃ f : Nat, (f : Int) = sy_r w 95 5 := ⟨(sy_r w 95 5).toNat, by omega⟩
          have hf30 : f < 30 := by omega
          refine ng_go (J := sx_tt) (Post := fi_Q 95 5 0 true (sy_r w 95 5)) (fx_p [xp.toInt, xs.toInt, sy_r w 95 5]) fim_g rfl ⟨hp.1, hp.2, s1, s2, hy5.1, (show sy_r w 95 5 ≤ 29 by omega), trivial⟩ trivial ⟨c0, ng_iy c1 rfl, ng_iy c2 rfl, trivial⟩ ⟨by show x.toInt = sx_ev _ (1, []); rw [ng_ek, x2], trivial⟩ (mc_eo (n := 5) (by rw [sx_y_ev, c5]; rfl) rfl trivial) t2 sx_ctn (fun _ _ _ => trivial) trivial ⟨fun ls4 st4 w4 t4 f4 q => ?_, trivial⟩
          obtain ⟨a1, a2, _⟩ := q
          cases ng_st0 a2
          obtain ⟨b0, b1, b2, b3, b4, _⟩ := a1
          refine fl_zero (w0 := w4) (f := f) (p := xp.toInt) (s := xs.toInt) (Post := fi_Q 95 5 0 true (sy_r w 95 5)) hf30 hp ⟨s1, s2⟩ ?_ 34 0 rfl ls4 w4 ⟨b0, ng_yi b1 rfl, ng_yi b2 rfl, ng_yi b3 ef.symm, ng_ki b4 rfl⟩ t4 (sx_Fr_refl _ _) (fun l _ h => by omega)
          intro ls5 w5 b5 t5 f5 z5
          have f5 : sx_Fr [(95, 302 + 34 * (f : Int), 335 + 34 * (f : Int))] w4 w5 := f5
          have h99 : sy_r w5 99 s = sy_r w 99 s := by rw [fr_no f5 ⟨Or.inl (by decide), trivial⟩, ng_nil f4, n2 99 s (by decide) (by decide)]
          have h100 : ∀ i, sy_r w5 100 i = sy_r w 100 i := fun i => by rw [fr_no f5 ⟨Or.inl (by decide), trivial⟩, ng_nil f4, n2 100 i (by decide) (by decide)]
          have h5 : sy_r w5 95 5 = sy_r w 95 5 := by rw [fr_no f5 ⟨Or.inr (by omega), trivial⟩, ng_nil f4, c5]
          have hok : ir_ok w s 0 := hr.mp rfl
          have hsz1 : 2 ≤ sy_r w 99 s := hok.1
          have hsz2 : sy_r w 99 s ≤ 12 := hok.2.1
          obtain ⟨sz, esz⟩ : ∃ sz : Nat, (sz : Int) = sy_r w 99 s := ⟨(sy_r w 99 s).toNat, by omega⟩
          have db := sy_rb w5 95 0
          have ck := List.all_eq_true.mp fc_5 f (List.mem_range.mpr hf30)
          refine ng_go (J := sx_tt) (Post := fi_Q 95 5 0 true (sy_r w 95 5)) (fx_p [xp.toInt, xs.toInt, sz, sy_r w5 95 0]) ck rfl ⟨hp.1, hp.2, s1, s2, (show (0 : Int) ≤ sz by omega), (show (sz : Int) ≤ 12 by omega), db.1, db.2, trivial⟩ trivial ⟨b5.1, ng_iy b5.2.1 rfl, ng_iy b5.2.2.1 rfl, ng_ik b5.2.2.2.1 rfl, ng_ik b5.2.2.2.2 rfl, trivial⟩ trivial ⟨?_, mc_eo (n := 0) (by rw [sx_y_ev]; rfl) rfl trivial⟩ t5 sx_ctn (fun _ _ _ => trivial) trivial ⟨fun ls6 st6 w6 t6 f6 q => ?_, trivial⟩
          · show sy_r w5 99 (sx_ev _ (sx_y 1)).toNat = sx_ev _ (sx_y 2)
            rw [sx_y_ev, sx_y_ev]
            show sy_r w5 99 xs.toInt.toNat = (sz : Int)
            rw [est, h99, esz]
          obtain ⟨a1, a2, a3, _⟩ := q
          cases ng_st0 a2
          obtain ⟨c0, c1, c2, c3, c4, _⟩ := a1
          have f6 : sx_Fr [(95, 302 + 34 * (f : Int), 304 + 34 * (f : Int)), (95, 307 + 34 * (f : Int), 307 + 34 * (f : Int))] w5 w6 := f6
          have i6 : ∀ k, irR w6 s k = irR w s k := fun k => by
            show sy_r w6 100 _ = sy_r w 100 _
            rw [fr_no f6 ⟨Or.inl (by decide), Or.inl (by decide), trivial⟩, h100]
          have h996 : sy_r w6 99 s = sy_r w 99 s := by rw [fr_no f6 ⟨Or.inl (by decide), Or.inl (by decide), trivial⟩, h99]
          have h56 : sy_r w6 95 5 = sy_r w 95 5 := by rw [fr_no f6 ⟨Or.inr (by omega), Or.inr (by omega), trivial⟩, h5]
          have bB6 : flB ls6 xp.toInt s f ((0 : Nat) : Int) := ⟨c0, ng_yi c1 rfl, ng_yi c2 es.symm, ng_ki c3 rfl, ng_ki c4 rfl⟩
          refine fl_copy (w0 := w6) (f := f) (s := s) (sz := sz) (p := xp.toInt) (Post := fi_Q 95 5 0 true (sy_r w 95 5)) hf30 hs4 hp (by rw [h996]; exact esz) (by omega) (fun k hk => by rw [i6]; have := hok.2.2.1 k (by omega); omega) ?_ sz 0 (by omega) ls6 w6 bB6 t6 (sx_Fr_refl _ _) (fun k' hk' => by omega)
          intro ls7 w7 b7 t7 f7 c7
          have h997 : sy_r w7 99 s = sz := by rw [fr_no f7 ⟨Or.inl (by decide), trivial⟩, h996, esz]
          have h57 : sy_r w7 95 5 = sy_r w 95 5 := by rw [fr_no f7 ⟨Or.inr (by omega), trivial⟩, h56]
          refine ng_go (J := sx_tt) (Post := fi_Q 95 5 0 true (sy_r w 95 5)) (fx_p [xp.toInt, s, sz, f]) fim_7 rfl ⟨hp.1, hp.2, (show (0 : Int) ≤ s by omega), (show (s : Int) ≤ 3 by omega), (show (0 : Int) ≤ sz by omega), (show (sz : Int) ≤ 12 by omega), (show (0 : Int) ≤ f by omega), (show (f : Int) ≤ 29 by omega), trivial⟩ trivial ⟨b7.1, ng_iy b7.2.1 rfl, ng_iy b7.2.2.1 rfl, ng_iy b7.2.2.2.1 rfl, ng_iy b7.2.2.2.2 rfl, trivial⟩ trivial ⟨?_, mc_eo (n := 5) (by rw [sx_y_ev, h57]; exact ef.symm) rfl trivial⟩ t7 sx_ctn (fun _ _ _ => trivial) ⟨fun y w8 t8 f8 q => ?_, trivial⟩ trivial
          · show sy_r w7 99 (sx_ev _ (sx_y 1)).toNat = sx_ev _ (sx_y 2)
            rw [sx_y_ev, sx_y_ev]
            show sy_r w7 99 (s : Int).toNat = (sz : Int)
            rw [Int.toNat_natCast, h997]
          obtain ⟨q1, q2, _⟩ := q
          obtain ⟨v8, _⟩ := mc_oe (n := 5) q2 rfl
          have v8 : sy_r w8 95 5 = 1 + (1 * (f : Int) + 0) := v8
          obtain ⟨z, z1, z2⟩ := q1
          have z2 : z.toInt = (f : Int) := z2.trans (sx_y_ev _ _)
          exact fi_Qg hc ⟨z, z1, by rw [z2, ef]⟩ (by show sy_r w8 95 5 = _; omega)
      · have er : row = false := by
          cases row with
          | false => rfl
          | true => exact absurd (ok.mpr rfl) x3
        subst er
        refine ng_go (J := sx_tt) (Post := fi_Q 95 5 0 false (sy_r w 95 5)) (fx_p [xp.toInt, xs.toInt]) fim_z rfl ⟨hp.1, hp.2, s1, s2, trivial⟩ trivial ⟨c0, ng_iy c1 rfl, ng_iy c2 rfl, trivial⟩ ⟨by show x.toInt = sx_ev _ (0, []); rw [ng_ek, x2], trivial⟩ trivial t2 sx_ctn (fun _ _ _ => trivial) ⟨fun y w3 t3 f3 q => ?_, trivial⟩ trivial
        have f3 : sx_Fr [(97, 0, 5)] w2 w3 := f3
        exact fi_Qk (sh_ans q.1) (by rw [fr_no f3 ⟨Or.inl (by decide), trivial⟩, c5])
    obtain ⟨res, k1, k2⟩ := key
    exact ⟨res, go_cl (j := 209) (n := 3) (as := [.ref 94, .int xs, .int (nI 0)]) (r := some (.int x)) (st' := [.int x]) (cs' := 0) (ss' := 0) (k1 := 30) rfl rfl rfl rfl rfl rfl rfl g2 k1, k2⟩
