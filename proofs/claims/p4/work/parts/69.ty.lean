/-! land, plane, as, end's mark, told exactly -/
theorem t8_m {x : Int} (h1 : -2147483648 ≤ x ∧ x ≤ 2147483647) (h : ¬ (0 ≤ x ∧ x ≤ 7)) : ∃ i ∈ t8_o, i.1 ≤ x ∧ x ≤ i.2 := by
  by_cases c : x < 0
  · exact ⟨sh_lo, List.mem_cons_self, h1.1, (by show x ≤ -1; omega)⟩
  · exact ⟨(8, 2147483647), List.mem_cons_of_mem _ List.mem_cons_self, (by show 8 ≤ x; omega), h1.2⟩
theorem sh_onc {A : sx_A} {AN : sh_AN} {j : Nat} {M : pq_M} {iv : List (Int × Int)} {C : List sx_F} {sl : List (Nat × sx_V)} {O : sx_O} {re : List ng_Ae} {f : Nat} {w : pq_W} {ls : pq_L} (p : Nat → Int) (h : ng_chk A [] AN 299 j M 0 iv C sl [] O re [] f = true) (hM : pq_tab[j]? = some M) (hi : sx_ivs p 0 iv) (hC : ng_fs p C) (hl : ng_sl0 p ls sl) (hO : ng_eqs p w O) (ht : sx_Ty sx_T0 w) : ∃ res, pq_Go 299 M 0 ls [] w 0 0 res ∧ sx_Ty sx_T0 res.2 ∧ sx_Fr A w res.2 ∧ ∃ a ∈ re, ng_ae p res.1 res.2 a :=
  ng_go (J := sx_tt) (Post := fun res => sx_Ty sx_T0 res.2 ∧ sx_Fr A w res.2 ∧ ∃ a ∈ re, ng_ae p res.1 res.2 a) p h hM hi hC hl trivial hO ht sx_ctn (fun _ _ _ => trivial) (sh_R re re (fun _ h => h)) trivial
noncomputable def ld_X (c f o : Int) : Int := if c < 0 ∨ 9999 < c ∨ f < 1 ∨ 9999 < f then -1000001 else o
noncomputable def ld_Y (c f o : Int) : Int := if c < 0 ∨ 9999 < c ∨ f < 1 ∨ 9999 < f then o else c
noncomputable def ld_P (A0 : sx_A) (A : Nat → sx_A) (cr : Nat) (ci : Nat → Nat) (l c f : Int) (w : pq_W) (res : pq_R) : Prop := (¬ (0 ≤ l ∧ l ≤ 7) ∧ (∃ x : Int32, res.1 = some (.int x) ∧ x.toInt = -1000001) ∧ sx_Fr A0 w res.2) ∨ ∃ k : Nat, k < 8 ∧ (k : Int) = l ∧ (∃ x : Int32, res.1 = some (.int x) ∧ x.toInt = ld_X c f (sy_r w cr (ci k))) ∧ sx_Fr (A k) w res.2 ∧ sy_r res.2 cr (ci k) = ld_Y c f (sy_r w cr (ci k))
theorem ld_gen {A0 : sx_A} {A : Nat → sx_A} {j : Nat} {M : pq_M} {r0 cr : Nat} {ci : Nat → Nat} (k1 : ld_k1 A0 j M r0 = true) (k2 : ld_k2 A j M r0 cr ci = true) (hM : pq_tab[j]? = some M) (xl xc xf : Int32) {w : pq_W} (ht : sx_Ty sx_T0 w) : ∃ res, pq_Go 299 M 0 (lv_args 0 [.ref r0, .int xl, .int xc, .int xf]) [] w 0 0 res ∧ ld_P A0 A cr ci xl.toInt xc.toInt xf.toInt w res := by
  have rl := sh_i32 xl
  have rc := sh_i32 xc
  have rf := sh_i32 xf
  by_cases hl : ¬ (0 ≤ xl.toInt ∧ xl.toInt ≤ 7)
  · obtain ⟨i, m, l1, l2⟩ := t8_m rl hl
    obtain ⟨res, g, t, f, z, hz, q⟩ := sh_one (ls := lv_args 0 [.ref r0, .int xl, .int xc, .int xf]) (fx_p [xl.toInt, xc.toInt, xf.toInt]) (List.all_eq_true.mp k1 i m) hM ⟨l1, l2, rc.1, rc.2, rf.1, rf.2, trivial⟩ ⟨rfl, ng_iy ⟨xl, rfl, rfl⟩ rfl, ng_iy ⟨xc, rfl, rfl⟩ rfl, ng_iy ⟨xf, rfl, rfl⟩ rfl, trivial⟩ trivial ht
    cases List.mem_singleton.mp hz
    exact ⟨res, g, Or.inl ⟨hl, sh_ans q.1, f⟩⟩
  have hl := Decidable.not_not.mp hl
  obtain ⟨l, el⟩ : ∃ l : Nat, (l : Int) = xl.toInt := ⟨xl.toInt.toNat, by omega⟩
  have hl8 : l < 8 := by omega
  have ho := sy_bd w cr (ci l)
  obtain ⟨res, g, t, f, z, hz, q⟩ := sh_one (ls := lv_args 0 [.ref r0, .int xl, .int xc, .int xf]) (fx_p [xc.toInt, xf.toInt, sy_r w cr (ci l)]) (List.all_eq_true.mp k2 l (List.mem_range.mpr hl8)) hM ⟨rc.1, rc.2, rf.1, rf.2, ho.1, ho.2, trivial⟩ ⟨rfl, ng_ik ⟨xl, rfl, rfl⟩ el.symm, ng_iy ⟨xc, rfl, rfl⟩ rfl, ng_iy ⟨xf, rfl, rfl⟩ rfl, trivial⟩ (sh_eo (n := ci l) (by rw [sx_y_ev]; rfl) rfl trivial) ht
  refine ⟨res, g, Or.inr ⟨l, hl8, el, ?_⟩⟩
  obtain ⟨q1, q2, q3, _⟩ := q
  unfold ld_re at hz
  rcases List.mem_cons.mp hz with rfl | hz
  · obtain ⟨e1, _⟩ := sh_oe (n := ci l) q2 rfl
    rw [sx_y_ev] at e1
    have e1 : sy_r res.2 cr (ci l) = sy_r w cr (ci l) := e1
    have d1 : 1 + (1 * xc.toInt + 0) ≤ 0 := q3.1
    have hc : xc.toInt < 0 ∨ 9999 < xc.toInt ∨ xf.toInt < 1 ∨ 9999 < xf.toInt := by omega
    obtain ⟨x, x1, x2⟩ := sh_ans q1
    exact ⟨⟨x, x1, by rw [x2]; unfold ld_X; rw [if_pos hc]⟩, f, by rw [e1]; unfold ld_Y; rw [if_pos hc]⟩
  rcases List.mem_cons.mp hz with rfl | hz
  · obtain ⟨e1, _⟩ := sh_oe (n := ci l) q2 rfl
    rw [sx_y_ev] at e1
    have e1 : sy_r res.2 cr (ci l) = sy_r w cr (ci l) := e1
    have d1 : 10000 + (-1 * xc.toInt + 0) ≤ 0 := q3.1
    have hc : xc.toInt < 0 ∨ 9999 < xc.toInt ∨ xf.toInt < 1 ∨ 9999 < xf.toInt := by omega
    obtain ⟨x, x1, x2⟩ := sh_ans q1
    exact ⟨⟨x, x1, by rw [x2]; unfold ld_X; rw [if_pos hc]⟩, f, by rw [e1]; unfold ld_Y; rw [if_pos hc]⟩
  rcases List.mem_cons.mp hz with rfl | hz
  · obtain ⟨e1, _⟩ := sh_oe (n := ci l) q2 rfl
    rw [sx_y_ev] at e1
    have e1 : sy_r res.2 cr (ci l) = sy_r w cr (ci l) := e1
    have d1 : 0 + (1 * xf.toInt + 0) ≤ 0 := q3.1
    have hc : xc.toInt < 0 ∨ 9999 < xc.toInt ∨ xf.toInt < 1 ∨ 9999 < xf.toInt := by omega
    obtain ⟨x, x1, x2⟩ := sh_ans q1
    exact ⟨⟨x, x1, by rw [x2]; unfold ld_X; rw [if_pos hc]⟩, f, by rw [e1]; unfold ld_Y; rw [if_pos hc]⟩
  rcases List.mem_cons.mp hz with rfl | hz
  · obtain ⟨e1, _⟩ := sh_oe (n := ci l) q2 rfl
    rw [sx_y_ev] at e1
    have e1 : sy_r res.2 cr (ci l) = sy_r w cr (ci l) := e1
    have d1 : 10000 + (-1 * xf.toInt + 0) ≤ 0 := q3.1
    have hc : xc.toInt < 0 ∨ 9999 < xc.toInt ∨ xf.toInt < 1 ∨ 9999 < xf.toInt := by omega
    obtain ⟨x, x1, x2⟩ := sh_ans q1
    exact ⟨⟨x, x1, by rw [x2]; unfold ld_X; rw [if_pos hc]⟩, f, by rw [e1]; unfold ld_Y; rw [if_pos hc]⟩
  cases List.mem_singleton.mp hz
  obtain ⟨e1, _⟩ := sh_oe (n := ci l) q2 rfl
  rw [sx_y_ev] at e1
  have e1 : sy_r res.2 cr (ci l) = xc.toInt := e1
  obtain ⟨d1, d2, d3, d4, _⟩ := q3
  have d1 : 0 + (-1 * xc.toInt + 0) ≤ 0 := d1
  have d2 : -9999 + (1 * xc.toInt + 0) ≤ 0 := d2
  have d3 : 1 + (-1 * xf.toInt + 0) ≤ 0 := d3
  have d4 : -9999 + (1 * xf.toInt + 0) ≤ 0 := d4
  have hc : ¬ (xc.toInt < 0 ∨ 9999 < xc.toInt ∨ xf.toInt < 1 ∨ 9999 < xf.toInt) := by omega
  obtain ⟨x, x1, x2⟩ := q1
  rw [sx_y_ev] at x2
  have x2 : x.toInt = sy_r w cr (ci l) := x2
  exact ⟨⟨x, x1, by rw [x2]; unfold ld_X; rw [if_neg hc]⟩, f, by rw [e1]; unfold ld_Y; rw [if_neg hc]⟩
/-- what plane does: nothing, or one more -/
noncomputable def tp_ok (k a wt n e p : Int) : Prop := (0 ≤ k ∧ k ≤ 5) ∧ (0 ≤ a ∧ a < n) ∧ (1 ≤ wt ∧ wt ≤ 600) ∧ e = 0 ∧ p < 12
noncomputable def tp_X (k a wt n e p : Int) : Int := if k < 0 ∨ 5 < k ∨ a < 0 ∨ n ≤ a ∨ wt < 1 ∨ 600 < wt then -1000001 else if e = 1 then -1000003 else if p = 12 then -1000004 else p
noncomputable def tp_R (P : tp_P) (A0 : sx_A) (A : Nat → sx_A) (ei : Nat → Nat) (k a wt : Int) (w : pq_W) (res : pq_R) : Prop := (∃ x : Int32, res.1 = some (.int x) ∧ x.toInt = tp_X k a wt (sy_r w P.2.2.2.2.2.1 P.2.2.2.2.2.2) (sy_r w P.1.1 (ei a.toNat)) (sy_r w P.2.1.1 P.2.1.2)) ∧ ((¬ tp_ok k a wt (sy_r w P.2.2.2.2.2.1 P.2.2.2.2.2.2) (sy_r w P.1.1 (ei a.toNat)) (sy_r w P.2.1.1 P.2.1.2) ∧ sx_Fr A0 w res.2) ∨ ∃ p : Nat, p < 12 ∧ sy_r w P.2.1.1 P.2.1.2 = p ∧ sx_Fr (A p) w res.2 ∧ sy_r res.2 P.2.1.1 P.2.1.2 = p + 1 ∧ sy_r res.2 (P.2.2.1 p).1 (P.2.2.1 p).2 = k ∧ sy_r res.2 (P.2.2.2.1 p).1 (P.2.2.2.1 p).2 = a ∧ sy_r res.2 (P.2.2.2.2.1 p).1 (P.2.2.2.2.1 p).2 = wt ∧ tp_ok k a wt (sy_r w P.2.2.2.2.2.1 P.2.2.2.2.2.2) (sy_r w P.1.1 (ei a.toNat)) (sy_r w P.2.1.1 P.2.1.2))
theorem tp_gen {P : tp_P} {A0 : sx_A} {A : Nat → sx_A} {j : Nat} {M : pq_M} {r0 : Nat} (f1 : tp_f1 P A0 j M r0 = true) (f2 : tp_f2 P A0 j M r0 = true) (f3 : tp_f3 P A0 j M r0 = true) (f4 : tp_f4 P A0 j M r0 = true) (kk : tp_k P A j M r0 = true) (hM : pq_tab[j]? = some M) (ei : Nat → Nat) (hei : ∀ (p : Nat → Int) (a : Nat), p 1 = a → sx_ev p P.1.2 = (ei a : Nat)) (xk xa xw : Int32) {w : pq_W} (ht : sx_Ty sx_T0 w) (hn : 0 ≤ sy_r w P.2.2.2.2.2.1 P.2.2.2.2.2.2 ∧ sy_r w P.2.2.2.2.2.1 P.2.2.2.2.2.2 ≤ 8) (hp : 0 ≤ sy_r w P.2.1.1 P.2.1.2 ∧ sy_r w P.2.1.1 P.2.1.2 ≤ 12) (he : ∀ a, a < 8 → sy_r w P.1.1 (ei a) = 0 ∨ sy_r w P.1.1 (ei a) = 1) : ∃ res, pq_Go 299 M 0 (lv_args 0 [.ref r0, .int xk, .int xa, .int xw]) [] w 0 0 res ∧ tp_R P A0 A ei xk.toInt xa.toInt xw.toInt w res := by
  have rk := sh_i32 xk
  have ra := sh_i32 xa
  have rv := sh_i32 xw
  have sl : ng_sl0 (fx_p [xk.toInt, xa.toInt, xw.toInt, sy_r w P.2.2.2.2.2.1 P.2.2.2.2.2.2]) (lv_args 0 [.ref r0, .int xk, .int xa, .int xw]) (td_sl r0 (fx_i 0) (fx_i 1) (fx_i 2)) := ⟨rfl, ng_iy ⟨xk, rfl, rfl⟩ rfl, ng_iy ⟨xa, rfl, rfl⟩ rfl, ng_iy ⟨xw, rfl, rfl⟩ rfl, trivial⟩
  by_cases ha : ¬ (0 ≤ xa.toInt ∧ xa.toInt ≤ 7)
  · obtain ⟨i, m, l1, l2⟩ := t8_m ra ha
    obtain ⟨res, g, t, f, z, hz, q⟩ := sh_one (ls := lv_args 0 [.ref r0, .int xk, .int xa, .int xw]) (fx_p [xk.toInt, xa.toInt, xw.toInt, sy_r w P.2.2.2.2.2.1 P.2.2.2.2.2.2]) (List.all_eq_true.mp f1 i m) hM ⟨rk.1, rk.2, l1, l2, rv.1, rv.2, hn.1, hn.2, trivial⟩ sl (sh_eo (n := P.2.2.2.2.2.2) (by rw [sx_y_ev]; rfl) rfl trivial) ht
    cases List.mem_singleton.mp hz
    obtain ⟨x, x1, x2⟩ := sh_ans q.1
    exact ⟨res, g, ⟨x, x1, by rw [x2]; unfold tp_X; rw [if_pos (by omega)]⟩, Or.inl ⟨fun h => ha ⟨h.2.1.1, by have := h.2.1.2; omega⟩, f⟩⟩
  have ha := Decidable.not_not.mp ha
  obtain ⟨a, ea⟩ : ∃ a : Nat, (a : Int) = xa.toInt := ⟨xa.toInt.toNat, by omega⟩
  have ha8 : a < 8 := by omega
  have eat : xa.toInt.toNat = a := by omega
  have bad : ∀ z ∈ tp_bad, (z.1.1 ≤ xk.toInt ∧ xk.toInt ≤ z.1.2) → (z.2.1.1 ≤ xw.toInt ∧ xw.toInt ≤ z.2.1.2) → ng_fs (fx_p [xk.toInt, xa.toInt, xw.toInt, sy_r w P.2.2.2.2.2.1 P.2.2.2.2.2.2]) z.2.2 → (xk.toInt < 0 ∨ 5 < xk.toInt ∨ xa.toInt < 0 ∨ sy_r w P.2.2.2.2.2.1 P.2.2.2.2.2.2 ≤ xa.toInt ∨ xw.toInt < 1 ∨ 600 < xw.toInt) → ∃ res, pq_Go 299 M 0 (lv_args 0 [.ref r0, .int xk, .int xa, .int xw]) [] w 0 0 res ∧ tp_R P A0 A ei xk.toInt xa.toInt xw.toInt w res := by
    intro z hz h1 h2 h3 h4
    obtain ⟨res, g, t, f, y, hy, q⟩ := sh_onc (fx_p [xk.toInt, xa.toInt, xw.toInt, sy_r w P.2.2.2.2.2.1 P.2.2.2.2.2.2]) (List.all_eq_true.mp f2 z hz) hM ⟨h1.1, h1.2, ha.1, ha.2, h2.1, h2.2, hn.1, hn.2, trivial⟩ h3 sl (sh_eo (n := P.2.2.2.2.2.2) (by rw [sx_y_ev]; rfl) rfl trivial) ht
    cases List.mem_singleton.mp hy
    obtain ⟨x, x1, x2⟩ := sh_ans q.1
    exact ⟨res, g, ⟨x, x1, by rw [x2]; unfold tp_X; rw [if_pos h4]⟩, Or.inl ⟨fun h => by
      obtain ⟨⟨a1, a2⟩, ⟨a3, a4⟩, ⟨a5, a6⟩, _⟩ := h
      omega, f⟩⟩
  by_cases c1 : xk.toInt < 0
  · exact bad _ List.mem_cons_self ⟨rk.1, by show xk.toInt ≤ -1; omega⟩ ⟨rv.1, rv.2⟩ trivial (Or.inl c1)
  by_cases c2 : 5 < xk.toInt
  · exact bad _ (List.mem_cons_of_mem _ List.mem_cons_self) ⟨by show 6 ≤ xk.toInt; omega, rk.2⟩ ⟨rv.1, rv.2⟩ trivial (Or.inr (Or.inl c2))
  by_cases c3 : xw.toInt < 1
  · exact bad _ (List.mem_cons_of_mem _ (List.mem_cons_of_mem _ List.mem_cons_self)) ⟨rk.1, rk.2⟩ ⟨rv.1, by show xw.toInt ≤ 0; omega⟩ trivial (by omega)
  by_cases c4 : 600 < xw.toInt
  · exact bad _ (List.mem_cons_of_mem _ (List.mem_cons_of_mem _ (List.mem_cons_of_mem _ List.mem_cons_self))) ⟨rk.1, rk.2⟩ ⟨by show 601 ≤ xw.toInt; omega, rv.2⟩ trivial (by omega)
  by_cases c5 : sy_r w P.2.2.2.2.2.1 P.2.2.2.2.2.2 ≤ xa.toInt
  · exact bad _ (List.mem_cons_of_mem _ (List.mem_cons_of_mem _ (List.mem_cons_of_mem _ (List.mem_cons_of_mem _ List.mem_cons_self)))) ⟨rk.1, rk.2⟩ ⟨rv.1, rv.2⟩ ⟨by show 0 + (-1 * xa.toInt + (1 * sy_r w P.2.2.2.2.2.1 P.2.2.2.2.2.2 + 0)) ≤ 0; omega, trivial⟩ (by omega)
  have nb : ¬ (xk.toInt < 0 ∨ 5 < xk.toInt ∨ xa.toInt < 0 ∨ sy_r w P.2.2.2.2.2.1 P.2.2.2.2.2.2 ≤ xa.toInt ∨ xw.toInt < 1 ∨ 600 < xw.toInt) := by omega
  have iv : sx_ivs (fx_p [xk.toInt, xa.toInt, xw.toInt, sy_r w P.2.2.2.2.2.1 P.2.2.2.2.2.2]) 0 [(0, 5), (0, 7), (1, 600), (0, 8)] := ⟨(show 0 ≤ xk.toInt by omega), (show xk.toInt ≤ 5 by omega), ha.1, ha.2, (show 1 ≤ xw.toInt by omega), (show xw.toInt ≤ 600 by omega), hn.1, hn.2, trivial⟩
  have hC : ng_fs (fx_p [xk.toInt, xa.toInt, xw.toInt, sy_r w P.2.2.2.2.2.1 P.2.2.2.2.2.2]) [(1, [(1, 1), (3, -1)])] := ⟨by show 1 + (1 * xa.toInt + (-1 * sy_r w P.2.2.2.2.2.1 P.2.2.2.2.2.2 + 0)) ≤ 0; omega, trivial⟩
  have hE : ∀ v : Int, sy_r w P.1.1 (ei a) = v → ∀ O, ng_eqs (fx_p [xk.toInt, xa.toInt, xw.toInt, sy_r w P.2.2.2.2.2.1 P.2.2.2.2.2.2]) w O → ng_eqs (fx_p [xk.toInt, xa.toInt, xw.toInt, sy_r w P.2.2.2.2.2.1 P.2.2.2.2.2.2]) w ((P.1.1, P.1.2, fx_k v) :: O) := fun v hv O hO => by
    refine ⟨?_, hO⟩
    rw [hei _ a ea.symm, ng_ek, Int.toNat_natCast]
    exact hv
  rcases he a ha8 with e0 | e1
  · by_cases c12 : sy_r w P.2.1.1 P.2.1.2 = 12
    · obtain ⟨res, g, t, f, z, hz, q⟩ := sh_onc (fx_p [xk.toInt, xa.toInt, xw.toInt, sy_r w P.2.2.2.2.2.1 P.2.2.2.2.2.2]) f4 hM iv hC sl (sh_eo (n := P.2.2.2.2.2.2) (by rw [sx_y_ev]; rfl) rfl (hE 0 e0 _ (sh_eo (n := P.2.1.2) (by rw [ng_ek]; exact c12) rfl trivial))) ht
      cases List.mem_singleton.mp hz
      obtain ⟨x, x1, x2⟩ := sh_ans q.1
      refine ⟨res, g, ⟨x, x1, ?_⟩, Or.inl ⟨fun h => by have := h.2.2.2.2; omega, f⟩⟩
      rw [x2]
      unfold tp_X
      rw [if_neg nb, eat, e0, if_neg (by decide), if_pos c12]
    · obtain ⟨p, ep⟩ : ∃ p : Nat, sy_r w P.2.1.1 P.2.1.2 = (p : Int) := ⟨(sy_r w P.2.1.1 P.2.1.2).toNat, by omega⟩
      have hp12 : p < 12 := by omega
      obtain ⟨res, g, t, f, z, hz, q⟩ := sh_onc (fx_p [xk.toInt, xa.toInt, xw.toInt, sy_r w P.2.2.2.2.2.1 P.2.2.2.2.2.2]) (List.all_eq_true.mp kk p (List.mem_range.mpr hp12)) hM iv hC sl (sh_eo (n := P.2.2.2.2.2.2) (by rw [sx_y_ev]; rfl) rfl (hE 0 e0 _ (sh_eo (n := P.2.1.2) (by rw [ng_ek]; exact ep) rfl trivial))) ht
      cases List.mem_singleton.mp hz
      obtain ⟨q1, q2, _⟩ := q
      obtain ⟨x, x1, x2⟩ := sh_ans q1
      obtain ⟨v1, q2⟩ := sh_oe (n := P.2.1.2) q2 rfl
      obtain ⟨v2, q2⟩ := sh_oe (n := (P.2.2.1 p).2) q2 rfl
      obtain ⟨v3, q2⟩ := sh_oe (n := (P.2.2.2.1 p).2) q2 rfl
      obtain ⟨v4, q2⟩ := sh_oe (n := (P.2.2.2.2.1 p).2) q2 rfl
      rw [ng_ek] at v1
      rw [sx_y_ev] at v2 v3 v4
      refine ⟨res, g, ⟨x, x1, ?_⟩, Or.inr ⟨p, hp12, ep, f, v1, v2, v3, v4, ?_⟩⟩
      · rw [x2]
        unfold tp_X
        rw [if_neg nb, eat, e0, if_neg (by decide), if_neg c12, ep]
      · rw [eat, e0]
        exact ⟨⟨by omega, by omega⟩, ⟨ha.1, by omega⟩, ⟨by omega, by omega⟩, rfl, by omega⟩
  · obtain ⟨res, g, t, f, z, hz, q⟩ := sh_onc (fx_p [xk.toInt, xa.toInt, xw.toInt, sy_r w P.2.2.2.2.2.1 P.2.2.2.2.2.2]) f3 hM iv hC sl (sh_eo (n := P.2.2.2.2.2.2) (by rw [sx_y_ev]; rfl) rfl (hE 1 e1 _ trivial)) ht
    cases List.mem_singleton.mp hz
    obtain ⟨x, x1, x2⟩ := sh_ans q.1
    refine ⟨res, g, ⟨x, x1, ?_⟩, Or.inl ⟨fun h => ?_, f⟩⟩
    · rw [x2]
      unfold tp_X
      rw [if_neg nb, eat, e1, if_pos rfl]
    · have h5 := h.2.2.2.1
      rw [eat, e1] at h5
      exact absurd h5 (by decide)
/-- what as answers -/
noncomputable def as_X (p q n k wt : Int) : Int := if p < 0 ∨ n ≤ p ∨ q < 0 ∨ 5 < q then -1000001 else if as_u k.toNat q.toNat = true then wt else -1000005
noncomputable def as_R (P : as_Q) (A : sx_A) (ki wi : Nat → Nat) (p q : Int) (w : pq_W) (res : pq_R) : Prop := sx_Fr A w res.2 ∧ ∃ x : Int32, res.1 = some (.int x) ∧ x.toInt = as_X p q (sy_r w P.2.2.1 P.2.2.2) (sy_r w P.1.1 (ki p.toNat)) (sy_r w P.2.1.1 (wi p.toNat))
theorem as_gen {P : as_Q} {A : sx_A} {j : Nat} {M : pq_M} {r0 : Nat} (f1 : as_f1 P A j M r0 = true) (kk : as_k P A j M r0 = true) (hM : pq_tab[j]? = some M) (ki wi : Nat → Nat) (hki : ∀ (v : Nat → Int) (p : Nat), v 0 = p → sx_ev v P.1.2 = (ki p : Nat)) (hwi : ∀ (v : Nat → Int) (p : Nat), v 0 = p → sx_ev v P.2.1.2 = (wi p : Nat)) (xp xq : Int32) {w : pq_W} (ht : sx_Ty sx_T0 w) (hn : 0 ≤ sy_r w P.2.2.1 P.2.2.2 ∧ sy_r w P.2.2.1 P.2.2.2 ≤ 12) (hk : ∀ p, p < 12 → 0 ≤ sy_r w P.1.1 (ki p) ∧ sy_r w P.1.1 (ki p) ≤ 5) (hw : ∀ p, p < 12 → 0 ≤ sy_r w P.2.1.1 (wi p) ∧ sy_r w P.2.1.1 (wi p) ≤ 600) : ∃ res, pq_Go 299 M 0 (lv_args 0 [.ref r0, .int xp, .int xq]) [] w 0 0 res ∧ as_R P A ki wi xp.toInt xq.toInt w res := by
  have rp := sh_i32 xp
  have rq := sh_i32 xq
  have bad : ∀ z ∈ as_bad, (z.1.1 ≤ xp.toInt ∧ xp.toInt ≤ z.1.2) → (z.2.1.1 ≤ xq.toInt ∧ xq.toInt ≤ z.2.1.2) → ng_fs (fx_p [xp.toInt, sy_r w P.2.2.1 P.2.2.2, xq.toInt]) z.2.2 → (xp.toInt < 0 ∨ sy_r w P.2.2.1 P.2.2.2 ≤ xp.toInt ∨ xq.toInt < 0 ∨ 5 < xq.toInt) → ∃ res, pq_Go 299 M 0 (lv_args 0 [.ref r0, .int xp, .int xq]) [] w 0 0 res ∧ as_R P A ki wi xp.toInt xq.toInt w res := by
    intro z hz h1 h2 h3 h4
    obtain ⟨res, g, t, f, y, hy, q⟩ := sh_onc (ls := lv_args 0 [.ref r0, .int xp, .int xq]) (fx_p [xp.toInt, sy_r w P.2.2.1 P.2.2.2, xq.toInt]) (List.all_eq_true.mp f1 z hz) hM ⟨h1.1, h1.2, hn.1, hn.2, h2.1, h2.2, trivial⟩ h3 ⟨rfl, ng_iy ⟨xp, rfl, rfl⟩ rfl, ng_iy ⟨xq, rfl, rfl⟩ rfl, trivial⟩ (sh_eo (n := P.2.2.2) (by rw [sx_y_ev]; rfl) rfl trivial) ht
    cases List.mem_singleton.mp hy
    obtain ⟨x, x1, x2⟩ := sh_ans q.1
    exact ⟨res, g, f, x, x1, by rw [x2]; unfold as_X; rw [if_pos h4]⟩
  by_cases c1 : xp.toInt < 0
  · exact bad _ List.mem_cons_self ⟨rp.1, by show xp.toInt ≤ -1; omega⟩ ⟨rq.1, rq.2⟩ trivial (Or.inl c1)
  by_cases c2 : sy_r w P.2.2.1 P.2.2.2 ≤ xp.toInt
  · exact bad _ (List.mem_cons_of_mem _ List.mem_cons_self) ⟨by show 0 ≤ xp.toInt; omega, rp.2⟩ ⟨rq.1, rq.2⟩ ⟨by show 0 + (-1 * xp.toInt + (1 * sy_r w P.2.2.1 P.2.2.2 + 0)) ≤ 0; omega, trivial⟩ (Or.inr (Or.inl c2))
  by_cases c3 : xq.toInt < 0
  · exact bad _ (List.mem_cons_of_mem _ (List.mem_cons_of_mem _ List.mem_cons_self)) ⟨rp.1, rp.2⟩ ⟨rq.1, by show xq.toInt ≤ -1; omega⟩ trivial (by omega)
  by_cases c4 : 5 < xq.toInt
  · exact bad _ (List.mem_cons_of_mem _ (List.mem_cons_of_mem _ (List.mem_cons_of_mem _ List.mem_cons_self))) ⟨rp.1, rp.2⟩ ⟨by show 6 ≤ xq.toInt; omega, rq.2⟩ trivial (by omega)
  have nb : ¬ (xp.toInt < 0 ∨ sy_r w P.2.2.1 P.2.2.2 ≤ xp.toInt ∨ xq.toInt < 0 ∨ 5 < xq.toInt) := by omega
  obtain ⟨p, ep⟩ : ∃ p : Nat, (p : Int) = xp.toInt := ⟨xp.toInt.toNat, by omega⟩
  have hp : p < 12 := by omega
  have ept : xp.toInt.toNat = p := by omega
  obtain ⟨q, eq⟩ : ∃ q : Nat, (q : Int) = xq.toInt := ⟨xq.toInt.toNat, by omega⟩
  have hq : q < 6 := by omega
  have eqt : xq.toInt.toNat = q := by omega
  have bk := hk p hp
  have bw := hw p hp
  obtain ⟨k, ek⟩ : ∃ k : Nat, (k : Int) = sy_r w P.1.1 (ki p) := ⟨(sy_r w P.1.1 (ki p)).toNat, by omega⟩
  have hk6 : k < 6 := by omega
  obtain ⟨res, g, t, f, z, hz, y⟩ := sh_onc (ls := lv_args 0 [.ref r0, .int xp, .int xq]) (fx_p [xp.toInt, sy_r w P.2.2.1 P.2.2.2, sy_r w P.2.1.1 (wi p)]) (List.all_eq_true.mp (List.all_eq_true.mp kk k (List.mem_range.mpr hk6)) q (List.mem_range.mpr hq)) hM ⟨(show 0 ≤ xp.toInt by omega), (show xp.toInt ≤ 11 by omega), hn.1, hn.2, bw.1, bw.2, trivial⟩ ⟨by show 1 + (1 * xp.toInt + (-1 * sy_r w P.2.2.1 P.2.2.2 + 0)) ≤ 0; omega, trivial⟩ ⟨rfl, ng_iy ⟨xp, rfl, rfl⟩ rfl, ng_ik ⟨xq, rfl, rfl⟩ eq.symm, trivial⟩ (sh_eo (n := P.2.2.2) (by rw [sx_y_ev]; rfl) rfl ⟨by rw [hki _ p ep.symm, ng_ek, Int.toNat_natCast]; exact ek.symm, by rw [hwi _ p ep.symm, sx_y_ev, Int.toNat_natCast]; rfl, trivial⟩) ht
  cases List.mem_singleton.mp hz
  obtain ⟨y1, _⟩ := y
  refine ⟨res, g, f, ?_⟩
  cases hu : as_u k q with
  | true =>
    rw [hu] at y1
    obtain ⟨x, x1, x2⟩ := y1
    rw [sx_y_ev] at x2
    have x2 : x.toInt = sy_r w P.2.1.1 (wi p) := x2
    refine ⟨x, x1, ?_⟩
    rw [x2]
    unfold as_X
    rw [if_neg nb, ept, eqt, ← ek, Int.toNat_natCast, if_pos hu]
  | false =>
    rw [hu] at y1
    obtain ⟨x, x1, x2⟩ := sh_ans y1
    refine ⟨x, x1, ?_⟩
    rw [x2]
    unfold as_X
    rw [if_neg nb, ept, eqt, ← ek, Int.toNat_natCast, if_neg (by rw [hu]; decide)]
/-- who has ended, behind the class's end -/
noncomputable def ec_Z (x : Int) (w w1 : pq_W) : Prop := ∀ b : Nat, b < 8 → sy_r w1 17 b = if (b : Int) = x ∧ x < sy_r w 15 0 then 1 else sy_r w 17 b
theorem ec_gen (xa : Int32) {w : pq_W} (ht : sx_Ty sx_T0 w) (hn : 0 ≤ sy_r w 15 0 ∧ sy_r w 15 0 ≤ 8) (he : ∀ a, a < 8 → sy_r w 17 a = 0 ∨ sy_r w 17 a = 1) : ∃ res, pq_Go 299 pm_56 0 (lv_args 0 [.ref 5, .int xa]) [] w 0 0 res ∧ ec_Z xa.toInt w res.2 := by
  have ra := sh_i32 xa
  have same : ∀ {w1 : pq_W}, sx_Fr [(93, 0, 100000)] w w1 → (xa.toInt < 0 ∨ sy_r w 15 0 ≤ xa.toInt ∨ ∃ a : Nat, (a : Int) = xa.toInt ∧ sy_r w 17 a = 1) → ec_Z xa.toInt w w1 := fun {w1} f h b hb => by
    have e : sy_r w1 17 b = sy_r w 17 b := fr_no f ⟨Or.inl (by decide), trivial⟩
    by_cases c : (b : Int) = xa.toInt ∧ xa.toInt < sy_r w 15 0
    · rw [if_pos c]
      rcases h with h | h | ⟨a, ha, h⟩
      · omega
      · omega
      · have ab : a = b := by omega
        subst ab
        exact e.trans h
    · rw [if_neg c]
      exact e
  by_cases ha : ¬ (0 ≤ xa.toInt ∧ xa.toInt ≤ 7)
  · obtain ⟨i, m, l1, l2⟩ := t8_m ra ha
    obtain ⟨res, g, t, f, z, hz, q⟩ := sh_one (M := pm_56) (ls := lv_args 0 [.ref 5, .int xa]) (fx_p [sy_r w 15 0, xa.toInt]) (List.all_eq_true.mp ec_1 i m) rfl ⟨hn.1, hn.2, l1, l2, trivial⟩ ⟨rfl, ng_iy ⟨xa, rfl, rfl⟩ rfl, trivial⟩ (sh_eo (n := 0) (by rw [sx_y_ev]; rfl) rfl trivial) ht
    exact ⟨res, g, same f (by omega)⟩
  have ha := Decidable.not_not.mp ha
  obtain ⟨a, ea⟩ : ∃ a : Nat, (a : Int) = xa.toInt := ⟨xa.toInt.toNat, by omega⟩
  have ha8 : a < 8 := by omega
  by_cases c : sy_r w 15 0 ≤ xa.toInt
  · obtain ⟨res, g, t, f, z, hz, q⟩ := sh_onc (M := pm_56) (ls := lv_args 0 [.ref 5, .int xa]) (fx_p [sy_r w 15 0]) (List.all_eq_true.mp ec_2 a (List.mem_range.mpr ha8)) rfl ⟨hn.1, hn.2, trivial⟩ ⟨by show -(a : Int) + (1 * sy_r w 15 0 + 0) ≤ 0; omega, trivial⟩ ⟨rfl, ng_ik ⟨xa, rfl, rfl⟩ ea.symm, trivial⟩ (sh_eo (n := 0) (by rw [sx_y_ev]; rfl) rfl trivial) ht
    exact ⟨res, g, same f (Or.inr (Or.inl c))⟩
  have hC : ng_fs (fx_p [sy_r w 15 0]) [((a : Int) + 1, [(0, -1)])] := ⟨by show (a : Int) + 1 + (-1 * sy_r w 15 0 + 0) ≤ 0; omega, trivial⟩
  rcases he a ha8 with e0 | e1
  · obtain ⟨res, g, t, f, z, hz, q⟩ := sh_onc (M := pm_56) (ls := lv_args 0 [.ref 5, .int xa]) (fx_p [sy_r w 15 0]) (List.all_eq_true.mp ec_4 a (List.mem_range.mpr ha8)) rfl ⟨hn.1, hn.2, trivial⟩ hC ⟨rfl, ng_ik ⟨xa, rfl, rfl⟩ ea.symm, trivial⟩ (sh_eo (n := 0) (by rw [sx_y_ev]; rfl) rfl (sh_eo (n := a) (by rw [ng_ek]; exact e0) rfl trivial)) ht
    cases List.mem_singleton.mp hz
    obtain ⟨v, _⟩ := sh_oe (n := a) q.2.1 rfl
    rw [ng_ek] at v
    refine ⟨res, g, fun b hb => ?_⟩
    by_cases cb : (b : Int) = xa.toInt ∧ xa.toInt < sy_r w 15 0
    · rw [if_pos cb]
      have ab : b = a := by omega
      rw [ab]
      exact v
    · rw [if_neg cb]
      have ab : b ≠ a := fun h => cb ⟨by omega, by omega⟩
      have f : sx_Fr [(14, 0, 100000), (16, 0, 100000), (17, (a : Int), (a : Int)), (18, 0, 100000), (22, 0, 100000)] w res.2 := f
      exact fr_no f ⟨Or.inl (by decide), Or.inl (by decide), Or.inr (by omega), Or.inl (by decide), Or.inl (by decide), trivial⟩
  · obtain ⟨res, g, t, f, z, hz, q⟩ := sh_onc (M := pm_56) (ls := lv_args 0 [.ref 5, .int xa]) (fx_p [sy_r w 15 0]) (List.all_eq_true.mp ec_3 a (List.mem_range.mpr ha8)) rfl ⟨hn.1, hn.2, trivial⟩ hC ⟨rfl, ng_ik ⟨xa, rfl, rfl⟩ ea.symm, trivial⟩ (sh_eo (n := 0) (by rw [sx_y_ev]; rfl) rfl (sh_eo (n := a) (by rw [ng_ek]; exact e1) rfl trivial)) ht
    exact ⟨res, g, same f (Or.inr (Or.inr ⟨a, ea, e1⟩))⟩
/-- airline leaves who has ended as it is, where none of those to come has -/
theorem ea_gen (xc : Int32) {w : pq_W} (ht : sx_Ty sx_T0 w) (hn : 0 ≤ sy_r w 95 2 ∧ sy_r w 95 2 ≤ 8) (hz : ∀ a : Nat, a < 8 → sy_r w 95 2 ≤ a → sy_r w 95 (187 + 10 * a) = 0) : ∃ res, pq_Go 299 pm_173 0 (lv_args 0 [.ref 94, .int xc]) [] w 0 0 res ∧ ∀ b : Nat, b < 8 → sy_r res.2 95 (187 + 10 * b) = sy_r w 95 (187 + 10 * b) := by
  have rc := sh_i32 xc
  obtain ⟨n, en⟩ : ∃ n : Nat, sy_r w 95 2 = (n : Int) := ⟨(sy_r w 95 2).toNat, by omega⟩
  by_cases c : n < 8
  · have h0 := hz n c (by omega)
    obtain ⟨res, g, t, f, z, hz, q⟩ := sh_one (M := pm_173) (ls := lv_args 0 [.ref 94, .int xc]) (fx_p [xc.toInt]) (List.all_eq_true.mp ea_1 n (List.mem_range.mpr c)) rfl ⟨rc.1, rc.2, trivial⟩ ⟨rfl, ng_iy ⟨xc, rfl, rfl⟩ rfl, trivial⟩ (sh_eo (n := 2) (by rw [ng_ek]; exact en) rfl (sh_eo (n := 187 + 10 * n) (by rw [ng_ek]; exact h0) (by omega) trivial)) ht
    cases List.mem_singleton.mp hz
    obtain ⟨v, _⟩ := sh_oe (n := 187 + 10 * n) q.2.1 (by omega)
    rw [ng_ek] at v
    refine ⟨res, g, fun b hb => ?_⟩
    by_cases e : b = n
    · rw [e, v, h0]
    · have f : sx_Fr [(97, 0, 5), (95, 2, 2), (95, 186 + 10 * (n : Int), 195 + 10 * (n : Int))] w res.2 := f
      exact fr_no f ⟨Or.inl (by decide), Or.inr (by omega), Or.inr (by omega), trivial⟩
  · have en8 : sy_r w 95 2 = 8 := by omega
    obtain ⟨res, g, t, f, z, hz, q⟩ := sh_one (M := pm_173) (ls := lv_args 0 [.ref 94, .int xc]) (fx_p [xc.toInt]) ea_2 rfl ⟨rc.1, rc.2, trivial⟩ ⟨rfl, ng_iy ⟨xc, rfl, rfl⟩ rfl, trivial⟩ (sh_eo (n := 2) (by rw [ng_ek]; exact en8) rfl trivial) ht
    have f : sx_Fr [(97, 0, 5)] w res.2 := f
    exact ⟨res, g, fun b hb => fr_no f ⟨Or.inl (by decide), trivial⟩⟩
