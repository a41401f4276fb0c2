/-! go, airline, shut, told exactly -/
theorem ru_det {k k2 j : Nat} {as : List Value} {w : pq_W} {r1 r2 : pq_R} (h1 : pq_Ru k j as w r1) (h2 : pq_Ru k2 j as w r2) : r1 = r2 := by
  obtain ⟨N1, h1⟩ := h1
  obtain ⟨N2, h2⟩ := h2
  have a := h1 (max k k2) (max N1 N2) (Nat.le_max_left _ _) (Nat.le_max_left _ _)
  have b := h2 (max k k2) (max N1 N2) (Nat.le_max_right _ _) (Nat.le_max_right _ _)
  rw [a] at b
  exact Option.some.inj b
theorem go_det {k k2 : Nat} {M : pq_M} {pc : Nat} {ls : pq_L} {st : List Value} {w : pq_W} {cs ss : Nat} {r1 r2 : pq_R} (h1 : pq_Go k M pc ls st w cs ss r1) (h2 : pq_Go k2 M pc ls st w cs ss r2) : r1 = r2 := by
  obtain ⟨N1, h1⟩ := h1
  obtain ⟨N2, h2⟩ := h2
  have a := h1 (max k k2) (max N1 N2) (max N1 N2) (Nat.le_max_left _ _) (Nat.le_max_left _ _) (Nat.le_max_left _ _)
  have b := h2 (max k k2) (max N1 N2) (max N1 N2) (Nat.le_max_right _ _) (Nat.le_max_right _ _) (Nat.le_max_right _ _)
  rw [a] at b
  exact Option.some.inj b
noncomputable def gxB (ls : pq_L) (n k : Int) : Prop := pq_lk ls 0 = some (.ref 5) ∧ ng_i ls 1 n ∧ ng_i ls 2 k
noncomputable def gx_Q (w0 : pq_W) (D : Int) (res : pq_R) : Prop := sx_Ty sx_T0 res.2 ∧ sx_Fr gx_A w0 res.2 ∧ (∃ x : Int32, res.1 = some (.int x) ∧ x.toInt = D) ∧ sy_r res.2 6 8 = D
theorem gx_loop {w0 : pq_W} {n : Nat} {D : Int} (hn1 : 1 ≤ n ∧ n ≤ 200) : ∀ (m k : Nat), k + m = n → ∀ ls w, gxB ls n k → sx_Ty sx_T0 w → sx_Fr gx_A w0 w → 0 ≤ sy_r w 6 8 → sy_r w 6 8 + m ≤ 3000 → sy_r w 6 8 + m = D → ∃ res, pq_Go 299 pm_117 34 ls [] w 0 0 res ∧ gx_Q w0 D res := by
  have hnv : (1 : Int) ≤ n ∧ (n : Int) ≤ 200 := by omega
  intro m
  induction m with
  | zero =>
    intro k hk ls w hb ht hf h0 hd hD
    refine ng_go (J := sx_tt) (Post := gx_Q w0 D) (fx_p [n, sy_r w 6 8]) gx_3 rfl ⟨hnv.1, hnv.2, h0, (show sy_r w 6 8 ≤ 3000 by omega), trivial⟩ trivial ⟨hb.1, ng_iy hb.2.1 rfl, ng_iy hb.2.2 (show (n : Int) = k by omega), trivial⟩ trivial (sh_eo (n := 8) (by rw [sx_y_ev]; rfl) rfl trivial) ht sx_ctn (fun _ _ _ => trivial) ⟨fun x w2 t2 f2 q => ?_, trivial⟩ trivial
    have f2 : sx_Fr [] w w2 := f2
    have e2 : sy_r w2 6 8 = sy_r w 6 8 := ng_nil f2 6 8
    obtain ⟨y, y1, y2⟩ := q.1
    rw [sx_y_ev] at y2
    have y2 : y.toInt = sy_r w 6 8 := y2
    exact ⟨t2, sx_Fr_trans hf (ng_n2 f2), ⟨y, y1, by omega⟩, by show sy_r w2 6 8 = D; omega⟩
  | succ m ih =>
    intro k hk ls w hb ht hf h0 hd hD
    have hkv : (0 : Int) ≤ k ∧ (k : Int) ≤ 199 := by omega
    refine ng_go (J := sx_tt) (Post := gx_Q w0 D) (fx_p [n, k, sy_r w 6 8]) gx_2 rfl ⟨hnv.1, hnv.2, hkv.1, hkv.2, h0, (show sy_r w 6 8 ≤ 2999 by omega), trivial⟩ ⟨by show 1 + (-1 * (n : Int) + (1 * (k : Int) + 0)) ≤ 0; omega, trivial⟩ ⟨hb.1, ng_iy hb.2.1 rfl, ng_iy hb.2.2 rfl, trivial⟩ trivial (sh_eo (n := 8) (by rw [sx_y_ev]; rfl) rfl trivial) ht sx_ctn (fun _ _ _ => trivial) trivial ⟨fun ls2 st2 w2 t2 f2 q => ?_, trivial⟩
    obtain ⟨a1, a2, a3, _⟩ := q
    cases ng_st0 a2
    obtain ⟨c0, c1, c2, _⟩ := a1
    obtain ⟨v2, _⟩ := sh_oe (n := 8) a3 rfl
    have v2 : sy_r w2 6 8 = 1 + (1 * sy_r w 6 8 + 0) := v2
    exact ih (k + 1) (by omega) ls2 w2 ⟨c0, ng_yi c1 rfl, ng_fi c2 (by show 1 + (1 * (k : Int) + 0) = _; omega)⟩ t2 (sx_Fr_trans hf f2) (by omega) (by omega) (by omega)
noncomputable def gc_P (d n : Int) (w : pq_W) (res : pq_R) : Prop := sx_Ty sx_T0 res.2 ∧ sx_Fr gx_A w res.2 ∧ (∃ x : Int32, res.1 = some (.int x) ∧ x.toInt = gd_X d n) ∧ sy_r res.2 6 8 = gd_Y d n
theorem gc_er {p : Nat → Int} {n : Int} {w w1 : pq_W} {x : Option Value} (ht : sx_Ty sx_T0 w1) (f : sx_Fr [(93, 0, 100000)] w w1) (a : ng_a1 p x gd_b) (h : n < 1 ∨ 200 < n ∨ 3000 < sy_r w 6 8 + n) : gc_P (sy_r w 6 8) n w (x, w1) := by
  obtain ⟨y, y1, y2⟩ := a
  rw [ng_ek] at y2
  refine ⟨ht, sx_Fr_sub (by decide +kernel) f, ⟨y, y1, by unfold gd_X; rw [if_pos h]; exact y2⟩, ?_⟩
  unfold gd_Y
  rw [if_pos h]
  exact fr_no f ⟨Or.inl (by decide), trivial⟩
theorem gc_go {xn : Int32} {w : pq_W} (ht : sx_Ty sx_T0 w) (day : 0 ≤ sy_r w 6 8 ∧ sy_r w 6 8 ≤ 3000) : ∃ res, pq_Ru 300 117 [.ref 5, .int xn] w res ∧ gc_P (sy_r w 6 8) xn.toInt w res := by
  have main : ∃ res, pq_Go 299 pm_117 0 (lv_args 0 [.ref 5, .int xn]) [] w 0 0 res ∧ gc_P (sy_r w 6 8) xn.toInt w res := by
    refine ng_go (J := sx_tt) (Post := gc_P (sy_r w 6 8) xn.toInt w) (fx_p [xn.toInt, sy_r w 6 8]) gx_1 rfl ⟨xn.minValue_le_toInt, xn.toInt_le, day.1, day.2, trivial⟩ trivial ⟨rfl, ng_iy ⟨xn, rfl, rfl⟩ rfl, trivial⟩ trivial (sh_eo (n := 8) (by rw [sx_y_ev]; rfl) rfl trivial) ht sx_ctn (fun _ _ _ => trivial) ⟨fun x w2 t2 f2 a => gc_er t2 f2 a.1 (Or.inl (by have d : 0 + (1 * xn.toInt + 0) ≤ 0 := a.2.2.1.1; omega)), fun x w2 t2 f2 a => gc_er t2 f2 a.1 (Or.inr (Or.inl (by have d : 201 + (-1 * xn.toInt + 0) ≤ 0 := a.2.2.1.1; omega))), fun x w2 t2 f2 a => gc_er t2 f2 a.1 (Or.inr (Or.inr (by have d : 3001 + (-1 * xn.toInt + (-1 * sy_r w 6 8 + 0)) ≤ 0 := a.2.2.1.1; omega))), trivial⟩ ⟨fun ls2 st2 w2 t2 f2 q => ?_, trivial⟩
    obtain ⟨a1, a2, _, a4, _⟩ := q
    cases ng_st0 a2
    obtain ⟨c0, c1, c2, _⟩ := a1
    obtain ⟨d1, d2, d3, _⟩ := a4
    have d1 : 1 + (-1 * xn.toInt + 0) ≤ 0 := d1
    have d2 : -200 + (1 * xn.toInt + 0) ≤ 0 := d2
    have d3 : -3000 + (1 * xn.toInt + (1 * sy_r w 6 8 + 0)) ≤ 0 := d3
    have f2 : sx_Fr [(93, 0, 100000)] w w2 := f2
    have e2 : sy_r w2 6 8 = sy_r w 6 8 := fr_no f2 ⟨Or.inl (by decide), trivial⟩
    obtain ⟨res, r1, r2, r3, r4, r5⟩ := gx_loop (w0 := w) (n := xn.toInt.toNat) (D := sy_r w 6 8 + xn.toInt) (by omega) xn.toInt.toNat 0 (by omega) ls2 w2 ⟨c0, ng_yi c1 (show xn.toInt = _ by omega), ng_ki c2 rfl⟩ t2 (sx_Fr_sub (by decide +kernel) f2) (by omega) (by omega) (by omega)
    have hn : ¬ (xn.toInt < 1 ∨ 200 < xn.toInt ∨ 3000 < sy_r w 6 8 + xn.toInt) := by omega
    exact ⟨res, r1, r2, r3, by unfold gd_X; rw [if_neg hn]; exact r4, by unfold gd_Y; rw [if_neg hn]; exact r5⟩
  obtain ⟨res, g1, g2⟩ := main
  refine ⟨res, ru_of (k := 299) (M := pm_117) rfl ?_ g1, g2⟩
  rw [Bool.and_eq_true]
  exact ⟨rfl, sq_rcv ht rfl rfl rfl⟩
/-- what airline answers, and how many there are behind it -/
noncomputable def ai_X (n c : Int) : Int := if c < 0 ∨ 999999 < c then -1000001 else if n = 8 then -1000004 else n
noncomputable def ai_Y (n c : Int) : Int := if c < 0 ∨ 999999 < c then n else if n = 8 then 8 else n + 1
noncomputable def ai_P (A : sx_A) (cr ci : Nat) (c : Int) (w : pq_W) (res : pq_R) : Prop := sx_Ty sx_T0 res.2 ∧ sx_Fr A w res.2 ∧ (∃ x : Int32, res.1 = some (.int x) ∧ x.toInt = ai_X (sy_r w cr ci) c) ∧ sy_r res.2 cr ci = ai_Y (sy_r w cr ci) c
theorem ai_gen {A : sx_A} {j : Nat} {M : pq_M} {r0 cr ci : Nat} (hk : ai_k A j M r0 cr ci = true) (hM : pq_tab[j]? = some M) (xc : Int32) {w : pq_W} (ht : sx_Ty sx_T0 w) (hn : 0 ≤ sy_r w cr ci ∧ sy_r w cr ci ≤ 8) : ∃ res, pq_Go 299 M 0 (lv_args 0 [.ref r0, .int xc]) [] w 0 0 res ∧ ai_P A cr ci xc.toInt w res := by
  have rc := sh_i32 xc
  obtain ⟨n, en⟩ : ∃ n : Nat, (n : Int) = sy_r w cr ci := ⟨(sy_r w cr ci).toNat, by omega⟩
  have hn9 : n < 9 := by omega
  obtain ⟨res, g, t, f, z, hz, q⟩ := sh_one (ls := lv_args 0 [.ref r0, .int xc]) (fx_p [xc.toInt]) (List.all_eq_true.mp hk n (List.mem_range.mpr hn9)) hM ⟨rc.1, rc.2, trivial⟩ ⟨rfl, ng_iy ⟨xc, rfl, rfl⟩ rfl, trivial⟩ (sh_eo (n := ci) (by rw [ng_ek]; exact en.symm) rfl trivial) ht
  refine ⟨res, g, t, f, ?_⟩
  rw [← en]
  obtain ⟨q1, q2, q3, _⟩ := q
  unfold ai_re at hz
  rcases List.mem_cons.mp hz with rfl | hz
  · obtain ⟨x, x1, x2⟩ := sh_ans q1
    obtain ⟨e1, _⟩ := sh_oe (n := ci) q2 rfl
    rw [ng_ek] at e1
    have d1 : 1 + (1 * xc.toInt + 0) ≤ 0 := q3.1
    have hc : xc.toInt < 0 ∨ 999999 < xc.toInt := by omega
    exact ⟨⟨x, x1, by rw [x2]; unfold ai_X; rw [if_pos hc]⟩, by rw [e1]; unfold ai_Y; rw [if_pos hc]⟩
  rcases List.mem_cons.mp hz with rfl | hz
  · obtain ⟨x, x1, x2⟩ := sh_ans q1
    obtain ⟨e1, _⟩ := sh_oe (n := ci) q2 rfl
    rw [ng_ek] at e1
    have d1 : 1000000 + (-1 * xc.toInt + 0) ≤ 0 := q3.1
    have hc : xc.toInt < 0 ∨ 999999 < xc.toInt := by omega
    exact ⟨⟨x, x1, by rw [x2]; unfold ai_X; rw [if_pos hc]⟩, by rw [e1]; unfold ai_Y; rw [if_pos hc]⟩
  cases List.mem_singleton.mp hz
  obtain ⟨x, x1, x2⟩ := sh_ans q1
  obtain ⟨e1, _⟩ := sh_oe (n := ci) q2 rfl
  rw [ng_ek] at e1
  have d1 : 0 + (-1 * xc.toInt + 0) ≤ 0 := q3.1
  have d2 : -999999 + (1 * xc.toInt + 0) ≤ 0 := q3.2.1
  have hc : ¬ (xc.toInt < 0 ∨ 999999 < xc.toInt) := by omega
  refine ⟨⟨x, x1, ?_⟩, ?_⟩
  · rw [x2]
    unfold ai_X
    rw [if_neg hc]
    cases hb : Nat.beq n 8 with
    | true =>
      have := Nat.eq_of_beq_eq_true hb
      rw [if_pos (by omega)]
      rfl
    | false =>
      rw [if_neg (fun h => by have : n = 8 := by omega
                              rw [this] at hb
                              cases hb)]
      rfl
  · rw [e1]
    unfold ai_Y
    rw [if_neg hc]
    cases hb : Nat.beq n 8 with
    | true =>
      have := Nat.eq_of_beq_eq_true hb
      rw [if_pos (by omega)]
      rfl
    | false =>
      rw [if_neg (fun h => by have : n = 8 := by omega
                              rw [this] at hb
                              cases hb)]
      rfl
/-- what shut does -/
noncomputable def su_P (ce cr b : Nat) (c v : Int) (w : pq_W) (res : pq_R) : Prop := sx_Ty sx_T0 res.2 ∧ ((¬ (0 ≤ c ∧ c ≤ 63) ∧ (∃ x : Int32, res.1 = some (.int x) ∧ x.toInt = -1000001) ∧ sx_Fr [(ce, 0, 100000)] w res.2) ∨ (∃ k : Nat, k < 64 ∧ (k : Int) = c ∧ (∃ x : Int32, res.1 = some (.int x) ∧ x.toInt = if v = sy_r w cr (b + k) then 0 else 1) ∧ sx_Fr [(cr, ((b + k : Nat) : Int), ((b + k : Nat) : Int))] w res.2 ∧ sy_r res.2 cr (b + k) = v))
theorem su_outm {x : Int} (h1 : -2147483648 ≤ x ∧ x ≤ 2147483647) (h : ¬ (0 ≤ x ∧ x ≤ 63)) : ∃ i ∈ su_o, i.1 ≤ x ∧ x ≤ i.2 := by
  by_cases c : x < 0
  · exact ⟨sh_lo, List.mem_cons_self, h1.1, (by show x ≤ -1; omega)⟩
  · exact ⟨(64, 2147483647), List.mem_cons_of_mem _ List.mem_cons_self, (by show 64 ≤ x; omega), h1.2⟩
theorem su_gen {ce j : Nat} {M : pq_M} {r0 cr b : Nat} (k1 : su_k1 ce j M r0 = true) (k2 : ∀ {v y : Int}, (v = 0 ∨ v = 1) → (y = 0 ∨ y = 1) → su_k2 j M r0 cr b v y = true) (hM : pq_tab[j]? = some M) (xc xv : Int32) (hv : xv.toInt = 0 ∨ xv.toInt = 1) {w : pq_W} (ht : sx_Ty sx_T0 w) (hy : ∀ c, c < 64 → sy_r w cr (b + c) = 0 ∨ sy_r w cr (b + c) = 1) : ∃ res, pq_Go 299 M 0 (lv_args 0 [.ref r0, .int xc, .int xv]) [] w 0 0 res ∧ su_P ce cr b xc.toInt xv.toInt w res := by
  have rc := sh_i32 xc
  by_cases hc : ¬ (0 ≤ xc.toInt ∧ xc.toInt ≤ 63)
  · obtain ⟨i, m, l1, l2⟩ := su_outm rc hc
    obtain ⟨res, g, t, f, z, hz, q⟩ := sh_one (ls := lv_args 0 [.ref r0, .int xc, .int xv]) (fx_p [xc.toInt, xv.toInt]) (List.all_eq_true.mp k1 i m) hM ⟨l1, l2, (show 0 ≤ xv.toInt by omega), (show xv.toInt ≤ 1 by omega), trivial⟩ ⟨rfl, ng_iy ⟨xc, rfl, rfl⟩ rfl, ng_iy ⟨xv, rfl, rfl⟩ rfl, trivial⟩ trivial ht
    cases List.mem_singleton.mp hz
    exact ⟨res, g, t, Or.inl ⟨hc, sh_ans q.1, f⟩⟩
  have hc := Decidable.not_not.mp hc
  obtain ⟨c, ec⟩ : ∃ c : Nat, (c : Int) = xc.toInt := ⟨xc.toInt.toNat, by omega⟩
  have hc64 : c < 64 := by omega
  obtain ⟨res, g, t, f, z, hz, q⟩ := sh_one (ls := lv_args 0 [.ref r0, .int xc, .int xv]) (fx_p []) (List.all_eq_true.mp (k2 hv (hy c hc64)) c (List.mem_range.mpr hc64)) hM trivial ⟨rfl, ng_ik ⟨xc, rfl, rfl⟩ ec.symm, ng_ik ⟨xv, rfl, rfl⟩ rfl, trivial⟩ (sh_eo (n := b + c) (by rw [ng_ek]) rfl trivial) ht
  cases List.mem_singleton.mp hz
  obtain ⟨x, x1, x2⟩ := sh_ans q.1
  obtain ⟨e1, _⟩ := sh_oe (n := b + c) q.2.1 rfl
  rw [ng_ek] at e1
  refine ⟨res, g, t, Or.inr ⟨c, hc64, ec, ⟨x, x1, ?_⟩, f, e1⟩⟩
  rw [x2]
  rcases hv with h1 | h1 <;> rcases hy c hc64 with h2 | h2 <;> rw [h1, h2] <;> rfl
theorem sy_bd (w : pq_W) (r i : Nat) : -2147483648 ≤ sy_r w r i ∧ sy_r w r i ≤ 2147483647 := by
  unfold sy_r
  split
  · exact ⟨Int32.minValue_le_toInt _, Int32.toInt_le _⟩
  · exact ⟨by decide, by decide⟩
/-- image copies what both sides hold alike, restore brings it back -/
noncomputable def nq_p (p : Nat → Int) (w : pq_W) (d : Nat) : Nat → List (Nat × Nat × Nat) → Prop
  | _, [] => True
  | k, q :: l => p k = sy_r w (q.1 + d) q.2.1 ∧ nq_p p w d (k + 1) l
theorem nq_pf (w : pq_W) (d : Nat) : ∀ (l : List (Nat × Nat × Nat)) (pre : List Int), nq_p (fx_p (pre ++ l.map fun q => sy_r w (q.1 + d) q.2.1)) w d pre.length l
  | [], _ => trivial
  | q :: l, pre => by
    refine ⟨?_, ?_⟩
    · unfold fx_p
      rw [List.getD_eq_getElem?_getD, List.getElem?_append_right (Nat.le_refl _), Nat.sub_self]
      rfl
    · have h := nq_pf w d l (pre ++ [sy_r w (q.1 + d) q.2.1])
      rw [List.append_assoc, List.length_append] at h
      exact h
theorem nq_bd {w : pq_W} (ht : sx_Ty sx_T0 w) (c n : Nat) : (nq_b c n).1 ≤ sy_r w c n ∧ sy_r w c n ≤ (nq_b c n).2 := by
  unfold nq_b
  split
  · rename_i ci fs hT
    split
    · rename_i ab hf
      obtain ⟨_, _, _, h1, h2⟩ := sq_fat (lo := ab.1) (hi := ab.2) ht hT hf
      exact ⟨h1, h2⟩
    · exact sy_bd w c n
  · exact sy_bd w c n
theorem nq_piv {p : Nat → Int} {w : pq_W} (ht : sx_Ty sx_T0 w) {d : Nat} : ∀ {l : List (Nat × Nat × Nat)} {k : Nat}, nq_p p w d k l → sx_ivs p k (nq_iv d l)
  | [], _, _ => trivial
  | q :: l, k, h => ⟨by rw [h.1]; exact (nq_bd ht _ _).1, by rw [h.1]; exact (nq_bd ht _ _).2, nq_piv ht h.2⟩
theorem nq_peq {p : Nat → Int} {w : pq_W} {d : Nat} : ∀ {l : List (Nat × Nat × Nat)} {k : Nat}, nq_p p w d k l → ng_eqs p w (nq_O d k l)
  | [], _, _ => trivial
  | q :: l, k, h => sh_eo (n := q.2.1) (by rw [sx_y_ev]; exact h.1.symm) rfl (nq_peq h.2)
theorem nq_pout {p : Nat → Int} {w w1 : pq_W} {d d1 : Nat} : ∀ {l : List (Nat × Nat × Nat)} {k : Nat}, nq_p p w d k l → ng_eqs p w1 (nq_O d1 k l) → ∀ q ∈ l, sy_r w1 (q.1 + d1) q.2.1 = sy_r w (q.1 + d) q.2.1
  | [], _, _, _, q, hq => by cases hq
  | q0 :: l, k, h, e, q, hq => by
    obtain ⟨e1, e2⟩ := sh_oe (n := q0.2.1) e rfl
    rw [sx_y_ev] at e1
    rcases List.mem_cons.mp hq with rfl | hq
    · exact e1.trans h.1
    · exact nq_pout h.2 e2 q hq
theorem nq_ci1 {l : List (Nat × Nat × Nat)} (hl : nq_i l = true) {w : pq_W} {res : pq_R} (ht : sx_Ty sx_T0 w) (h1 : 0 ≤ sy_r w 5 15) (h2 : sy_r w 5 15 ≤ 100000) (g : pq_Go 299 pm_147 0 (lv_args 0 [.ref 5]) [] w 0 0 res) : ∀ q ∈ l, sy_r res.2 (q.1 + 34) q.2.1 = sy_r w q.1 q.2.1 := by
  have P := nq_pf w 0 l [sy_r w 5 15]
  obtain ⟨res2, g2, _, _, z, hz, e⟩ := sh_one (M := pm_147) (ls := lv_args 0 [.ref 5]) (fx_p ([sy_r w 5 15] ++ l.map fun q => sy_r w (q.1 + 0) q.2.1)) hl rfl ⟨h1, h2, nq_piv ht P⟩ ⟨rfl, trivial⟩ (sh_eo (n := 15) (by rw [sx_y_ev]; rfl) rfl (nq_peq P)) ht
  cases List.mem_singleton.mp hz
  rw [go_det g g2]
  exact nq_pout P e.2.1
theorem nq_cr1 {l : List (Nat × Nat × Nat)} (hl : nq_r l = true) {w : pq_W} {res : pq_R} (ht : sx_Ty sx_T0 w) (h1 : 1 ≤ sy_r w 5 15) (h2 : sy_r w 5 15 ≤ 100000) (g : pq_Go 299 pm_152 0 (lv_args 0 [.ref 5]) [] w 0 0 res) : ∀ q ∈ l, sy_r res.2 q.1 q.2.1 = sy_r w (q.1 + 34) q.2.1 := by
  have P := nq_pf w 34 l [sy_r w 5 15]
  obtain ⟨res2, g2, _, _, z, hz, e⟩ := sh_one (M := pm_152) (ls := lv_args 0 [.ref 5]) (fx_p ([sy_r w 5 15] ++ l.map fun q => sy_r w (q.1 + 34) q.2.1)) hl rfl ⟨h1, h2, nq_piv ht P⟩ ⟨rfl, trivial⟩ (sh_eo (n := 15) (by rw [sx_y_ev]; rfl) rfl (nq_peq P)) ht
  cases List.mem_singleton.mp hz
  rw [go_det g g2]
  exact nq_pout (d1 := 0) P e.2.1
theorem nq_ci {w : pq_W} {res : pq_R} (ht : sx_Ty sx_T0 w) (h1 : 0 ≤ sy_r w 5 15) (h2 : sy_r w 5 15 ≤ 100000) (g : pq_Go 299 pm_147 0 (lv_args 0 [.ref 5]) [] w 0 0 res) : ∀ q ∈ nq_M, sy_r res.2 (q.1 + 34) q.2.1 = sy_r w q.1 q.2.1 := fun q hq => (List.mem_append.mp hq).elim (nq_ci1 nq_i1 ht h1 h2 g q) (nq_ci1 nq_i2 ht h1 h2 g q)
theorem nq_cr {w : pq_W} {res : pq_R} (ht : sx_Ty sx_T0 w) (h1 : 1 ≤ sy_r w 5 15) (h2 : sy_r w 5 15 ≤ 100000) (g : pq_Go 299 pm_152 0 (lv_args 0 [.ref 5]) [] w 0 0 res) : ∀ q ∈ nq_M, sy_r res.2 q.1 q.2.1 = sy_r w (q.1 + 34) q.2.1 := fun q hq => (List.mem_append.mp hq).elim (nq_cr1 nq_r1 ht h1 h2 g q) (nq_cr1 nq_r2 ht h1 h2 g q)
