/-! sheet, put and move of both sides, told exactly -/
theorem sh_R {A : sx_A} {w : pq_W} {p : Nat → Int} (re0 : List ng_Ae) : ∀ re : List ng_Ae, (∀ a ∈ re, a ∈ re0) → ng_R (fun res => sx_Ty sx_T0 res.2 ∧ sx_Fr A w res.2 ∧ ∃ a ∈ re0, ng_ae p res.1 res.2 a) A w p re
  | [], _ => trivial
  | a :: r, h => ⟨fun x w2 t2 f2 q => ⟨t2, f2, a, h a List.mem_cons_self, q⟩, sh_R re0 r (fun b hb => h b (List.mem_cons_of_mem _ hb))⟩
theorem sh_one {A : sx_A} {AN : sh_AN} {j : Nat} {M : pq_M} {iv : List (Int × Int)} {sl : List (Nat × sx_V)} {O : sx_O} {re : List ng_Ae} {f : Nat} {w : pq_W} {ls : pq_L} (p : Nat → Int) (h : ng_chk A [] AN 299 j M 0 iv [] sl [] O re [] f = true) (hM : pq_tab[j]? = some M) (hi : sx_ivs p 0 iv) (hl : ng_sl0 p ls sl) (hO : ng_eqs p w O) (ht : sx_Ty sx_T0 w) : ∃ res, pq_Go 299 M 0 ls [] w 0 0 res ∧ sx_Ty sx_T0 res.2 ∧ sx_Fr A w res.2 ∧ ∃ a ∈ re, ng_ae p res.1 res.2 a :=
  ng_go (J := sx_tt) (Post := fun res => sx_Ty sx_T0 res.2 ∧ sx_Fr A w res.2 ∧ ∃ a ∈ re, ng_ae p res.1 res.2 a) p h hM hi trivial hl trivial hO ht sx_ctn (fun _ _ _ => trivial) (sh_R re re (fun _ h => h)) trivial
theorem sh_eo {p : Nat → Int} {w : pq_W} {r : Nat} {i : Int} {n : Nat} {v : sx_F} {O : sx_O} (h : sy_r w r n = sx_ev p v) (e : i = n) (hO : ng_eqs p w O) : ng_eqs p w (sh_o r i (.inl (.inl v)) :: O) := by
  refine ⟨?_, hO⟩
  rw [ng_ek, e, Int.toNat_natCast]
  exact h
theorem sh_oe {p : Nat → Int} {w : pq_W} {r : Nat} {i : Int} {n : Nat} {v : sx_F} {O : sx_O} (h : ng_eqs p w (sh_o r i (.inl (.inl v)) :: O)) (e : i = n) : sy_r w r n = sx_ev p v ∧ ng_eqs p w O := by
  have h1 := h.1
  rw [ng_ek, e, Int.toNat_natCast] at h1
  exact ⟨h1, h.2⟩
theorem sh_ans {p : Nat → Int} {r : Option Value} {v : Int} (h : ng_a1 p r (sh_x v)) : ∃ x : Int32, r = some (.int x) ∧ x.toInt = v := by
  obtain ⟨x, h1, h2⟩ := h
  exact ⟨x, h1, by rw [h2]; exact ng_ek p v⟩
theorem sh_i32 (x : Int32) : -2147483648 ≤ x.toInt ∧ x.toInt ≤ 2147483647 := ⟨x.minValue_le_toInt, x.toInt_le⟩
theorem sh_outm {x : Int} (h1 : -2147483648 ≤ x ∧ x ≤ 2147483647) (h : x < 0 ∨ 3 < x) : ∃ i ∈ sh_out, i.1 ≤ x ∧ x ≤ i.2 := by
  rcases h with h | h
  · exact ⟨sh_lo, List.mem_cons_self, h1.1, (by show x ≤ -1; omega)⟩
  · exact ⟨(4, 2147483647), List.mem_cons_of_mem _ List.mem_cons_self, (by show 4 ≤ x; omega), h1.2⟩
theorem sh_badm {x : Int} (h1 : -2147483648 ≤ x ∧ x ≤ 2147483647) (h : ¬ (x = 0 ∨ x = 8 ∨ x = 16 ∨ x = 32)) : ∃ i ∈ sh_bad, i.1 ≤ x ∧ x ≤ i.2 := by
  by_cases c1 : x < 0
  · exact ⟨sh_lo, by decide, h1.1, (by show x ≤ -1; omega)⟩
  by_cases c2 : x < 8
  · exact ⟨(1, 7), by decide, (by show 1 ≤ x; omega), (by show x ≤ 7; omega)⟩
  by_cases c3 : x < 16
  · exact ⟨(9, 15), by decide, (by show 9 ≤ x; omega), (by show x ≤ 15; omega)⟩
  by_cases c4 : x < 32
  · exact ⟨(17, 31), by decide, (by show 17 ≤ x; omega), (by show x ≤ 31; omega)⟩
  exact ⟨(33, 2147483647), by decide, (by show 33 ≤ x; omega), h1.2⟩
/-- what sheet answers -/
noncomputable def sh_X (a b n : Int) : Int := if a < 0 ∨ 3 < a then -1000001 else if ¬ (b = 0 ∨ b = 8 ∨ b = 16 ∨ b = 32) then -1000001 else if b ≠ 0 ∧ n < 0 then -1000003 else if b ≠ 0 ∧ 24 < n then -1000001 else 1
noncomputable def sh_Q (cw cs cn ce : Nat) (a b n : Int) (w : pq_W) (res : pq_R) : Prop := sx_Ty sx_T0 res.2 ∧ (∃ x : Int32, res.1 = some (.int x) ∧ x.toInt = sh_X a b n) ∧ ((sh_X a b n ≠ 1 ∧ sx_Fr (sh_A1 ce) w res.2) ∨ (sh_X a b n = 1 ∧ ∃ k : Nat, k < 4 ∧ (k : Int) = a ∧ sx_Fr (sh_A2 cw cs cn k) w res.2 ∧ sy_r res.2 cw k = b ∧ (b = 0 ∨ b = 8 ∨ b = 16 ∨ b = 32) ∧ sy_r res.2 cs k = if b = 0 then 0 else n))
theorem sh_err {cw cs cn ce : Nat} {a b n v : Int} {p : Nat → Int} {w : pq_W} {res : pq_R} (ht : sx_Ty sx_T0 res.2) (f : sx_Fr (sh_A1 ce) w res.2) (q : ∃ z ∈ [((sh_x v, [], [], []) : ng_Ae)], ng_ae p res.1 res.2 z) (e : sh_X a b n = v) (hv : v ≠ 1) : sh_Q cw cs cn ce a b n w res := by
  obtain ⟨z, hz, q⟩ := q
  cases List.mem_singleton.mp hz
  obtain ⟨x, x1, x2⟩ := sh_ans q.1
  exact ⟨ht, ⟨x, x1, by rw [x2, e]⟩, Or.inl ⟨by rw [e]; exact hv, f⟩⟩
theorem sh_gen {AN : sh_AN} {j : Nat} {M : pq_M} {r0 cw cs cn ce : Nat} (k1 : sh_k1 AN j M r0 ce = true) (k2 : sh_k2 AN j M r0 ce = true) (k3 : sh_k3 AN j M r0 cw cs cn = true) (k4 : sh_k4 AN j M r0 ce = true) (k5 : sh_k5 AN j M r0 ce = true) (k6 : sh_k6 AN j M r0 cw cs cn = true) (hM : pq_tab[j]? = some M) (xa xb xn : Int32) {w : pq_W} (ht : sx_Ty sx_T0 w) : ∃ res, pq_Go 299 M 0 (lv_args 0 [.ref r0, .int xa, .int xb, .int xn]) [] w 0 0 res ∧ sh_Q cw cs cn ce xa.toInt xb.toInt xn.toInt w res := by
  have ra := sh_i32 xa
  have rb := sh_i32 xb
  have rn := sh_i32 xn
  by_cases hA : xa.toInt < 0 ∨ 3 < xa.toInt
  · obtain ⟨i, m, l1, l2⟩ := sh_outm ra hA
    obtain ⟨res, g, t, f, q⟩ := sh_one (ls := lv_args 0 [.ref r0, .int xa, .int xb, .int xn]) (fx_p [xa.toInt, xb.toInt, xn.toInt]) (List.all_eq_true.mp k1 i m) hM ⟨l1, l2, rb.1, rb.2, rn.1, rn.2, trivial⟩ ⟨rfl, ng_iy ⟨xa, rfl, rfl⟩ rfl, ng_iy ⟨xb, rfl, rfl⟩ rfl, ng_iy ⟨xn, rfl, rfl⟩ rfl, trivial⟩ trivial ht
    exact ⟨res, g, sh_err t f q (by unfold sh_X; rw [if_pos hA]) (by decide)⟩
  obtain ⟨a, ea⟩ : ∃ a : Nat, (a : Int) = xa.toInt := ⟨xa.toInt.toNat, by omega⟩
  have ha : a < 4 := by omega
  have ma : a ∈ List.range 4 := List.mem_range.mpr ha
  by_cases hB : ¬ (xb.toInt = 0 ∨ xb.toInt = 8 ∨ xb.toInt = 16 ∨ xb.toInt = 32)
  · obtain ⟨i, m, l1, l2⟩ := sh_badm rb hB
    obtain ⟨res, g, t, f, q⟩ := sh_one (ls := lv_args 0 [.ref r0, .int xa, .int xb, .int xn]) (fx_p [xb.toInt, xn.toInt]) (List.all_eq_true.mp (List.all_eq_true.mp k2 a ma) i m) hM ⟨l1, l2, rn.1, rn.2, trivial⟩ ⟨rfl, ng_ik ⟨xa, rfl, rfl⟩ ea.symm, ng_iy ⟨xb, rfl, rfl⟩ rfl, ng_iy ⟨xn, rfl, rfl⟩ rfl, trivial⟩ trivial ht
    exact ⟨res, g, sh_err t f q (by unfold sh_X; rw [if_neg hA, if_pos hB]) (by decide)⟩
  have hB' := Decidable.not_not.mp hB
  by_cases h0 : xb.toInt = 0
  · obtain ⟨res, g, t, f, z, hz, q⟩ := sh_one (ls := lv_args 0 [.ref r0, .int xa, .int xb, .int xn]) (fx_p [xn.toInt]) (List.all_eq_true.mp k3 a ma) hM ⟨rn.1, rn.2, trivial⟩ ⟨rfl, ng_ik ⟨xa, rfl, rfl⟩ ea.symm, ng_ik ⟨xb, rfl, rfl⟩ h0, ng_iy ⟨xn, rfl, rfl⟩ rfl, trivial⟩ trivial ht
    cases List.mem_singleton.mp hz
    obtain ⟨q1, q2, _⟩ := q
    obtain ⟨x, x1, x2⟩ := sh_ans q1
    obtain ⟨e1, q2⟩ := sh_oe (n := a) q2 rfl
    obtain ⟨e2, _⟩ := sh_oe (n := a) q2 rfl
    have hX : sh_X xa.toInt xb.toInt xn.toInt = 1 := by
      unfold sh_X
      rw [if_neg hA, if_neg hB, if_neg (fun h => h.1 h0), if_neg (fun h => h.1 h0)]
    exact ⟨res, g, t, ⟨x, x1, by rw [x2, hX]⟩, Or.inr ⟨hX, a, ha, ea, f, by rw [e1, h0]; exact ng_ek _ _, hB', by rw [e2, if_pos h0]; exact ng_ek _ _⟩⟩
  · have hw : xb.toInt ∈ sh_wid := by
      rcases hB' with h | h | h | h
      · exact absurd h h0
      · rw [h]; decide
      · rw [h]; decide
      · rw [h]; decide
    by_cases hn : xn.toInt < 0
    · obtain ⟨res, g, t, f, q⟩ := sh_one (ls := lv_args 0 [.ref r0, .int xa, .int xb, .int xn]) (fx_p [xn.toInt]) (List.all_eq_true.mp (List.all_eq_true.mp k4 a ma) _ hw) hM ⟨rn.1, (by show xn.toInt ≤ -1; omega), trivial⟩ ⟨rfl, ng_ik ⟨xa, rfl, rfl⟩ ea.symm, ng_ik ⟨xb, rfl, rfl⟩ rfl, ng_iy ⟨xn, rfl, rfl⟩ rfl, trivial⟩ trivial ht
      exact ⟨res, g, sh_err t f q (by unfold sh_X; rw [if_neg hA, if_neg hB, if_pos ⟨h0, hn⟩]) (by decide)⟩
    by_cases hn2 : 24 < xn.toInt
    · obtain ⟨res, g, t, f, q⟩ := sh_one (ls := lv_args 0 [.ref r0, .int xa, .int xb, .int xn]) (fx_p [xn.toInt]) (List.all_eq_true.mp (List.all_eq_true.mp k5 a ma) _ hw) hM ⟨(by show 25 ≤ xn.toInt; omega), rn.2, trivial⟩ ⟨rfl, ng_ik ⟨xa, rfl, rfl⟩ ea.symm, ng_ik ⟨xb, rfl, rfl⟩ rfl, ng_iy ⟨xn, rfl, rfl⟩ rfl, trivial⟩ trivial ht
      exact ⟨res, g, sh_err t f q (by unfold sh_X; rw [if_neg hA, if_neg hB, if_neg (fun h => hn h.2), if_pos ⟨h0, hn2⟩]) (by decide)⟩
    obtain ⟨res, g, t, f, z, hz, q⟩ := sh_one (ls := lv_args 0 [.ref r0, .int xa, .int xb, .int xn]) (fx_p [xn.toInt]) (List.all_eq_true.mp (List.all_eq_true.mp k6 a ma) _ hw) hM ⟨(by show 0 ≤ xn.toInt; omega), (by show xn.toInt ≤ 24; omega), trivial⟩ ⟨rfl, ng_ik ⟨xa, rfl, rfl⟩ ea.symm, ng_ik ⟨xb, rfl, rfl⟩ rfl, ng_iy ⟨xn, rfl, rfl⟩ rfl, trivial⟩ trivial ht
    cases List.mem_singleton.mp hz
    obtain ⟨q1, q2, _⟩ := q
    obtain ⟨x, x1, x2⟩ := sh_ans q1
    obtain ⟨e1, q2⟩ := sh_oe (n := a) q2 rfl
    obtain ⟨e2, _⟩ := sh_oe (n := a) q2 rfl
    have hX : sh_X xa.toInt xb.toInt xn.toInt = 1 := by
      unfold sh_X
      rw [if_neg hA, if_neg hB, if_neg (fun h => hn h.2), if_neg (fun h => hn2 h.2)]
    exact ⟨res, g, t, ⟨x, x1, by rw [x2, hX]⟩, Or.inr ⟨hX, a, ha, ea, f, by rw [e1]; exact ng_ek _ _, hB', by rw [e2, if_neg h0, sx_y_ev]; rfl⟩⟩
/-- what put answers -/
noncomputable def pu_X (a i W S : Int) : Int := if a < 0 ∨ 3 < a then -1000001 else if W = 0 then -1000002 else if i < 0 ∨ S ≤ i then -1000001 else 1
noncomputable def sh_wd (b : Int) : Prop := b = 0 ∨ b = 8 ∨ b = 16 ∨ b = 32
theorem sh_sz {w : pq_W} {cs s : Nat} (ht : sx_Ty sx_T0 w) (h : cs = 92 ∨ cs = 99) (hs : s < 4) : 0 ≤ sy_r w cs s ∧ sy_r w cs s ≤ 24 := by
  rcases h with rfl | rfl
  · have := sy_rg (r := 92) ht rfl (g := (0, 1, 4, 0, 0, 0, 24)) (by decide) (k := s) (j := 0) hs (Nat.le_refl _) (Nat.le_refl _) (by show 0 + 1 * s + 0 < 4; omega)
    have this : 0 ≤ sy_r w 92 (0 + 1 * s + 0) ∧ sy_r w 92 (0 + 1 * s + 0) ≤ 24 := this
    rw [show 0 + 1 * s + 0 = s by omega] at this
    exact this
  · have := sy_rg (r := 99) ht rfl (g := (0, 1, 4, 0, 0, 0, 24)) (by decide) (k := s) (j := 0) hs (Nat.le_refl _) (Nat.le_refl _) (by show 0 + 1 * s + 0 < 4; omega)
    have this : 0 ≤ sy_r w 99 (0 + 1 * s + 0) ∧ sy_r w 99 (0 + 1 * s + 0) ≤ 24 := this
    rw [show 0 + 1 * s + 0 = s by omega] at this
    exact this
noncomputable def pu_Q (A : sx_A) (x0 : Int) (w : pq_W) (res : pq_R) : Prop := sx_Ty sx_T0 res.2 ∧ (∃ x : Int32, res.1 = some (.int x) ∧ x.toInt = x0) ∧ sx_Fr A w res.2
theorem pu_err {A : sx_A} {v x0 : Int} {p : Nat → Int} {w : pq_W} {res : pq_R} (ht : sx_Ty sx_T0 res.2) (f : sx_Fr A w res.2) (q : ∃ z ∈ [((sh_x v, [], [], []) : ng_Ae)], ng_ae p res.1 res.2 z) (e : x0 = v) : pu_Q A x0 w res := by
  obtain ⟨z, hz, q⟩ := q
  cases List.mem_singleton.mp hz
  obtain ⟨x, x1, x2⟩ := sh_ans q.1
  exact ⟨ht, ⟨x, x1, by rw [x2, e]⟩, f⟩
theorem pu_gen {j : Nat} {M : pq_M} {r0 cw cs cn ce : Nat} (k1 : pu_k1 j M r0 ce cn = true) (k2 : pu_k2 j M r0 cw ce cn = true) (k3 : pu_k3 j M r0 cw cs ce cn = true) (hM : pq_tab[j]? = some M) (hcs : cs = 92 ∨ cs = 99) (xa xi xv : Int32) {w : pq_W} (ht : sx_Ty sx_T0 w) (hw : ∀ s, s < 4 → sh_wd (sy_r w cw s)) : ∃ res, pq_Go 299 M 0 (lv_args 0 [.ref r0, .int xa, .int xi, .int xv]) [] w 0 0 res ∧ pu_Q (pu_A ce cn) (pu_X xa.toInt xi.toInt (sy_r w cw xa.toInt.toNat) (sy_r w cs xa.toInt.toNat)) w res := by
  have ra := sh_i32 xa
  have ri := sh_i32 xi
  have rv := sh_i32 xv
  by_cases hA : xa.toInt < 0 ∨ 3 < xa.toInt
  · obtain ⟨i, m, l1, l2⟩ := sh_outm ra hA
    obtain ⟨res, g, t, f, q⟩ := sh_one (ls := lv_args 0 [.ref r0, .int xa, .int xi, .int xv]) (fx_p [xa.toInt, xi.toInt, xv.toInt]) (List.all_eq_true.mp k1 i m) hM ⟨l1, l2, ri.1, ri.2, rv.1, rv.2, trivial⟩ ⟨rfl, ng_iy ⟨xa, rfl, rfl⟩ rfl, ng_iy ⟨xi, rfl, rfl⟩ rfl, ng_iy ⟨xv, rfl, rfl⟩ rfl, trivial⟩ trivial ht
    exact ⟨res, g, pu_err t f q (by unfold pu_X; rw [if_pos hA])⟩
  obtain ⟨a, ea⟩ : ∃ a : Nat, (a : Int) = xa.toInt := ⟨xa.toInt.toNat, by omega⟩
  have ha : a < 4 := by omega
  have ma : a ∈ List.range 4 := List.mem_range.mpr ha
  have et : xa.toInt.toNat = a := by omega
  rw [et]
  by_cases h0 : sy_r w cw a = 0
  · obtain ⟨res, g, t, f, q⟩ := sh_one (ls := lv_args 0 [.ref r0, .int xa, .int xi, .int xv]) (fx_p [xi.toInt, xv.toInt]) (List.all_eq_true.mp k2 a ma) hM ⟨ri.1, ri.2, rv.1, rv.2, trivial⟩ ⟨rfl, ng_ik ⟨xa, rfl, rfl⟩ ea.symm, ng_iy ⟨xi, rfl, rfl⟩ rfl, ng_iy ⟨xv, rfl, rfl⟩ rfl, trivial⟩ (sh_eo (n := a) (by rw [ng_ek]; exact h0) rfl trivial) ht
    exact ⟨res, g, pu_err t f q (by unfold pu_X; rw [if_neg hA, if_pos h0])⟩
  have hw1 : 1 ≤ sy_r w cw a ∧ sy_r w cw a ≤ 32 := by
    rcases hw a ha with h | h | h | h
    · exact absurd h h0
    · omega
    · omega
    · omega
  have hs1 := sh_sz ht hcs ha
  obtain ⟨res, g, t, f, z, hz, q⟩ := sh_one (ls := lv_args 0 [.ref r0, .int xa, .int xi, .int xv]) (fx_p [xi.toInt, xv.toInt, sy_r w cs a, sy_r w cw a]) (List.all_eq_true.mp k3 a ma) hM ⟨ri.1, ri.2, rv.1, rv.2, hs1.1, hs1.2, hw1.1, hw1.2, trivial⟩ ⟨rfl, ng_ik ⟨xa, rfl, rfl⟩ ea.symm, ng_iy ⟨xi, rfl, rfl⟩ rfl, ng_iy ⟨xv, rfl, rfl⟩ rfl, trivial⟩ (sh_eo (n := a) (by rw [sx_y_ev]; rfl) rfl (sh_eo (n := a) (by rw [sx_y_ev]; rfl) rfl trivial)) ht
  refine ⟨res, g, t, ?_, f⟩
  obtain ⟨q1, _, q3, _⟩ := q
  unfold pu_re at hz
  rcases List.mem_cons.mp hz with rfl | hz
  · obtain ⟨x, x1, x2⟩ := sh_ans q1
    obtain ⟨d1, _⟩ := q3
    have d1 : 1 + (1 * xi.toInt + 0) ≤ 0 := d1
    exact ⟨x, x1, by rw [x2]; unfold pu_X; rw [if_neg hA, if_neg h0, if_pos (Or.inl (by omega))]⟩
  rcases List.mem_cons.mp hz with rfl | hz
  · obtain ⟨x, x1, x2⟩ := sh_ans q1
    obtain ⟨d1, _⟩ := q3
    have d1 : 0 + (-1 * xi.toInt + (1 * sy_r w cs a + 0)) ≤ 0 := d1
    exact ⟨x, x1, by rw [x2]; unfold pu_X; rw [if_neg hA, if_neg h0, if_pos (Or.inr (by omega))]⟩
  cases List.mem_singleton.mp hz
  obtain ⟨x, x1, x2⟩ := sh_ans q1
  obtain ⟨d1, d2, _⟩ := q3
  have d1 : 0 + (-1 * xi.toInt + 0) ≤ 0 := d1
  have d2 : 1 + (1 * xi.toInt + (-1 * sy_r w cs a + 0)) ≤ 0 := d2
  exact ⟨x, x1, by rw [x2]; unfold pu_X; rw [if_neg hA, if_neg h0, if_neg (by omega)]⟩
/-- what move answers -/
noncomputable def mv_X (a o i j n W1 W2 S1 S2 : Int) : Int := if (a < 0 ∨ 3 < a) ∨ (o < 0 ∨ 3 < o) then -1000001 else if W1 = 0 ∨ W2 = 0 then -1000002 else if W1 ≠ W2 then -1000005 else if n < 0 ∨ i < 0 ∨ j < 0 ∨ S1 < i + n ∨ S2 < j + n then -1000001 else n
theorem mv_end {A : sx_A} {s : Nat} {i j n S1 S2 : Int} {p : Nat → Int} {w : pq_W} {res : pq_R} (p0 : p 0 = i) (p1 : p 1 = j) (p2 : p 2 = n) (p3 : p 3 = S1) (ps : p s = S2) (ht : sx_Ty sx_T0 res.2) (f : sx_Fr A w res.2) (q : ∃ z ∈ mv_re s, ng_ae p res.1 res.2 z) : pu_Q A (if n < 0 ∨ i < 0 ∨ j < 0 ∨ S1 < i + n ∨ S2 < j + n then -1000001 else n) w res := by
  refine ⟨ht, ?_, f⟩
  obtain ⟨z, hz, q1, _, q3, _⟩ := q
  unfold mv_re at hz
  rcases List.mem_cons.mp hz with rfl | hz
  · obtain ⟨x, x1, x2⟩ := sh_ans q1
    have d1 : 1 + (1 * p 2 + 0) ≤ 0 := q3.1
    exact ⟨x, x1, by rw [x2, if_pos (by omega)]⟩
  rcases List.mem_cons.mp hz with rfl | hz
  · obtain ⟨x, x1, x2⟩ := sh_ans q1
    have d1 : 1 + (1 * p 0 + 0) ≤ 0 := q3.1
    exact ⟨x, x1, by rw [x2, if_pos (by omega)]⟩
  rcases List.mem_cons.mp hz with rfl | hz
  · obtain ⟨x, x1, x2⟩ := sh_ans q1
    have d1 : 1 + (1 * p 1 + 0) ≤ 0 := q3.1
    exact ⟨x, x1, by rw [x2, if_pos (by omega)]⟩
  rcases List.mem_cons.mp hz with rfl | hz
  · obtain ⟨x, x1, x2⟩ := sh_ans q1
    have d1 : 1 + (-1 * p 0 + (-1 * p 2 + (1 * p 3 + 0))) ≤ 0 := q3.1
    exact ⟨x, x1, by rw [x2, if_pos (by omega)]⟩
  rcases List.mem_cons.mp hz with rfl | hz
  · obtain ⟨x, x1, x2⟩ := sh_ans q1
    have d1 : 1 + (-1 * p 1 + (-1 * p 2 + (1 * p s + 0))) ≤ 0 := q3.1
    exact ⟨x, x1, by rw [x2, if_pos (by omega)]⟩
  cases List.mem_singleton.mp hz
  obtain ⟨x, x1, x2⟩ := q1
  rw [sx_y_ev] at x2
  obtain ⟨d1, d2, d3, d4, d5, _⟩ := q3
  have d1 : 0 + (-1 * p 2 + 0) ≤ 0 := d1
  have d2 : 0 + (-1 * p 0 + 0) ≤ 0 := d2
  have d3 : 0 + (-1 * p 1 + 0) ≤ 0 := d3
  have d4 : 0 + (1 * p 0 + (1 * p 2 + (-1 * p 3 + 0))) ≤ 0 := d4
  have d5 : 0 + (1 * p 1 + (1 * p 2 + (-1 * p s + 0))) ≤ 0 := d5
  exact ⟨x, x1, by rw [x2, if_neg (by omega), p2]⟩
theorem mv_gen {AN : sh_AN} {j : Nat} {M : pq_M} {r0 cw cs cn ce cb : Nat} (k1 : mv_k1 AN j M r0 ce cn cb = true) (k2 : mv_k2 AN j M r0 ce cn cb = true) (k3 : mv_k3 AN j M r0 cw ce cn cb = true) (k4 : mv_k4 AN j M r0 cw ce cn cb = true) (k5 : ∀ {b1 b2 : Int}, (b1 = 8 ∨ b1 = 16 ∨ b1 = 32) → (b2 = 8 ∨ b2 = 16 ∨ b2 = 32) → b1 ≠ b2 → mv_k5 AN j M r0 cw ce cn cb b1 b2 = true) (k6 : mv_k6 AN j M r0 cw cs ce cn cb = true) (k7 : mv_k7 AN j M r0 cw cs ce cn cb = true) (hM : pq_tab[j]? = some M) (hcs : cs = 92 ∨ cs = 99) (xa xi xo xj xn : Int32) {w : pq_W} (ht : sx_Ty sx_T0 w) (hw : ∀ s, s < 4 → sh_wd (sy_r w cw s)) : ∃ res, pq_Go 299 M 0 (lv_args 0 [.ref r0, .int xa, .int xi, .int xo, .int xj, .int xn]) [] w 0 0 res ∧ pu_Q (mv_A ce cn cb) (mv_X xa.toInt xo.toInt xi.toInt xj.toInt xn.toInt (sy_r w cw xa.toInt.toNat) (sy_r w cw xo.toInt.toNat) (sy_r w cs xa.toInt.toNat) (sy_r w cs xo.toInt.toNat)) w res := by
  have ra := sh_i32 xa
  have ri := sh_i32 xi
  have ro := sh_i32 xo
  have rj := sh_i32 xj
  have rn := sh_i32 xn
  by_cases hA : xa.toInt < 0 ∨ 3 < xa.toInt
  · obtain ⟨i, m, l1, l2⟩ := sh_outm ra hA
    obtain ⟨res, g, t, f, q⟩ := sh_one (ls := lv_args 0 [.ref r0, .int xa, .int xi, .int xo, .int xj, .int xn]) (fx_p [xa.toInt, xi.toInt, xo.toInt, xj.toInt, xn.toInt]) (List.all_eq_true.mp k1 i m) hM ⟨l1, l2, ri.1, ri.2, ro.1, ro.2, rj.1, rj.2, rn.1, rn.2, trivial⟩ ⟨rfl, ng_iy ⟨xa, rfl, rfl⟩ rfl, ng_iy ⟨xi, rfl, rfl⟩ rfl, ng_iy ⟨xo, rfl, rfl⟩ rfl, ng_iy ⟨xj, rfl, rfl⟩ rfl, ng_iy ⟨xn, rfl, rfl⟩ rfl, trivial⟩ trivial ht
    exact ⟨res, g, pu_err t f q (by unfold mv_X; rw [if_pos (Or.inl hA)])⟩
  obtain ⟨a, ea⟩ : ∃ a : Nat, (a : Int) = xa.toInt := ⟨xa.toInt.toNat, by omega⟩
  have ha : a < 4 := by omega
  have ma : a ∈ List.range 4 := List.mem_range.mpr ha
  have et : xa.toInt.toNat = a := by omega
  by_cases hO : xo.toInt < 0 ∨ 3 < xo.toInt
  · obtain ⟨i, m, l1, l2⟩ := sh_outm ro hO
    obtain ⟨res, g, t, f, q⟩ := sh_one (ls := lv_args 0 [.ref r0, .int xa, .int xi, .int xo, .int xj, .int xn]) (fx_p [xo.toInt, xi.toInt, xj.toInt, xn.toInt]) (List.all_eq_true.mp (List.all_eq_true.mp k2 a ma) i m) hM ⟨l1, l2, ri.1, ri.2, rj.1, rj.2, rn.1, rn.2, trivial⟩ ⟨rfl, ng_ik ⟨xa, rfl, rfl⟩ ea.symm, ng_iy ⟨xi, rfl, rfl⟩ rfl, ng_iy ⟨xo, rfl, rfl⟩ rfl, ng_iy ⟨xj, rfl, rfl⟩ rfl, ng_iy ⟨xn, rfl, rfl⟩ rfl, trivial⟩ trivial ht
    exact ⟨res, g, pu_err t f q (by unfold mv_X; rw [if_pos (Or.inr hO)])⟩
  obtain ⟨o, eo⟩ : ∃ o : Nat, (o : Int) = xo.toInt := ⟨xo.toInt.toNat, by omega⟩
  have ho : o < 4 := by omega
  have mo : o ∈ List.range 4 := List.mem_range.mpr ho
  have eto : xo.toInt.toNat = o := by omega
  have hAO : ¬ ((xa.toInt < 0 ∨ 3 < xa.toInt) ∨ (xo.toInt < 0 ∨ 3 < xo.toInt)) := fun h => h.elim hA hO
  rw [et, eto]
  by_cases h0 : sy_r w cw a = 0
  · obtain ⟨res, g, t, f, q⟩ := sh_one (ls := lv_args 0 [.ref r0, .int xa, .int xi, .int xo, .int xj, .int xn]) (fx_p [xi.toInt, xj.toInt, xn.toInt]) (List.all_eq_true.mp (List.all_eq_true.mp k3 a ma) o mo) hM ⟨ri.1, ri.2, rj.1, rj.2, rn.1, rn.2, trivial⟩ ⟨rfl, ng_ik ⟨xa, rfl, rfl⟩ ea.symm, ng_iy ⟨xi, rfl, rfl⟩ rfl, ng_ik ⟨xo, rfl, rfl⟩ eo.symm, ng_iy ⟨xj, rfl, rfl⟩ rfl, ng_iy ⟨xn, rfl, rfl⟩ rfl, trivial⟩ (sh_eo (n := a) (by rw [ng_ek]; exact h0) rfl trivial) ht
    exact ⟨res, g, pu_err t f q (by unfold mv_X; rw [if_neg hAO, if_pos (Or.inl h0)])⟩
  have hwa := (hw a ha).resolve_left h0
  have hw1 : 1 ≤ sy_r w cw a ∧ sy_r w cw a ≤ 32 := by omega
  have hs1 := sh_sz ht hcs ha
  have hs2 := sh_sz ht hcs ho
  by_cases eq : a = o
  · subst eq
    obtain ⟨res, g, t, f, q⟩ := sh_one (ls := lv_args 0 [.ref r0, .int xa, .int xi, .int xo, .int xj, .int xn]) (fx_p [xi.toInt, xj.toInt, xn.toInt, sy_r w cs a, sy_r w cs a, sy_r w cw a]) (List.all_eq_true.mp k7 a ma) hM ⟨ri.1, ri.2, rj.1, rj.2, rn.1, rn.2, hs1.1, hs1.2, hs1.1, hs1.2, hw1.1, hw1.2, trivial⟩ ⟨rfl, ng_ik ⟨xa, rfl, rfl⟩ ea.symm, ng_iy ⟨xi, rfl, rfl⟩ rfl, ng_ik ⟨xo, rfl, rfl⟩ eo.symm, ng_iy ⟨xj, rfl, rfl⟩ rfl, ng_iy ⟨xn, rfl, rfl⟩ rfl, trivial⟩ (sh_eo (n := a) (by rw [sx_y_ev]; rfl) rfl (sh_eo (n := a) (by rw [sx_y_ev]; rfl) rfl trivial)) ht
    refine ⟨res, g, ?_⟩
    unfold mv_X
    rw [if_neg hAO, if_neg (fun h => h.elim h0 h0), if_neg (fun h => h rfl)]
    exact mv_end (s := 3) (p := fx_p [xi.toInt, xj.toInt, xn.toInt, sy_r w cs a, sy_r w cs a, sy_r w cw a]) rfl rfl rfl rfl rfl t f q
  have en : (Nat.beq a o) = false := by
    cases hb : Nat.beq a o with
    | false => rfl
    | true => exact absurd (Nat.eq_of_beq_eq_true hb) eq
  by_cases h1 : sy_r w cw o = 0
  · have ck := List.all_eq_true.mp (List.all_eq_true.mp k4 a ma) o mo
    rw [en, Bool.false_or] at ck
    obtain ⟨res, g, t, f, q⟩ := sh_one (ls := lv_args 0 [.ref r0, .int xa, .int xi, .int xo, .int xj, .int xn]) (fx_p [xi.toInt, xj.toInt, xn.toInt, sy_r w cw a]) ck hM ⟨ri.1, ri.2, rj.1, rj.2, rn.1, rn.2, hw1.1, hw1.2, trivial⟩ ⟨rfl, ng_ik ⟨xa, rfl, rfl⟩ ea.symm, ng_iy ⟨xi, rfl, rfl⟩ rfl, ng_ik ⟨xo, rfl, rfl⟩ eo.symm, ng_iy ⟨xj, rfl, rfl⟩ rfl, ng_iy ⟨xn, rfl, rfl⟩ rfl, trivial⟩ (sh_eo (n := a) (by rw [sx_y_ev]; rfl) rfl (sh_eo (n := o) (by rw [ng_ek]; exact h1) rfl trivial)) ht
    exact ⟨res, g, pu_err t f q (by unfold mv_X; rw [if_neg hAO, if_pos (Or.inr h1)])⟩
  have hwo := (hw o ho).resolve_left h1
  by_cases h2 : sy_r w cw a = sy_r w cw o
  · have ck := List.all_eq_true.mp (List.all_eq_true.mp k6 a ma) o mo
    rw [en, Bool.false_or] at ck
    obtain ⟨res, g, t, f, q⟩ := sh_one (ls := lv_args 0 [.ref r0, .int xa, .int xi, .int xo, .int xj, .int xn]) (fx_p [xi.toInt, xj.toInt, xn.toInt, sy_r w cs a, sy_r w cs o, sy_r w cw a]) ck hM ⟨ri.1, ri.2, rj.1, rj.2, rn.1, rn.2, hs1.1, hs1.2, hs2.1, hs2.2, hw1.1, hw1.2, trivial⟩ ⟨rfl, ng_ik ⟨xa, rfl, rfl⟩ ea.symm, ng_iy ⟨xi, rfl, rfl⟩ rfl, ng_ik ⟨xo, rfl, rfl⟩ eo.symm, ng_iy ⟨xj, rfl, rfl⟩ rfl, ng_iy ⟨xn, rfl, rfl⟩ rfl, trivial⟩ (sh_eo (n := a) (by rw [sx_y_ev]; rfl) rfl (sh_eo (n := o) (by rw [sx_y_ev]; exact h2.symm) rfl (sh_eo (n := a) (by rw [sx_y_ev]; rfl) rfl (sh_eo (n := o) (by rw [sx_y_ev]; rfl) rfl trivial)))) ht
    refine ⟨res, g, ?_⟩
    unfold mv_X
    rw [if_neg hAO, if_neg (fun h => h.elim h0 h1), if_neg (fun h => h h2)]
    exact mv_end (s := 4) (p := fx_p [xi.toInt, xj.toInt, xn.toInt, sy_r w cs a, sy_r w cs o, sy_r w cw a]) rfl rfl rfl rfl rfl t f q
  · have ck := List.all_eq_true.mp (List.all_eq_true.mp (k5 hwa hwo h2) a ma) o mo
    rw [en, Bool.false_or] at ck
    obtain ⟨res, g, t, f, q⟩ := sh_one (ls := lv_args 0 [.ref r0, .int xa, .int xi, .int xo, .int xj, .int xn]) (fx_p [xi.toInt, xj.toInt, xn.toInt]) ck hM ⟨ri.1, ri.2, rj.1, rj.2, rn.1, rn.2, trivial⟩ ⟨rfl, ng_ik ⟨xa, rfl, rfl⟩ ea.symm, ng_iy ⟨xi, rfl, rfl⟩ rfl, ng_ik ⟨xo, rfl, rfl⟩ eo.symm, ng_iy ⟨xj, rfl, rfl⟩ rfl, ng_iy ⟨xn, rfl, rfl⟩ rfl, trivial⟩ (sh_eo (n := a) (by rw [ng_ek]) rfl (sh_eo (n := o) (by rw [ng_ek]) rfl trivial)) ht
    exact ⟨res, g, pu_err t f q (by unfold mv_X; rw [if_neg hAO, if_neg (fun h => h.elim h0 h1), if_pos h2])⟩
