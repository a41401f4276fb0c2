/-! cell and block, told exactly -/
noncomputable def cl_X (l o : Int) : Int := if l < -1 ∨ 7 < l then -1000001 else o
noncomputable def cl_Y (l o : Int) : Int := if l < -1 ∨ 7 < l then o else l
noncomputable def cl_P (A0 : sx_A) (ce cr b : Nat) (c l : Int) (w : pq_W) (res : pq_R) : Prop := (¬ (0 ≤ c ∧ c ≤ 63) ∧ (∃ x : Int32, res.1 = some (.int x) ∧ x.toInt = -1000001) ∧ sx_Fr A0 w res.2) ∨ ∃ k : Nat, k < 64 ∧ (k : Int) = c ∧ (∃ x : Int32, res.1 = some (.int x) ∧ x.toInt = cl_X l (sy_r w cr (b + k))) ∧ sx_Fr [(ce, 0, 100000), (cr, ((b + k : Nat) : Int), ((b + k : Nat) : Int))] w res.2 ∧ sy_r res.2 cr (b + k) = cl_Y l (sy_r w cr (b + k))
theorem cl_gen {A0 : sx_A} {ce j : Nat} {M : pq_M} {r0 cr b : Nat} (k1 : cl_k1 A0 j M r0 = true) (k2 : cl_k2 ce j M r0 cr b = true) (hM : pq_tab[j]? = some M) (xc xl : Int32) {w : pq_W} (ht : sx_Ty sx_T0 w) : ∃ res, pq_Go 299 M 0 (lv_args 0 [.ref r0, .int xc, .int xl]) [] w 0 0 res ∧ cl_P A0 ce cr b xc.toInt xl.toInt w res := by
  have rc := sh_i32 xc
  have rl := sh_i32 xl
  by_cases hc : ¬ (0 ≤ xc.toInt ∧ xc.toInt ≤ 63)
  · obtain ⟨i, m, l1, l2⟩ := su_outm rc hc
    obtain ⟨res, g, t, f, z, hz, q⟩ := sh_one (ls := lv_args 0 [.ref r0, .int xc, .int xl]) (fx_p [xc.toInt, xl.toInt]) (List.all_eq_true.mp k1 i m) hM ⟨l1, l2, rl.1, rl.2, trivial⟩ ⟨rfl, ng_iy ⟨xc, rfl, rfl⟩ rfl, ng_iy ⟨xl, rfl, rfl⟩ rfl, trivial⟩ trivial ht
    cases List.mem_singleton.mp hz
    exact ⟨res, g, Or.inl ⟨hc, sh_ans q.1, f⟩⟩
  have hc := Decidable.not_not.mp hc
  obtain ⟨c, ec⟩ : ∃ c : Nat, (c : Int) = xc.toInt := ⟨xc.toInt.toNat, by omega⟩
  have hc64 : c < 64 := by omega
  have ho := sy_bd w cr (b + c)
  obtain ⟨res, g, t, f, z, hz, q⟩ := sh_one (ls := lv_args 0 [.ref r0, .int xc, .int xl]) (fx_p [xl.toInt, sy_r w cr (b + c)]) (List.all_eq_true.mp k2 c (List.mem_range.mpr hc64)) hM ⟨rl.1, rl.2, ho.1, ho.2, trivial⟩ ⟨rfl, ng_ik ⟨xc, rfl, rfl⟩ ec.symm, ng_iy ⟨xl, rfl, rfl⟩ rfl, trivial⟩ (sh_eo (n := b + c) (by rw [sx_y_ev]; rfl) rfl trivial) ht
  refine ⟨res, g, Or.inr ⟨c, hc64, ec, ?_⟩⟩
  obtain ⟨q1, q2, q3, _⟩ := q
  unfold cl_re at hz
  rcases List.mem_cons.mp hz with rfl | hz
  · obtain ⟨e1, _⟩ := sh_oe (n := b + c) q2 rfl
    rw [sx_y_ev] at e1
    have e1 : sy_r res.2 cr (b + c) = sy_r w cr (b + c) := e1
    have d1 : 2 + (1 * xl.toInt + 0) ≤ 0 := q3.1
    have hb : xl.toInt < -1 ∨ 7 < xl.toInt := by omega
    obtain ⟨x, x1, x2⟩ := sh_ans q1
    exact ⟨⟨x, x1, by rw [x2]; unfold cl_X; rw [if_pos hb]⟩, f, by rw [e1]; unfold cl_Y; rw [if_pos hb]⟩
  rcases List.mem_cons.mp hz with rfl | hz
  · obtain ⟨e1, _⟩ := sh_oe (n := b + c) q2 rfl
    rw [sx_y_ev] at e1
    have e1 : sy_r res.2 cr (b + c) = sy_r w cr (b + c) := e1
    have d1 : 8 + (-1 * xl.toInt + 0) ≤ 0 := q3.1
    have hb : xl.toInt < -1 ∨ 7 < xl.toInt := by omega
    obtain ⟨x, x1, x2⟩ := sh_ans q1
    exact ⟨⟨x, x1, by rw [x2]; unfold cl_X; rw [if_pos hb]⟩, f, by rw [e1]; unfold cl_Y; rw [if_pos hb]⟩
  cases List.mem_singleton.mp hz
  obtain ⟨e1, _⟩ := sh_oe (n := b + c) q2 rfl
  rw [sx_y_ev] at e1
  have e1 : sy_r res.2 cr (b + c) = xl.toInt := e1
  obtain ⟨d1, d2, _⟩ := q3
  have d1 : -1 + (-1 * xl.toInt + 0) ≤ 0 := d1
  have d2 : -7 + (1 * xl.toInt + 0) ≤ 0 := d2
  have hb : ¬ (xl.toInt < -1 ∨ 7 < xl.toInt) := by omega
  obtain ⟨x, x1, x2⟩ := q1
  rw [sx_y_ev] at x2
  have x2 : x.toInt = sy_r w cr (b + c) := x2
  exact ⟨⟨x, x1, by rw [x2]; unfold cl_X; rw [if_neg hb]⟩, f, by rw [e1]; unfold cl_Y; rw [if_neg hb]⟩
/-- are all numbers lands -/
noncomputable def bk_ok (N : Nat → Int) (a n : Nat) : Bool := (List.range n).all fun i => decide (-1 ≤ N (24 * a + i)) && decide (N (24 * a + i) ≤ 7)
theorem bk_ok_at {N : Nat → Int} {a n : Nat} (h : bk_ok N a n = true) {i : Nat} (hi : i < n) : -1 ≤ N (24 * a + i) ∧ N (24 * a + i) ≤ 7 := by
  have h1 := List.all_eq_true.mp h i (List.mem_range.mpr hi)
  rw [Bool.and_eq_true, decide_eq_true_eq, decide_eq_true_eq] at h1
  exact h1
theorem bk_ok_of {N : Nat → Int} {a n : Nat} (h : ∀ i, i < n → -1 ≤ N (24 * a + i) ∧ N (24 * a + i) ≤ 7) : bk_ok N a n = true := List.all_eq_true.mpr (fun i hi => by
  rw [Bool.and_eq_true, decide_eq_true_eq, decide_eq_true_eq]
  exact h i (List.mem_range.mp hi))
theorem bk_ok_no {N : Nat → Int} {a n i : Nat} (hi : i < n) (h : ¬ (-1 ≤ N (24 * a + i) ∧ N (24 * a + i) ≤ 7)) : bk_ok N a n = false := by
  cases hb : bk_ok N a n with
  | false => rfl
  | true => exact absurd (bk_ok_at hb hi) h
noncomputable def bkB (ls : pq_L) (r0 : Nat) (a f n k : Int) : Prop := pq_lk ls 0 = some (.ref r0) ∧ ng_i ls 1 a ∧ ng_i ls 2 f ∧ ng_i ls 3 n ∧ ng_i ls 4 k
theorem bk_eo {p : Nat → Int} {w : pq_W} {r k : Nat} {e v : sx_F} {O : sx_O} (he : sx_ev p e = (k : Int)) (h : sy_r w r k = sx_ev p v) (hO : ng_eqs p w O) : ng_eqs p w (bk_p r e (.inl (.inl v)) :: O) := by
  refine ⟨?_, hO⟩
  rw [he, Int.toNat_natCast]
  exact h
section BK
variable {j : Nat} {M : pq_M} {r0 cw cs cn co bo h1 h2 : Nat} {A0 : sx_A} {a f n : Nat} {w0 : pq_W}
theorem bk_l1 (hM : pq_tab[j]? = some M) (k1 : bk_1 j M r0 cn h1 = true) (kk : bk_k A0 j M r0 cn h1 = true) (ha : a < 4) (hf : f < 64) (hn : n ≤ 24) {Post : pq_R → Prop} (hend : ∀ ls w, bkB ls r0 a f n n → sx_Ty sx_T0 w → sx_Fr [] w0 w → bk_ok (sy_r w0 cn) a n = true → ∃ res, pq_Go 299 M h1 ls [] w 0 0 res ∧ Post res) (hbad : ∀ r w, sx_Ty sx_T0 w → sx_Fr A0 w0 w → (∃ x : Int32, r = some (.int x) ∧ x.toInt = -1000005) → bk_ok (sy_r w0 cn) a n = false → Post (r, w)) : ∀ (m k : Nat), k + m = n → (∀ i, i < k → -1 ≤ sy_r w0 cn (24 * a + i) ∧ sy_r w0 cn (24 * a + i) ≤ 7) → ∀ ls w, bkB ls r0 a f n k → sx_Ty sx_T0 w → sx_Fr [] w0 w → ∃ res, pq_Go 299 M h1 ls [] w 0 0 res ∧ Post res := by
  intro m
  induction m with
  | zero =>
    intro k hk hg ls w hb ht hf0
    have e : k = n := by omega
    subst e
    exact hend ls w hb ht hf0 (bk_ok_of hg)
  | succ m ih =>
    intro k hk hg ls w hb ht hf0
    have hkn : k < n := by omega
    have e0 : sy_r w cn (24 * a + k) = sy_r w0 cn (24 * a + k) := ng_nil hf0 cn (24 * a + k)
    have hC : ng_fs (fx_p [(a : Int), f, n, k, sy_r w0 cn (24 * a + k)]) [(1, [(2, -1), (3, 1)])] := ⟨by show 1 + (-1 * (n : Int) + (1 * (k : Int) + 0)) ≤ 0; omega, trivial⟩
    have hO : ng_eqs (fx_p [(a : Int), f, n, k, sy_r w0 cn (24 * a + k)]) w [bk_p cn bk_at (fx_i 4)] := bk_eo (k := 24 * a + k) (by show 0 + (24 * (a : Int) + (1 * (k : Int) + 0)) = _; omega) (by rw [sx_y_ev, e0]; rfl) trivial
    have hsl : ng_sl0 (fx_p [(a : Int), f, n, k, sy_r w0 cn (24 * a + k)]) ls (bk_s r0 (fx_i 3)) := ⟨hb.1, ng_iy hb.2.1 rfl, ng_iy hb.2.2.1 rfl, ng_iy hb.2.2.2.1 rfl, ng_iy hb.2.2.2.2 rfl, trivial⟩
    by_cases c : -1 ≤ sy_r w0 cn (24 * a + k) ∧ sy_r w0 cn (24 * a + k) ≤ 7
    · refine ng_go (J := sx_tt) (Post := Post) (fx_p [(a : Int), f, n, k, sy_r w0 cn (24 * a + k)]) k1 hM ⟨(show (0 : Int) ≤ a by omega), (show (a : Int) ≤ 3 by omega), (show (0 : Int) ≤ f by omega), (show (f : Int) ≤ 63 by omega), (show (0 : Int) ≤ n by omega), (show (n : Int) ≤ 24 by omega), (show (0 : Int) ≤ k by omega), (show (k : Int) ≤ 23 by omega), c.1, c.2, trivial⟩ hC hsl trivial hO ht sx_ctn (fun _ _ _ => trivial) trivial ⟨fun ls2 st2 w2 t2 f2 q => ?_, trivial⟩
      obtain ⟨a1, a2, _⟩ := q
      cases ng_st0 a2
      obtain ⟨c0, c1, c2, c3, c4, _⟩ := a1
      refine ih (k + 1) (by omega) (fun i hi => ?_) ls2 w2 ⟨c0, ng_yi c1 rfl, ng_yi c2 rfl, ng_yi c3 rfl, ng_fi c4 (by show 1 + (1 * (k : Int) + 0) = _; omega)⟩ t2 (sx_Fr_trans hf0 f2)
      by_cases e : i = k
      · rw [e]; exact c
      · exact hg i (by omega)
    · have hv := sy_bd w0 cn (24 * a + k)
      obtain ⟨v, hv1, hv2, hv3⟩ : ∃ v ∈ [(-2147483648, -2), ((8 : Int), 2147483647)], v.1 ≤ sy_r w0 cn (24 * a + k) ∧ sy_r w0 cn (24 * a + k) ≤ v.2 := by
        by_cases c2 : sy_r w0 cn (24 * a + k) < -1
        · exact ⟨(-2147483648, -2), List.mem_cons_self, hv.1, by show _ ≤ (-2 : Int); omega⟩
        · exact ⟨(8, 2147483647), List.mem_cons_of_mem _ List.mem_cons_self, by show (8 : Int) ≤ _; omega, hv.2⟩
      refine ng_go (J := sx_tt) (Post := Post) (fx_p [(a : Int), f, n, k, sy_r w0 cn (24 * a + k)]) (List.all_eq_true.mp kk v hv1) hM ⟨(show (0 : Int) ≤ a by omega), (show (a : Int) ≤ 3 by omega), (show (0 : Int) ≤ f by omega), (show (f : Int) ≤ 63 by omega), (show (0 : Int) ≤ n by omega), (show (n : Int) ≤ 24 by omega), (show (0 : Int) ≤ k by omega), (show (k : Int) ≤ 23 by omega), hv2, hv3, trivial⟩ hC hsl trivial hO ht sx_ctn (fun _ _ _ => trivial) ⟨fun x w2 t2 f2 q => hbad x w2 t2 (sx_Fr_trans (ng_n2 hf0) f2) (sh_ans q.1) (bk_ok_no hkn c), trivial⟩ trivial
noncomputable def bk_O (cn co bo a f k : Nat) (w0 w : pq_W) : Prop := ∀ c : Nat, c < 64 → sy_r w co (bo + c) = if f ≤ c ∧ c < f + k then sy_r w0 cn (24 * a + (c - f)) else sy_r w0 co (bo + c)
theorem bk_l2 (hM : pq_tab[j]? = some M) (k3 : bk_3 j M r0 cn co bo h2 = true) (k4 : bk_4 j M r0 h2 = true) (hne : cn ≠ co) (ha : a < 4) (hf : f < 64) (hn : n ≤ 24) (hfn : f + n ≤ 64) (hok : bk_ok (sy_r w0 cn) a n = true) : ∀ (m k : Nat), k + m = n → ∀ ls w, bkB ls r0 a f n k → sx_Ty sx_T0 w → sx_Fr [(co, (bo : Int), (bo : Int) + 63)] w0 w → bk_O cn co bo a f k w0 w → ∃ res, pq_Go 299 M h2 ls [] w 0 0 res ∧ (sx_Ty sx_T0 res.2 ∧ sx_Fr [(co, (bo : Int), (bo : Int) + 63)] w0 res.2 ∧ bk_O cn co bo a f n w0 res.2 ∧ ∃ x : Int32, res.1 = some (.int x) ∧ x.toInt = n) := by
  intro m
  induction m with
  | zero =>
    intro k hk ls w hb ht hf0 hO
    have e : k = n := by omega
    subst e
    refine ng_go (J := sx_tt) (Post := fun res => sx_Ty sx_T0 res.2 ∧ sx_Fr [(co, (bo : Int), (bo : Int) + 63)] w0 res.2 ∧ bk_O cn co bo a f k w0 res.2 ∧ ∃ x : Int32, res.1 = some (.int x) ∧ x.toInt = k) (fx_p [(a : Int), f, k]) k4 hM ⟨(show (0 : Int) ≤ a by omega), (show (a : Int) ≤ 3 by omega), (show (0 : Int) ≤ f by omega), (show (f : Int) ≤ 63 by omega), (show (0 : Int) ≤ k by omega), (show (k : Int) ≤ 24 by omega), trivial⟩ trivial ⟨hb.1, ng_iy hb.2.1 rfl, ng_iy hb.2.2.1 rfl, ng_iy hb.2.2.2.1 rfl, ng_iy hb.2.2.2.2 rfl, trivial⟩ trivial trivial ht sx_ctn (fun _ _ _ => trivial) ⟨fun x w2 t2 f2 q => ?_, trivial⟩ trivial
    obtain ⟨y, y1, y2⟩ := q.1
    rw [sx_y_ev] at y2
    have f2 : sx_Fr [] w w2 := f2
    exact ⟨t2, sx_Fr_trans hf0 (ng_n2 f2), fun c hc => by rw [ng_nil f2 co (bo + c)]; exact hO c hc, y, y1, y2⟩
  | succ m ih =>
    intro k hk ls w hb ht hf0 hO
    have hkn : k < n := by omega
    have e0 : sy_r w cn (24 * a + k) = sy_r w0 cn (24 * a + k) := fr_no hf0 ⟨Or.inl (fun h => hne h.symm), trivial⟩
    have c := bk_ok_at hok hkn
    have hfk : f + k < 64 := by omega
    refine ng_go (J := sx_tt) (Post := fun res => sx_Ty sx_T0 res.2 ∧ sx_Fr [(co, (bo : Int), (bo : Int) + 63)] w0 res.2 ∧ bk_O cn co bo a f n w0 res.2 ∧ ∃ x : Int32, res.1 = some (.int x) ∧ x.toInt = n) (fx_p [(a : Int), f, n, k, sy_r w0 cn (24 * a + k)]) (List.all_eq_true.mp k3 (f + k) (List.mem_range.mpr hfk)) hM ⟨(show (0 : Int) ≤ a by omega), (show (a : Int) ≤ 3 by omega), (show (0 : Int) ≤ f by omega), (show (f : Int) ≤ 63 by omega), (show (0 : Int) ≤ n by omega), (show (n : Int) ≤ 24 by omega), (show (0 : Int) ≤ k by omega), (show (k : Int) ≤ 23 by omega), c.1, c.2, trivial⟩ ⟨by show 1 + (-1 * (n : Int) + (1 * (k : Int) + 0)) ≤ 0; omega, by show -((f + k : Nat) : Int) + (1 * (f : Int) + (1 * (k : Int) + 0)) ≤ 0; omega, by show ((f + k : Nat) : Int) + (-1 * (f : Int) + (-1 * (k : Int) + 0)) ≤ 0; omega, trivial⟩ ⟨hb.1, ng_iy hb.2.1 rfl, ng_iy hb.2.2.1 rfl, ng_iy hb.2.2.2.1 rfl, ng_iy hb.2.2.2.2 rfl, trivial⟩ trivial (bk_eo (k := 24 * a + k) (by show 0 + (24 * (a : Int) + (1 * (k : Int) + 0)) = _; omega) (by rw [sx_y_ev, e0]; rfl) trivial) ht sx_ctn (fun _ _ _ => trivial) trivial ⟨fun ls2 st2 w2 t2 f2 q => ?_, trivial⟩
    obtain ⟨a1, a2, a3, _⟩ := q
    cases ng_st0 a2
    obtain ⟨c0, c1, c2, c3, c4, _⟩ := a1
    have v : sy_r w2 co (bo + (f + k)) = sy_r w0 cn (24 * a + k) := by
      have h := a3.1
      rw [sx_y_ev, show sx_ev (fx_p [(a : Int), f, n, k, sy_r w0 cn (24 * a + k)]) ((bo : Int), [(1, 1), (3, 1)]) = ((bo + (f + k) : Nat) : Int) from by show (bo : Int) + (1 * (f : Int) + (1 * (k : Int) + 0)) = _; omega, Int.toNat_natCast] at h
      exact h
    have f2 : sx_Fr [(co, ((bo + (f + k) : Nat) : Int), ((bo + (f + k) : Nat) : Int))] w w2 := f2
    refine ih (k + 1) (by omega) ls2 w2 ⟨c0, ng_yi c1 rfl, ng_yi c2 rfl, ng_yi c3 rfl, ng_fi c4 (by show 1 + (1 * (k : Int) + 0) = _; omega)⟩ t2 (sx_Fr_trans hf0 (fr_wk (A := [(co, ((bo + (f + k) : Nat) : Int), ((bo + (f + k) : Nat) : Int))]) ⟨⟨(bo : Int), (bo : Int) + 63, List.mem_cons_self, by omega, by omega⟩, trivial⟩ f2)) (fun d hd => ?_)
    by_cases e : d = f + k
    · subst e
      rw [v, if_pos ⟨by omega, by omega⟩, show f + k - f = k by omega]
    · have e2 : sy_r w2 co (bo + d) = sy_r w co (bo + d) := fr_no f2 ⟨Or.inr (by omega), trivial⟩
      rw [e2, hO d hd]
      by_cases c5 : f ≤ d ∧ d < f + k
      · rw [if_pos c5, if_pos ⟨c5.1, by omega⟩]
      · rw [if_neg c5, if_neg (fun h => c5 ⟨h.1, by omega⟩)]
end BK
noncomputable def bk_X (a f wd n : Int) (N : Nat → Int) : Int := if a < 0 ∨ 3 < a ∨ f < 0 ∨ 63 < f then -1000001 else if wd = 0 then -1000002 else if 64 < f + n then -1000003 else if bk_ok N a.toNat n.toNat = true then n else -1000005
noncomputable def bk_G (a f wd n : Int) (N : Nat → Int) : Prop := ¬ (a < 0 ∨ 3 < a ∨ f < 0 ∨ 63 < f) ∧ wd ≠ 0 ∧ f + n ≤ 64 ∧ bk_ok N a.toNat n.toNat = true
noncomputable def bk_R (A0 : sx_A) (cw cs cn co bo : Nat) (a f : Int) (w : pq_W) (res : pq_R) : Prop := sx_Ty sx_T0 res.2 ∧ (∃ x : Int32, res.1 = some (.int x) ∧ x.toInt = bk_X a f (sy_r w cw a.toNat) (sy_r w cs a.toNat) (sy_r w cn)) ∧ ((¬ bk_G a f (sy_r w cw a.toNat) (sy_r w cs a.toNat) (sy_r w cn) ∧ sx_Fr A0 w res.2) ∨ (bk_G a f (sy_r w cw a.toNat) (sy_r w cs a.toNat) (sy_r w cn) ∧ sx_Fr [(co, (bo : Int), (bo : Int) + 63)] w res.2 ∧ bk_O cn co bo a.toNat f.toNat (sy_r w cs a.toNat).toNat w res.2))
theorem bk_gen {A0 : sx_A} {j : Nat} {M : pq_M} {r0 cw cs cn co bo h1 h2 : Nat} (ka : bk_a A0 j M r0 = true) (kc : bk_c A0 j M r0 cw = true) (kd : bk_d A0 j M r0 cw cs = true) (ke : bk_e j M r0 cw cs h1 = true) (k1 : bk_1 j M r0 cn h1 = true) (kk : bk_k A0 j M r0 cn h1 = true) (k2 : bk_2 j M r0 h1 h2 = true) (k3 : bk_3 j M r0 cn co bo h2 = true) (k4 : bk_4 j M r0 h2 = true) (hM : pq_tab[j]? = some M) (hne : cn ≠ co) (xa xf : Int32) {w : pq_W} (ht : sx_Ty sx_T0 w) (hw : ∀ s, s < 4 → sh_wd (sy_r w cw s)) (hs : ∀ s, s < 4 → 0 ≤ sy_r w cs s ∧ sy_r w cs s ≤ 24) : ∃ res, pq_Go 299 M 0 (lv_args 0 [.ref r0, .int xa, .int xf]) [] w 0 0 res ∧ bk_R A0 cw cs cn co bo xa.toInt xf.toInt w res := by
  have ra := sh_i32 xa
  have rf := sh_i32 xf
  unfold bk_a at ka
  rw [Bool.and_eq_true] at ka
  have sl : ng_sl0 (fx_p [xa.toInt, xf.toInt]) (lv_args 0 [.ref r0, .int xa, .int xf]) (as_sl r0 (fx_i 0) (fx_i 1)) := ⟨rfl, ng_iy ⟨xa, rfl, rfl⟩ rfl, ng_iy ⟨xf, rfl, rfl⟩ rfl, trivial⟩
  by_cases hA : xa.toInt < 0 ∨ 3 < xa.toInt
  · obtain ⟨i, m, l1, l2⟩ := sh_outm ra hA
    obtain ⟨res, g, t, f, z, hz, q⟩ := sh_one (ls := lv_args 0 [.ref r0, .int xa, .int xf]) (fx_p [xa.toInt, xf.toInt]) (List.all_eq_true.mp ka.1 i m) hM ⟨l1, l2, rf.1, rf.2, trivial⟩ sl trivial ht
    cases List.mem_singleton.mp hz
    obtain ⟨x, x1, x2⟩ := sh_ans q.1
    have hb : xa.toInt < 0 ∨ 3 < xa.toInt ∨ xf.toInt < 0 ∨ 63 < xf.toInt := by omega
    exact ⟨res, g, t, ⟨x, x1, by rw [x2]; unfold bk_X; rw [if_pos hb]⟩, Or.inl ⟨fun h => h.1 hb, f⟩⟩
  by_cases hF : ¬ (0 ≤ xf.toInt ∧ xf.toInt ≤ 63)
  · obtain ⟨i, m, l1, l2⟩ := su_outm rf hF
    obtain ⟨res, g, t, f, z, hz, q⟩ := sh_one (ls := lv_args 0 [.ref r0, .int xa, .int xf]) (fx_p [xa.toInt, xf.toInt]) (List.all_eq_true.mp ka.2 i m) hM ⟨(show 0 ≤ xa.toInt by omega), (show xa.toInt ≤ 3 by omega), l1, l2, trivial⟩ sl trivial ht
    cases List.mem_singleton.mp hz
    obtain ⟨x, x1, x2⟩ := sh_ans q.1
    have hb : xa.toInt < 0 ∨ 3 < xa.toInt ∨ xf.toInt < 0 ∨ 63 < xf.toInt := by omega
    exact ⟨res, g, t, ⟨x, x1, by rw [x2]; unfold bk_X; rw [if_pos hb]⟩, Or.inl ⟨fun h => h.1 hb, f⟩⟩
  have hF := Decidable.not_not.mp hF
  have hb : ¬ (xa.toInt < 0 ∨ 3 < xa.toInt ∨ xf.toInt < 0 ∨ 63 < xf.toInt) := by omega
  obtain ⟨a, ea⟩ : ∃ a : Nat, (a : Int) = xa.toInt := ⟨xa.toInt.toNat, by omega⟩
  have ha : a < 4 := by omega
  have eat : xa.toInt.toNat = a := by omega
  obtain ⟨f, ef⟩ : ∃ f : Nat, (f : Int) = xf.toInt := ⟨xf.toInt.toNat, by omega⟩
  have hf : f < 64 := by omega
  have eft : xf.toInt.toNat = f := by omega
  have hsa := hs a ha
  obtain ⟨n, en⟩ : ∃ n : Nat, (n : Int) = sy_r w cs a := ⟨(sy_r w cs a).toNat, by omega⟩
  have hn : n ≤ 24 := by omega
  have ent : (sy_r w cs a).toNat = n := by omega
  by_cases h0 : sy_r w cw a = 0
  · obtain ⟨res, g, t, fr, z, hz, q⟩ := sh_one (ls := lv_args 0 [.ref r0, .int xa, .int xf]) (fx_p [xa.toInt, xf.toInt]) kc hM ⟨(show 0 ≤ xa.toInt by omega), (show xa.toInt ≤ 3 by omega), hF.1, hF.2, trivial⟩ sl (bk_eo (k := a) (by rw [sx_y_ev]; exact ea.symm) (by rw [ng_ek]; exact h0) trivial) ht
    cases List.mem_singleton.mp hz
    obtain ⟨x, x1, x2⟩ := sh_ans q.1
    exact ⟨res, g, t, ⟨x, x1, by rw [x2]; unfold bk_X; rw [if_neg hb, eat, if_pos h0]⟩, Or.inl ⟨fun h => h.2.1 (by rw [eat]; exact h0), fr⟩⟩
  have hwa := hw a ha
  have hw1 : 1 ≤ sy_r w cw a ∧ sy_r w cw a ≤ 32 := by
    rcases hwa with h | h | h | h <;> omega
  have sl4 : ng_sl0 (fx_p [xa.toInt, xf.toInt, sy_r w cs a, sy_r w cw a]) (lv_args 0 [.ref r0, .int xa, .int xf]) (as_sl r0 (fx_i 0) (fx_i 1)) := ⟨rfl, ng_iy ⟨xa, rfl, rfl⟩ rfl, ng_iy ⟨xf, rfl, rfl⟩ rfl, trivial⟩
  have hO4 : ng_eqs (fx_p [xa.toInt, xf.toInt, sy_r w cs a, sy_r w cw a]) w [bk_p cw (sx_y 0) (fx_i 3), bk_p cs (sx_y 0) (fx_i 2)] := bk_eo (k := a) (by rw [sx_y_ev]; exact ea.symm) (by rw [sx_y_ev]; rfl) (bk_eo (k := a) (by rw [sx_y_ev]; exact ea.symm) (by rw [sx_y_ev]; rfl) trivial)
  by_cases hfn : 64 < xf.toInt + sy_r w cs a
  · obtain ⟨res, g, t, fr, z, hz, q⟩ := sh_onc (fx_p [xa.toInt, xf.toInt, sy_r w cs a, sy_r w cw a]) kd hM ⟨(show 0 ≤ xa.toInt by omega), (show xa.toInt ≤ 3 by omega), hF.1, hF.2, hsa.1, hsa.2, hw1.1, hw1.2, trivial⟩ ⟨by show 65 + (-1 * xf.toInt + (-1 * sy_r w cs a + 0)) ≤ 0; omega, trivial⟩ sl4 hO4 ht
    cases List.mem_singleton.mp hz
    obtain ⟨x, x1, x2⟩ := sh_ans q.1
    exact ⟨res, g, t, ⟨x, x1, by rw [x2]; unfold bk_X; rw [if_neg hb, eat, if_neg h0, if_pos hfn]⟩, Or.inl ⟨fun h => by have := h.2.2.1; rw [eat] at this; omega, fr⟩⟩
  refine ng_go (J := sx_tt) (Post := bk_R A0 cw cs cn co bo xa.toInt xf.toInt w) (fx_p [xa.toInt, xf.toInt, sy_r w cs a, sy_r w cw a]) ke hM ⟨(show 0 ≤ xa.toInt by omega), (show xa.toInt ≤ 3 by omega), hF.1, hF.2, hsa.1, hsa.2, hw1.1, hw1.2, trivial⟩ ⟨by show -64 + (1 * xf.toInt + (1 * sy_r w cs a + 0)) ≤ 0; omega, trivial⟩ sl4 trivial hO4 ht sx_ctn (fun _ _ _ => trivial) trivial ⟨fun ls2 st2 w2 t2 f2 q => ?_, trivial⟩
  obtain ⟨a1, a2, _⟩ := q
  cases ng_st0 a2
  obtain ⟨c0, c1, c2, c3, c4, _⟩ := a1
  have f2 : sx_Fr [] w w2 := f2
  refine bk_l1 (w0 := w) hM k1 kk ha hf hn (fun ls3 w3 hb3 t3 f3 hok => ?_) (fun r w3 t3 f3 hx hno => ?_) n 0 (by omega) (fun i hi => absurd hi (Nat.not_lt_zero i)) ls2 w2 ⟨c0, ng_yi c1 (show xa.toInt = _ from ea.symm), ng_yi c2 (show xf.toInt = _ from ef.symm), ng_yi c3 (show sy_r w cs a = _ from en.symm), ng_ki c4 rfl⟩ t2 f2
  · refine ng_go (J := sx_tt) (Post := bk_R A0 cw cs cn co bo xa.toInt xf.toInt w) (fx_p [(a : Int), f, n]) k2 hM ⟨(show (0 : Int) ≤ a by omega), (show (a : Int) ≤ 3 by omega), (show (0 : Int) ≤ f by omega), (show (f : Int) ≤ 63 by omega), (show (0 : Int) ≤ n by omega), (show (n : Int) ≤ 24 by omega), trivial⟩ trivial ⟨hb3.1, ng_iy hb3.2.1 rfl, ng_iy hb3.2.2.1 rfl, ng_iy hb3.2.2.2.1 rfl, ng_iy hb3.2.2.2.2 rfl, trivial⟩ trivial trivial t3 sx_ctn (fun _ _ _ => trivial) trivial ⟨fun ls4 st4 w4 t4 f4 q => ?_, trivial⟩
    obtain ⟨a1, a2, _⟩ := q
    cases ng_st0 a2
    obtain ⟨c0, c1, c2, c3, c4, _⟩ := a1
    have f4 : sx_Fr [] w w4 := sx_Fr_trans f3 f4
    obtain ⟨res, g, p1, p2, p3, x, p4, p5⟩ := bk_l2 (w0 := w) hM k3 k4 hne ha hf hn (by omega) hok n 0 (by omega) ls4 w4 ⟨c0, ng_yi c1 rfl, ng_yi c2 rfl, ng_yi c3 rfl, ng_ki c4 rfl⟩ t4 (ng_n2 f4) (fun c hc => by rw [if_neg (by omega)]; exact ng_nil f4 co (bo + c))
    have hG : bk_G xa.toInt xf.toInt (sy_r w cw xa.toInt.toNat) (sy_r w cs xa.toInt.toNat) (sy_r w cn) := ⟨hb, by rw [eat]; exact h0, by rw [eat]; omega, by rw [eat, ent]; exact hok⟩
    refine ⟨res, g, p1, ⟨x, p4, ?_⟩, Or.inr ⟨hG, p2, ?_⟩⟩
    · rw [p5]
      unfold bk_X
      rw [if_neg hb, eat, if_neg h0, if_neg hfn, ent, if_pos hok]
      exact en
    · rw [eat, eft, ent]
      exact p3
  · obtain ⟨x, x1, x2⟩ := hx
    refine ⟨t3, ⟨x, x1, ?_⟩, Or.inl ⟨fun h => ?_, f3⟩⟩
    · rw [x2]
      unfold bk_X
      rw [if_neg hb, eat, if_neg h0, if_neg hfn, ent, hno, if_neg (by decide)]
    · have := h.2.2.2
      rw [eat, ent, hno] at this
      cases this
