/-! right, by hand over the checks -/
theorem rt_loop {w0 : pq_W} {f a : Nat} (hJ : JJ w0) (hf30 : f < 30) (ha8 : a < 8) : ∀ (m l : Nat), l + m = 8 → ∀ (ls : pq_L) (w : pq_W) (d : Int), blB ls f a d l → bl_I w0 w f a → ∃ res, pq_Go 299 pm_225 66 ls [] w 0 0 res ∧ kz_P w0 res := by
  have hfv : (0 : Int) ≤ f ∧ (f : Int) ≤ 29 := by omega
  have hav : (0 : Int) ≤ a ∧ (a : Int) ≤ 7 := by omega
  intro m
  induction m with
  | zero =>
    intro l hl ls w d hb hI
    obtain ⟨t, fr, hm, _⟩ := hI
    have hd := ng_ib hb.2.2.2.1
    refine ng_go (J := sx_tt) (Post := kz_P w0) (fx_p [f, a, d]) rc_0 rfl ⟨hfv.1, hfv.2, hav.1, hav.2, hd.1, hd.2, trivial⟩ trivial ⟨hb.1, ng_iy hb.2.1 rfl, ng_iy hb.2.2.1 rfl, ng_iy hb.2.2.2.1 rfl, ng_ik hb.2.2.2.2 (show (l : Int) = 8 by omega), trivial⟩ trivial trivial t sx_ctn (fun _ _ _ => trivial) ⟨fun x w2 t2 f2 q => ?_, trivial⟩ trivial
    have f2 : sx_Fr [] w w2 := f2
    have e : sy_r w2 95 = sy_r w 95 := funext (fun i => ng_nil f2 95 i)
    exact bl_fin hJ t2 (sx_Fr_trans fr (ng_n2 f2)) (by rw [e]; exact hm) (mc_ans q.1)
  | succ m ih =>
    intro l hl ls w d hb hI
    obtain ⟨t, fr, hm, i5, ial, ibi, ien, idu⟩ := hI
    have hd := ng_ib hb.2.2.2.1
    have hl8 : l < 8 := by omega
    have hlv : (0 : Int) ≤ l ∧ (l : Int) ≤ 7 := by omega
    have du := idu l hl8
    have hdl : 0 ≤ sy_r w 95 (305 + 34 * f) ∧ sy_r w 95 (305 + 34 * f) ≤ 1 := by
      have := sy_rg (r := 95) t rfl (g := (302, 34, 30, 3, 3, 0, 1)) (by decide) (k := f) (j := 3) hf30 (Nat.le_refl _) (Nat.le_refl _) (by show 302 + 34 * f + 3 < 2858; omega)
      have this : 0 ≤ sy_r w 95 (302 + 34 * f + 3) ∧ sy_r w 95 (302 + 34 * f + 3) ≤ 1 := this
      rw [show 305 + 34 * f = 302 + 34 * f + 3 by omega]
      exact this
    refine ng_go (J := sx_tt) (Post := kz_P w0) (fx_p [f, a, d, l, sy_r w 95 (305 + 34 * f), sy_r w 108 l]) rc_1 rfl ⟨hfv.1, hfv.2, hav.1, hav.2, hd.1, hd.2, hlv.1, hlv.2, hdl.1, hdl.2, du.1, du.2, trivial⟩ trivial ⟨hb.1, ng_iy hb.2.1 rfl, ng_iy hb.2.2.1 rfl, ng_iy hb.2.2.2.1 rfl, ng_iy hb.2.2.2.2 rfl, trivial⟩ trivial ⟨?_, ?_, trivial⟩ t sx_ctn (fun _ _ _ => trivial) trivial ⟨fun ls1 st1 w1 t1 f1 q => ?_, trivial⟩
    · show sy_r w 95 (305 + (34 * (f : Int) + 0)).toNat = sx_ev _ (sx_y 4)
      rw [sx_y_ev, show (305 + (34 * (f : Int) + 0)).toNat = 305 + 34 * f by omega]
      rfl
    · show sy_r w 108 (sx_ev _ (sx_y 3)).toNat = sx_ev _ (sx_y 5)
      rw [sx_y_ev, sx_y_ev]
      show sy_r w 108 (l : Int).toNat = sy_r w 108 l
      rw [Int.toNat_natCast]
    obtain ⟨a1, a2, _⟩ := q
    cases ng_st0 a2
    obtain ⟨c0, c1, c2, c3, c4, ⟨xe, xe1, xe2, xe3⟩, _⟩ := a1
    have c0 : pq_lk ls1 0 = some (.ref 94) := c0
    have g1 : ng_i ls1 1 (f : Int) := ng_yi c1 rfl
    have g2 : ng_i ls1 2 (a : Int) := ng_yi c2 rfl
    have g3 : ng_i ls1 3 d := ng_yi c3 rfl
    have g4 : ng_i ls1 4 (l : Int) := ng_yi c4 rfl
    have g5 : ng_i ls1 5 xe.toInt := ⟨xe, xe1, rfl⟩
    have f1 : sx_Fr [] w w1 := f1
    have xe2 : 0 ≤ xe.toInt := xe2
    have xe3 : xe.toInt ≤ 1099690 := xe3
    have hfe : 0 ≤ sy_r w 95 (320 + 34 * f + l) ∧ sy_r w 95 (320 + 34 * f + l) ≤ 1099690 := ((hm.2.1.1 f i5).2.2 l hl8).1
    have hdb := mo_db hm (bl_yr hJ) ha8 hl8
    have k := hm.2.2 a ha8
    have hc : 0 ≤ sy_r w 95 (186 + 10 * a) ∧ sy_r w 95 (186 + 10 * a) ≤ 264925599 := ⟨k.2.1, k.2.2.1⟩
    have s1 : ∀ i, sy_r w1 95 i = sy_r w 95 i := fun i => ng_nil f1 95 i
    have ck2 := List.all_eq_true.mp (List.all_eq_true.mp rc_2 a (List.mem_range.mpr ha8)) l (List.mem_range.mpr hl8)
    rw [Bool.and_eq_true] at ck2
    obtain ⟨ck2a, ck2b⟩ := ck2
    -- from debt and coin as they are now on
    have next : ∀ (ls2 : pq_L) (w2 : pq_W), sx_Ty sx_T0 w2 → sx_Fr [(95, 186 + 10 * (a : Int), 186 + 10 * (a : Int)), (95, 188 + 10 * (a : Int) + (l : Int), 188 + 10 * (a : Int) + (l : Int))] w1 w2 → ng_sl (fx_p [f, d, xe.toInt, sy_r w 95 (320 + 34 * f + l), sy_r w 95 (188 + 10 * a + l), sy_r w 95 (186 + 10 * a)]) ls2 (ng_L (rc_sl a l) ++ [(6, .inr sy_full)]) → sy_r w2 95 (188 + 10 * a + l) = max 0 (sy_r w 95 (188 + 10 * a + l) + (xe.toInt - sy_r w 95 (320 + 34 * f + l))) → sy_r w2 95 (186 + 10 * a) = sy_r w 95 (186 + 10 * a) + max 0 (-(sy_r w 95 (188 + 10 * a + l) + (xe.toInt - sy_r w 95 (320 + 34 * f + l)))) → ∃ res, pq_Go 299 pm_225 176 ls2 [] w2 0 0 res ∧ kz_P w0 res := by
      intro ls2 w2 t2 f2 hsl vd vc
      obtain ⟨c0, c1, c2, c3, c4, c5, ⟨x6, x61, x62, x63⟩, _⟩ := hsl
      have c0 : pq_lk ls2 0 = some (.ref 94) := c0
      have g1 : ng_i ls2 1 (f : Int) := ng_yi c1 rfl
      have g2 : ng_i ls2 2 (a : Int) := ng_ki c2 rfl
      have g3 : ng_i ls2 3 d := ng_yi c3 rfl
      have g4 : ng_i ls2 4 (l : Int) := ng_ki c4 rfl
      have g5 : ng_i ls2 5 xe.toInt := ng_yi c5 rfl
      have g6 : ng_i ls2 6 x6.toInt := ⟨x6, x61, rfl⟩
      have ck3 := List.all_eq_true.mp (List.all_eq_true.mp rc_3 f (List.mem_range.mpr hf30)) l (List.mem_range.mpr hl8)
      refine ng_go (J := sx_tt) (Post := kz_P w0) (fx_p [a, d, xe.toInt, x6.toInt]) ck3 rfl ⟨hav.1, hav.2, hd.1, hd.2, xe2, xe3, x62, x63, trivial⟩ trivial ⟨c0, ng_ik g1 rfl, ng_iy g2 rfl, ng_iy g3 rfl, ng_ik g4 rfl, ng_iy g5 rfl, ng_iy g6 rfl, trivial⟩ trivial trivial t2 sx_ctn (fun _ _ _ => trivial) trivial ⟨fun ls3 st3 w3 t3 f3 q => ?_, trivial⟩
      obtain ⟨a1, a2, a3, _⟩ := q
      cases ng_st0 a2
      obtain ⟨c0, c1, c2, ⟨x3, x31, _⟩, c4, _⟩ := a1
      have c0 : pq_lk ls3 0 = some (.ref 94) := c0
      have g1 : ng_i ls3 1 (f : Int) := ng_ki c1 rfl
      have g2 : ng_i ls3 2 (a : Int) := ng_yi c2 rfl
      have g4 : ng_i ls3 4 ((l + 1 : Nat) : Int) := ng_ki c4 (by omega)
      have f3 : sx_Fr [(95, 320 + 34 * (f : Int) + (l : Int), 320 + 34 * (f : Int) + (l : Int))] w2 w3 := f3
      obtain ⟨v3, _⟩ := mc_oe (n := 320 + 34 * f + l) a3 (by omega)
      rw [sx_y_ev] at v3
      have v3 : sy_r w3 95 (320 + 34 * f + l) = xe.toInt := v3
      have fall : sx_Fr [(95, 186 + 10 * (a : Int), 186 + 10 * (a : Int)), (95, 188 + 10 * (a : Int) + (l : Int), 188 + 10 * (a : Int) + (l : Int)), (95, 320 + 34 * (f : Int) + (l : Int), 320 + 34 * (f : Int) + (l : Int))] w w3 := fr_cat (fr_cat f1 f2) f3
      have so : ∀ i : Nat, i ≠ 186 + 10 * a → i ≠ 188 + 10 * a + l → i ≠ 320 + 34 * f + l → sy_r w3 95 i = sy_r w 95 i := fun i h1 h2 h3 => fr_no fall ⟨Or.inr (by omega), Or.inr (by omega), Or.inr (by omega), trivial⟩
      have hy3 := mo_yT t3 (Or.inl rfl)
      have hm3 : mo_N (sy_r w3 95) (fun _ _ => mo_B (sy_r w0 95 0 / 100).toNat) := mo_right (f0 := f) (a0 := a) (l0 := l) (e := xe.toInt) hm (mo_B_nn _) hy3 i5 ha8 hl8 ial ⟨xe2, xe3⟩ ibi ien (so 3 (by omega) (by omega) (by omega)) (so 5 (by omega) (by omega) (by omega)) (so 6 (by omega) (by omega) (by omega)) (fun i i1 i2 i3 => so i (by omega) (by omega) i3) v3 (fun i i1 i2 i3 i4 => so i i3 i4 (by omega)) (by rw [fr_no f3 ⟨Or.inr (by omega), trivial⟩]; exact vd) (by rw [fr_no f3 ⟨Or.inr (by omega), trivial⟩]; exact vc)
      have frb : sx_Fr bl_A w0 w3 := sx_Fr_trans fr (fr_w2 fall ⟨⟨186, 265, by decide, by omega, by omega⟩, ⟨186, 265, by decide, by omega, by omega⟩, ⟨302, 1321, by decide, by omega, by omega⟩, trivial⟩)
      have hpl := hm.1.2.2.2.2.1 f hf30
      refine ih (l + 1) (by omega) ls3 w3 x3.toInt ⟨c0, g1, g2, ⟨x3, x31, rfl⟩, g4⟩ ⟨t3, frb, hm3, by rw [so 5 (by omega) (by omega) (by omega)]; exact i5, ?_, by rw [so _ (by omega) (by omega) (by omega)]; exact ibi, by rw [so _ (by omega) (by omega) (by omega)]; exact ien, fun l' hl' => ?_⟩
      · rw [mo_al_congr (N := sy_r w 95) (so _ (by omega) (by omega) (by omega)) (so _ (by omega) (by omega) (by omega))]
        exact ial
      · rw [fr_no fall ⟨Or.inl (by decide), Or.inl (by decide), Or.inl (by decide), trivial⟩]
        exact idu l' hl'
    have eqs : ∀ {p : Nat → Int}, p 0 = f → p 3 = sy_r w 95 (320 + 34 * f + l) → p 4 = sy_r w 95 (188 + 10 * a + l) → p 5 = sy_r w 95 (186 + 10 * a) → ng_eqs p w1 [(95, (320 + (l : Int), [(0, 34)]), fx_i 3), mc_o (188 + 10 * a + l) (fx_i 4), mc_o (186 + 10 * a) (fx_i 5)] := by
      intro p p0 p3 p4 p5
      refine ⟨?_, mc_eo (n := 188 + 10 * a + l) (by rw [sx_y_ev, s1]; exact p4.symm) (by omega) (mc_eo (n := 186 + 10 * a) (by rw [sx_y_ev, s1]; exact p5.symm) (by omega) trivial)⟩
      show sy_r w1 95 (320 + (l : Int) + (34 * p 0 + 0)).toNat = sx_ev _ (sx_y 3)
      rw [sx_y_ev, p0, show (320 + (l : Int) + (34 * (f : Int) + 0)).toNat = 320 + 34 * f + l by omega, s1, p3]
    unfold rc_ck at ck2a ck2b
    by_cases e : 0 ≤ sy_r w 95 (188 + 10 * a + l) + (xe.toInt - sy_r w 95 (320 + 34 * f + l))
    · refine ng_go (J := sx_tt) (Post := kz_P w0) (fx_p [f, d, xe.toInt, sy_r w 95 (320 + 34 * f + l), sy_r w 95 (188 + 10 * a + l), sy_r w 95 (186 + 10 * a)]) ck2a rfl ⟨hfv.1, hfv.2, hd.1, hd.2, xe2, xe3, hfe.1, hfe.2, hdb.1, hdb.2, hc.1, hc.2, trivial⟩ ⟨by show 0 + (-1 * xe.toInt + (1 * sy_r w 95 (320 + 34 * f + l) + (-1 * sy_r w 95 (188 + 10 * a + l) + 0))) ≤ 0; omega, trivial⟩ ⟨c0, ng_iy g1 rfl, ng_ik g2 rfl, ng_iy g3 rfl, ng_ik g4 rfl, ng_iy g5 rfl, trivial⟩ trivial (eqs rfl rfl rfl rfl) t1 sx_ctn (fun _ _ _ => trivial) trivial ⟨fun ls2 st2 w2 t2 f2 q => ?_, trivial⟩
      obtain ⟨a1, a2, a3, _⟩ := q
      cases ng_st0 a2
      obtain ⟨v1, a3⟩ := mc_oe (n := 188 + 10 * a + l) a3 (by omega)
      obtain ⟨v2, _⟩ := mc_oe (n := 186 + 10 * a) a3 (by omega)
      have v1 : sy_r w2 95 (188 + 10 * a + l) = 0 + (1 * xe.toInt + (-1 * sy_r w 95 (320 + 34 * f + l) + (1 * sy_r w 95 (188 + 10 * a + l) + 0))) := v1
      have v2 : sy_r w2 95 (186 + 10 * a) = 0 + (1 * sy_r w 95 (186 + 10 * a) + 0) := v2
      exact next ls2 w2 t2 f2 a1 (by omega) (by omega)
    · refine ng_go (J := sx_tt) (Post := kz_P w0) (fx_p [f, d, xe.toInt, sy_r w 95 (320 + 34 * f + l), sy_r w 95 (188 + 10 * a + l), sy_r w 95 (186 + 10 * a)]) ck2b rfl ⟨hfv.1, hfv.2, hd.1, hd.2, xe2, xe3, hfe.1, hfe.2, hdb.1, hdb.2, hc.1, hc.2, trivial⟩ ⟨by show 1 + (1 * xe.toInt + (-1 * sy_r w 95 (320 + 34 * f + l) + (1 * sy_r w 95 (188 + 10 * a + l) + 0))) ≤ 0; omega, trivial⟩ ⟨c0, ng_iy g1 rfl, ng_ik g2 rfl, ng_iy g3 rfl, ng_ik g4 rfl, ng_iy g5 rfl, trivial⟩ trivial (eqs rfl rfl rfl rfl) t1 sx_ctn (fun _ _ _ => trivial) trivial ⟨fun ls2 st2 w2 t2 f2 q => ?_, trivial⟩
      obtain ⟨a1, a2, a3, _⟩ := q
      cases ng_st0 a2
      obtain ⟨v1, a3⟩ := mc_oe (n := 188 + 10 * a + l) a3 (by omega)
      obtain ⟨v2, _⟩ := mc_oe (n := 186 + 10 * a) a3 (by omega)
      rw [ng_ek] at v1
      have v2 : sy_r w2 95 (186 + 10 * a) = 0 + (-1 * xe.toInt + (1 * sy_r w 95 (320 + 34 * f + l) + (-1 * sy_r w 95 (188 + 10 * a + l) + (1 * sy_r w 95 (186 + 10 * a) + 0)))) := v2
      exact next ls2 w2 t2 f2 a1 (by omega) (by omega)
theorem kz_right {xf : Int32} {w : pq_W} (ht : sx_Ty sx_T0 w) (hJ : JJ w) : ∃ res, pq_Ru 300 225 [.ref 94, .int xf] w res ∧ kz_P w res := by
  have hy := mo_yT ht (Or.inl rfl)
  have hy5 : 0 ≤ sy_r w 95 5 ∧ sy_r w 95 5 ≤ 30 := hy.2.2.1
  have hM := hJ.2.1
  have main : ∃ res, pq_Go 299 pm_225 0 (lv_args 0 [.ref 94, .int xf]) [] w 0 0 res ∧ kz_P w res := by
    have ck := List.all_eq_true.mp bc_1 (225, pm_225) (List.mem_cons_of_mem _ List.mem_cons_self)
    refine ng_go (J := sx_tt) (Post := kz_P w) (fx_p [xf.toInt, sy_r w 95 5]) ck rfl ⟨xf.minValue_le_toInt, xf.toInt_le, hy5.1, hy5.2, trivial⟩ trivial ⟨rfl, ng_iy ⟨xf, rfl, rfl⟩ rfl, trivial⟩ trivial (mc_eo (n := 5) (by rw [sx_y_ev]; rfl) rfl trivial) ht sx_ctn (fun _ _ _ => trivial) ⟨fun x w2 t2 f2 a => kz_er hJ t2 f2 (mc_ans a.1), trivial⟩ ⟨fun ls1 st1 w1 t1 f1 q => ?_, trivial⟩
    obtain ⟨a1, a2, _, a4, _⟩ := q
    cases ng_st0 a2
    obtain ⟨c0, c1, _⟩ := a1
    obtain ⟨d1, d2, _⟩ := a4
    have d1 : 0 + (-1 * xf.toInt + 0) ≤ 0 := d1
    have d2 : 1 + (1 * xf.toInt + (-1 * sy_r w 95 5 + 0)) ≤ 0 := d2
    obtain ⟨f, ef⟩ : ∃ f : Nat, (f : Int) = xf.toInt := ⟨xf.toInt.toNat, by omega⟩
    have hf30 : f < 30 := by omega
    have hf5 : (f : Int) < sy_r w 95 5 := by omega
    have f1 : sx_Fr [(97, 0, 5)] w w1 := f1
    have s1 : ∀ i, sy_r w1 95 i = sy_r w 95 i := fun i => fr_no f1 ⟨Or.inl (by decide), trivial⟩
    have c0 : pq_lk ls1 0 = some (.ref 94) := c0
    have g1 : ng_i ls1 1 (f : Int) := ng_yi c1 (show xf.toInt = (f : Int) by omega)
    have hfv : (0 : Int) ≤ f ∧ (f : Int) ≤ 29 := by omega
    have hpl : 0 ≤ sy_r w 95 (302 + 34 * f) ∧ sy_r w 95 (302 + 34 * f) ≤ 11 := hy.2.2.2.2.1 f hf30
    obtain ⟨pn, epn⟩ : ∃ pn : Nat, (pn : Int) = sy_r w 95 (302 + 34 * f) := ⟨(sy_r w 95 (302 + 34 * f)).toNat, by omega⟩
    have hal : 0 ≤ sy_r w 95 (267 + 3 * pn) ∧ sy_r w 95 (267 + 3 * pn) ≤ 7 := hy.2.2.2.2.2 pn (by omega)
    obtain ⟨a, ea⟩ : ∃ a : Nat, (a : Int) = sy_r w 95 (267 + 3 * pn) := ⟨(sy_r w 95 (267 + 3 * pn)).toNat, by omega⟩
    have ha8 : a < 8 := by omega
    have hav : (0 : Int) ≤ a ∧ (a : Int) ≤ 7 := by omega
    have ial : mo_al (sy_r w 95) f = a := by
      unfold mo_al
      rw [show (sy_r w 95 (302 + 34 * f)).toNat = pn by omega]
      exact ea.symm
    have bb := sy_rb w 95 (304 + 34 * f)
    have he : 0 ≤ sy_r w 95 (187 + 10 * a) ∧ sy_r w 95 (187 + 10 * a) ≤ 1 := by
      have := sy_rg (r := 95) ht rfl (g := (186, 10, 8, 1, 1, 0, 1)) (by decide) (k := a) (j := 1) ha8 (Nat.le_refl _) (Nat.le_refl _) (by show 186 + 10 * a + 1 < 2858; omega)
      have this : 0 ≤ sy_r w 95 (186 + 10 * a + 1) ∧ sy_r w 95 (186 + 10 * a + 1) ≤ 1 := this
      rw [show 187 + 10 * a = 186 + 10 * a + 1 by omega]
      exact this
    refine ng_go (J := sx_tt) (Post := kz_P w) (fx_p [f, pn, a, sy_r w 95 (304 + 34 * f), sy_r w 95 (187 + 10 * a)]) bc_2r rfl ⟨hfv.1, hfv.2, (show (0 : Int) ≤ pn by omega), (show (pn : Int) ≤ 11 by omega), hav.1, hav.2, bb.1, bb.2, he.1, he.2, trivial⟩ trivial ⟨c0, ng_iy g1 rfl, trivial⟩ trivial ⟨?_, ?_, ?_, ?_, trivial⟩ t1 sx_ctn (fun _ _ _ => trivial) ⟨fun x w2 t2 f2 q => kz_er hJ t2 (sx_Fr_trans f1 f2) (mc_ans q.1), trivial⟩ ⟨fun ls2 st2 w2 t2 f2 q => ?_, trivial⟩
    · show sy_r w1 95 (302 + (34 * (f : Int) + 0)).toNat = sx_ev _ (sx_y 1)
      rw [sx_y_ev, show (302 + (34 * (f : Int) + 0)).toNat = 302 + 34 * f by omega, s1]
      exact epn.symm
    · show sy_r w1 95 (267 + (3 * (pn : Int) + 0)).toNat = sx_ev _ (sx_y 2)
      rw [sx_y_ev, show (267 + (3 * (pn : Int) + 0)).toNat = 267 + 3 * pn by omega, s1]
      exact ea.symm
    · show sy_r w1 95 (304 + (34 * (f : Int) + 0)).toNat = sx_ev _ (sx_y 3)
      rw [sx_y_ev, show (304 + (34 * (f : Int) + 0)).toNat = 304 + 34 * f by omega, s1]
      rfl
    · show sy_r w1 95 (187 + (10 * (a : Int) + 0)).toNat = sx_ev _ (sx_y 4)
      rw [sx_y_ev, show (187 + (10 * (a : Int) + 0)).toNat = 187 + 10 * a by omega, s1]
      rfl
    obtain ⟨a1, a2, _, a4, _⟩ := q
    obtain ⟨c0, c1, c2, _⟩ := a1
    have c0 : pq_lk ls2 0 = some (.ref 94) := c0
    have g1 : ng_i ls2 1 (f : Int) := ng_yi c1 rfl
    have g2 : ng_i ls2 2 (a : Int) := ng_yi c2 rfl
    have d3 : 0 + (-1 * sy_r w 95 (304 + 34 * f) + 0) ≤ 0 := a4.1
    have d4 : 0 + (1 * sy_r w 95 (187 + 10 * a) + 0) ≤ 0 := a4.2.1
    have f2 : sx_Fr [(97, 0, 5)] w w2 := sx_Fr_trans f1 f2
    have s2 : ∀ i, sy_r w2 95 i = sy_r w 95 i := fun i => fr_no f2 ⟨Or.inl (by decide), trivial⟩
    have e2 : sy_r w2 95 = sy_r w 95 := funext s2
    have j2 : sy_J0 w2 := sy_J0I w w2 hJ.1 t2 (sx_Fr_sub (by decide +kernel) f2)
    match st2, a2 with
    | [.int y1, .int y2, .int y3, .ref y4], a2 =>
      obtain ⟨z1, z2, z3, z4, _⟩ := a2
      have z1 : y1.toInt = sx_ev _ (-1, []) := z1
      have z2 : y2.toInt = sx_ev _ (1, []) := z2
      have z3 : y3.toInt = sx_ev _ (sx_y 0) := z3
      have z4 : y4 = 94 := z4
      subst z4
      rw [ng_ek] at z1 z2
      rw [sx_y_ev] at z3
      have z3 : y3.toInt = f := z3
      obtain ⟨⟨r3, w3⟩, e1, t3, f3, ⟨xg, rfl, xg1, xg2⟩, du⟩ := kx_fees (w := w2) (f := f) (xf := y3) (xt := y2) (xb := y1) t2 j2 hf30 (ff_W_of (by rw [e2]; exact hM.2.2.1) (by rw [s2]; exact hf5)) z3 (by omega) (by omega)
      have t3 : sx_Ty sx_T0 w3 := t3
      have f3 : sx_Fr ff_FA w2 w3 := f3
      have back : ∃ res, pq_Go 299 pm_225 51 ls2 [.int xg] w3 0 0 res ∧ kz_P w res := by
        have fA3 : sx_Fr [(97, 0, 5), (105, 0, 100000), (106, 0, 63), (107, 0, 63), (108, 0, 7)] w w3 := fr_cat f2 f3
        have fB3 : sx_Fr bl_A w w3 := fr_w2 fA3 ⟨⟨0, 5, by decide, by omega, by omega⟩, ⟨0, 100000, by decide, by omega, by omega⟩, ⟨0, 100000, by decide, by omega, by omega⟩, ⟨0, 100000, by decide, by omega, by omega⟩, ⟨0, 100000, by decide, by omega, by omega⟩, trivial⟩
        have s3 : ∀ i, sy_r w3 95 i = sy_r w 95 i := fun i => by rw [ff_95 f3, s2]
        have e3 : sy_r w3 95 = sy_r w 95 := funext s3
        refine ng_go (J := sx_tt) (Post := kz_P w) (fx_p [f, a, xg.toInt]) bc_3r rfl ⟨hfv.1, hfv.2, hav.1, hav.2, xg1, xg2, trivial⟩ trivial ⟨c0, ng_iy g1 rfl, ng_iy g2 rfl, trivial⟩ ⟨by show xg.toInt = sx_ev _ (sx_y 2); rw [sx_y_ev]; rfl, trivial⟩ trivial t3 sx_ctn (fun _ _ _ => trivial) ⟨fun x w4 t4 f4 q => ?_, trivial⟩ ⟨fun ls4 st4 w4 t4 f4 q => ?_, trivial⟩
        · have f4 : sx_Fr [(97, 0, 5)] w3 w4 := f4
          have e4 : sy_r w4 95 = sy_r w 95 := funext (fun i => by rw [fr_no f4 ⟨Or.inl (by decide), trivial⟩, s3])
          exact bl_fin hJ t4 (sx_Fr_trans fB3 (fr_w2 f4 ⟨⟨0, 5, by decide, by omega, by omega⟩, trivial⟩)) (by rw [e4]; exact hM.2) (mc_ans q.1)
        · obtain ⟨a1, a2, _⟩ := q
          cases ng_st0 a2
          obtain ⟨c0, c1, c2, c3, c4, _⟩ := a1
          have f4 : sx_Fr [(97, 0, 5)] w3 w4 := f4
          have fB4 : sx_Fr bl_A w w4 := sx_Fr_trans fB3 (fr_w2 f4 ⟨⟨0, 5, by decide, by omega, by omega⟩, trivial⟩)
          have s4 : ∀ i, sy_r w4 95 i = sy_r w 95 i := fun i => by rw [fr_no f4 ⟨Or.inl (by decide), trivial⟩, s3]
          have e4 : sy_r w4 95 = sy_r w 95 := funext s4
          refine rt_loop hJ hf30 ha8 8 0 rfl ls4 w4 0 ⟨c0, ng_yi c1 rfl, ng_yi c2 rfl, ng_ki c3 rfl, ng_ki c4 rfl⟩ ⟨t4, fB4, by rw [e4]; exact hM.2, by rw [s4]; exact hf5, by rw [e4]; exact ial, by rw [s4]; omega, by rw [s4]; omega, fun l hl => ?_⟩
          rw [fr_no f4 ⟨Or.inl (by decide), trivial⟩]
          exact du l hl
      obtain ⟨res, e3, e4⟩ := back
      exact ⟨res, go_cl (j := 223) (n := 4) (as := [.ref 94, .int y3, .int y2, .int y1]) (k1 := 100) rfl rfl rfl rfl rfl rfl rfl e1 e3, e4⟩
  obtain ⟨res, g1, g2⟩ := main
  refine ⟨res, ru_of (k := 299) (M := pm_225) rfl ?_ g1, g2⟩
  rw [Bool.and_eq_true]
  exact ⟨rfl, sq_rcv ht rfl rfl rfl⟩
