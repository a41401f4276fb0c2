/-! file, by hand over the checks -/
theorem fc_z_to {p : Nat → Int} {w : pq_W} {f : Nat} : ∀ (L : List Nat), (∀ x ∈ L, sy_r w 95 (320 + 34 * f + x) = 0) → ng_eqs p w (L.map fun (l : Nat) => mc_o (320 + 34 * (f : Int) + (l : Int)) (fx_k 0))
  | [], _ => trivial
  | x :: L, h => mc_eo (n := 320 + 34 * f + x) (by rw [ng_ek]; exact h x List.mem_cons_self) (by omega) (fc_z_to L (fun y hy => h y (List.mem_cons_of_mem _ hy)))
theorem fc_z_of {p : Nat → Int} {w : pq_W} {f : Nat} : ∀ (L : List Nat), ng_eqs p w (L.map fun (l : Nat) => mc_o (320 + 34 * (f : Int) + (l : Int)) (fx_k 0)) → ∀ x ∈ L, sy_r w 95 (320 + 34 * f + x) = 0
  | [], _, x, hx => by cases hx
  | y :: L, h, x, hx => by
    obtain ⟨h1, h2⟩ := mc_oe (n := 320 + 34 * f + y) h (by omega)
    rw [ng_ek] at h1
    cases List.mem_cons.mp hx with
    | inl e => rw [e]; exact h1
    | inr e => exact fc_z_of L h2 x e
noncomputable def flB (ls : pq_L) (p s f k : Int) : Prop := pq_lk ls 0 = some (.ref 94) ∧ ng_i ls 1 p ∧ ng_i ls 2 s ∧ ng_i ls 3 f ∧ ng_i ls 4 k
noncomputable def fl_A (f : Nat) : sx_A := [(95, 302 + 34 * f, 335 + 34 * f)]
theorem fl_zero {w0 : pq_W} {f : Nat} {p s : Int} {Post : pq_R → Prop} (hf : f < 30) (hp : 0 ≤ p ∧ p ≤ 11) (hs : 0 ≤ s ∧ s ≤ 3)
    (cont : ∀ ls w, flB ls p s f 34 → sx_Ty sx_T0 w → sx_Fr (fl_A f) w0 w → (∀ l : Nat, l < 8 → sy_r w 95 (320 + 34 * f + l) = 0) → ∃ res, pq_Go 299 pm_208 104 ls [] w 0 0 res ∧ Post res) :
    ∀ (m k : Nat), k + m = 34 → ∀ ls w, flB ls p s f k → sx_Ty sx_T0 w → sx_Fr (fl_A f) w0 w → (∀ l : Nat, l < 8 → 18 + l < k → sy_r w 95 (320 + 34 * f + l) = 0) → ∃ res, pq_Go 299 pm_208 104 ls [] w 0 0 res ∧ Post res := by
  intro m
  induction m with
  | zero =>
    intro k hk ls w hb ht hfr hz
    have hk : k = 34 := by omega
    subst hk
    exact cont ls w hb ht hfr (fun l hl => hz l hl (by omega))
  | succ m ih =>
    intro k hk ls w hb ht hfr hz
    by_cases e1 : k ≤ 17
    · have ck := List.all_eq_true.mp fc_4a f (List.mem_range.mpr hf)
      refine ng_go (J := sx_tt) (Post := Post) (fx_p [p, s, k]) ck rfl ⟨hp.1, hp.2, hs.1, hs.2, (show (0 : Int) ≤ k by omega), (show (k : Int) ≤ 17 by omega), trivial⟩ trivial ⟨hb.1, ng_iy hb.2.1 rfl, ng_iy hb.2.2.1 rfl, ng_ik hb.2.2.2.1 rfl, ng_iy hb.2.2.2.2 rfl, trivial⟩ trivial trivial ht sx_ctn (fun _ _ _ => trivial) trivial ⟨fun ls2 st2 w2 t2 f2 q => ?_, trivial⟩
      obtain ⟨a1, a2, _⟩ := q
      cases ng_st0 a2
      obtain ⟨c0, c1, c2, c3, c4, _⟩ := a1
      exact ih (k + 1) (by omega) ls2 w2 ⟨c0, ng_yi c1 rfl, ng_yi c2 rfl, ng_ki c3 rfl, ng_fi c4 (by show 1 + (1 * (k : Int) + 0) = _; omega)⟩ t2 (sx_Fr_trans hfr f2) (fun l hl hlk => by omega)
    · by_cases e2 : k ≤ 25
      · obtain ⟨l, el⟩ : ∃ l : Nat, k = 18 + l := ⟨k - 18, by omega⟩
        subst el
        have ck := List.all_eq_true.mp (fc_4 l (by omega)) f (List.mem_range.mpr hf)
        unfold fc_4k at ck
        refine ng_go (J := sx_tt) (Post := Post) (fx_p [p, s]) ck rfl ⟨hp.1, hp.2, hs.1, hs.2, trivial⟩ trivial ⟨hb.1, ng_iy hb.2.1 rfl, ng_iy hb.2.2.1 rfl, ng_ik hb.2.2.2.1 rfl, ng_ik hb.2.2.2.2 (by omega), trivial⟩ trivial (fc_z_to (List.range l) (fun x hx => by have := List.mem_range.mp hx; exact hz x (by omega) (by omega))) ht sx_ctn (fun _ _ _ => trivial) trivial ⟨fun ls2 st2 w2 t2 f2 q => ?_, trivial⟩
        obtain ⟨a1, a2, a3, _⟩ := q
        cases ng_st0 a2
        obtain ⟨c0, c1, c2, c3, c4, _⟩ := a1
        exact ih (18 + l + 1) (by omega) ls2 w2 ⟨c0, ng_yi c1 rfl, ng_yi c2 rfl, ng_ki c3 rfl, ng_ki c4 (by omega)⟩ t2 (sx_Fr_trans hfr f2) (fun x hx hxk => fc_z_of (List.range (l + 1)) a3 x (List.mem_range.mpr (by omega)))
      · have ck := List.all_eq_true.mp fc_4c f (List.mem_range.mpr hf)
        refine ng_go (J := sx_tt) (Post := Post) (fx_p [p, s, k]) ck rfl ⟨hp.1, hp.2, hs.1, hs.2, (show (26 : Int) ≤ k by omega), (show (k : Int) ≤ 33 by omega), trivial⟩ trivial ⟨hb.1, ng_iy hb.2.1 rfl, ng_iy hb.2.2.1 rfl, ng_ik hb.2.2.2.1 rfl, ng_iy hb.2.2.2.2 rfl, trivial⟩ trivial (fc_z_to (List.range 8) (fun x hx => by have := List.mem_range.mp hx; exact hz x (by omega) (by omega))) ht sx_ctn (fun _ _ _ => trivial) trivial ⟨fun ls2 st2 w2 t2 f2 q => ?_, trivial⟩
        obtain ⟨a1, a2, a3, _⟩ := q
        cases ng_st0 a2
        obtain ⟨c0, c1, c2, c3, c4, _⟩ := a1
        exact ih (k + 1) (by omega) ls2 w2 ⟨c0, ng_yi c1 rfl, ng_yi c2 rfl, ng_ki c3 rfl, ng_fi c4 (by show 1 + (1 * (k : Int) + 0) = _; omega)⟩ t2 (sx_Fr_trans hfr f2) (fun x hx _ => fc_z_of (List.range 8) a3 x (List.mem_range.mpr hx))
theorem fl_copy {w0 : pq_W} {f s sz : Nat} {p : Int} {Post : pq_R → Prop} (hf : f < 30) (hs : s < 4) (hp : 0 ≤ p ∧ p ≤ 11) (hsz : (sz : Int) = sy_r w0 99 s) (hz12 : sz ≤ 12) (hrow : ∀ k : Nat, k < sz → 0 ≤ irR w0 s k ∧ irR w0 s k ≤ 63)
    (cont : ∀ ls w, flB ls p s f sz → sx_Ty sx_T0 w → sx_Fr [(95, 308 + 34 * (f : Int), 319 + 34 * (f : Int))] w0 w → (∀ k : Nat, k < sz → sy_r w 95 (308 + 34 * f + k) = irR w0 s k) → ∃ res, pq_Go 299 pm_208 186 ls [] w 0 0 res ∧ Post res) :
    ∀ (m k : Nat), k + m = sz → ∀ ls w, flB ls p s f k → sx_Ty sx_T0 w → sx_Fr [(95, 308 + 34 * (f : Int), 319 + 34 * (f : Int))] w0 w → (∀ k' : Nat, k' < k → sy_r w 95 (308 + 34 * f + k') = irR w0 s k') → ∃ res, pq_Go 299 pm_208 186 ls [] w 0 0 res ∧ Post res := by
  intro m
  induction m with
  | zero =>
    intro k hk ls w hb ht hfr hc
    have hk : k = sz := by omega
    subst hk
    exact cont ls w hb ht hfr hc
  | succ m ih =>
    intro k hk ls w hb ht hfr hc
    have hk12 : k < 12 := by omega
    have ck := List.all_eq_true.mp (fc_6 k hk12) f (List.mem_range.mpr hf)
    unfold fc_6k at ck
    have hx := hrow k (by omega)
    refine ng_go (J := sx_tt) (Post := Post) (fx_p [p, s, sz, irR w0 s k]) ck rfl ⟨hp.1, hp.2, (show (0 : Int) ≤ s by omega), (show (s : Int) ≤ 3 by omega), (show (0 : Int) ≤ sz by omega), (show (sz : Int) ≤ 12 by omega), hx.1, hx.2, trivial⟩ ⟨by show 1 + (k : Int) + (-1 * (sz : Int) + 0) ≤ 0; omega, trivial⟩ ⟨hb.1, ng_iy hb.2.1 rfl, ng_iy hb.2.2.1 rfl, ng_ik hb.2.2.2.1 rfl, ng_ik hb.2.2.2.2 rfl, trivial⟩ trivial ⟨?_, ?_, trivial⟩ ht sx_ctn (fun _ _ _ => trivial) trivial ⟨fun ls2 st2 w2 t2 f2 q => ?_, trivial⟩
    · show sy_r w 99 (sx_ev _ (sx_y 1)).toNat = sx_ev _ (sx_y 2)
      rw [sx_y_ev, sx_y_ev]
      show sy_r w 99 (s : Int).toNat = (sz : Int)
      rw [Int.toNat_natCast, fr_no hfr ⟨Or.inl (by decide), trivial⟩, hsz]
    · show sy_r w 100 ((k : Int) + (24 * (s : Int) + 0)).toNat = sx_ev _ (sx_y 3)
      rw [sx_y_ev, show ((k : Int) + (24 * (s : Int) + 0)).toNat = 24 * s + k by omega, fr_no hfr ⟨Or.inl (by decide), trivial⟩]
      rfl
    · obtain ⟨a1, a2, a3, _⟩ := q
      cases ng_st0 a2
      obtain ⟨c0, c1, c2, c3, c4, _⟩ := a1
      have f2 : sx_Fr [(95, 308 + 34 * (f : Int) + (k : Int), 308 + 34 * (f : Int) + (k : Int))] w w2 := f2
      obtain ⟨v2, _⟩ := mc_oe (n := 308 + 34 * f + k) a3 (by omega)
      rw [sx_y_ev] at v2
      have v2 : sy_r w2 95 (308 + 34 * f + k) = irR w0 s k := v2
      refine ih (k + 1) (by omega) ls2 w2 ⟨c0, ng_yi c1 rfl, ng_yi c2 rfl, ng_ki c3 rfl, ng_ki c4 (by omega)⟩ t2 (sx_Fr_trans hfr (fr_w2 f2 ⟨⟨308 + 34 * (f : Int), 319 + 34 * (f : Int), List.mem_cons_self, by omega, by omega⟩, trivial⟩)) (fun k' hk' => ?_)
      by_cases e : k' = k
      · subst e
        exact v2
      · rw [fr_no f2 ⟨Or.inr (by omega), trivial⟩]
        exact hc k' (by omega)
/-- a row copied from a sheet -/
theorem ir_way {w w1 : pq_W} {s b : Nat} {lo : Int} (h : ir_ok w s lo) (h0 : sy_r w1 95 b = sy_r w 99 s) (hc : ∀ k : Nat, (k : Int) < sy_r w 99 s → sy_r w1 95 (b + 1 + k) = irR w s k) : mo_W (sy_r w1 95) b := by
  obtain ⟨h1, h2, h3, h4, h5⟩ := h
  have el : sy_r w1 95 (b + (sy_r w 99 s).toNat) = irR w s ((sy_r w 99 s).toNat - 1) := by
    rw [← hc ((sy_r w 99 s).toNat - 1) (by omega)]
    congr 1
    omega
  have hb := h3 ((sy_r w 99 s).toNat - 1) (by omega)
  refine ⟨by rw [h0]; exact h1, by rw [h0]; exact h2, by rw [h0, el]; exact h4, by rw [h0, el]; exact hb.2, ?_⟩
  rw [h0, el]
  exact gR_congr (fun i hi => (hc i (by omega)).symm) h5
theorem kz_file {xp xs : Int32} {w : pq_W} (ht : sx_Ty sx_T0 w) (hJ : JJ w) : ∃ res, pq_Ru 300 208 [.ref 94, .int xp, .int xs] w res ∧ kz_PGf w res := by
  have hy := mo_yT ht (Or.inl rfl)
  have hy3 : 0 ≤ sy_r w 95 3 ∧ sy_r w 95 3 ≤ 12 := hy.2.1
  have hy5 : 0 ≤ sy_r w 95 5 ∧ sy_r w 95 5 ≤ 30 := hy.2.2.1
  have hM := hJ.2.1
  have main : ∃ res, pq_Go 299 pm_208 0 (lv_args 0 [.ref 94, .int xp, .int xs]) [] w 0 0 res ∧ kz_PGf w res := by
    refine ng_go (J := sx_tt) (Post := kz_PGf w) (fx_p [xp.toInt, xs.toInt, sy_r w 95 3]) fc_1 rfl ⟨xp.minValue_le_toInt, xp.toInt_le, xs.minValue_le_toInt, xs.toInt_le, hy3.1, hy3.2, trivial⟩ trivial ⟨rfl, ng_iy ⟨xp, rfl, rfl⟩ rfl, ng_iy ⟨xs, rfl, rfl⟩ rfl, trivial⟩ trivial (mc_eo (n := 3) (by rw [sx_y_ev]; rfl) rfl trivial) ht sx_ctn (fun _ _ _ => trivial) ⟨fun x w2 t2 f2 a => kz_erGf hJ t2 f2 (mc_ans a.1), trivial⟩ ⟨fun ls1 st1 w1 t1 f1 q => ?_, trivial⟩
    obtain ⟨a1, a2, _, a4, _⟩ := q
    cases ng_st0 a2
    obtain ⟨c0, c1, c2, _⟩ := a1
    obtain ⟨d1, d2, d3, d4, _⟩ := a4
    have d1 : 0 + (-1 * xp.toInt + 0) ≤ 0 := d1
    have d2 : 1 + (1 * xp.toInt + (-1 * sy_r w 95 3 + 0)) ≤ 0 := d2
    have d3 : 0 + (-1 * xs.toInt + 0) ≤ 0 := d3
    have d4 : -3 + (1 * xs.toInt + 0) ≤ 0 := d4
    have hpv : 0 ≤ xp.toInt ∧ xp.toInt ≤ 11 := by omega
    have hsv : 0 ≤ xs.toInt ∧ xs.toInt ≤ 3 := by omega
    obtain ⟨s, es⟩ : ∃ s : Nat, (s : Int) = xs.toInt := ⟨xs.toInt.toNat, by omega⟩
    have hs4 : s < 4 := by omega
    have c0 : pq_lk ls1 0 = some (.ref 94) := c0
    have g1 : ng_i ls1 1 xp.toInt := ng_yi c1 rfl
    have g2 : ng_i ls1 2 xs.toInt := ng_yi c2 rfl
    have f1 : sx_Fr [(97, 0, 5)] w w1 := f1
    refine ng_go (J := sx_tt) (Post := kz_PGf w) (fx_p [xp.toInt, xs.toInt]) fc_2 rfl ⟨hpv.1, hpv.2, hsv.1, hsv.2, trivial⟩ trivial ⟨c0, ng_iy g1 rfl, ng_iy g2 rfl, trivial⟩ trivial trivial t1 sx_ctn (fun _ _ _ => trivial) ⟨fun x w2 t2 f2 q => kz_erGf hJ t2 (sx_Fr_trans f1 f2) (mc_ans q.1), trivial⟩ ⟨fun ls2 st2 w2 t2 f2 q => ?_, trivial⟩
    obtain ⟨a1, a2, _⟩ := q
    obtain ⟨c0, c1, c2, _⟩ := a1
    have c0 : pq_lk ls2 0 = some (.ref 94) := c0
    have g1 : ng_i ls2 1 xp.toInt := ng_yi c1 rfl
    have g2 : ng_i ls2 2 xs.toInt := ng_yi c2 rfl
    have f2 : sx_Fr [(97, 0, 5)] w w2 := sx_Fr_trans f1 f2
    match st2, a2 with
    | [.int y1, .int y2, .ref y3], a2 =>
      obtain ⟨z1, z2, z3, _⟩ := a2
      have z1 : y1.toInt = sx_ev _ (0, []) := z1
      have z2 : y2.toInt = sx_ev _ (sx_y 1) := z2
      have z3 : y3 = 94 := z3
      subst z3
      rw [ng_ek] at z1
      rw [sx_y_ev] at z2
      have z2 : y2.toInt = xs.toInt := z2
      obtain ⟨⟨r3, w3⟩, e1, t3, f3, x, rfl, hx⟩ := kx_isrow (w := w2) (s := s) (xs := y2) (xl := y1) t2 hs4 (by omega) (by omega)
      have t3 : sx_Ty sx_T0 w3 := t3
      have f3 : sx_Fr [(106, 0, 63), (107, 0, 63)] w2 w3 := f3
      have fA3 : sx_Fr [(97, 0, 5), (106, 0, 63), (107, 0, 63)] w w3 := fr_cat f2 f3
      have s3 : ∀ i, sy_r w3 95 i = sy_r w 95 i := fun i => fr_no fA3 ⟨Or.inl (by decide), Or.inl (by decide), Or.inl (by decide), trivial⟩
      -- an answer ahead of the writing
      have err : ∀ (x : Option Value) (w4 : pq_W), sx_Ty sx_T0 w4 → sx_Fr [(97, 0, 5)] w3 w4 → (∃ y : Int32, x = some (.int y)) → kz_PGf w (x, w4) := fun x w4 t4 f4 hx4 => by
        have fA4 : sx_Fr [(97, 0, 5), (106, 0, 63), (107, 0, 63), (97, 0, 5)] w w4 := fr_cat fA3 f4
        exact kz_mkGf hJ t4 fA4 ⟨⟨0, 100000, by decide, by omega, by omega⟩, ⟨0, 100000, by decide, by omega, by omega⟩, ⟨0, 100000, by decide, by omega, by omega⟩, ⟨0, 100000, by decide, by omega, by omega⟩, trivial⟩ (kz_fr hM t4 fA4 (fun i _ => ⟨Or.inl (by decide), Or.inl (by decide), Or.inl (by decide), Or.inl (by decide), trivial⟩)) hx4
      have back : ∃ res, pq_Go 299 pm_208 71 ls2 [.int x] w3 0 0 res ∧ kz_PGf w res := by
        rcases hx with hx | ⟨hx, hok⟩
        · exact ng_go (J := sx_tt) (Post := kz_PGf w) (fx_p [xp.toInt, xs.toInt]) fc_3z rfl ⟨hpv.1, hpv.2, hsv.1, hsv.2, trivial⟩ trivial ⟨c0, ng_iy g1 rfl, ng_iy g2 rfl, trivial⟩ ⟨by show x.toInt = sx_ev _ (0, []); rw [ng_ek, hx], trivial⟩ trivial t3 sx_ctn (fun _ _ _ => trivial) ⟨fun x w4 t4 f4 q => err x w4 t4 f4 (mc_ans q.1), trivial⟩ trivial
        · refine ng_go (J := sx_tt) (Post := kz_PGf w) (fx_p [xp.toInt, xs.toInt, sy_r w 95 5]) fc_3 rfl ⟨hpv.1, hpv.2, hsv.1, hsv.2, hy5.1, hy5.2, trivial⟩ trivial ⟨c0, ng_iy g1 rfl, ng_iy g2 rfl, trivial⟩ ⟨by show x.toInt = sx_ev _ (1, []); rw [ng_ek, hx], trivial⟩ (mc_eo (n := 5) (by rw [sx_y_ev, s3]; rfl) rfl trivial) t3 sx_ctn (fun _ _ _ => trivial) ⟨fun x w4 t4 f4 q => err x w4 t4 f4 (mc_ans q.1), trivial⟩ ⟨fun ls4 st4 w4 t4 f4 q => ?_, trivial⟩
          obtain ⟨a1, a2, _, a4, _⟩ := q
          cases ng_st0 a2
          obtain ⟨c0, c1, c2, c3, c4, _⟩ := a1
          have d5 : -29 + (1 * sy_r w 95 5 + 0) ≤ 0 := a4.1
          obtain ⟨f, ef⟩ : ∃ f : Nat, (f : Int) = sy_r w 95 5 := ⟨(sy_r w 95 5).toNat, by omega⟩
          have hf30 : f < 30 := by omega
          have f4 : sx_Fr [(97, 0, 5)] w3 w4 := f4
          refine fl_zero (w0 := w4) (f := f) (p := xp.toInt) (s := xs.toInt) (Post := kz_PGf w) hf30 hpv hsv ?_ 34 0 rfl ls4 w4 ⟨c0, ng_yi c1 rfl, ng_yi c2 rfl, ng_yi c3 ef.symm, ng_ki c4 rfl⟩ t4 (sx_Fr_refl _ _) (fun l _ h => by omega)
          intro ls5 w5 b5 t5 f5 z5
          have f5 : sx_Fr [(95, 302 + 34 * (f : Int), 335 + 34 * (f : Int))] w4 w5 := f5
          have fA5 : sx_Fr [(97, 0, 5), (106, 0, 63), (107, 0, 63), (97, 0, 5), (95, 302 + 34 * (f : Int), 335 + 34 * (f : Int))] w w5 := fr_cat (fr_cat fA3 f4) f5
          have h99 : sy_r w5 99 s = sy_r w2 99 s := by rw [fr_no f5 ⟨Or.inl (by decide), trivial⟩, fr_no f4 ⟨Or.inl (by decide), trivial⟩, fr_no f3 ⟨Or.inl (by decide), Or.inl (by decide), trivial⟩]
          have h100 : ∀ i, sy_r w5 100 i = sy_r w2 100 i := fun i => by rw [fr_no f5 ⟨Or.inl (by decide), trivial⟩, fr_no f4 ⟨Or.inl (by decide), trivial⟩, fr_no f3 ⟨Or.inl (by decide), Or.inl (by decide), trivial⟩]
          have hsz1 : 2 ≤ sy_r w2 99 s := hok.1
          have hsz2 : sy_r w2 99 s ≤ 12 := hok.2.1
          obtain ⟨sz, esz⟩ : ∃ sz : Nat, (sz : Int) = sy_r w2 99 s := ⟨(sy_r w2 99 s).toNat, by omega⟩
          have day0 : sy_r w5 95 0 = sy_r w 95 0 := fr_no fA5 ⟨Or.inl (by decide), Or.inl (by decide), Or.inl (by decide), Or.inl (by decide), Or.inr (by omega), trivial⟩
          have db := sy_rb w 95 0
          have ck := List.all_eq_true.mp fc_5 f (List.mem_range.mpr hf30)
          refine ng_go (J := sx_tt) (Post := kz_PGf w) (fx_p [xp.toInt, xs.toInt, sz, sy_r w 95 0]) ck rfl ⟨hpv.1, hpv.2, hsv.1, hsv.2, (show (0 : Int) ≤ sz by omega), (show (sz : Int) ≤ 12 by omega), db.1, db.2, trivial⟩ trivial ⟨b5.1, ng_iy b5.2.1 rfl, ng_iy b5.2.2.1 rfl, ng_ik b5.2.2.2.1 rfl, ng_ik b5.2.2.2.2 rfl, trivial⟩ trivial ⟨?_, mc_eo (n := 0) (by rw [sx_y_ev, day0]; rfl) rfl trivial⟩ t5 sx_ctn (fun _ _ _ => trivial) trivial ⟨fun ls6 st6 w6 t6 f6 q => ?_, trivial⟩
          · show sy_r w5 99 (sx_ev _ (sx_y 1)).toNat = sx_ev _ (sx_y 2)
            rw [sx_y_ev, sx_y_ev]
            show sy_r w5 99 xs.toInt.toNat = (sz : Int)
            rw [show xs.toInt.toNat = s by omega, h99, esz]
          obtain ⟨a1, a2, a3, _⟩ := q
          cases ng_st0 a2
          obtain ⟨c0, c1, c2, c3, c4, _⟩ := a1
          obtain ⟨v6, a3⟩ := mc_oe (n := 302 + 34 * f) a3 (by omega)
          obtain ⟨u6, _⟩ := mc_oe (n := 307 + 34 * f) a3 (by omega)
          rw [sx_y_ev] at v6 u6
          have v6 : sy_r w6 95 (302 + 34 * f) = xp.toInt := v6
          have u6 : sy_r w6 95 (307 + 34 * f) = sz := u6
          have f6 : sx_Fr [(95, 302 + 34 * (f : Int), 304 + 34 * (f : Int)), (95, 307 + 34 * (f : Int), 307 + 34 * (f : Int))] w5 w6 := f6
          have i6 : ∀ k, irR w6 s k = irR w2 s k := fun k => by
            show sy_r w6 100 _ = sy_r w2 100 _
            rw [fr_no f6 ⟨Or.inl (by decide), Or.inl (by decide), trivial⟩, h100]
          have h996 : sy_r w6 99 s = sy_r w2 99 s := by rw [fr_no f6 ⟨Or.inl (by decide), Or.inl (by decide), trivial⟩, h99]
          have bB6 : flB ls6 xp.toInt s f ((0 : Nat) : Int) := ⟨c0, ng_yi c1 rfl, ng_yi c2 es.symm, ng_ki c3 rfl, ng_ki c4 rfl⟩
          refine fl_copy (w0 := w6) (f := f) (s := s) (sz := sz) (p := xp.toInt) (Post := kz_PGf w) hf30 hs4 hpv (by rw [h996]; exact esz) (by omega) (fun k hk => by rw [i6]; have := hok.2.2.1 k (by omega); omega) ?_ sz 0 (by omega) ls6 w6 bB6 t6 (sx_Fr_refl _ _) (fun k' hk' => by omega)
          intro ls7 w7 b7 t7 f7 c7
          have fA7 : sx_Fr [(97, 0, 5), (106, 0, 63), (107, 0, 63), (97, 0, 5), (95, 302 + 34 * (f : Int), 335 + 34 * (f : Int)), (95, 302 + 34 * (f : Int), 304 + 34 * (f : Int)), (95, 307 + 34 * (f : Int), 307 + 34 * (f : Int)), (95, 308 + 34 * (f : Int), 319 + 34 * (f : Int))] w w7 := fr_cat (fr_cat fA5 f6) f7
          have so7 : ∀ i : Nat, ¬ (302 + 34 * f ≤ i ∧ i ≤ 335 + 34 * f) → sy_r w7 95 i = sy_r w 95 i := fun i hi => fr_no fA7 ⟨Or.inl (by decide), Or.inl (by decide), Or.inl (by decide), Or.inl (by decide), Or.inr (by omega), Or.inr (by omega), Or.inr (by omega), Or.inr (by omega), trivial⟩
          have h997 : sy_r w7 99 s = sz := by rw [fr_no f7 ⟨Or.inl (by decide), trivial⟩, h996, esz]
          refine ng_go (J := sx_tt) (Post := kz_PGf w) (fx_p [xp.toInt, s, sz, f]) fc_7 rfl ⟨hpv.1, hpv.2, (show (0 : Int) ≤ s by omega), (show (s : Int) ≤ 3 by omega), (show (0 : Int) ≤ sz by omega), (show (sz : Int) ≤ 12 by omega), (show (0 : Int) ≤ f by omega), (show (f : Int) ≤ 29 by omega), trivial⟩ trivial ⟨b7.1, ng_iy b7.2.1 rfl, ng_iy b7.2.2.1 rfl, ng_iy b7.2.2.2.1 rfl, ng_iy b7.2.2.2.2 rfl, trivial⟩ trivial ⟨?_, mc_eo (n := 5) (by rw [sx_y_ev, so7 5 (by omega)]; exact ef.symm) rfl trivial⟩ t7 sx_ctn (fun _ _ _ => trivial) ⟨fun x w8 t8 f8 q => ?_, trivial⟩ trivial
          · show sy_r w7 99 (sx_ev _ (sx_y 1)).toNat = sx_ev _ (sx_y 2)
            rw [sx_y_ev, sx_y_ev]
            show sy_r w7 99 (s : Int).toNat = (sz : Int)
            rw [Int.toNat_natCast, h997]
          obtain ⟨q1, q2, _⟩ := q
          obtain ⟨v8, _⟩ := mc_oe (n := 5) q2 rfl
          have v8 : sy_r w8 95 5 = 1 + (1 * (f : Int) + 0) := v8
          have f8 : sx_Fr [(95, 5, 5)] w7 w8 := f8
          have s8 : ∀ i : Nat, i ≠ 5 → sy_r w8 95 i = sy_r w7 95 i := fun i hi => fr_no f8 ⟨Or.inr (by omega), trivial⟩
          have fA8 : sx_Fr [(97, 0, 5), (106, 0, 63), (107, 0, 63), (97, 0, 5), (95, 302 + 34 * (f : Int), 335 + 34 * (f : Int)), (95, 302 + 34 * (f : Int), 304 + 34 * (f : Int)), (95, 307 + 34 * (f : Int), 307 + 34 * (f : Int)), (95, 308 + 34 * (f : Int), 319 + 34 * (f : Int)), (95, 5, 5)] w w8 := fr_cat fA7 f8
          have so : ∀ i : Nat, i ≠ 5 → ¬ (302 + 34 * f ≤ i ∧ i ≤ 335 + 34 * f) → sy_r w8 95 i = sy_r w 95 i := fun i h1 h2 => by rw [s8 i h1, so7 i h2]
          have hW : mo_W (sy_r w8 95) (307 + 34 * f) := by
            refine ir_way hok ?_ (fun k hk => ?_)
            · rw [s8 _ (by omega), fr_no f7 ⟨Or.inr (by omega), trivial⟩, u6, esz]
            · rw [show 307 + 34 * f + 1 + k = 308 + 34 * f + k by omega, s8 _ (by omega), c7 k (by omega), i6]
          have hpl : sy_r w8 95 (302 + 34 * f) = xp.toInt := by rw [s8 _ (by omega), fr_no f7 ⟨Or.inr (by omega), trivial⟩, v6]
          have hfe : ∀ l : Nat, l < 8 → sy_r w8 95 (320 + 34 * f + l) = 0 := fun l hl => by rw [s8 _ (by omega), fr_no f7 ⟨Or.inr (by omega), trivial⟩, fr_no f6 ⟨Or.inr (by omega), Or.inr (by omega), trivial⟩, z5 l hl]
          have hm0 : mo_N (sy_r w8 95) (fun _ _ => mo_B (sy_r w 95 0 / 100).toNat) := mo_file (f0 := f) hM.2 (mo_yT t8 (Or.inl rfl)) ef (so 3 (by omega) (by omega)) (by rw [v8, ← ef]; omega) (so 6 (by omega) (by omega)) (fun i h1 h2 h3 => so i (by omega) h3) hW (by rw [hpl]; omega) hfe
          refine kz_mkGf hJ t8 fA8 ⟨⟨0, 100000, by decide, by omega, by omega⟩, ⟨0, 100000, by decide, by omega, by omega⟩, ⟨0, 100000, by decide, by omega, by omega⟩, ⟨0, 100000, by decide, by omega, by omega⟩, (by first | exact ⟨138, 1321, by decide, by omega, by omega⟩ | exact ⟨4, 9, by decide, by omega, by omega⟩ | exact ⟨2, 2, by decide, by omega, by omega⟩ | exact ⟨302, 1321, by decide, by omega, by omega⟩), (by first | exact ⟨138, 1321, by decide, by omega, by omega⟩ | exact ⟨4, 9, by decide, by omega, by omega⟩ | exact ⟨2, 2, by decide, by omega, by omega⟩ | exact ⟨302, 1321, by decide, by omega, by omega⟩), (by first | exact ⟨138, 1321, by decide, by omega, by omega⟩ | exact ⟨4, 9, by decide, by omega, by omega⟩ | exact ⟨2, 2, by decide, by omega, by omega⟩ | exact ⟨302, 1321, by decide, by omega, by omega⟩), (by first | exact ⟨138, 1321, by decide, by omega, by omega⟩ | exact ⟨4, 9, by decide, by omega, by omega⟩ | exact ⟨2, 2, by decide, by omega, by omega⟩ | exact ⟨302, 1321, by decide, by omega, by omega⟩), (by first | exact ⟨138, 1321, by decide, by omega, by omega⟩ | exact ⟨4, 9, by decide, by omega, by omega⟩ | exact ⟨2, 2, by decide, by omega, by omega⟩ | exact ⟨302, 1321, by decide, by omega, by omega⟩), trivial⟩ ?_ (mc_ans q1)
          refine ⟨by rw [so 0 (by omega) (by omega)]; exact hM.1, ?_⟩
          rw [so 0 (by omega) (by omega)]
          exact hm0
      obtain ⟨res, e3, e4⟩ := back
      exact ⟨res, go_cl (j := 209) (n := 3) (as := [.ref 94, .int y2, .int y1]) (k1 := 30) rfl rfl rfl rfl rfl rfl rfl e1 e3, e4⟩
  obtain ⟨res, g1, g2⟩ := main
  refine ⟨res, ru_of (k := 299) (M := pm_208) rfl ?_ g1, g2⟩
  rw [Bool.and_eq_true]
  exact ⟨rfl, sq_rcv ht rfl rfl rfl⟩
