/-! fly, by hand over the checks -/
noncomputable def fyB (ls : pq_L) (p s b k : Int) : Prop := pq_lk ls 0 = some (.ref 94) ∧ ng_i ls 1 p ∧ ng_i ls 2 s ∧ ng_i ls 4 b ∧ ng_i ls 5 k
theorem fy_copy {w0 : pq_W} {t s sz : Nat} {p : Int} {Post : pq_R → Prop} (hf : t < 40) (hs : s < 4) (hp : 0 ≤ p ∧ p ≤ 29) (hsz : (sz : Int) = sy_r w0 99 s) (hz12 : sz ≤ 12) (hrow : ∀ k : Nat, k < sz → -1 ≤ irR w0 s k ∧ irR w0 s k ≤ 63)
    (cont : ∀ ls w, fyB ls p s (1322 + 15 * (t : Int)) sz → sx_Ty sx_T0 w → sx_Fr [(95, 1325 + 15 * (t : Int), 1336 + 15 * (t : Int))] w0 w → (∀ k : Nat, k < sz → sy_r w 95 (1325 + 15 * t + k) = irR w0 s k) → ∃ res, pq_Go 299 pm_212 129 ls [] w 0 0 res ∧ Post res) :
    ∀ (m k : Nat), k + m = sz → ∀ ls w, fyB ls p s (1322 + 15 * (t : Int)) k → sx_Ty sx_T0 w → sx_Fr [(95, 1325 + 15 * (t : Int), 1336 + 15 * (t : Int))] w0 w → (∀ k' : Nat, k' < k → sy_r w 95 (1325 + 15 * t + k') = irR w0 s k') → ∃ res, pq_Go 299 pm_212 129 ls [] w 0 0 res ∧ Post res := by
  intro m
  induction m with
  | zero =>
    intro k hk ls w hb ht hfr hc
    have hk : k = sz := by omega
    subst hk
    exact cont ls w hb ht hfr hc
  | succ m ih =>
    intro k hk ls w hb ht hfr hc
    have hk12 : k < 12 := by omega
    have ck := List.all_eq_true.mp (fd_5 k hk12) t (List.mem_range.mpr hf)
    unfold fd_5k at ck
    have hx := hrow k (by omega)
    refine ng_go (J := sx_tt) (Post := Post) (fx_p [p, s, sz, irR w0 s k]) ck rfl ⟨hp.1, hp.2, (show (0 : Int) ≤ s by omega), (show (s : Int) ≤ 3 by omega), (show (0 : Int) ≤ sz by omega), (show (sz : Int) ≤ 12 by omega), hx.1, hx.2, trivial⟩ ⟨by show 1 + (k : Int) + (-1 * (sz : Int) + 0) ≤ 0; omega, trivial⟩ ⟨hb.1, ng_iy hb.2.1 rfl, ng_iy hb.2.2.1 rfl, ng_ik hb.2.2.2.1 rfl, ng_ik hb.2.2.2.2 rfl, trivial⟩ trivial ⟨?_, ?_, trivial⟩ ht sx_ctn (fun _ _ _ => trivial) trivial ⟨fun ls2 st2 w2 t2 f2 q => ?_, trivial⟩
    · show sy_r w 99 (sx_ev _ (sx_y 1)).toNat = sx_ev _ (sx_y 2)
      rw [sx_y_ev, sx_y_ev]
      show sy_r w 99 (s : Int).toNat = (sz : Int)
      rw [Int.toNat_natCast, fr_no hfr ⟨Or.inl (by decide), trivial⟩, hsz]
    · show sy_r w 100 ((k : Int) + (24 * (s : Int) + 0)).toNat = sx_ev _ (sx_y 3)
      rw [sx_y_ev, show ((k : Int) + (24 * (s : Int) + 0)).toNat = 24 * s + k by omega, fr_no hfr ⟨Or.inl (by decide), trivial⟩]
      rfl
    · obtain ⟨a1, a2, a3, _⟩ := q
      cases ng_st0 a2
      obtain ⟨c0, c1, c2, c3, c4, _⟩ := a1
      have f2 : sx_Fr [(95, 1325 + 15 * (t : Int) + (k : Int), 1325 + 15 * (t : Int) + (k : Int))] w w2 := f2
      obtain ⟨v2, _⟩ := mc_oe (n := 1325 + 15 * t + k) a3 (by omega)
      rw [sx_y_ev] at v2
      have v2 : sy_r w2 95 (1325 + 15 * t + k) = irR w0 s k := v2
      refine ih (k + 1) (by omega) ls2 w2 ⟨c0, ng_yi c1 rfl, ng_yi c2 rfl, ng_ki c3 rfl, ng_ki c4 (by omega)⟩ t2 (sx_Fr_trans hfr (fr_w2 f2 ⟨⟨1325 + 15 * (t : Int), 1336 + 15 * (t : Int), List.mem_cons_self, by omega, by omega⟩, trivial⟩)) (fun k' hk' => ?_)
      by_cases e : k' = k
      · subst e
        exact v2
      · rw [fr_no f2 ⟨Or.inr (by omega), trivial⟩]
        exact hc k' (by omega)
theorem kz_fly {xp xs : Int32} {w : pq_W} (ht : sx_Ty sx_T0 w) (hJ : JJ w) : ∃ res, pq_Ru 300 212 [.ref 94, .int xp, .int xs] w res ∧ kz_PGf w res := by
  have hy := mo_yT ht (Or.inl rfl)
  have hy5 : 0 ≤ sy_r w 95 5 ∧ sy_r w 95 5 ≤ 30 := hy.2.2.1
  have hy6 : 0 ≤ sy_r w 95 6 ∧ sy_r w 95 6 ≤ 40 := hy.2.2.2.1
  have hM := hJ.2.1
  have main : ∃ res, pq_Go 299 pm_212 0 (lv_args 0 [.ref 94, .int xp, .int xs]) [] w 0 0 res ∧ kz_PGf w res := by
    refine ng_go (J := sx_tt) (Post := kz_PGf w) (fx_p [xp.toInt, xs.toInt, sy_r w 95 5]) fd_1 rfl ⟨xp.minValue_le_toInt, xp.toInt_le, xs.minValue_le_toInt, xs.toInt_le, hy5.1, hy5.2, trivial⟩ trivial ⟨rfl, ng_iy ⟨xp, rfl, rfl⟩ rfl, ng_iy ⟨xs, rfl, rfl⟩ rfl, trivial⟩ trivial (mc_eo (n := 5) (by rw [sx_y_ev]; rfl) rfl trivial) ht sx_ctn (fun _ _ _ => trivial) ⟨fun x w2 t2 f2 a => kz_erGf hJ t2 f2 (mc_ans a.1), trivial⟩ ⟨fun ls1 st1 w1 t1 f1 q => ?_, trivial⟩
    obtain ⟨a1, a2, _, a4, _⟩ := q
    cases ng_st0 a2
    obtain ⟨c0, c1, c2, _⟩ := a1
    obtain ⟨d1, d2, d3, d4, _⟩ := a4
    have d1 : 0 + (-1 * xp.toInt + 0) ≤ 0 := d1
    have d2 : 1 + (1 * xp.toInt + (-1 * sy_r w 95 5 + 0)) ≤ 0 := d2
    have d3 : 0 + (-1 * xs.toInt + 0) ≤ 0 := d3
    have d4 : -3 + (1 * xs.toInt + 0) ≤ 0 := d4
    have hpv : 0 ≤ xp.toInt ∧ xp.toInt ≤ 29 := by omega
    have hsv : 0 ≤ xs.toInt ∧ xs.toInt ≤ 3 := by omega
    obtain ⟨f, ef⟩ : ∃ f : Nat, (f : Int) = xp.toInt := ⟨xp.toInt.toNat, by omega⟩
    have hf30 : f < 30 := by omega
    obtain ⟨s, es⟩ : ∃ s : Nat, (s : Int) = xs.toInt := ⟨xs.toInt.toNat, by omega⟩
    have hs4 : s < 4 := by omega
    have c0 : pq_lk ls1 0 = some (.ref 94) := c0
    have g1 : ng_i ls1 1 xp.toInt := ng_yi c1 rfl
    have g2 : ng_i ls1 2 xs.toInt := ng_yi c2 rfl
    have f1 : sx_Fr [(97, 0, 5)] w w1 := f1
    refine ng_go (J := sx_tt) (Post := kz_PGf w) (fx_p [xp.toInt, xs.toInt]) fd_2 rfl ⟨hpv.1, hpv.2, hsv.1, hsv.2, trivial⟩ trivial ⟨c0, ng_iy g1 rfl, ng_iy g2 rfl, trivial⟩ trivial trivial t1 sx_ctn (fun _ _ _ => trivial) ⟨fun x w2 t2 f2 q => kz_erGf hJ t2 (sx_Fr_trans f1 f2) (mc_ans q.1), trivial⟩ ⟨fun ls2 st2 w2 t2 f2 q => ?_, trivial⟩
    obtain ⟨a1, a2, _⟩ := q
    obtain ⟨c0, c1, c2, _⟩ := a1
    have c0 : pq_lk ls2 0 = some (.ref 94) := c0
    have g1 : ng_i ls2 1 xp.toInt := ng_yi c1 rfl
    have g2 : ng_i ls2 2 xs.toInt := ng_yi c2 rfl
    have f2 : sx_Fr [(97, 0, 5)] w w2 := sx_Fr_trans f1 f2
    match st2, a2 with
    | [.int y1, .int y2, .ref y3], a2 =>
      obtain ⟨z1, z2, z3, _⟩ := a2
      have z1 : y1.toInt = sx_ev _ (-1, []) := z1
      have z2 : y2.toInt = sx_ev _ (sx_y 1) := z2
      have z3 : y3 = 94 := z3
      subst z3
      rw [ng_ek] at z1
      rw [sx_y_ev] at z2
      have z2 : y2.toInt = xs.toInt := z2
      obtain ⟨⟨r3, w3⟩, e1, t3, f3, x, rfl, hx⟩ := kx_isrow (w := w2) (s := s) (xs := y2) (xl := y1) t2 hs4 (by omega) (by omega)
      have t3 : sx_Ty sx_T0 w3 := t3
      have f3 : sx_Fr [(106, 0, 63), (107, 0, 63)] w2 w3 := f3
      have fA3 : sx_Fr [(97, 0, 5), (106, 0, 63), (107, 0, 63)] w w3 := fr_cat f2 f3
      have s3 : ∀ i, sy_r w3 95 i = sy_r w 95 i := fun i => fr_no fA3 ⟨Or.inl (by decide), Or.inl (by decide), Or.inl (by decide), trivial⟩
      have err : ∀ (x : Option Value) (w4 : pq_W), sx_Ty sx_T0 w4 → sx_Fr [(97, 0, 5)] w3 w4 → (∃ y : Int32, x = some (.int y)) → kz_PGf w (x, w4) := fun x w4 t4 f4 hx4 => by
        have fA4 : sx_Fr [(97, 0, 5), (106, 0, 63), (107, 0, 63), (97, 0, 5)] w w4 := fr_cat fA3 f4
        exact kz_mkGf hJ t4 fA4 ⟨⟨0, 100000, by decide, by omega, by omega⟩, ⟨0, 100000, by decide, by omega, by omega⟩, ⟨0, 100000, by decide, by omega, by omega⟩, ⟨0, 100000, by decide, by omega, by omega⟩, trivial⟩ (kz_fr hM t4 fA4 (fun i _ => ⟨Or.inl (by decide), Or.inl (by decide), Or.inl (by decide), Or.inl (by decide), trivial⟩)) hx4
      have back : ∃ res, pq_Go 299 pm_212 45 ls2 [.int x] w3 0 0 res ∧ kz_PGf w res := by
        rcases hx with hx | ⟨hx, hok⟩
        · exact ng_go (J := sx_tt) (Post := kz_PGf w) (fx_p [xp.toInt, xs.toInt]) fd_3z rfl ⟨hpv.1, hpv.2, hsv.1, hsv.2, trivial⟩ trivial ⟨c0, ng_iy g1 rfl, ng_iy g2 rfl, trivial⟩ ⟨by show x.toInt = sx_ev _ (0, []); rw [ng_ek, hx], trivial⟩ trivial t3 sx_ctn (fun _ _ _ => trivial) ⟨fun x w4 t4 f4 q => err x w4 t4 f4 (mc_ans q.1), trivial⟩ trivial
        · refine ng_go (J := sx_tt) (Post := kz_PGf w) (fx_p [xp.toInt, xs.toInt, sy_r w 95 6]) fd_3 rfl ⟨hpv.1, hpv.2, hsv.1, hsv.2, hy6.1, hy6.2, trivial⟩ trivial ⟨c0, ng_iy g1 rfl, ng_iy g2 rfl, trivial⟩ ⟨by show x.toInt = sx_ev _ (1, []); rw [ng_ek, hx], trivial⟩ (mc_eo (n := 6) (by rw [sx_y_ev, s3]; rfl) rfl trivial) t3 sx_ctn (fun _ _ _ => trivial) ⟨fun x w4 t4 f4 q => err x w4 t4 f4 (mc_ans q.1), trivial⟩ ⟨fun ls4 st4 w4 t4 f4 q => ?_, trivial⟩
          obtain ⟨a1, a2, _, a4, _⟩ := q
          cases ng_st0 a2
          obtain ⟨c0, c1, c2, c3, _⟩ := a1
          have d5 : -39 + (1 * sy_r w 95 6 + 0) ≤ 0 := a4.1
          obtain ⟨t, et⟩ : ∃ t : Nat, (t : Int) = sy_r w 95 6 := ⟨(sy_r w 95 6).toNat, by omega⟩
          have ht40 : t < 40 := by omega
          have f4 : sx_Fr [(97, 0, 5)] w3 w4 := f4
          have fA4 : sx_Fr [(97, 0, 5), (106, 0, 63), (107, 0, 63), (97, 0, 5)] w w4 := fr_cat fA3 f4
          have c0 : pq_lk ls4 0 = some (.ref 94) := c0
          have g1 : ng_i ls4 1 xp.toInt := ng_yi c1 rfl
          have g2 : ng_i ls4 2 xs.toInt := ng_yi c2 rfl
          have g3 : ng_i ls4 3 (t : Int) := ng_yi c3 et.symm
          have h99 : sy_r w4 99 s = sy_r w2 99 s := by rw [fr_no f4 ⟨Or.inl (by decide), trivial⟩, fr_no f3 ⟨Or.inl (by decide), Or.inl (by decide), trivial⟩]
          have h100 : ∀ i, sy_r w4 100 i = sy_r w2 100 i := fun i => by rw [fr_no f4 ⟨Or.inl (by decide), trivial⟩, fr_no f3 ⟨Or.inl (by decide), Or.inl (by decide), trivial⟩]
          have hsz1 : 2 ≤ sy_r w2 99 s := hok.1
          have hsz2 : sy_r w2 99 s ≤ 12 := hok.2.1
          obtain ⟨sz, esz⟩ : ∃ sz : Nat, (sz : Int) = sy_r w2 99 s := ⟨(sy_r w2 99 s).toNat, by omega⟩
          have day0 : sy_r w4 95 0 = sy_r w 95 0 := fr_no fA4 ⟨Or.inl (by decide), Or.inl (by decide), Or.inl (by decide), Or.inl (by decide), trivial⟩
          have db := sy_rb w 95 0
          have ck := List.all_eq_true.mp fd_4 t (List.mem_range.mpr ht40)
          refine ng_go (J := sx_tt) (Post := kz_PGf w) (fx_p [xp.toInt, xs.toInt, sz, sy_r w 95 0]) ck rfl ⟨hpv.1, hpv.2, hsv.1, hsv.2, (show (0 : Int) ≤ sz by omega), (show (sz : Int) ≤ 12 by omega), db.1, db.2, trivial⟩ trivial ⟨c0, ng_iy g1 rfl, ng_iy g2 rfl, ng_ik g3 rfl, trivial⟩ trivial ⟨?_, mc_eo (n := 0) (by rw [sx_y_ev, day0]; rfl) rfl trivial⟩ t4 sx_ctn (fun _ _ _ => trivial) trivial ⟨fun ls6 st6 w6 t6 f6 q => ?_, trivial⟩
          · show sy_r w4 99 (sx_ev _ (sx_y 1)).toNat = sx_ev _ (sx_y 2)
            rw [sx_y_ev, sx_y_ev]
            show sy_r w4 99 xs.toInt.toNat = (sz : Int)
            rw [show xs.toInt.toNat = s by omega, h99, esz]
          obtain ⟨a1, a2, a3, _⟩ := q
          cases ng_st0 a2
          obtain ⟨c0, c1, c2, c3, c4, _⟩ := a1
          obtain ⟨u6, _⟩ := mc_oe (n := 1324 + 15 * t) a3 (by omega)
          rw [sx_y_ev] at u6
          have u6 : sy_r w6 95 (1324 + 15 * t) = sz := u6
          have f6 : sx_Fr [(95, 1322 + 15 * (t : Int), 1324 + 15 * (t : Int))] w4 w6 := f6
          have i6 : ∀ k, irR w6 s k = irR w2 s k := fun k => by
            show sy_r w6 100 _ = sy_r w2 100 _
            rw [fr_no f6 ⟨Or.inl (by decide), trivial⟩, h100]
          have h996 : sy_r w6 99 s = sy_r w2 99 s := by rw [fr_no f6 ⟨Or.inl (by decide), trivial⟩, h99]
          have bB6 : fyB ls6 xp.toInt s (1322 + 15 * (t : Int)) ((0 : Nat) : Int) := ⟨c0, ng_yi c1 rfl, ng_yi c2 es.symm, ng_ki c3 rfl, ng_ki c4 rfl⟩
          refine fy_copy (w0 := w6) (t := t) (s := s) (sz := sz) (p := xp.toInt) (Post := kz_PGf w) ht40 hs4 hpv (by rw [h996]; exact esz) (by omega) (fun k hk => by rw [i6]; have := hok.2.2.1 k (by omega); omega) ?_ sz 0 (by omega) ls6 w6 bB6 t6 (sx_Fr_refl _ _) (fun k' hk' => by omega)
          intro ls7 w7 b7 t7 f7 c7
          have fA7 : sx_Fr [(97, 0, 5), (106, 0, 63), (107, 0, 63), (97, 0, 5), (95, 1322 + 15 * (t : Int), 1324 + 15 * (t : Int)), (95, 1325 + 15 * (t : Int), 1336 + 15 * (t : Int))] w w7 := fr_cat (fr_cat fA4 f6) f7
          have so7 : ∀ i : Nat, ¬ (1322 + 15 * t ≤ i ∧ i ≤ 1336 + 15 * t) → sy_r w7 95 i = sy_r w 95 i := fun i hi => fr_no fA7 ⟨Or.inl (by decide), Or.inl (by decide), Or.inl (by decide), Or.inl (by decide), Or.inr (by omega), Or.inr (by omega), trivial⟩
          have h997 : sy_r w7 99 s = sz := by rw [fr_no f7 ⟨Or.inl (by decide), trivial⟩, h996, esz]
          refine ng_go (J := sx_tt) (Post := kz_PGf w) (fx_p [xp.toInt, s, sz, 1322 + 15 * (t : Int), t]) fd_6 rfl ⟨hpv.1, hpv.2, (show (0 : Int) ≤ s by omega), (show (s : Int) ≤ 3 by omega), (show (0 : Int) ≤ sz by omega), (show (sz : Int) ≤ 12 by omega), (show (1322 : Int) ≤ 1322 + 15 * (t : Int) by omega), (show 1322 + 15 * (t : Int) ≤ 1907 by omega), (show (0 : Int) ≤ t by omega), (show (t : Int) ≤ 39 by omega), trivial⟩ trivial ⟨b7.1, ng_iy b7.2.1 rfl, ng_iy b7.2.2.1 rfl, ng_iy b7.2.2.2.1 rfl, ng_iy b7.2.2.2.2 rfl, trivial⟩ trivial ⟨?_, mc_eo (n := 6) (by rw [sx_y_ev, so7 6 (by omega)]; exact et.symm) rfl trivial⟩ t7 sx_ctn (fun _ _ _ => trivial) trivial ⟨fun ls8 st8 w8 t8 f8 q => ?_, trivial⟩
          · show sy_r w7 99 (sx_ev _ (sx_y 1)).toNat = sx_ev _ (sx_y 2)
            rw [sx_y_ev, sx_y_ev]
            show sy_r w7 99 (s : Int).toNat = (sz : Int)
            rw [Int.toNat_natCast, h997]
          obtain ⟨a1, a2, a3, _⟩ := q
          cases ng_st0 a2
          obtain ⟨c0, c1, _⟩ := a1
          obtain ⟨v8, _⟩ := mc_oe (n := 6) a3 rfl
          have v8 : sy_r w8 95 6 = 1 + (1 * (t : Int) + 0) := v8
          have f8 : sx_Fr [(95, 6, 6)] w7 w8 := f8
          have c0 : pq_lk ls8 0 = some (.ref 94) := c0
          have g1 : ng_i ls8 1 (f : Int) := ng_yi c1 ef.symm
          have ck7 := List.all_eq_true.mp fd_7 f (List.mem_range.mpr hf30)
          refine ng_go (J := sx_tt) (Post := kz_PGf w) (fx_p []) ck7 rfl trivial trivial ⟨c0, ng_ik g1 rfl, trivial⟩ trivial trivial t8 sx_ctn (fun _ _ _ => trivial) ⟨fun x w9 t9 f9 q => ?_, trivial⟩ trivial
          have f9 : sx_Fr [(95, 306 + 34 * (f : Int), 306 + 34 * (f : Int))] w8 w9 := f9
          have fA9 : sx_Fr [(97, 0, 5), (106, 0, 63), (107, 0, 63), (97, 0, 5), (95, 1322 + 15 * (t : Int), 1324 + 15 * (t : Int)), (95, 1325 + 15 * (t : Int), 1336 + 15 * (t : Int)), (95, 6, 6), (95, 306 + 34 * (f : Int), 306 + 34 * (f : Int))] w w9 := fr_cat (fr_cat fA7 f8) f9
          have s9 : ∀ i : Nat, i ≠ 6 → i ≠ 306 + 34 * f → sy_r w9 95 i = sy_r w7 95 i := fun i h1 h2 => by rw [fr_no f9 ⟨Or.inr (by omega), trivial⟩, fr_no f8 ⟨Or.inr (by omega), trivial⟩]
          have so : ∀ i : Nat, i ≠ 6 → i ≠ 306 + 34 * f → ¬ (1322 + 15 * t ≤ i ∧ i ≤ 1336 + 15 * t) → sy_r w9 95 i = sy_r w 95 i := fun i h1 h2 h3 => by rw [s9 i h1 h2, so7 i h3]
          have v9 : sy_r w9 95 6 = 1 + (1 * (t : Int) + 0) := by rw [fr_no f9 ⟨Or.inr (by omega), trivial⟩, v8]
          have hzr : sy_r w9 95 (1324 + 15 * t) = sy_r w2 99 s := by rw [s9 _ (by omega) (by omega), fr_no f7 ⟨Or.inr (by omega), trivial⟩, u6, esz]
          have hW : mo_W (sy_r w9 95) (1324 + 15 * t) := ir_way hok hzr (fun k hk => by rw [show 1324 + 15 * t + 1 + k = 1325 + 15 * t + k by omega, s9 _ (by omega) (by omega), c7 k (by omega), i6])
          have hm0 : mo_N (sy_r w9 95) (fun _ _ => mo_B (sy_r w 95 0 / 100).toNat) := mo_fly (t0 := t) (f0 := f) hM.2 (mo_yT t9 (Or.inl rfl)) hf30 et (so 3 (by omega) (by omega) (by omega)) (so 5 (by omega) (by omega) (by omega)) (by rw [v9, ← et]; omega) (fun i h1 h2 h3 h4 => so i (by omega) h4 h3) hW
          have hM9 : Mo (sy_r w9 95) := by
            refine ⟨by rw [so 0 (by omega) (by omega) (by omega)]; exact hM.1, ?_⟩
            rw [so 0 (by omega) (by omega) (by omega)]
            exact hm0
          have fz : sx_Fr sx_MGf w w9 := fr_w2 fA9 ⟨⟨0, 100000, by decide, by omega, by omega⟩, ⟨0, 100000, by decide, by omega, by omega⟩, ⟨0, 100000, by decide, by omega, by omega⟩, ⟨0, 100000, by decide, by omega, by omega⟩, (by first | exact ⟨138, 2857, by decide, by omega, by omega⟩ | exact ⟨4, 9, by decide, by omega, by omega⟩ | exact ⟨302, 2857, by decide, by omega, by omega⟩), (by first | exact ⟨138, 2857, by decide, by omega, by omega⟩ | exact ⟨4, 9, by decide, by omega, by omega⟩ | exact ⟨302, 2857, by decide, by omega, by omega⟩), (by first | exact ⟨138, 2857, by decide, by omega, by omega⟩ | exact ⟨4, 9, by decide, by omega, by omega⟩ | exact ⟨302, 2857, by decide, by omega, by omega⟩), (by first | exact ⟨138, 2857, by decide, by omega, by omega⟩ | exact ⟨4, 9, by decide, by omega, by omega⟩ | exact ⟨302, 2857, by decide, by omega, by omega⟩), trivial⟩
          have e96 : sy_r w9 96 = sy_r w 96 := funext (fun i => kz_96Gf fz i)
          obtain ⟨⟨jt, jl⟩, jt6, jl6⟩ := hJ.1
          have z95 := sy_z95 ht
          have hJT : sy_JT w9 95 := fun t' ht' => by
            by_cases e : t' = t
            · subst e
              exact ⟨hW.2.2.1, hW.2.2.2.1⟩
            · have zz := z95.1 t' ht'
              rw [so (1324 + 15 * t') (by omega) (by omega) (by omega), so _ (by omega) (by omega) (by omega)]
              exact jt t' ht'
          have hJL : sy_JL w9 95 := sy_JL_congr z95 (fun i h1 h2 => so i (by omega) (by omega) (by omega)) jl
          have hJT6 : sy_JT w9 96 := sy_JT_congr (sy_z96 ht) (fun i _ _ => kz_96Gf fz i) jt6
          have hJL6 : sy_JL w9 96 := sy_JL_congr (sy_z96 ht) (fun i _ _ => kz_96Gf fz i) jl6
          exact ⟨t9, ⟨⟨⟨hJT, hJL⟩, hJT6, hJL6⟩, hM9, by show Mo (sy_r w9 96); rw [e96]; exact hJ.2.2⟩, fz, mc_ans q.1⟩
      obtain ⟨res, e3, e4⟩ := back
      exact ⟨res, go_cl (j := 209) (n := 3) (as := [.ref 94, .int y2, .int y1]) (k1 := 30) rfl rfl rfl rfl rfl rfl rfl e1 e3, e4⟩
  obtain ⟨res, g1, g2⟩ := main
  refine ⟨res, ru_of (k := 299) (M := pm_212) rfl ?_ g1, g2⟩
  rw [Bool.and_eq_true]
  exact ⟨rfl, sq_rcv ht rfl rfl rfl⟩
