/-! law, by hand over the checks -/
noncomputable def lwB (ls : pq_L) (v r k : Int) : Prop := pq_lk ls 0 = some (.ref 94) ∧ ng_i ls 3 v ∧ ng_i ls 4 r ∧ ng_i ls 5 k
theorem lw_copy {w0 : pq_W} {l n : Nat} {Post : pq_R → Prop} (hl : l < 12) (hn : (n : Int) = px_n w0) (hn60 : n ≤ 60)
    (cont : ∀ ls w, lwB ls l (1922 + 73 * (l : Int)) n → sx_Ty sx_T0 w → sx_Fr [(95, 1925 + 73 * (l : Int), 1994 + 73 * (l : Int))] w0 w → (∀ k : Nat, k < n → sy_r w 95 (1925 + 73 * l + k) = px_c w0 k) → ∃ res, pq_Go 299 pm_196 174 ls [] w 0 0 res ∧ Post res) :
    ∀ (m k : Nat), k + m = n → ∀ ls w, lwB ls l (1922 + 73 * (l : Int)) k → sx_Ty sx_T0 w → sx_Fr [(95, 1925 + 73 * (l : Int), 1994 + 73 * (l : Int))] w0 w → (∀ k' : Nat, k' < k → sy_r w 95 (1925 + 73 * l + k') = px_c w0 k') → ∃ res, pq_Go 299 pm_196 174 ls [] w 0 0 res ∧ Post res := by
  intro m
  induction m with
  | zero =>
    intro k hk ls w hb ht hfr hc
    have hk : k = n := by omega
    subst hk
    exact cont ls w hb ht hfr hc
  | succ m ih =>
    intro k hk ls w hb ht hfr hc
    have ck := List.all_eq_true.mp (lw_5 k (by omega)) l (List.mem_range.mpr hl)
    unfold lw_5k at ck
    have hx := sy_rb w0 104 k
    refine ng_go (J := sx_tt) (Post := Post) (fx_p [n, px_c w0 k]) ck rfl ⟨(show (0 : Int) ≤ n by omega), (show (n : Int) ≤ 60 by omega), hx.1, hx.2, trivial⟩ ⟨by show 1 + (k : Int) + (-1 * (n : Int) + 0) ≤ 0; omega, trivial⟩ ⟨hb.1, ng_ik hb.2.1 rfl, ng_ik hb.2.2.1 rfl, ng_ik hb.2.2.2 rfl, trivial⟩ trivial ⟨?_, ?_, trivial⟩ ht sx_ctn (fun _ _ _ => trivial) trivial ⟨fun ls2 st2 w2 t2 f2 q => ?_, trivial⟩
    · show sy_r w 94 (sx_ev _ (15, [])).toNat = sx_ev _ (sx_y 0)
      rw [ng_ek, sx_y_ev]
      show sy_r w 94 15 = (n : Int)
      rw [fr_no hfr ⟨Or.inl (by decide), trivial⟩]
      exact hn.symm
    · show sy_r w 104 (sx_ev _ ((k : Int), [])).toNat = sx_ev _ (sx_y 1)
      rw [ng_ek, sx_y_ev, Int.toNat_natCast, fr_no hfr ⟨Or.inl (by decide), trivial⟩]
      rfl
    · obtain ⟨a1, a2, a3, _⟩ := q
      cases ng_st0 a2
      obtain ⟨c0, c1, c2, c3, _⟩ := a1
      have f2 : sx_Fr [(95, 1925 + 73 * (l : Int) + (k : Int), 1925 + 73 * (l : Int) + (k : Int))] w w2 := f2
      obtain ⟨v2, _⟩ := mc_oe (n := 1925 + 73 * l + k) a3 (by omega)
      rw [sx_y_ev] at v2
      have v2 : sy_r w2 95 (1925 + 73 * l + k) = px_c w0 k := v2
      refine ih (k + 1) (by omega) ls2 w2 ⟨c0, ng_ki c1 rfl, ng_ki c2 rfl, ng_ki c3 (by omega)⟩ t2 (sx_Fr_trans hfr (fr_w2 f2 ⟨⟨1925 + 73 * (l : Int), 1994 + 73 * (l : Int), List.mem_cons_self, by omega, by omega⟩, trivial⟩)) (fun k' hk' => ?_)
      by_cases e : k' = k
      · subst e
        exact v2
      · rw [fr_no f2 ⟨Or.inr (by omega), trivial⟩]
        exact hc k' (by omega)
theorem kz_law {xu xf : Int32} {w : pq_W} (ht : sx_Ty sx_T0 w) (hJ : JJ w) : ∃ res, pq_Ru 300 196 [.ref 94, .int xu, .int xf] w res ∧ kz_PGf w res := by
  have hM := hJ.2.1
  have hy4 : 0 ≤ sy_r w 95 4 ∧ sy_r w 95 4 ≤ 12 := sy_rg (r := 95) ht rfl (g := (4, 1, 1, 0, 0, 0, 12)) (by decide) (k := 0) (j := 0) (by decide) (Nat.le_refl _) (Nat.le_refl _) (by decide)
  have main : ∃ res, pq_Go 299 pm_196 0 (lv_args 0 [.ref 94, .int xu, .int xf]) [] w 0 0 res ∧ kz_PGf w res := by
    refine ng_go (J := sx_tt) (Post := kz_PGf w) (fx_p [xu.toInt, xf.toInt, sy_r w 95 4]) lw_1 rfl ⟨xu.minValue_le_toInt, xu.toInt_le, xf.minValue_le_toInt, xf.toInt_le, hy4.1, hy4.2, trivial⟩ trivial ⟨rfl, ng_iy ⟨xu, rfl, rfl⟩ rfl, ng_iy ⟨xf, rfl, rfl⟩ rfl, trivial⟩ trivial (mc_eo (n := 4) (by rw [sx_y_ev]; rfl) rfl trivial) ht sx_ctn (fun _ _ _ => trivial) ⟨fun x w2 t2 f2 a => kz_erGf hJ t2 f2 (mc_ans a.1), trivial⟩ ⟨fun ls1 st1 w1 t1 f1 q => ?_, trivial⟩
    obtain ⟨a1, a2, _, a4, _⟩ := q
    cases ng_st0 a2
    obtain ⟨c0, c1, c2, c3, _⟩ := a1
    obtain ⟨d1, d2, d3, d4, d5, _⟩ := a4
    have d1 : 0 + (-1 * xu.toInt + 0) ≤ 0 := d1
    have d2 : -3 + (1 * xu.toInt + 0) ≤ 0 := d2
    have d3 : 0 + (-1 * xf.toInt + 0) ≤ 0 := d3
    have d4 : -3000 + (1 * xf.toInt + 0) ≤ 0 := d4
    have d5 : -11 + (1 * sy_r w 95 4 + 0) ≤ 0 := d5
    have huv : 0 ≤ xu.toInt ∧ xu.toInt ≤ 3 := by omega
    have hfv : 0 ≤ xf.toInt ∧ xf.toInt ≤ 3000 := by omega
    obtain ⟨l, el⟩ : ∃ l : Nat, (l : Int) = sy_r w 95 4 := ⟨(sy_r w 95 4).toNat, by omega⟩
    have hl12 : l < 12 := by omega
    have hlv : (0 : Int) ≤ l ∧ (l : Int) ≤ 11 := by omega
    have c0 : pq_lk ls1 0 = some (.ref 94) := c0
    have g1 : ng_i ls1 1 xu.toInt := ng_yi c1 rfl
    have g2 : ng_i ls1 2 xf.toInt := ng_yi c2 rfl
    have g3 : ng_i ls1 3 (l : Int) := ng_yi c3 el.symm
    have f1 : sx_Fr [(97, 0, 5)] w w1 := f1
    refine ng_go (J := sx_tt) (Post := kz_PGf w) (fx_p [xu.toInt, xf.toInt, l]) lw_2 rfl ⟨huv.1, huv.2, hfv.1, hfv.2, hlv.1, hlv.2, trivial⟩ trivial ⟨c0, ng_iy g1 rfl, ng_iy g2 rfl, ng_iy g3 rfl, trivial⟩ trivial trivial t1 sx_ctn (fun _ _ _ => trivial) trivial ⟨fun ls2 st2 w2 t2 f2 q => ?_, trivial⟩
    obtain ⟨a1, a2, a3, _⟩ := q
    obtain ⟨c0, c1, c2, c3, _⟩ := a1
    have c0 : pq_lk ls2 0 = some (.ref 94) := c0
    have g1 : ng_i ls2 1 xu.toInt := ng_yi c1 rfl
    have g2 : ng_i ls2 2 xf.toInt := ng_yi c2 rfl
    have g3 : ng_i ls2 3 (l : Int) := ng_yi c3 rfl
    cases px_sr a2
    obtain ⟨v1, v2, v3, v4, _⟩ := a3
    rw [ng_ek, ng_ek] at v1 v2 v3 v4
    have v1 : px_a w2 = 0 := v1
    have v2 : px_o w2 = 0 := v2
    have v4 : px_n w2 = 0 := v4
    have f2 : sx_Fr [(94, 11, 13), (94, 15, 15)] w1 w2 := f2
    have tT := (px_ty t2).2
    obtain ⟨w3, r3, p3⟩ := kx_either w2 t2 ⟨by omega, by omega, by omega, fun k hk => by omega⟩ (by omega) v2
    have t3 := p3.1
    have f3 : sx_Fr [(94, 11, 13), (94, 15, 15), (104, 0, 69)] w2 w3 := p3.2.1
    have V3 := p3.2.2.1
    have hn3 : px_n w3 ≤ px_a w3 := px_na p3 (by omega) (by omega)
    obtain ⟨tf3, tT3⟩ := px_ty t3
    have haT := V3.2.1
    have fA3 : sx_Fr [(97, 0, 5), (94, 11, 13), (94, 15, 15), (94, 11, 13), (94, 15, 15), (104, 0, 69)] w w3 := fr_cat (fr_cat f1 f2) f3
    refine Exists.elim (?_ : ∃ res, pq_Go 299 pm_196 75 ls2 [] w3 0 0 res ∧ kz_PGf w res) (fun res h => ⟨res, go_cl (j := 197) (n := 1) (as := [.ref 94]) (r := none) (k1 := 66) rfl rfl rfl rfl rfl rfl rfl r3 h.1, h.2⟩)
    refine ng_go (J := sx_tt) (Post := kz_PGf w) (fx_p [xu.toInt, xf.toInt, l, px_a w3, px_f w3, px_T w3]) lw_3 rfl ⟨huv.1, huv.2, hfv.1, hfv.2, hlv.1, hlv.2, V3.1, (show px_a w3 ≤ 60 by omega), tf3.1, tf3.2, tT3.1, tT3.2, trivial⟩ trivial ⟨c0, ng_iy g1 rfl, ng_iy g2 rfl, ng_iy g3 rfl, trivial⟩ trivial ⟨?_, ?_, mc_eo (n := 7) (by rw [sx_y_ev]; rfl) rfl trivial⟩ t3 sx_ctn (fun _ _ _ => trivial) ⟨fun x w4 t4 f4 q => ?_, trivial⟩ ⟨fun ls4 st4 w4 t4 f4 q => ?_, trivial⟩
    · show sy_r w3 94 (sx_ev _ (11, [])).toNat = sx_ev _ (sx_y 3)
      rw [ng_ek, sx_y_ev]
      rfl
    · show sy_r w3 94 (sx_ev _ (13, [])).toNat = sx_ev _ (sx_y 4)
      rw [ng_ek, sx_y_ev]
      rfl
    · have f4 : sx_Fr [(94, 13, 13), (95, 7, 7)] w3 w4 := f4
      have fA4 : sx_Fr [(97, 0, 5), (94, 11, 13), (94, 15, 15), (94, 11, 13), (94, 15, 15), (104, 0, 69), (94, 13, 13), (95, 7, 7)] w w4 := fr_cat fA3 f4
      exact kz_mkGf hJ t4 fA4 ⟨⟨0, 100000, by decide, by omega, by omega⟩, ⟨3, 1000, by decide, by omega, by omega⟩, ⟨3, 1000, by decide, by omega, by omega⟩, ⟨3, 1000, by decide, by omega, by omega⟩, ⟨3, 1000, by decide, by omega, by omega⟩, ⟨0, 100000, by decide, by omega, by omega⟩, ⟨3, 1000, by decide, by omega, by omega⟩, (by first | exact ⟨138, 1321, by decide, by omega, by omega⟩ | exact ⟨4, 9, by decide, by omega, by omega⟩ | exact ⟨2, 2, by decide, by omega, by omega⟩ | exact ⟨302, 1321, by decide, by omega, by omega⟩), trivial⟩ (kz_fr hM t4 fA4 (fun i hi => ⟨Or.inl (by decide), Or.inl (by decide), Or.inl (by decide), Or.inl (by decide), Or.inl (by decide), Or.inl (by decide), Or.inl (by decide), Or.inr (by omega), trivial⟩)) (mc_ans q.1)
    · obtain ⟨a1, a2, _⟩ := q
      cases ng_st0 a2
      obtain ⟨c0, c1, c2, c3, _⟩ := a1
      have c0 : pq_lk ls4 0 = some (.ref 94) := c0
      have g1 : ng_i ls4 1 xu.toInt := ng_yi c1 rfl
      have g2 : ng_i ls4 2 xf.toInt := ng_yi c2 rfl
      have g3 : ng_i ls4 3 (l : Int) := ng_yi c3 rfl
      have f4 : sx_Fr [(94, 13, 13), (95, 7, 7)] w3 w4 := f4
      have fA4 : sx_Fr [(97, 0, 5), (94, 11, 13), (94, 15, 15), (94, 11, 13), (94, 15, 15), (104, 0, 69), (94, 13, 13), (95, 7, 7)] w w4 := fr_cat fA3 f4
      have n4 : px_n w4 = px_n w3 := fr_no f4 ⟨Or.inr (by omega), Or.inl (by decide), trivial⟩
      have cc4 : ∀ k, px_c w4 k = px_c w3 k := fun k => fr_no f4 ⟨Or.inl (by decide), Or.inl (by decide), trivial⟩
      have hn0 := V3.2.2.1
      obtain ⟨n, en⟩ : ∃ n : Nat, (n : Int) = px_n w3 := ⟨(px_n w3).toNat, by omega⟩
      have hn60 : n ≤ 60 := by omega
      have hnv : (0 : Int) ≤ n ∧ (n : Int) ≤ 60 := by omega
      have ck4 := List.all_eq_true.mp lw_4 l (List.mem_range.mpr hl12)
      refine ng_go (J := sx_tt) (Post := kz_PGf w) (fx_p [xu.toInt, xf.toInt, n]) ck4 rfl ⟨huv.1, huv.2, hfv.1, hfv.2, hnv.1, hnv.2, trivial⟩ trivial ⟨c0, ng_iy g1 rfl, ng_iy g2 rfl, ng_ik g3 rfl, trivial⟩ trivial ⟨?_, trivial⟩ t4 sx_ctn (fun _ _ _ => trivial) trivial ⟨fun ls5 st5 w5 t5 f5 q => ?_, trivial⟩
      · show sy_r w4 94 (sx_ev _ (15, [])).toNat = sx_ev _ (sx_y 2)
        rw [ng_ek, sx_y_ev]
        show px_n w4 = (n : Int)
        omega
      obtain ⟨a1, a2, a3, _⟩ := q
      cases ng_st0 a2
      obtain ⟨c0, c1, c2, c3, _⟩ := a1
      obtain ⟨u5, _⟩ := mc_oe (n := 1924 + 73 * l) a3 (by omega)
      rw [sx_y_ev] at u5
      have u5 : sy_r w5 95 (1924 + 73 * l) = n := u5
      have f5 : sx_Fr [(95, 1922 + 73 * (l : Int), 1924 + 73 * (l : Int))] w4 w5 := f5
      have n5 : px_n w5 = px_n w3 := by
        rw [← n4]
        exact fr_no f5 ⟨Or.inl (by decide), trivial⟩
      have cc5 : ∀ k, px_c w5 k = px_c w3 k := fun k => by
        rw [← cc4]
        exact fr_no f5 ⟨Or.inl (by decide), trivial⟩
      have b5 : lwB ls5 l (1922 + 73 * (l : Int)) ((0 : Nat) : Int) := ⟨c0, ng_ki c1 rfl, ng_ki c2 rfl, ng_ki c3 rfl⟩
      refine lw_copy (w0 := w5) (l := l) (n := n) (Post := kz_PGf w) hl12 (by omega) hn60 ?_ n 0 (by omega) ls5 w5 b5 t5 (sx_Fr_refl _ _) (fun k' hk' => by omega)
      intro ls6 w6 b6 t6 f6 h6
      have fA6 : sx_Fr [(97, 0, 5), (94, 11, 13), (94, 15, 15), (94, 11, 13), (94, 15, 15), (104, 0, 69), (94, 13, 13), (95, 7, 7), (95, 1922 + 73 * (l : Int), 1924 + 73 * (l : Int)), (95, 1925 + 73 * (l : Int), 1994 + 73 * (l : Int))] w w6 := fr_cat (fr_cat fA4 f5) f6
      have s64 : sy_r w6 95 4 = l := by rw [fr_no fA6 ⟨Or.inl (by decide), Or.inl (by decide), Or.inl (by decide), Or.inl (by decide), Or.inl (by decide), Or.inl (by decide), Or.inl (by decide), Or.inr (by omega), Or.inr (by omega), Or.inr (by omega), trivial⟩, el]
      have n6 : px_n w6 = n := by
        have : px_n w6 = px_n w5 := fr_no f6 ⟨Or.inl (by decide), trivial⟩
        omega
      refine ng_go (J := sx_tt) (Post := kz_PGf w) (fx_p [n, l, 1922 + 73 * (l : Int)]) lw_6 rfl ⟨hnv.1, hnv.2, hlv.1, hlv.2, (show (1922 : Int) ≤ 1922 + 73 * (l : Int) by omega), (show 1922 + 73 * (l : Int) ≤ 2725 by omega), trivial⟩ trivial ⟨b6.1, ng_iy b6.2.1 rfl, ng_iy b6.2.2.1 rfl, ng_iy b6.2.2.2 rfl, trivial⟩ trivial ⟨?_, mc_eo (n := 4) (by rw [sx_y_ev, s64]; rfl) rfl trivial⟩ t6 sx_ctn (fun _ _ _ => trivial) ⟨fun x w7 t7 f7 q => ?_, trivial⟩ trivial
      · show sy_r w6 94 (sx_ev _ (15, [])).toNat = sx_ev _ (sx_y 0)
        rw [ng_ek, sx_y_ev]
        exact n6
      have f7 : sx_Fr [(95, 4, 4)] w6 w7 := f7
      have fA7 : sx_Fr [(97, 0, 5), (94, 11, 13), (94, 15, 15), (94, 11, 13), (94, 15, 15), (104, 0, 69), (94, 13, 13), (95, 7, 7), (95, 1922 + 73 * (l : Int), 1924 + 73 * (l : Int)), (95, 1925 + 73 * (l : Int), 1994 + 73 * (l : Int)), (95, 4, 4)] w w7 := fr_cat fA6 f7
      have so : ∀ i : Nat, i ≠ 4 → i ≠ 7 → ¬ (1922 + 73 * l ≤ i ∧ i ≤ 1994 + 73 * l) → sy_r w7 95 i = sy_r w 95 i := fun i h1 h2 h3 => fr_no fA7 ⟨Or.inl (by decide), Or.inl (by decide), Or.inl (by decide), Or.inl (by decide), Or.inl (by decide), Or.inl (by decide), Or.inl (by decide), Or.inr (by omega), Or.inr (by omega), Or.inr (by omega), Or.inr (by omega), trivial⟩
      have fz : sx_Fr sx_MGf w w7 := fr_w2 fA7 ⟨⟨0, 100000, by decide, by omega, by omega⟩, ⟨3, 1000, by decide, by omega, by omega⟩, ⟨3, 1000, by decide, by omega, by omega⟩, ⟨3, 1000, by decide, by omega, by omega⟩, ⟨3, 1000, by decide, by omega, by omega⟩, ⟨0, 100000, by decide, by omega, by omega⟩, ⟨3, 1000, by decide, by omega, by omega⟩, (by first | exact ⟨138, 2857, by decide, by omega, by omega⟩ | exact ⟨4, 9, by decide, by omega, by omega⟩ | exact ⟨302, 2857, by decide, by omega, by omega⟩), (by first | exact ⟨138, 2857, by decide, by omega, by omega⟩ | exact ⟨4, 9, by decide, by omega, by omega⟩ | exact ⟨302, 2857, by decide, by omega, by omega⟩), (by first | exact ⟨138, 2857, by decide, by omega, by omega⟩ | exact ⟨4, 9, by decide, by omega, by omega⟩ | exact ⟨302, 2857, by decide, by omega, by omega⟩), (by first | exact ⟨138, 2857, by decide, by omega, by omega⟩ | exact ⟨4, 9, by decide, by omega, by omega⟩ | exact ⟨302, 2857, by decide, by omega, by omega⟩), trivial⟩
      have e96 : sy_r w7 96 = sy_r w 96 := funext (fun i => kz_96Gf fz i)
      obtain ⟨⟨jt, jl⟩, jt6, jl6⟩ := hJ.1
      have z95 := sy_z95 ht
      have hJT : sy_JT w7 95 := sy_JT_congr z95 (fun i h1 h2 => so i (by omega) (by omega) (by omega)) jt
      have hsz : sy_r w7 95 (1924 + 73 * l) = n := by rw [fr_no f7 ⟨Or.inr (by omega), trivial⟩, fr_no f6 ⟨Or.inr (by omega), trivial⟩, u5]
      have hJL : sy_JL w7 95 := fun l' hl' => by
        by_cases e : l' = l
        · subst e
          rw [hsz, en]
          refine sy_okc_congr (fun i hi => ?_) V3.2.2.2
          rw [fr_no f7 ⟨Or.inr (by omega), trivial⟩, h6 i (by omega), cc5]
        · have zz := z95.2 l' hl'
          rw [so (1924 + 73 * l') (by omega) (by omega) (by omega)]
          refine sy_okc_congr (fun i hi => ?_) (jl l' hl')
          exact (so _ (by omega) (by omega) (by omega)).symm
      have hM7 : Mo (sy_r w7 95) := Mo_fr hM (so 0 (by omega) (by omega) (by omega)) (mo_yT t7 (Or.inl rfl)).1 (so 3 (by omega) (by omega) (by omega)) (so 5 (by omega) (by omega) (by omega)) (so 6 (by omega) (by omega) (by omega)) (fun i h1 h2 => so i (by omega) (by omega) (by omega))
      have hJT6 : sy_JT w7 96 := sy_JT_congr (sy_z96 ht) (fun i _ _ => kz_96Gf fz i) jt6
      have hJL6 : sy_JL w7 96 := sy_JL_congr (sy_z96 ht) (fun i _ _ => kz_96Gf fz i) jl6
      exact ⟨t7, ⟨⟨⟨hJT, hJL⟩, hJT6, hJL6⟩, hM7, by show Mo (sy_r w7 96); rw [e96]; exact hJ.2.2⟩, fz, mc_ans q.1⟩
  obtain ⟨res, g1, g2⟩ := main
  refine ⟨res, ru_of (k := 299) (M := pm_196) rfl ?_ g1, g2⟩
  rw [Bool.and_eq_true]
  exact ⟨rfl, sq_rcv ht rfl rfl rfl⟩
