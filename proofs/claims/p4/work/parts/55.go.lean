/-! the year's end and go, by hand over the checks -/
noncomputable def yr_B (y a l : Nat) : Nat → Nat → Int := fun a' l' => if a' < a ∨ (a' = a ∧ l' < l) then mo_B (y + 1) else mo_B y
noncomputable def yr_A : sx_A := [(95, 138, 185), (95, 186, 265)]
noncomputable def ycB (ls : pq_L) (a : Int) : Prop := pq_lk ls 0 = some (.ref 94) ∧ ng_i ls 1 a
noncomputable def yr_P (w0 : pq_W) (y : Nat) (res : pq_R) : Prop := res.1 = none ∧ sx_Ty sx_T0 res.2 ∧ sx_Fr yr_A w0 res.2 ∧ mo_N (sy_r res.2 95) (fun _ _ => mo_B (y + 1))
theorem yr_db {N : Nat → Int} {y a l : Nat} (h : mo_N N (yr_B y a l)) (hy : y + 1 ≤ 30) {a' l' : Nat} (ha : a' < 8) (hl : l' < 8) : 0 ≤ N (188 + 10 * a' + l') ∧ N (188 + 10 * a' + l') ≤ 142990700 := by
  have h1 := (h.2.2 a' ha).1 l' hl
  have h2 := mo_F_bd (a := a') h.2.1 hl
  have h3 := mo_B_30 hy
  have h4 := (mo_B_le y).2
  have h5 : yr_B y a l a' l' ≤ mo_B (y + 1) := by
    unfold yr_B
    split <;> omega
  omega
theorem yr_in {w0 : pq_W} {y a : Nat} (hy : y + 1 ≤ 30) (ha8 : a < 8) {n : Int} (hn : n = sy_r w0 95 2)
    (cont : ∀ ls w, ycB ls ((a : Int) + 1) → sx_Ty sx_T0 w → sx_Fr yr_A w0 w → sy_r w 95 2 = n → mo_N (sy_r w 95) (yr_B y (a + 1) 0) → ∃ res, pq_Go 9 pm_229 2 ls [] w 0 0 res ∧ yr_P w0 y res) :
    ∀ (m l : Nat), l + m = 8 → ∀ ls w, ycB ls a → ng_i ls 2 l → sx_Ty sx_T0 w → sx_Fr yr_A w0 w → sy_r w 95 2 = n → mo_N (sy_r w 95) (yr_B y a l) → ∃ res, pq_Go 9 pm_229 14 ls [] w 0 0 res ∧ yr_P w0 y res := by
  have hav : (0 : Int) ≤ a ∧ (a : Int) ≤ 7 := by omega
  intro m
  induction m with
  | zero =>
    intro l hl ls w hb h2 ht hf hn2 hm
    refine ng_go (J := sx_tt) (Post := yr_P w0 y) (fx_p [a]) yc_4 rfl ⟨hav.1, hav.2, trivial⟩ trivial ⟨hb.1, ng_iy hb.2 rfl, ng_ik h2 (show (l : Int) = 8 by omega), trivial⟩ trivial trivial ht sx_ctn (fun _ _ _ => trivial) trivial ⟨fun ls2 st2 w2 t2 f2 q => ?_, trivial⟩
    obtain ⟨a1, a2, _⟩ := q
    cases ng_st0 a2
    obtain ⟨c0, c1, _⟩ := a1
    have f2 : sx_Fr [] w w2 := f2
    have e : sy_r w2 95 = sy_r w 95 := funext (fun i => ng_nil f2 95 i)
    refine cont ls2 w2 ⟨c0, ng_fi c1 (by show 1 + (1 * (a : Int) + 0) = _; omega)⟩ t2 (sx_Fr_trans hf (ng_n2 f2)) (by rw [e]; exact hn2) ?_
    rw [e]
    refine mo_N_B hm (fun a' l' h1 h2 => ?_)
    unfold yr_B
    have := (mo_B_le y).2
    by_cases e1 : a' < a ∨ (a' = a ∧ l' < l)
    · rw [if_pos e1, if_pos (by omega)]
      omega
    · rw [if_neg e1]
      split <;> omega
  | succ m ih =>
    intro l hl ls w hb h2 ht hf hn2 hm
    have hl8 : l < 8 := by omega
    have hlv : (0 : Int) ≤ l ∧ (l : Int) ≤ 7 := by omega
    have hdb := yr_db hm hy ha8 hl8
    refine ng_go (J := sx_tt) (Post := yr_P w0 y) (fx_p [a, l, sy_r w 95 (188 + 10 * a + l)]) yc_3 rfl ⟨hav.1, hav.2, hlv.1, hlv.2, hdb.1, hdb.2, trivial⟩ trivial ⟨hb.1, ng_iy hb.2 rfl, ng_iy h2 rfl, trivial⟩ trivial ⟨?_, trivial⟩ ht sx_ctn (fun _ _ _ => trivial) trivial ⟨fun ls2 st2 w2 t2 f2 q => ?_, trivial⟩
    · show sy_r w 95 (188 + (10 * (a : Int) + (1 * (l : Int) + 0))).toNat = sx_ev _ (sx_y 2)
      rw [sx_y_ev, show (188 + (10 * (a : Int) + (1 * (l : Int) + 0))).toNat = 188 + 10 * a + l by omega]
      rfl
    obtain ⟨a1, a2, _⟩ := q
    obtain ⟨c0, c1, c2, _⟩ := a1
    have c0 : pq_lk ls2 0 = some (.ref 94) := c0
    have g1 : ng_i ls2 1 (a : Int) := ng_yi c1 rfl
    have g2 : ng_i ls2 2 (l : Int) := ng_yi c2 rfl
    have f2 : sx_Fr [] w w2 := f2
    have e2 : sy_r w2 95 = sy_r w 95 := funext (fun i => ng_nil f2 95 i)
    match st2, a2 with
    | [.int y1, .int y2, .int y3, .int y4, .ref y5], a2 =>
      obtain ⟨z1, z2, z3, z4, z5, _⟩ := a2
      have z1 : y1.toInt = sx_ev _ (20, []) := z1
      have z2 : y2.toInt = sx_ev _ (sx_y 2) := z2
      have z3 : y3.toInt = sx_ev _ (sx_y 2) := z3
      have z4 : y4.toInt = 188 + (10 * (a : Int) + (1 * (l : Int) + 0)) := z4
      have z5 : y5 = 95 := z5
      subst z5
      rw [ng_ek] at z1
      rw [sx_y_ev] at z2 z3
      have z2 : y2.toInt = sy_r w 95 (188 + 10 * a + l) := z2
      have z3 : y3.toInt = sy_r w 95 (188 + 10 * a + l) := z3
      have hq : (y2 / y1).toInt = sy_r w 95 (188 + 10 * a + l) / 20 := by rw [go_dv (by omega) (by omega), z2, z1]
      have hne : ¬ y1 = 0 := fun q => by rw [q] at z1; exact absurd z1 (by decide)
      have ck := List.all_eq_true.mp (List.all_eq_true.mp yc_5 a (List.mem_range.mpr ha8)) l (List.mem_range.mpr hl8)
      have back : ∃ res, pq_Go 9 pm_229 48 ls2 [.int (y2 / y1), .int y3, .int y4, .ref 95] w2 0 0 res ∧ yr_P w0 y res := by
        refine ng_go (J := sx_tt) (Post := yr_P w0 y) (fx_p [sy_r w 95 (188 + 10 * a + l), sy_r w 95 (188 + 10 * a + l) / 20]) ck rfl ⟨hdb.1, hdb.2, (show 0 ≤ sy_r w 95 (188 + 10 * a + l) / 20 by omega), (show sy_r w 95 (188 + 10 * a + l) / 20 ≤ 7149535 by omega), trivial⟩ trivial ⟨c0, ng_ik g1 rfl, ng_ik g2 rfl, trivial⟩ ⟨?_, ?_, ?_, rfl, trivial⟩ trivial t2 sx_ctn (fun _ _ _ => trivial) trivial ⟨fun ls3 st3 w3 t3 f3 q => ?_, trivial⟩
        · show (y2 / y1).toInt = sx_ev _ (sx_y 1)
          rw [sx_y_ev, hq]
          rfl
        · show y3.toInt = sx_ev _ (sx_y 0)
          rw [sx_y_ev, z3]
          rfl
        · show y4.toInt = sx_ev _ (188 + 10 * (a : Int) + (l : Int), [])
          rw [ng_ek, z4]
          omega
        obtain ⟨a1, a2, a3, _⟩ := q
        cases ng_st0 a2
        obtain ⟨c0, c1, c2, _⟩ := a1
        have f3 : sx_Fr [(95, 188 + 10 * (a : Int) + (l : Int), 188 + 10 * (a : Int) + (l : Int))] w2 w3 := f3
        obtain ⟨v3, _⟩ := mc_oe (n := 188 + 10 * a + l) a3 (by omega)
        have v3 : sy_r w3 95 (188 + 10 * a + l) = 0 + (1 * sy_r w 95 (188 + 10 * a + l) + (1 * (sy_r w 95 (188 + 10 * a + l) / 20) + 0)) := v3
        have so : ∀ i : Nat, i ≠ 188 + 10 * a + l → sy_r w3 95 i = sy_r w 95 i := fun i hi => by rw [fr_no f3 ⟨Or.inr (by omega), trivial⟩, e2]
        have frb : sx_Fr yr_A w0 w3 := sx_Fr_trans hf (sx_Fr_trans (ng_n2 f2) (fr_w2 f3 ⟨⟨186, 265, by decide, by omega, by omega⟩, trivial⟩))
        have hm3 : mo_N (sy_r w3 95) (yr_B y a (l + 1)) := by
          refine mo_year (a0 := a) (l0 := l) hm ha8 hl8 ?_ (fun a' l' h1 h2 h3 => ?_) (mo_yT t3 (Or.inl rfl)).1 (so 3 (by omega)) (so 5 (by omega)) (so 6 (by omega)) (fun i _ _ hi => so i hi) (by rw [v3]; omega)
          · unfold yr_B
            rw [if_neg (by omega), if_pos (by omega)]
            exact Int.le_refl _
          · unfold yr_B
            by_cases e1 : a' < a ∨ (a' = a ∧ l' < l)
            · rw [if_pos e1, if_pos (by omega)]
              exact Int.le_refl _
            · rw [if_neg e1, if_neg (by omega)]
              exact Int.le_refl _
        exact ih (l + 1) (by omega) ls3 w3 ⟨c0, ng_ki c1 rfl⟩ (ng_ki c2 (by omega)) t3 frb (by rw [so 2 (by omega)]; exact hn2) hm3
      obtain ⟨res, e3, e4⟩ := back
      refine ⟨res, go_bin (i := .idiv) (x := .int y2) (y := .int y1) (z := .int (y2 / y1)) rfl ?_ e3, e4⟩
      show (if y1 = 0 then none else some (Value.int (y2 / y1))) = _
      rw [if_neg hne]
theorem yr_out {w0 : pq_W} {y : Nat} (hy : y + 1 ≤ 30) {n : Nat} (hn : (n : Int) = sy_r w0 95 2) (hn8 : n ≤ 8) : ∀ (m a : Nat), a + m = n → ∀ ls w, ycB ls a → sx_Ty sx_T0 w → sx_Fr yr_A w0 w → sy_r w 95 2 = n → mo_N (sy_r w 95) (yr_B y a 0) → ∃ res, pq_Go 9 pm_229 2 ls [] w 0 0 res ∧ yr_P w0 y res := by
  intro m
  induction m with
  | zero =>
    intro a hm ls w hb ht hf hn2 hN
    refine ng_go (J := sx_tt) (Post := yr_P w0 y) (fx_p [a]) yc_2 rfl ⟨(show (0 : Int) ≤ a by omega), (show (a : Int) ≤ 8 by omega), trivial⟩ trivial ⟨hb.1, ng_iy hb.2 rfl, trivial⟩ trivial (mc_eo (n := 2) (by rw [sx_y_ev, hn2]; show (n : Int) = a; omega) rfl trivial) ht sx_ctn (fun _ _ _ => trivial) trivial ⟨fun ls2 st2 w2 t2 f2 q => ?_, trivial⟩
    obtain ⟨a1, a2, _⟩ := q
    cases ng_st0 a2
    obtain ⟨c0, c1, _⟩ := a1
    have c0 : pq_lk ls2 0 = some (.ref 94) := c0
    have g1 : ng_i ls2 1 0 := ng_ki c1 rfl
    have f2 : sx_Fr [] w w2 := f2
    have e2 : sy_r w2 95 = sy_r w 95 := funext (fun i => ng_nil f2 95 i)
    refine ng_go (J := sx_tt) (Post := yr_P w0 y) (fx_p []) yc_6 rfl trivial trivial ⟨c0, ng_ik g1 rfl, trivial⟩ trivial trivial t2 sx_ctn (fun _ _ _ => trivial) ⟨fun x w3 t3 f3 q => ?_, trivial⟩ trivial
    have f3 : sx_Fr [(95, 138, 185)] w2 w3 := f3
    have so : ∀ i : Nat, ¬ (138 ≤ i ∧ i ≤ 185) → sy_r w3 95 i = sy_r w 95 i := fun i hi => by rw [fr_no f3 ⟨Or.inr (by omega), trivial⟩, e2]
    refine ⟨q.1, t3, sx_Fr_trans hf (sx_Fr_trans (ng_n2 f2) (fr_w2 f3 ⟨⟨138, 185, by decide, by omega, by omega⟩, trivial⟩)), ?_⟩
    have h3 : mo_N (sy_r w3 95) (yr_B y a 0) := mo_N_fr hN (mo_yT t3 (Or.inl rfl)).1 (so 3 (by omega)) (so 5 (by omega)) (so 6 (by omega)) (fun i h1 h2 => so i (by omega))
    refine mo_N_B h3 (fun a' l' _ _ => ?_)
    show yr_B y a 0 a' l' ≤ mo_B (y + 1)
    have := (mo_B_le y).2
    unfold yr_B
    split <;> omega
  | succ m ih =>
    intro a hm ls w hb ht hf hn2 hN
    refine ng_go (J := sx_tt) (Post := yr_P w0 y) (fx_p [a, n]) yc_1 rfl ⟨(show (0 : Int) ≤ a by omega), (show (a : Int) ≤ 7 by omega), (show (0 : Int) ≤ n by omega), (show (n : Int) ≤ 8 by omega), trivial⟩ ⟨by show 1 + (1 * (a : Int) + (-1 * (n : Int) + 0)) ≤ 0; omega, trivial⟩ ⟨hb.1, ng_iy hb.2 rfl, trivial⟩ trivial (mc_eo (n := 2) (by rw [sx_y_ev, hn2]; rfl) rfl trivial) ht sx_ctn (fun _ _ _ => trivial) trivial ⟨fun ls2 st2 w2 t2 f2 q => ?_, trivial⟩
    obtain ⟨a1, a2, _⟩ := q
    cases ng_st0 a2
    obtain ⟨c0, c1, c2, _⟩ := a1
    have f2 : sx_Fr [] w w2 := f2
    have e2 : sy_r w2 95 = sy_r w 95 := funext (fun i => ng_nil f2 95 i)
    refine yr_in (n := (n : Int)) hy (by omega) hn ?_ 8 0 rfl ls2 w2 ⟨c0, ng_yi c1 rfl⟩ (ng_ki c2 rfl) t2 (sx_Fr_trans hf (ng_n2 f2)) (by rw [e2]; exact hn2) (by rw [e2]; exact hN)
    intro ls3 w3 b3 t3 f3 n3 m3
    exact ih (a + 1) (by omega) ls3 w3 ⟨b3.1, by have := b3.2; rw [Int.natCast_add]; exact this⟩ t3 f3 n3 m3
theorem kx_year {w : pq_W} {y : Nat} (ht : sx_Ty sx_T0 w) (hy : y + 1 ≤ 30) (hm : mo_N (sy_r w 95) (fun _ _ => mo_B y)) : ∃ res, pq_Ru 10 229 [.ref 94] w res ∧ yr_P w y res := by
  have hy2 : 0 ≤ sy_r w 95 2 ∧ sy_r w 95 2 ≤ 8 := (mo_yT ht (Or.inl rfl)).1
  have main : ∃ res, pq_Go 9 pm_229 0 (lv_args 0 [.ref 94]) [] w 0 0 res ∧ yr_P w y res := by
    refine ng_go (J := sx_tt) (Post := yr_P w y) (fx_p []) yc_0 rfl trivial trivial ⟨rfl, trivial⟩ trivial trivial ht sx_ctn (fun _ _ _ => trivial) trivial ⟨fun ls2 st2 w2 t2 f2 q => ?_, trivial⟩
    obtain ⟨a1, a2, _⟩ := q
    cases ng_st0 a2
    obtain ⟨c0, c1, _⟩ := a1
    have f2 : sx_Fr [] w w2 := f2
    have e2 : sy_r w2 95 = sy_r w 95 := funext (fun i => ng_nil f2 95 i)
    refine yr_out (n := (sy_r w 95 2).toNat) hy (by omega) (by omega) (sy_r w 95 2).toNat 0 (by omega) ls2 w2 ⟨c0, ng_ki c1 rfl⟩ t2 (ng_n2 f2) (by rw [e2]; omega) ?_
    rw [e2]
    refine mo_N_B hm (fun a' l' _ _ => ?_)
    show mo_B y ≤ yr_B y 0 0 a' l'
    unfold yr_B
    rw [if_neg (by omega)]
    exact Int.le_refl _
  obtain ⟨res, g1, g2⟩ := main
  refine ⟨res, ru_of (k := 9) (M := pm_229) rfl ?_ g1, g2⟩
  rw [Bool.and_eq_true]
  exact ⟨rfl, sq_rcv ht rfl rfl rfl⟩
noncomputable def go_A : sx_A := [(97, 0, 5), (95, 0, 0), (95, 138, 185), (95, 186, 265)]
noncomputable def goB (ls : pq_L) (n k : Int) : Prop := pq_lk ls 0 = some (.ref 94) ∧ ng_i ls 1 n ∧ ng_i ls 2 k
/-- what go answers, and the day behind it -/
noncomputable def gd_X (d n : Int) : Int := if n < 1 ∨ 200 < n ∨ 3000 < d + n then -1000001 else d + n
noncomputable def gd_Y (d n : Int) : Int := if n < 1 ∨ 200 < n ∨ 3000 < d + n then d else d + n
noncomputable def kz_PD (d n : Int) (w : pq_W) (res : pq_R) : Prop := kz_PGd w res ∧ (∃ x : Int32, res.1 = some (.int x) ∧ x.toInt = gd_X d n) ∧ sy_r res.2 95 0 = gd_Y d n
noncomputable def go_Q (w0 : pq_W) (D : Int) (res : pq_R) : Prop := kz_PGd w0 res ∧ (∃ x : Int32, res.1 = some (.int x) ∧ x.toInt = D) ∧ sy_r res.2 95 0 = D
theorem go_loop {w0 : pq_W} {n : Nat} {D : Int} (hJ : JJ w0) (hn1 : 1 ≤ n ∧ n ≤ 200) : ∀ (m k : Nat), k + m = n → ∀ ls w, goB ls n k → sx_Ty sx_T0 w → sx_Fr go_A w0 w → Mo (sy_r w 95) → sy_r w 95 0 + m ≤ 3000 → sy_r w 95 0 + m = D → ∃ res, pq_Go 299 pm_228 35 ls [] w 0 0 res ∧ go_Q w0 D res := by
  have hnv : (1 : Int) ≤ n ∧ (n : Int) ≤ 200 := by omega
  intro m
  induction m with
  | zero =>
    intro k hk ls w hb ht hf hM hd hD
    refine ng_go (J := sx_tt) (Post := go_Q w0 D) (fx_p [n, sy_r w 95 0]) yc_9 rfl ⟨hnv.1, hnv.2, hM.1.1, hM.1.2, trivial⟩ trivial ⟨hb.1, ng_iy hb.2.1 rfl, ng_iy hb.2.2 (show (n : Int) = k by omega), trivial⟩ trivial (mc_eo (n := 0) (by rw [sx_y_ev]; rfl) rfl trivial) ht sx_ctn (fun _ _ _ => trivial) ⟨fun x w2 t2 f2 q => ?_, trivial⟩ trivial
    have f2 : sx_Fr [] w w2 := f2
    have e2 : sy_r w2 95 = sy_r w 95 := funext (fun i => ng_nil f2 95 i)
    have fa : sx_Fr go_A w0 w2 := sx_Fr_trans hf (ng_n2 f2)
    obtain ⟨y, y1, y2⟩ := q.1
    rw [sx_y_ev] at y2
    have y2 : y.toInt = sy_r w 95 0 := y2
    exact ⟨kz_mkGd hJ t2 fa ⟨⟨0, 100000, by decide, by omega, by omega⟩, ⟨0, 0, by decide, by omega, by omega⟩, ⟨138, 1321, by decide, by omega, by omega⟩, ⟨138, 1321, by decide, by omega, by omega⟩, trivial⟩ (by rw [e2]; exact hM) ⟨y, y1⟩, ⟨y, y1, by omega⟩, by show sy_r w2 95 0 = D; rw [e2]; omega⟩
  | succ m ih =>
    intro k hk ls w hb ht hf hM hd hD
    have day := hM.1
    have hkv : (0 : Int) ≤ k ∧ (k : Int) ≤ 199 := by omega
    -- the next day, whatever came of it
    have next : ∀ ls3 w3, goB ls3 n k → sx_Ty sx_T0 w3 → sx_Fr go_A w0 w3 → Mo (sy_r w3 95) → sy_r w3 95 0 = sy_r w 95 0 + 1 → ∃ res, pq_Go 299 pm_228 66 ls3 [] w3 0 0 res ∧ go_Q w0 D res := by
      intro ls3 w3 b3 t3 f3 M3 d3
      refine ng_go (J := sx_tt) (Post := go_Q w0 D) (fx_p [n, k]) yc_a rfl ⟨hnv.1, hnv.2, hkv.1, hkv.2, trivial⟩ trivial ⟨b3.1, ng_iy b3.2.1 rfl, ng_iy b3.2.2 rfl, trivial⟩ trivial trivial t3 sx_ctn (fun _ _ _ => trivial) trivial ⟨fun ls4 st4 w4 t4 f4 q => ?_, trivial⟩
      obtain ⟨a1, a2, _⟩ := q
      cases ng_st0 a2
      obtain ⟨c0, c1, c2, _⟩ := a1
      have f4 : sx_Fr [] w3 w4 := f4
      have e4 : sy_r w4 95 = sy_r w3 95 := funext (fun i => ng_nil f4 95 i)
      exact ih (k + 1) (by omega) ls4 w4 ⟨c0, ng_yi c1 rfl, ng_fi c2 (by show 1 + (1 * (k : Int) + 0) = _; omega)⟩ t4 (sx_Fr_trans f3 (ng_n2 f4)) (by rw [e4]; exact M3) (by rw [e4, d3]; omega) (by rw [e4, d3]; omega)
    refine ng_go (J := sx_tt) (Post := go_Q w0 D) (fx_p [n, k, sy_r w 95 0]) yc_8 rfl ⟨hnv.1, hnv.2, hkv.1, hkv.2, day.1, (show sy_r w 95 0 ≤ 2999 by omega), trivial⟩ ⟨by show 1 + (-1 * (n : Int) + (1 * (k : Int) + 0)) ≤ 0; omega, trivial⟩ ⟨hb.1, ng_iy hb.2.1 rfl, ng_iy hb.2.2 rfl, trivial⟩ trivial (mc_eo (n := 0) (by rw [sx_y_ev]; rfl) rfl trivial) ht sx_ctn (fun _ _ _ => trivial) trivial ⟨fun ls2 st2 w2 t2 f2 q => ?_, trivial⟩
    obtain ⟨a1, a2, a3, _⟩ := q
    obtain ⟨c0, c1, c2, _⟩ := a1
    have b2 : goB ls2 n k := ⟨c0, ng_yi c1 rfl, ng_yi c2 rfl⟩
    have f2 : sx_Fr [(95, 0, 0)] w w2 := f2
    obtain ⟨v2, _⟩ := mc_oe (n := 0) a3 rfl
    have v2 : sy_r w2 95 0 = 1 + (1 * sy_r w 95 0 + 0) := v2
    have so : ∀ i : Nat, i ≠ 0 → sy_r w2 95 i = sy_r w 95 i := fun i hi => fr_no f2 ⟨Or.inr (by omega), trivial⟩
    have fa2 : sx_Fr go_A w0 w2 := sx_Fr_trans hf (fr_w2 f2 ⟨⟨0, 0, by decide, by omega, by omega⟩, trivial⟩)
    have hm2 : mo_N (sy_r w2 95) (fun _ _ => mo_B (sy_r w 95 0 / 100).toNat) := mo_N_fr hM.2 (mo_yT t2 (Or.inl rfl)).1 (so 3 (by omega)) (so 5 (by omega)) (so 6 (by omega)) (fun i h1 _ => so i (by omega))
    match st2, a2 with
    | [.int y1, .int y2], a2 =>
      obtain ⟨z1, z2, _⟩ := a2
      have z1 : y1.toInt = sx_ev _ (100, []) := z1
      have z2 : y2.toInt = 1 + (1 * sy_r w 95 0 + 0) := z2
      rw [ng_ek] at z1
      have hr : (y2 - y2 / y1 * y1).toInt = (sy_r w 95 0 + 1) % 100 := by rw [go_rm (by omega) (by omega), z1, z2]; congr 1; omega
      have hne : ¬ y1 = 0 := fun q => by rw [q] at z1; exact absurd z1 (by decide)
      have hbin : pq_bin .irem (.int y2) (.int y1) = some (.int (y2 - y2 / y1 * y1)) := by
        show (if y1 = 0 then none else some (Value.int (y2 - y2 / y1 * y1))) = _
        rw [if_neg hne]
      by_cases e : (sy_r w 95 0 + 1) % 100 = 0
      · -- a year's end
        have hy1 : ((sy_r w 95 0 / 100).toNat + 1) ≤ 30 := by omega
        refine Exists.elim (?_ : ∃ res, pq_Go 299 pm_228 62 ls2 [] w2 0 0 res ∧ go_Q w0 D res) (fun res h => ?_)
        · refine ng_go (J := sx_tt) (Post := go_Q w0 D) (fx_p [n, k]) yc_b2 rfl ⟨hnv.1, hnv.2, hkv.1, hkv.2, trivial⟩ trivial ⟨b2.1, ng_iy b2.2.1 rfl, ng_iy b2.2.2 rfl, trivial⟩ trivial trivial t2 sx_ctn (fun _ _ _ => trivial) trivial ⟨fun ls3 st3 w3 t3 f3 q => ?_, trivial⟩
          obtain ⟨a1, a2, _⟩ := q
          obtain ⟨c0, c1, c2, _⟩ := a1
          have f3 : sx_Fr [] w2 w3 := f3
          have e3 : sy_r w3 95 = sy_r w2 95 := funext (fun i => ng_nil f3 95 i)
          match st3, a2 with
          | [.ref y5], a2 =>
            have y5e : y5 = 94 := a2.1
            subst y5e
            obtain ⟨⟨r4, w4⟩, e1, hr4, t4, f4, m4⟩ := kx_year (w := w3) (y := (sy_r w 95 0 / 100).toNat) t3 hy1 (by rw [e3]; exact hm2)
            have hr4 : r4 = none := hr4
            subst hr4
            have t4 : sx_Ty sx_T0 w4 := t4
            have f4 : sx_Fr [(95, 138, 185), (95, 186, 265)] w3 w4 := f4
            have d4 : sy_r w4 95 0 = sy_r w 95 0 + 1 := by
              rw [fr_no f4 ⟨Or.inr (by omega), Or.inr (by omega), trivial⟩, e3, v2]
              omega
            have hM4 : Mo (sy_r w4 95) := by
              refine ⟨by rw [d4]; omega, ?_⟩
              rw [d4, show ((sy_r w 95 0 + 1) / 100).toNat = (sy_r w 95 0 / 100).toNat + 1 by omega]
              exact m4
            obtain ⟨res, g1, g2⟩ := next ls3 w4 ⟨c0, ng_yi c1 rfl, ng_yi c2 rfl⟩ t4 (sx_Fr_trans fa2 (sx_Fr_trans (ng_n2 f3) (fr_w2 f4 ⟨⟨138, 185, by decide, by omega, by omega⟩, ⟨186, 265, by decide, by omega, by omega⟩, trivial⟩))) hM4 d4
            exact ⟨res, go_cl (j := 229) (n := 1) (as := [.ref 94]) (k1 := 10) rfl rfl rfl rfl rfl rfl rfl e1 g1, g2⟩
        · refine ⟨res, go_bin (i := .irem) (x := .int y2) (y := .int y1) rfl hbin (go_if false rfl ?_ h.1), h.2⟩
          exact decide_eq_false (fun q => q (Int32.toInt_inj.mp (by rw [hr, e]; rfl)))
      · have hM2 : Mo (sy_r w2 95) := by
          refine ⟨by rw [v2]; omega, ?_⟩
          refine mo_N_B hm2 (fun _ _ _ _ => mo_B_mono ?_)
          rw [v2]
          omega
        obtain ⟨res, g1, g2⟩ := next ls2 w2 b2 t2 fa2 hM2 (by rw [v2]; omega)
        refine ⟨res, go_bin (i := .irem) (x := .int y2) (y := .int y1) rfl hbin (go_if true rfl ?_ g1), g2⟩
        refine decide_eq_true (fun q => e ?_)
        rw [← hr, q]
        rfl
theorem gd_er {p : Nat → Int} {n : Int} {w w1 : pq_W} {x : Option Value} (hJ : JJ w) (ht : sx_Ty sx_T0 w1) (f : sx_Fr [(97, 0, 5)] w w1) (a : ng_a1 p x gd_b) (h : n < 1 ∨ 200 < n ∨ 3000 < sy_r w 95 0 + n) : kz_PD (sy_r w 95 0) n w (x, w1) := by
  obtain ⟨y, y1, y2⟩ := a
  rw [ng_ek] at y2
  refine ⟨kz_erGd hJ ht f ⟨y, y1⟩, ⟨y, y1, by unfold gd_X; rw [if_pos h]; exact y2⟩, ?_⟩
  unfold gd_Y
  rw [if_pos h]
  exact fr_no f ⟨Or.inl (by decide), trivial⟩
theorem kz_go {xn : Int32} {w : pq_W} (ht : sx_Ty sx_T0 w) (hJ : JJ w) : ∃ res, pq_Ru 300 228 [.ref 94, .int xn] w res ∧ kz_PD (sy_r w 95 0) xn.toInt w res := by
  have day := hJ.2.1.1
  have main : ∃ res, pq_Go 299 pm_228 0 (lv_args 0 [.ref 94, .int xn]) [] w 0 0 res ∧ kz_PD (sy_r w 95 0) xn.toInt w res := by
    refine ng_go (J := sx_tt) (Post := kz_PD (sy_r w 95 0) xn.toInt w) (fx_p [xn.toInt, sy_r w 95 0]) yc_7 rfl ⟨xn.minValue_le_toInt, xn.toInt_le, day.1, day.2, trivial⟩ trivial ⟨rfl, ng_iy ⟨xn, rfl, rfl⟩ rfl, trivial⟩ trivial (mc_eo (n := 0) (by rw [sx_y_ev]; rfl) rfl trivial) ht sx_ctn (fun _ _ _ => trivial) ⟨fun x w2 t2 f2 a => gd_er hJ t2 f2 a.1 (Or.inl (by have d : 0 + (1 * xn.toInt + 0) ≤ 0 := a.2.2.1.1; omega)), fun x w2 t2 f2 a => gd_er hJ t2 f2 a.1 (Or.inr (Or.inl (by have d : 201 + (-1 * xn.toInt + 0) ≤ 0 := a.2.2.1.1; omega))), fun x w2 t2 f2 a => gd_er hJ t2 f2 a.1 (Or.inr (Or.inr (by have d : 3001 + (-1 * xn.toInt + (-1 * sy_r w 95 0 + 0)) ≤ 0 := a.2.2.1.1; omega))), trivial⟩ ⟨fun ls2 st2 w2 t2 f2 q => ?_, trivial⟩
    obtain ⟨a1, a2, _, a4, _⟩ := q
    cases ng_st0 a2
    obtain ⟨c0, c1, c2, _⟩ := a1
    obtain ⟨d1, d2, d3, _⟩ := a4
    have d1 : 1 + (-1 * xn.toInt + 0) ≤ 0 := d1
    have d2 : -200 + (1 * xn.toInt + 0) ≤ 0 := d2
    have d3 : -3000 + (1 * xn.toInt + (1 * sy_r w 95 0 + 0)) ≤ 0 := d3
    have f2 : sx_Fr [(97, 0, 5)] w w2 := f2
    have e2 : sy_r w2 95 = sy_r w 95 := funext (fun i => fr_no f2 ⟨Or.inl (by decide), trivial⟩)
    obtain ⟨res, r1, r2, r3, r4⟩ := go_loop (n := xn.toInt.toNat) (D := sy_r w 95 0 + xn.toInt) hJ (by omega) xn.toInt.toNat 0 (by omega) ls2 w2 ⟨c0, ng_yi c1 (show xn.toInt = _ by omega), ng_ki c2 rfl⟩ t2 (fr_w2 f2 ⟨⟨0, 5, by decide, by omega, by omega⟩, trivial⟩) (by rw [e2]; exact hJ.2.1) (by rw [e2]; omega) (by rw [e2]; omega)
    have hn : ¬ (xn.toInt < 1 ∨ 200 < xn.toInt ∨ 3000 < sy_r w 95 0 + xn.toInt) := by omega
    exact ⟨res, r1, r2, by unfold gd_X; rw [if_neg hn]; exact r3, by unfold gd_Y; rw [if_neg hn]; exact r4⟩
  obtain ⟨res, g1, g2⟩ := main
  refine ⟨res, ru_of (k := 299) (M := pm_228) rfl ?_ g1, g2⟩
  rw [Bool.and_eq_true]
  exact ⟨rfl, sq_rcv ht rfl rfl rfl⟩
