/-! the way itself -/
noncomputable def fx_A3 : sx_A := [(112, 0, 63)]
theorem fx_fr3 {w w2 : pq_W} (f : sx_Fr fx_A3 w w2) {r : Nat} (hr : r ≠ 112) : sy_r w2 r = sy_r w r := funext fun i => sy_r_fr f (fun ⟨q, hq, e1, _⟩ => by
  rw [List.mem_singleton.mp hq] at e1
  exact hr e1.symm)
noncomputable def fx_gd (w : pq_W) (c d : Nat) : Prop := fx_nx c d ∧ sy_r w 109 d < 100000000 ∧ sy_r w 110 d + 1 = sy_r w 110 c ∧ fx_cand w c d = sy_r w 109 c
theorem fx_find1 {Post : pq_R → Prop} {w : pq_W} {a k c d : Nat} {ls : pq_L} (ha : a < 64) (hk : k ≤ 62) (hc : c < 64) (hd : d < 64) (ht : sx_Ty sx_T0 w) (hR : fx_R w) (hl : sx_lm (fx_p [a, k, c, d]) (fx_l6 (fx_i 1) (fx_i 2) (fx_i 3)) ls)
    (no : ∀ ls2 w2, sx_lm (fx_p [a, k, c, d + 1]) (fx_l6 (fx_i 1) (fx_i 2) (fx_i 3)) ls2 → sx_Ty sx_T0 w2 → sx_Fr fx_A3 w w2 → ¬ fx_gd w c d → ∃ res, pq_Go 119 pm_232 346 ls2 [] w2 0 0 res ∧ Post res)
    (yes : ∀ ls2 w2, sx_lm (fx_p [a, k + 1]) (fx_l5 (fx_i 1)) ls2 → sx_Ty sx_T0 w2 → sx_Fr fx_A3 w w2 → sy_r w2 112 (k + 1) = d → fx_gd w c d → ∃ res, pq_Go 119 pm_232 323 ls2 [] w2 0 0 res ∧ Post res) : ∃ res, pq_Go 119 pm_232 346 ls [] w 0 0 res ∧ Post res := by
  refine sq_sg (P := fx_P3) (S := sq_s0 119 232 pm_232 346 [(0, 63), (0, 62), (0, 63), (0, 63)] [] (fx_l6 (fx_i 1) (fx_i 2) (fx_i 3)) [] [] []) (J := sx_tt) (w0 := w) (p0 := fx_p [a, k, c, d]) (Post := Post) fx_w4 (sq_s0_ok rfl ⟨(show (0 : Int) ≤ a by omega), (show (a : Int) ≤ 63 by omega), (show (0 : Int) ≤ k by omega), (show (k : Int) ≤ 62 by omega), (show (0 : Int) ≤ c by omega), (show (c : Int) ≤ 63 by omega), (show (0 : Int) ≤ d by omega), (show (d : Int) ≤ 63 by omega), trivial⟩ sy_F0 hl trivial sy_O0 ht (sx_Fr_refl _ _) rfl) sx_ctn (fun _ _ _ => trivial)
    (fun p r w2 e t f a => by
      obtain ⟨x, hx, _⟩ := a
      cases hx)
    (fun h hh a2 ha2 p ls2 st w2 e t f hq => ?_)
  cases List.mem_singleton.mp hh
  cases List.mem_singleton.mp ha2
  obtain ⟨q1, q2, _, _, _⟩ := hq
  have q1 := fx_back (n := 4) e rfl q1
  match st, q2 with
  | [.int xd, .int xc], q2 =>
    have ed : xd.toInt = d := by
      have h1 : xd.toInt = sx_ev p (sx_y 3) := q2.1
      rw [h1, sx_y_ev, e 3 (by show 3 < 4; decide)]
      rfl
    have ec : xc.toInt = c := by
      have h1 : xc.toInt = sx_ev p (sx_y 2) := q2.2.1
      rw [h1, sx_y_ev, e 2 (by show 2 < 4; decide)]
      rfl
    have exd : Int32.ofInt d = xd := by rw [← ed]; exact Int32.ofInt_toInt xd
    have exc : Int32.ofInt c = xc := by rw [← ec]; exact Int32.ofInt_toInt xc
    have t : sx_Ty sx_T0 w2 := t
    have f : sx_Fr fx_A3 w w2 := f
    have s109 : sy_r w2 109 = sy_r w 109 := fx_fr3 f (by decide)
    have s110 : sy_r w2 110 = sy_r w 110 := fx_fr3 f (by decide)
    have s111 : sy_r w2 111 = sy_r w 111 := fx_fr3 f (by decide)
    have s95 : sy_r w2 95 = sy_r w 95 := fx_fr3 f (by decide)
    have hfu := fx_fuel t
    have hE : ∀ x, x < 64 → 0 ≤ sy_r w2 111 x ∧ sy_r w2 111 x ≤ 49990 := fun x hx => by rw [s111]; exact hR.1 x hx
    have hS : ∀ x, x < 64 → 0 ≤ sy_r w2 110 x ∧ sy_r w2 110 x ≤ 63 ∧ 0 ≤ sy_r w2 109 x ∧ sy_r w2 109 x ≤ 100000000 := fun x hx => by rw [s110, s109]; exact fw_steps hR.2 hx
    have Sc := hS c hc
    have Sd := hS d hd
    have gd2 : fx_gd w c d ↔ (sq_nx xc xd = 1 ∧ sy_r w2 109 d < 100000000 ∧ sy_r w2 110 d + 1 = sy_r w2 110 c ∧ sy_r w2 109 d + sy_r w2 95 1 + sy_r w2 111 c + sy_r w2 111 d = sy_r w2 109 c) := by
      unfold fx_gd fx_nx fx_cand
      rw [exc, exd, s109, s110, s111, s95]
    have behind : ∃ res, pq_Go 119 pm_232 353 ls2 [.int (sq_nx xc xd)] w2 0 0 res ∧ Post res := by
      have run : ∀ (nx cd : Int × Int) (C : List sx_F) (cc sc : sx_F) (hd0 : List (Nat × List sq_Al)) (vn : Int), (sq_nx xc xd).toInt = vn → fx_go fx_P3 [] hd0 200 (fx_Sw nx cd C cc sc) = true → sq_s0b 12 C (fx_l6 (fx_i 1) (fx_i 2) (fx_i 3)) [fx_i 4] (fx_Ow cc sc) = true → nx.1 ≤ vn ∧ vn ≤ nx.2 → cd.1 ≤ sy_r w2 109 d ∧ sy_r w2 109 d ≤ cd.2 →
          let p0 := fx_p [a, k, c, d, vn, sy_r w2 109 d, sy_r w2 109 c, sy_r w2 110 d, sy_r w2 110 c, sy_r w2 111 c, sy_r w2 111 d, sy_r w2 95 1]
          sx_Fok p0 C → sy_r w2 109 c = sx_ev p0 cc → sy_r w2 110 c = sx_ev p0 sc → (∀ h ∈ hd0, ∀ al ∈ h.2, ∀ p3 ls3 st3 w3, (∀ s, s < 12 → p3 s = p0 s) → sx_Ty sx_T0 w3 → sx_Fr fx_A3 w2 w3 → sq_alO p3 ls3 st3 w3 al → ∃ res, pq_Go 119 pm_232 h.1 ls3 st3 w3 0 0 res ∧ Post res) → ∃ res, pq_Go 119 pm_232 353 ls2 [.int (sq_nx xc xd)] w2 0 0 res ∧ Post res := by
        intro nx cd C cc sc hd0 vn hvn hq hb hnx hcd p0 hC hcc hsc cont
        refine sq_sg (P := fx_P3) (S := fx_Sw nx cd C cc sc) (J := sx_tt) (w0 := w2) (p0 := p0) (Post := Post) hq (sq_s0_ok rfl ⟨(show (0 : Int) ≤ a by omega), (show (a : Int) ≤ 63 by omega), (show (0 : Int) ≤ k by omega), (show (k : Int) ≤ 62 by omega), (show (0 : Int) ≤ c by omega), (show (c : Int) ≤ 63 by omega), (show (0 : Int) ≤ d by omega), (show (d : Int) ≤ 63 by omega), hnx.1, hnx.2, hcd.1, hcd.2, Sc.2.2.1, Sc.2.2.2, Sd.1, Sd.2.1, Sc.1, Sc.2.1, (hE c hc).1, (hE c hc).2, (hE d hd).1, (hE d hd).2, hfu.1, hfu.2, trivial⟩ hC (sy_lmt q1 ⟨rfl, rfl, rfl, rfl, rfl, rfl, rfl, rfl, rfl, rfl, trivial⟩) ⟨?_, trivial⟩ ?_ t (sx_Fr_refl _ _) hb) sx_ctn (fun _ _ _ => trivial)
          (fun p r w3 e t f a => by
            obtain ⟨x, hx, _⟩ := a
            cases hx)
          (fun h hh al hal p3 ls3 st3 w3 e3 t3 f3 hq3 => cont h hh al hal p3 ls3 st3 w3 e3 t3 f3 hq3)
        · show (sq_nx xc xd).toInt = 0 + (1 * vn + 0)
          omega
        · have zz : ∀ x : Int, x = 0 + (1 * x + 0) := fun x => by omega
          exact sy_O1 (sy_Oat (i := d) t rfl hd (zz _) (zz _)) (sy_O1 (sy_Oat (i := c) t rfl hc (zz _) hcc) (sy_O1 (sy_Oat (i := d) t rfl hd (zz _) (zz _)) (sy_O1 (sy_Oat (i := c) t rfl hc (zz _) hsc) (sy_O1 (sy_Oat (i := c) t rfl hc (zz _) (zz _)) (sy_O1 (sy_Oat (i := d) t rfl hd (zz _) (zz _)) (sy_O1 (sy_Oat (i := 1) t rfl (by decide) rfl (zz _)) sy_O0))))))
      have bad : ∀ vn : Int, ¬ fx_gd w c d → let p0 := fx_p [a, k, c, d, vn, sy_r w2 109 d, sy_r w2 109 c, sy_r w2 110 d, sy_r w2 110 c, sy_r w2 111 c, sy_r w2 111 d, sy_r w2 95 1]
          ∀ h ∈ fx_hb, ∀ al ∈ h.2, ∀ p3 ls3 st3 w3, (∀ s, s < 12 → p3 s = p0 s) → sx_Ty sx_T0 w3 → sx_Fr fx_A3 w2 w3 → sq_alO p3 ls3 st3 w3 al → ∃ res, pq_Go 119 pm_232 h.1 ls3 st3 w3 0 0 res ∧ Post res := by
        intro vn hn p0 h hh al hal p3 ls3 st3 w3 e3 t3 f3 hq3
        cases List.mem_singleton.mp hh
        cases List.mem_singleton.mp hal
        obtain ⟨z1, z2, _, _, _⟩ := hq3
        have z1 := fx_back (n := 12) e3 rfl z1
        match st3, z2 with
        | [], _ => exact no ls3 w3 (sy_lmt z1 ⟨rfl, rfl, rfl, rfl, rfl, rfl, rfl, rfl, rfl, sy_svy (by show 1 + (1 * (d : Int) + 0) = (d : Int) + 1; omega), trivial⟩) t3 (sx_Fr_trans f f3) hn
      have z0 : ∀ x : Int, x = 0 + (1 * x + 0) := fun x => by omega
      have v01 : 0 ≤ (sq_nx xc xd).toInt ∧ (sq_nx xc xd).toInt ≤ 1 := by
        rcases fx_nx01 xc xd with h | h <;> rw [h] <;> exact ⟨by decide, by decide⟩
      by_cases h1 : sq_nx xc xd = 1
      · by_cases h2 : sy_r w2 109 d < 100000000
        · by_cases h3 : sy_r w2 110 d + 1 = sy_r w2 110 c
          · by_cases h4 : sy_r w2 109 d + sy_r w2 95 1 + sy_r w2 111 c + sy_r w2 111 d = sy_r w2 109 c
            · refine run (1, 1) (0, 99999999) [] fx_ce (1, [(7, 1)]) fx_hg 1 (by rw [h1]; rfl) fx_g rfl ⟨by decide, by decide⟩ ⟨Sd.2.2.1, by show _ ≤ (99999999 : Int); omega⟩ sy_F0 ?_ ?_ (fun h hh al hal p3 ls3 st3 w3 e3 t3 f3 hq3 => ?_)
              · show sy_r w2 109 c = 0 + (1 * sy_r w2 109 d + (1 * sy_r w2 111 c + (1 * sy_r w2 111 d + (1 * sy_r w2 95 1 + 0))))
                omega
              · show sy_r w2 110 c = 1 + (1 * sy_r w2 110 d + 0)
                omega
              · cases List.mem_singleton.mp hh
                cases List.mem_singleton.mp hal
                obtain ⟨z1, z2, z3, _, _⟩ := hq3
                have z1 := fx_back (n := 12) e3 rfl z1
                obtain ⟨i, i1, x, i2, i3⟩ := z3 _ List.mem_cons_self
                have e1 : p3 1 = k := e3 1 (by decide)
                have e33 : p3 3 = d := e3 3 (by decide)
                match st3, z2, x, i2, i3 with
                | [], _, .int x, i2, i3 =>
                  have i1 : (i : Int) = 1 + (1 * p3 1 + 0) := i1
                  have ei : i = k + 1 := by omega
                  subst ei
                  refine yes ls3 w3 (sy_lmt z1 ⟨rfl, rfl, rfl, rfl, rfl, sy_svy (by show 1 + (1 * (k : Int) + 0) = (k : Int) + 1; omega), trivial⟩) t3 (sx_Fr_trans f f3) ?_ (gd2.mpr ⟨h1, h2, h3, h4⟩)
                  have i3 : x.toInt = 0 + (1 * p3 3 + 0) := i3
                  rw [sy_r_of i2]
                  omega
            · by_cases h5 : sy_r w2 109 d + sy_r w2 95 1 + sy_r w2 111 c + sy_r w2 111 d < sy_r w2 109 c
              · refine run fx_01 fx_0f _ (sx_y 6) (sx_y 8) fx_hb _ rfl fx_b5 rfl v01 ⟨Sd.2.2.1, Sd.2.2.2⟩ (fun q hq => ?_) (z0 _) (z0 _) (bad _ (fun h => by have := gd2.mp h; omega))
                cases List.mem_singleton.mp hq
                show 1 + (1 * sy_r w2 109 d + (-1 * sy_r w2 109 c + (1 * sy_r w2 111 c + (1 * sy_r w2 111 d + (1 * sy_r w2 95 1 + 0))))) ≤ 0
                omega
              · refine run fx_01 fx_0f _ (sx_y 6) (sx_y 8) fx_hb _ rfl fx_b6 rfl v01 ⟨Sd.2.2.1, Sd.2.2.2⟩ (fun q hq => ?_) (z0 _) (z0 _) (bad _ (fun h => by have := gd2.mp h; omega))
                cases List.mem_singleton.mp hq
                show 1 + (-1 * sy_r w2 109 d + (1 * sy_r w2 109 c + (-1 * sy_r w2 111 c + (-1 * sy_r w2 111 d + (-1 * sy_r w2 95 1 + 0))))) ≤ 0
                omega
          · by_cases h5 : sy_r w2 110 d + 1 < sy_r w2 110 c
            · refine run fx_01 fx_0f _ (sx_y 6) (sx_y 8) fx_hb _ rfl fx_b3 rfl v01 ⟨Sd.2.2.1, Sd.2.2.2⟩ (fun q hq => ?_) (z0 _) (z0 _) (bad _ (fun h => by have := gd2.mp h; omega))
              cases List.mem_singleton.mp hq
              show 2 + (1 * sy_r w2 110 d + (-1 * sy_r w2 110 c + 0)) ≤ 0
              omega
            · refine run fx_01 fx_0f _ (sx_y 6) (sx_y 8) fx_hb _ rfl fx_b4 rfl v01 ⟨Sd.2.2.1, Sd.2.2.2⟩ (fun q hq => ?_) (z0 _) (z0 _) (bad _ (fun h => by have := gd2.mp h; omega))
              cases List.mem_singleton.mp hq
              show 0 + (-1 * sy_r w2 110 d + (1 * sy_r w2 110 c + 0)) ≤ 0
              omega
        · exact run fx_01 (100000000, 100000000) [] (sx_y 6) (sx_y 8) fx_hb _ rfl fx_b2 rfl v01 ⟨by show (100000000 : Int) ≤ _; omega, by show _ ≤ (100000000 : Int); omega⟩ sy_F0 (z0 _) (z0 _) (bad _ (fun h => by have := gd2.mp h; omega))
      · have h0 : sq_nx xc xd = 0 := (fx_nx01 xc xd).resolve_left h1
        exact run (0, 0) fx_0f [] (sx_y 6) (sx_y 8) fx_hb 0 (by rw [h0]; rfl) fx_b1 rfl ⟨by decide, by decide⟩ ⟨Sd.2.2.1, Sd.2.2.2⟩ sy_F0 (z0 _) (z0 _) (bad _ (fun h => h1 (gd2.mp h).1))
    obtain ⟨res, g1, g2⟩ := behind
    exact ⟨res, go_cl (j := 211) (n := 2) (as := [.int xc, .int xd]) (k1 := 1) rfl rfl rfl rfl rfl rfl rfl (sq_ru_nx xc xd w2) g1, g2⟩
