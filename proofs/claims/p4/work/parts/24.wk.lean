theorem sy_ht_nn {c : Nat → Int} {n : Int} (h : sy_okc c n) : ∀ k : Nat, (k : Int) ≤ n → 0 ≤ sy_ht c k
  | 0, _ => Int.le_refl _
  | k + 1, hk => by
    have h1 := h k (by omega)
    show 0 ≤ sy_ht c k + sy_dl (c k)
    unfold sy_nd at h1
    unfold sy_dl
    split at h1
    · rename_i h2
      rw [if_pos h2]
      omega
    · rename_i h2
      rw [if_neg h2]
      split at h1
      · rename_i h3
        rw [if_pos h3]
        omega
      · rename_i h3
        rw [if_neg h3]
        omega
noncomputable def pt_wk (p : Nat → Int) (a b : Int) : Nat → Int := fun s => if s = 7 then a else if s = 8 then b else p s
noncomputable def pu_wk (p : Nat → Int) (a b : Int) : Nat → Int := fun s => if s = 5 then a else if s = 6 then b else p s
theorem lp_wk : ∀ (m k : Nat), k + m = 70 → ∀ (l : Nat) (p : Nat → Int) (ls : pq_L) (w : pq_W), l < 12 → p 1 = l → p 5 = sy_ht (fun i => sy_r w 95 (1925 + 73 * l + i)) k → p 6 = k → (k : Int) ≤ sy_r w 95 (1924 + 73 * l) → sy_okc (fun i => sy_r w 95 (1925 + 73 * l + i)) (sy_r w 95 (1924 + 73 * l)) → sx_ivs p 0 (kk_worked.as.map sy_iv) → sx_lm p (sl_wk (sx_y 5) (sx_y 6)) ls → sx_Ty sx_T0 w → ∃ res : pq_R, pq_Go 59 pm_185 16 ls [] w 0 0 res ∧ (sx_rtm (some (.inl (-2147483648, 2147483647))) res.1 ∧ sx_Ty sx_T0 res.2 ∧ sx_Fr [(105, 0, 100000)] w res.2) := by
  intro m
  induction m with
  | zero =>
    intro k hm l p ls w hl h1 h5 h6 hk ho hi hsl ht
    have z := (sy_z95 ht).2 l hl
    have hn := sy_ht_nn ho k hk
    have hle := sy_ht_le (fun i => sy_r w 95 (1925 + 73 * l + i)) k
    refine sy_sg (S := ss_wk 0 sy_full D_wk [(95, (1924, [(1, 73)]), .inl (.inl (sx_y 7)))]) (J := sx_tt) (p0 := pt_wk p (sy_r w 95 (1924 + 73 * l)) 0) (Post := fun res => (sx_rtm (some (.inl (-2147483648, 2147483647))) res.1 ∧ sx_Ty sx_T0 res.2 ∧ sx_Fr [(105, 0, 100000)] w res.2)) ck_wk9 (sx_s0_ok rfl ?_ ?_ ?_ ?_ ht (sx_Fr_refl _ _) rfl) sx_ctn (fun _ _ _ => trivial)
      (fun p2 r w2 e t2 f a2 => ⟨sy_rng (sy_one a2).1, t2, f⟩) (fun p2 ls2 w2 e t2 f a2 => ?_)
    · exact ⟨hi.1, hi.2.1, hi.2.2.1, hi.2.2.2.1, hi.2.2.2.2.1, hi.2.2.2.2.2.1, hi.2.2.2.2.2.2.1, hi.2.2.2.2.2.2.2.1, hi.2.2.2.2.2.2.2.2.1, hi.2.2.2.2.2.2.2.2.2.1, by show 0 ≤ p 5; omega, by show p 5 ≤ 70; omega, by show 0 ≤ p 6; omega, by show p 6 ≤ 70; omega, z.1, z.2, (by decide : (-2147483648 : Int) ≤ 0), (by decide : (0 : Int) ≤ 2147483647), trivial⟩
    · intro q hq
      cases List.mem_singleton.mp hq
      show 0 + (-1 * p 6 + (1 * sy_r w 95 (1924 + 73 * l) + 0)) ≤ 0
      omega
    · exact sy_lmt hsl ⟨rfl, rfl, rfl, rfl, rfl, rfl, rfl, rfl, rfl, rfl, rfl, rfl, rfl, rfl, rfl, rfl, trivial⟩
    · refine sy_O1 (sy_Oat (i := 1924 + 73 * l) ht rfl (by omega) ?_ ?_) sy_O0
      · show ((1924 + 73 * l : Nat) : Int) = 1924 + (73 * p 1 + 0)
        omega
      · show _ = 0 + (1 * sy_r w 95 (1924 + 73 * l) + 0)
        omega
    · obtain ⟨z, hz, _⟩ := a2
      cases hz
  | succ m ih =>
    intro k hm l p ls w hl h1 h5 h6 hk ho hi hsl ht
    have z := (sy_z95 ht).2 l hl
    have hn := sy_ht_nn ho k hk
    have hle := sy_ht_le (fun i => sy_r w 95 (1925 + 73 * l + i)) k
    by_cases hks : (k : Int) = sy_r w 95 (1924 + 73 * l)
    · refine sy_sg (S := ss_wk 0 sy_full D_wk [(95, (1924, [(1, 73)]), .inl (.inl (sx_y 7)))]) (J := sx_tt) (p0 := pt_wk p (sy_r w 95 (1924 + 73 * l)) 0) (Post := fun res => (sx_rtm (some (.inl (-2147483648, 2147483647))) res.1 ∧ sx_Ty sx_T0 res.2 ∧ sx_Fr [(105, 0, 100000)] w res.2)) ck_wk9 (sx_s0_ok rfl ?_ ?_ ?_ ?_ ht (sx_Fr_refl _ _) rfl) sx_ctn (fun _ _ _ => trivial)
        (fun p2 r w2 e t2 f a2 => ⟨sy_rng (sy_one a2).1, t2, f⟩) (fun p2 ls2 w2 e t2 f a2 => ?_)
      · exact ⟨hi.1, hi.2.1, hi.2.2.1, hi.2.2.2.1, hi.2.2.2.2.1, hi.2.2.2.2.2.1, hi.2.2.2.2.2.2.1, hi.2.2.2.2.2.2.2.1, hi.2.2.2.2.2.2.2.2.1, hi.2.2.2.2.2.2.2.2.2.1, by show 0 ≤ p 5; omega, by show p 5 ≤ 70; omega, by show 0 ≤ p 6; omega, by show p 6 ≤ 70; omega, z.1, z.2, (by decide : (-2147483648 : Int) ≤ 0), (by decide : (0 : Int) ≤ 2147483647), trivial⟩
      · intro q hq
        cases List.mem_singleton.mp hq
        show 0 + (-1 * p 6 + (1 * sy_r w 95 (1924 + 73 * l) + 0)) ≤ 0
        omega
      · exact sy_lmt hsl ⟨rfl, rfl, rfl, rfl, rfl, rfl, rfl, rfl, rfl, rfl, rfl, rfl, rfl, rfl, rfl, rfl, trivial⟩
      · refine sy_O1 (sy_Oat (i := 1924 + 73 * l) ht rfl (by omega) ?_ ?_) sy_O0
        · show ((1924 + 73 * l : Nat) : Int) = 1924 + (73 * p 1 + 0)
          omega
        · show _ = 0 + (1 * sy_r w 95 (1924 + 73 * l) + 0)
          omega
      · obtain ⟨z, hz, _⟩ := a2
        cases hz
    · have hc := ho k (by omega)
      have step : ∀ (lo : Int) (cc : Int × Int) (C : List sx_F) (d : Int), sx_go kp_wk (sy_ret []) (sx_cks kp_wk (sy_ret []) (sx_stop 185 59 16 (al_wk d)) 400) [] (ss_wk lo cc C O_wk) = true → sx_s0b 9 C (sl_wk (sx_y 5) (sx_y 6)) O_wk = true → lo ≤ p 5 → cc.1 ≤ sy_r w 95 (1925 + 73 * l + k) → sy_r w 95 (1925 + 73 * l + k) ≤ cc.2 → sx_Fok (pt_wk p (sy_r w 95 (1924 + 73 * l)) (sy_r w 95 (1925 + 73 * l + k))) C → sy_dl (sy_r w 95 (1925 + 73 * l + k)) = d → ∃ res : pq_R, pq_Go 59 pm_185 16 ls [] w 0 0 res ∧ (sx_rtm (some (.inl (-2147483648, 2147483647))) res.1 ∧ sx_Ty sx_T0 res.2 ∧ sx_Fr [(105, 0, 100000)] w res.2) := by
        intro lo cc C d hck hb hlo hc1 hc2 hC hd
        refine sy_sg (S := ss_wk lo cc C O_wk) (J := sx_tt) (p0 := pt_wk p (sy_r w 95 (1924 + 73 * l)) (sy_r w 95 (1925 + 73 * l + k))) (Post := fun res => (sx_rtm (some (.inl (-2147483648, 2147483647))) res.1 ∧ sx_Ty sx_T0 res.2 ∧ sx_Fr [(105, 0, 100000)] w res.2)) hck (sx_s0_ok rfl ?_ hC ?_ ?_ ht (sx_Fr_refl _ _) hb) sx_ctn (fun _ _ _ => trivial)
          (fun p2 r w2 e t2 f a2 => ?_) (fun p2 ls2 w2 e t2 f a2 => ?_)
        · exact ⟨hi.1, hi.2.1, hi.2.2.1, hi.2.2.2.1, hi.2.2.2.2.1, hi.2.2.2.2.2.1, hi.2.2.2.2.2.2.1, hi.2.2.2.2.2.2.2.1, hi.2.2.2.2.2.2.2.2.1, hi.2.2.2.2.2.2.2.2.2.1, hlo, by show p 5 ≤ 70; omega, by show 0 ≤ p 6; omega, by show p 6 ≤ 70; omega, z.1, z.2, hc1, hc2, trivial⟩
        · exact sy_lmt hsl ⟨rfl, rfl, rfl, rfl, rfl, rfl, rfl, rfl, rfl, rfl, rfl, rfl, rfl, rfl, rfl, rfl, trivial⟩
        · refine sy_O1 (sy_Oat (i := 1924 + 73 * l) ht rfl (by omega) ?_ ?_) (sy_O1 (sy_Oat (i := 1925 + 73 * l + k) ht rfl (by omega) ?_ ?_) sy_O0)
          · show ((1924 + 73 * l : Nat) : Int) = 1924 + (73 * p 1 + 0)
            omega
          · show _ = 0 + (1 * sy_r w 95 (1924 + 73 * l) + 0)
            omega
          · show ((1925 + 73 * l + k : Nat) : Int) = 1925 + (73 * p 1 + (1 * p 6 + 0))
            omega
          · show _ = 0 + (1 * sy_r w 95 (1925 + 73 * l + k) + 0)
            omega
        · obtain ⟨z, hz, _⟩ := a2
          cases hz
        · have a2 := (sy_one a2).1
          have e5 : p2 5 = p 5 := e 5 (by show 5 < 9; decide)
          have e6 : p2 6 = p 6 := e 6 (by show 6 < 9; decide)
          have e1 : p2 1 = p 1 := e 1 (by show 1 < 9; decide)
          have f95 : ∀ i, i < 2858 → sy_r w2 95 i = sy_r w 95 i := fun i hi => sy_r_fr f (sy_nin (lo := 0) (hi := 2857) rfl (by omega) (by omega))
          have es := f95 (1924 + 73 * l) (by omega)
          have ec : ∀ i : Nat, (i : Int) < sy_r w 95 (1924 + 73 * l) → (fun i => sy_r w 95 (1925 + 73 * l + i)) i = (fun i => sy_r w2 95 (1925 + 73 * l + i)) i := fun i hi => (f95 _ (by omega)).symm
          have hi2 := sy_ivs_agree (p2 := p2) hi (fun s hs => (e s (Nat.lt_trans (show s < 5 from hs) (by show 5 < 9; decide))).trans (by
            have hs : s < 5 := hs
            show (if s = 7 then _ else if s = 8 then _ else p s) = _
            rw [if_neg (by omega), if_neg (by omega)]))
          obtain ⟨res, g1, g2, g3, g4⟩ := ih (k + 1) (by omega) l (pu_wk p2 (d + p2 5) (p2 6 + 1)) ls2 w2 hl (by show p2 1 = _; rw [e1, h1]) (by
              show d + p2 5 = sy_ht _ k + sy_dl (sy_r w2 95 (1925 + 73 * l + k))
              rw [e5, h5, f95 _ (by omega), hd, sy_ht_congr (fun i hi => ec i (by omega))]
              omega) (by show p2 6 + 1 = _; omega) (by rw [es]; omega) (by rw [es]; exact sy_okc_congr ec ho) ⟨hi2.1, hi2.2.1, hi2.2.2.1, hi2.2.2.2.1, hi2.2.2.2.2.1, hi2.2.2.2.2.2.1, hi2.2.2.2.2.2.2.1, hi2.2.2.2.2.2.2.2.1, hi2.2.2.2.2.2.2.2.2.1, hi2.2.2.2.2.2.2.2.2.2.1, trivial⟩ (sy_lmt a2 ⟨rfl, rfl, rfl, rfl, rfl, rfl, rfl, rfl, rfl, rfl, rfl, rfl, rfl, sy_svy (by show d + (1 * p2 5 + 0) = d + p2 5; omega), rfl, sy_svy (by show 1 + (1 * p2 6 + 0) = p2 6 + 1; omega), trivial⟩) t2
          exact ⟨res, g1, g2, g3, sx_Fr_trans f g4⟩
      have hcf : ∀ q ∈ C_wk, sx_ev (pt_wk p (sy_r w 95 (1924 + 73 * l)) (sy_r w 95 (1925 + 73 * l + k))) q ≤ 0 := fun q hq => by
        cases List.mem_singleton.mp hq
        show 1 + (1 * p 6 + (-1 * sy_r w 95 (1924 + 73 * l) + 0)) ≤ 0
        omega
      have hb := sy_rb w 95 (1925 + 73 * l + k)
      unfold sy_nd at hc
      by_cases c1 : sy_r w 95 (1925 + 73 * l + k) < 20000
      · refine step 0 (-2147483648, 19999) (C_wk ++ [(0, [(5, 1), (6, -1)])]) 1 ck_wk1 rfl (by omega) hb.1 (by show _ ≤ (19999 : Int); omega) (fun q hq => ?_) (by unfold sy_dl; rw [if_pos c1])
        rcases List.mem_append.mp hq with h | h
        · exact hcf q h
        · cases List.mem_singleton.mp h
          show 0 + (1 * p 5 + (-1 * p 6 + 0)) ≤ 0
          omega
      · rw [if_neg c1] at hc
        by_cases c2 : sy_r w 95 (1925 + 73 * l + k) = 20009
        · rw [if_pos c2] at hc
          exact step 1 (20009, 20009) C_wk 0 ck_wk2 rfl (by omega) (by show (20009 : Int) ≤ _; omega) (by show _ ≤ (20009 : Int); omega) hcf (by unfold sy_dl; rw [if_neg c1, if_pos c2])
        · rw [if_neg c2] at hc
          by_cases c3 : sy_r w 95 (1925 + 73 * l + k) < 20009
          · exact step 2 (20000, 20008) C_wk (-1) ck_wk3 rfl (by omega) (by show (20000 : Int) ≤ _; omega) (by show _ ≤ (20008 : Int); omega) hcf (by unfold sy_dl; rw [if_neg c1, if_neg c2])
          · exact step 2 (20010, 2147483647) C_wk (-1) ck_wk4 rfl (by omega) (by show (20010 : Int) ≤ _; omega) hb.2 hcf (by unfold sy_dl; rw [if_neg c1, if_neg c2])
theorem kt_worked : sx_RW sy_J0 := by
  intro as w ha hkn hkg ht hj
  obtain ⟨r, w1, g1, g2, g3, g4⟩ := sy_ent (P := kp_wk) (w0 := w) (J := sx_tt) (M := pm_185) (k := 59) (Post := fun res => (sx_rtm (some (.inl (-2147483648, 2147483647))) res.1 ∧ sx_Ty sx_T0 res.2 ∧ sx_Fr [(105, 0, 100000)] w res.2)) ck_wk0 sx_ctn (fun _ _ _ => trivial) rfl (by decide +kernel) ha hkn hkg ht
    (fun p r w2 e t f a => by
      obtain ⟨x, hx, _⟩ := a
      cases hx)
    (fun p ls w2 e t f a => by
      have a := (sy_one a).1
      have hi := sy_ivs_agree (p2 := p) (sy_iv_ok (n := 0) (p := sx_pv as 0) (show sx_noany kk_worked.as = true from rfl) ha (fun s _ => rfl)) (fun s hs => e s (by rw [Nat.zero_add, List.length_map] at hs; exact hs))
      have f95 : ∀ i, i < 2858 → sy_r w2 95 i = sy_r w 95 i := fun i hi => sy_r_fr f (sy_nin (lo := 0) (hi := 2857) rfl (by omega) (by omega))
      have l1 : 0 ≤ p 1 := hi.2.2.1
      have l2 : p 1 ≤ 11 := hi.2.2.2.1
      have t : sx_Ty sx_T0 w2 := t
      have z := (sy_z95 t).2 (p 1).toNat (by omega)
      obtain ⟨res, g1, g2, g3, g4⟩ := lp_wk 70 0 rfl (p 1).toNat (pu_wk p 0 0) ls w2 (by omega) (by show p 1 = _; omega) rfl rfl (by show (0 : Int) ≤ _; exact z.1) (by
          rw [f95 _ (by omega)] at z
          rw [f95 _ (by omega)]
          exact sy_okc_congr (fun i hi => (f95 _ (by omega)).symm) (hj.1.2 (p 1).toNat (by omega))) ⟨hi.1, hi.2.1, hi.2.2.1, hi.2.2.2.1, hi.2.2.2.2.1, hi.2.2.2.2.2.1, hi.2.2.2.2.2.2.1, hi.2.2.2.2.2.2.2.1, hi.2.2.2.2.2.2.2.2.1, hi.2.2.2.2.2.2.2.2.2.1, trivial⟩ (sy_lmt a ⟨rfl, rfl, rfl, rfl, rfl, rfl, rfl, rfl, rfl, rfl, rfl, rfl, rfl, rfl, rfl, rfl, trivial⟩) t
      exact ⟨res, g1, g2, g3, sx_Fr_trans f g4⟩)
  exact ⟨r, w1, g1, g3, sy_J0I w w1 hj g3 (sx_Fr_sub (by decide +kernel) g4), g2, g4⟩
