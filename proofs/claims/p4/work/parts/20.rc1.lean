noncomputable def kk_worked : sx_K := ([.inr (.inr (.inl 94)), .inl (0, 11), .inl (0, 11), .inl ((-1), 29), .inl ((-1), 7)], some (.inl ((-2147483648), 2147483647)), [(105, 0, 100000)], 60, [], [], [])
noncomputable def kk_knownOn : sx_K := ([.inr (.inr (.inl 94)), .inl (0, 29), .inl ((-2147483648), 2147483647)], none, [], 10, [], [], [([], .inl (.inl (-1, [])), []), ([(0, 39), (0, 12), (0, 63)], .inl (.inl (1324, [(3, 15)])), [(95, (1324, [(3, 15)]), .inl (.inl (0, [(4, 1)]))), (95, (1324, [(3, 15), (4, 1)]), .inl (.inl (0, [(5, 1)])))])])
noncomputable def kk_findWayR : sx_K := ([.inr (.inr (.inl 94)), .inl (0, 11), .inl (0, 63), .inl (0, 63)], some (.inl ((-1), 63)), [(105, 0, 100000), (109, 0, 100000), (110, 0, 100000), (111, 0, 100000), (112, 0, 100000)], 120, [], [], [])
/-! where a call of the reference writes, tells and laws apart -/
noncomputable def sx_MR : sx_A := [(94, 3, 1000), (95, 0, 1321), (95, 2798, 2857), (97, 0, 100000), (98, 0, 100000), (99, 0, 100000), (100, 0, 100000), (101, 0, 100000), (102, 0, 100000), (103, 0, 100000), (104, 0, 100000), (105, 0, 100000), (106, 0, 100000), (107, 0, 100000), (108, 0, 100000), (109, 0, 100000), (110, 0, 100000), (111, 0, 100000), (112, 0, 100000), (113, 0, 100000)]
theorem sx_Fr_sub {A B : sx_A} (h : sx_sub_A A B = true) {w w1 : pq_W} (f : sx_Fr A w w1) : sx_Fr B w w1 := fun r i hn => f r i (fun z => hn (sx_sub_A_ok h z))
noncomputable def sx_JI (J : pq_W → Prop) : Prop := ∀ w w1, J w → sx_Ty sx_T0 w1 → sx_Fr sx_MR w w1 → J w1
/-- what is shown by hand -/
noncomputable def sx_RW (J : pq_W → Prop) : Prop := sx_Kok sx_T0 J 185 kk_worked
noncomputable def sx_RH (J : pq_W → Prop) : Prop := sx_RW J ∧ sx_Kok sx_T0 J 218 kk_knownOn ∧ sx_Kok sx_T0 J 232 kk_findWayR
noncomputable def kk_forced : sx_K := ([.inr (.inr (.inl 94)), .inl ((-2147483648), 2147483647), .inl ((-2147483648), 2147483647)], some (.inl ((-1), 11)), [], 10, [], [], [])
noncomputable def kp_forced : sx_P := (sx_T0, [], [], [(183, [(5, ([(3, false, (-1), 11), (4, false, 0, 3000)], [], true, [5], 4, true))])])
theorem kt_forced {J : pq_W → Prop} (hJ : sx_JI J) (h : sx_RW J) : sx_Kok sx_T0 J 183 kk_forced := sx_con (P := kp_forced) (M := pm_183) (k := 9) (f := 9000) sx_ctn (fun w w1 j t f => hJ w w1 j t (sx_Fr_sub (by decide +kernel) f)) rfl (by decide +kernel) rfl rfl (by decide +kernel)
noncomputable def kk_ruled : sx_K := ([.inr (.inr (.inl 94)), .inl ((-2147483648), 2147483647), .inl (0, 11), .inl ((-1), 29), .inl ((-1), 7)], some (.inl ((-2147483648), 2147483647)), [(105, 0, 100000)], 80, [], [], [])
noncomputable def kp_ruled : sx_P := (sx_T0, [(105, 0, 100000)], [(185, kk_worked), (183, kk_forced)], [])
theorem kt_ruled {J : pq_W → Prop} (hJ : sx_JI J) (h : sx_RW J) : sx_Kok sx_T0 J 184 kk_ruled := sx_con (P := kp_ruled) (M := pm_184) (k := 79) (f := 9000) (sx_ctc h (sx_ctc (kt_forced hJ h) sx_ctn)) (fun w w1 j t f => hJ w w1 j t (sx_Fr_sub (by decide +kernel) f)) rfl (by decide +kernel) rfl rfl (by decide +kernel)
noncomputable def kk_factor : sx_K := ([.inr (.inr (.inl 94)), .inl (0, 11), .inl ((-1), 29), .inl ((-1), 7)], some (.inl (0, 9999)), [(105, 0, 100000)], 90, [], [], [])
noncomputable def kp_factor : sx_P := (sx_T0, [(105, 0, 100000)], [(183, kk_forced), (184, kk_ruled)], [])
noncomputable def kp_factor0 : sx_P := (sx_T0, [(105, 0, 100000)], [(183, kk_forced), (184, kk_ruled)], [])
noncomputable def kp_factor1 : sx_P := (sx_T0, [], [], [])
noncomputable def sl_factor (n : Nat) : List (Nat × sx_V) := [(0, .inr (.inr 94)), (1, .inl (.inl (sx_y 1))), (4, .inl (.inl (Int.ofNat n, [])))]
noncomputable def re_factor : List sx_Ae := [(.inl (.inr (0, 9999)), [], [])]
noncomputable def iv_factor : List (Int × Int) := [(0, 0), (0, 11)]
noncomputable def ss_factor (n : Nat) : sx_S := sx_s0 89 180 pm_180 35 iv_factor [] (sl_factor n) [] []
theorem ck_factor0 : sx_go kp_factor0 (sy_ret re_factor) (sx_cks kp_factor0 (sy_ret re_factor) (sx_stop 180 89 35 [(sl_factor 0, [], [])]) 300) [] (sx_beg kp_factor0 89 180 pm_180 kk_factor.as [] []) = true := by decide +kernel
theorem ck_factor1 : ((List.range 347).all fun n => sx_go kp_factor1 (sy_ret re_factor) (sx_cks kp_factor1 (sy_ret re_factor) (sx_stop 180 89 35 (bif Nat.blt n 346 then [(sl_factor (n + 1), [], [])] else [])) 100) [] (ss_factor n)) = true := by decide +kernel
theorem lp_factor : ∀ (m n : Nat), n + m = 346 → ∀ (p : Nat → Int) (ls : pq_L) (w : pq_W), sx_ivs p 0 iv_factor → sx_lm p (sl_factor n) ls → sx_Ty sx_T0 w → ∃ res : pq_R, pq_Go 89 pm_180 35 ls [] w 0 0 res ∧ (sx_rtm (some (.inl (0, 9999))) res.1 ∧ sx_Ty sx_T0 res.2 ∧ sx_Fr [] w res.2) := by
  intro m
  induction m with
  | zero =>
    intro n hn p ls w hi hl ht
    have h1 := List.all_eq_true.mp ck_factor1 n (List.mem_range.mpr (by omega))
    have hb : Nat.blt n 346 = false := by
      rw [show n = 346 by omega]
      rfl
    rw [hb] at h1
    exact sy_sg (S := ss_factor n) (J := sx_tt) (Post := fun res => (sx_rtm (some (.inl (0, 9999))) res.1 ∧ sx_Ty sx_T0 res.2 ∧ sx_Fr [] w res.2)) h1 (sx_s0_ok (p := p) rfl hi sy_F0 hl sy_O0 ht (sx_Fr_refl _ _) rfl) sx_ctn (fun _ _ _ => trivial)
      (fun p2 r w2 e t f a => ⟨sy_rng (sy_one a).1, t, f⟩)
      (fun p2 ls2 w2 e t f a => by
        obtain ⟨x, hx, _⟩ := a
        cases hx)
  | succ m ih =>
    intro n hn p ls w hi hl ht
    have h1 := List.all_eq_true.mp ck_factor1 n (List.mem_range.mpr (by omega))
    have hb : Nat.blt n 346 = true := Nat.ble_eq_true_of_le (by omega)
    rw [hb] at h1
    exact sy_sg (S := ss_factor n) (J := sx_tt) (Post := fun res => (sx_rtm (some (.inl (0, 9999))) res.1 ∧ sx_Ty sx_T0 res.2 ∧ sx_Fr [] w res.2)) h1 (sx_s0_ok (p := p) rfl hi sy_F0 hl sy_O0 ht (sx_Fr_refl _ _) rfl) sx_ctn (fun _ _ _ => trivial)
      (fun p2 r w2 e t f a => ⟨sy_rng (sy_one a).1, t, f⟩)
      (fun p2 ls2 w2 e t f a => by
        have a := sy_one a
        obtain ⟨res, g1, g2, g3, g4⟩ := ih (n + 1) (by omega) p2 ls2 w2 (sy_ivs_agree hi (fun s hs => e s hs)) a.1 t
        exact ⟨res, g1, g2, g3, sx_Fr_trans f g4⟩)
theorem kt_factor {J : pq_W → Prop} (hJ : sx_JI J) (h : sx_RW J) : sx_Kok sx_T0 J 180 kk_factor := by
  intro as w ha hkn hkg ht hj
  obtain ⟨r, w1, g1, g2, g3, g4⟩ := sy_ent (P := kp_factor0) (w0 := w) (J := J) (M := pm_180) (k := 89) (Post := fun res => sx_rtm kk_factor.rt res.1 ∧ sx_Ty sx_T0 res.2 ∧ sx_Fr kk_factor.md w res.2) ck_factor0 (sx_ctc (kt_forced hJ h) (sx_ctc (kt_ruled hJ h) sx_ctn)) (fun w1 t f => hJ w w1 hj t (sx_Fr_sub (by decide +kernel) f)) rfl (by decide +kernel) ha hkn hkg ht
    (fun p r w2 e t f a => by
      exact ⟨sy_rng (sy_one a).1, t, f⟩)
    (fun p ls w2 e t f a => by
      have a := sy_one a
      have hi := sy_ivs_agree (p2 := p) (sy_iv_ok (n := 0) (p := sx_pv as 0) (show sx_noany kk_factor.as = true from rfl) ha (fun s _ => rfl)) (fun s hs => e s (by rw [Nat.zero_add, List.length_map] at hs; exact hs))
      have hi : sx_ivs p 0 iv_factor := ⟨hi.1, hi.2.1, hi.2.2.1, hi.2.2.2.1, trivial⟩
      obtain ⟨res, g1, g2, g3, g4⟩ := lp_factor 346 0 rfl p ls w2 hi a.1 t
      exact ⟨res, g1, g2, g3, sx_Fr_trans f (sx_Fr_sub rfl g4)⟩)
  exact ⟨r, w1, g1, g3, hJ w w1 hj g3 (sx_Fr_sub (by decide +kernel) g4), g2, g4⟩
