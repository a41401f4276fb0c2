/-! stretches where slots may hold any long -/
noncomputable def nl_lg (S : sx_S) (l : List Nat) : Bool := l.all fun i => match sx_sl S.fr.ls i with
  | some (.inl (.inr _)) => true
  | _ => false
theorem nl_lg_ok {p : Nat → Int} {S : sx_S} {ls : pq_L} {l : List Nat} (hm : sx_lm p S.fr.ls ls) (h : nl_lg S l = true) : ∀ i ∈ l, ∃ x : Int64, pq_lk ls i = some (.long x) := fun i hi => by
  unfold nl_lg at h
  have h1 := List.all_eq_true.mp h i hi
  split at h1
  · rename_i e hv
    obtain ⟨x, x1, x2⟩ := hm _ (sx_sl_mem hv)
    match x, x1, x2 with
    | .long x, x1, _ => exact ⟨x, x1⟩
  · cases h1
noncomputable def nl_stop (j k : Nat) (hd : List (Nat × ng_Al × List Nat)) (S : sx_S) : Bool := Nat.beq S.fr.j j && Nat.beq S.k k && S.K.isEmpty && hd.any fun h => Nat.beq S.fr.pc h.1 && (ng_al1 S h.2.1 && nl_lg S h.2.2)
noncomputable def nl_K (Post : pq_R → Prop) (A : sx_A) (w0 : pq_W) (p : Nat → Int) (k : Nat) (M : pq_M) : List (Nat × ng_Al × List Nat) → Prop
  | [] => True
  | h :: r => (∀ ls st w, sx_Ty sx_T0 w → sx_Fr A w0 w → ng_al p ls st w h.2.1 → (∀ i ∈ h.2.2, ∃ x : Int64, pq_lk ls i = some (.long x)) → ∃ res, pq_Go k M h.1 ls st w 0 0 res ∧ Post res) ∧ nl_K Post A w0 p k M r
theorem nl_K_mem {Post : pq_R → Prop} {A : sx_A} {w0 : pq_W} {p : Nat → Int} {k : Nat} {M : pq_M} : ∀ {hd : List (Nat × ng_Al × List Nat)}, nl_K Post A w0 p k M hd → ∀ h ∈ hd, ∀ ls st w, sx_Ty sx_T0 w → sx_Fr A w0 w → ng_al p ls st w h.2.1 → (∀ i ∈ h.2.2, ∃ x : Int64, pq_lk ls i = some (.long x)) → ∃ res, pq_Go k M h.1 ls st w 0 0 res ∧ Post res
  | [], _, h, hh => by cases hh
  | a :: r, hk, h, hh => by
    cases List.mem_cons.mp hh with
    | inl e => rw [e]; exact hk.1
    | inr e => exact nl_K_mem hk.2 h e
noncomputable def nl_chk (A : sx_A) (CT : List (Nat × sx_K)) (AN : List (Nat × List (Nat × sx_an))) (k j : Nat) (M : pq_M) (pc : Nat) (iv : List (Int × Int)) (C : List sx_F) (sl : List (Nat × sx_V)) (sa : List sx_V) (O : sx_O) (re : List ng_Ae) (hd : List (Nat × ng_Al × List Nat)) (f : Nat) : Bool := ng_side iv C sl sa O re (hd.map fun h => (h.1, h.2.1)) && sx_go (sx_T0, A, CT, AN) (sq_ret re) (sx_cks (sx_T0, A, CT, AN) (sq_ret re) (nl_stop j k hd) f) [] (ng_S AN k j M pc iv C sl sa O)
theorem nl_go {A : sx_A} {CT : List (Nat × sx_K)} {AN : List (Nat × List (Nat × sx_an))} {J : pq_W → Prop} {Post : pq_R → Prop} {w : pq_W} {ls : pq_L} {st : List Value} {k j : Nat} {M : pq_M} {pc : Nat} {iv : List (Int × Int)} {C : List sx_F} {sl : List (Nat × sx_V)} {sa : List sx_V} {O : sx_O} {re : List ng_Ae} {hd : List (Nat × ng_Al × List Nat)} {f : Nat} (p : Nat → Int)
    (h : nl_chk A CT AN k j M pc iv C sl sa O re hd f = true) (hM : pq_tab[j]? = some M) (hi : sx_ivs p 0 iv) (hC : ng_fs p C) (hl : ng_sl0 p ls sl) (hs : sx_sm p sa st) (hO : ng_eqs p w O) (ht : sx_Ty sx_T0 w) (hct : ∀ q ∈ CT, sx_Kok sx_T0 J q.1 q.2) (hJ : ∀ w', sx_Ty sx_T0 w' → sx_Fr A w w' → J w')
    (hret : ng_R Post A w p re) (hst : nl_K Post A w p k M hd) : ∃ res, pq_Go k M pc ls st w 0 0 res ∧ Post res := by
  unfold nl_chk at h
  rw [Bool.and_eq_true] at h
  obtain ⟨hside, h⟩ := h
  unfold ng_side at hside
  rw [Bool.and_eq_true, Bool.and_eq_true, Bool.and_eq_true] at hside
  obtain ⟨⟨⟨b1, b2⟩, b3⟩, b4⟩ := hside
  have m : sx_Mt sx_T0 A w p (ng_S AN k j M pc iv C sl sa O) [] ls st w := sq_s0_ok hM hi (ng_fs_to hC) (ng_sl0_ok hl) hs (ng_ob_ok (sy_nvs_ok hi) (ng_fs_to hC) ht b2 hO) ht (sx_Fr_refl _ _) b1
  have hpo : ∀ S' p' ls st w' rv r, sq_ret re S' rv = true → (∀ s, s < iv.length → p' s = p s) → iv.length ≤ S'.n → sx_Mt sx_T0 A w p' S' [] ls st w' → sx_rvm p' rv r → Post (r, w') := by
    intro S' p' ls st w' rv r h1 h2 h3 m2 h4
    unfold sq_ret at h1
    rw [List.any_eq_true] at h1
    obtain ⟨a, ha, h1⟩ := h1
    simp only [Bool.and_eq_true] at h1
    have hb := List.all_eq_true.mp b3 a ha
    unfold ng_rb at hb
    simp only [Bool.and_eq_true] at hb
    obtain ⟨⟨⟨⟨⟨c1, c2⟩, c3⟩, c4⟩, c5⟩, c6⟩ := hb
    refine ng_R_mem hret a ha r w' m2.typ m2.frm ⟨?_, ?_, ?_, ?_⟩
    · exact ng_a1_of h2 c1 (sx_ae1_ok m2.sat m2.fok h4 h1.1.1.1)
    · exact ng_eqs_agree h2 (sx_oltb_ok c2) (ng_eqs_of c5 (sx_alq_ok m2.ook h1.1.1.2))
    · exact ng_fs_agree h2 c3 (ng_fs_of (sx_alf_ok m2.sat m2.fok h1.1.2))
    · exact ng_gs_agree h2 (sx_gltb_ok c4) (ng_gs_of c6 (sq_alg_ok m2.sat m2.fok m2.ook h1.2))
  have hs2 : ∀ S' p' Kc ls st w', nl_stop j k hd S' = true → (∀ s, s < iv.length → p' s = p s) → iv.length ≤ S'.n → sx_Mt sx_T0 A w p' S' Kc ls st w' → sx_Ok Post S'.k Kc S'.fr.M S'.fr.pc ls st w' := by
    intro S' p' Kc ls st w' h1 h2 h3 m2
    unfold nl_stop at h1
    simp only [Bool.and_eq_true] at h1
    obtain ⟨⟨⟨e2, e3⟩, e4⟩, e6⟩ := h1
    have eM : S'.fr.M = M := by
      have k1 := m2.tbm.1
      rw [Nat.eq_of_beq_eq_true e2, hM] at k1
      exact (Option.some.inj k1).symm
    have eK : Kc = [] := by
      have k1 := m2.ksm
      rw [List.isEmpty_iff.mp e4] at k1
      cases Kc with
      | nil => rfl
      | cons c K => exact k1.elim
    subst eK
    rw [List.any_eq_true] at e6
    obtain ⟨hh, hm, e6⟩ := e6
    rw [Bool.and_eq_true, Bool.and_eq_true] at e6
    obtain ⟨e1, e6, e7⟩ := e6
    unfold ng_al1 at e6
    simp only [Bool.and_eq_true] at e6
    obtain ⟨⟨⟨⟨c1, c2⟩, c3⟩, c4⟩, c5⟩ := e6
    have hb := List.all_eq_true.mp b4 (hh.1, hh.2.1) (List.mem_map.mpr ⟨hh, hm, rfl⟩)
    unfold ng_lb at hb
    simp only [Bool.and_eq_true] at hb
    obtain ⟨⟨⟨⟨⟨⟨d1, d2⟩, d3⟩, d4⟩, d5⟩, d6⟩, d7⟩ := hb
    have key := nl_K_mem hst hh hm ls st w' m2.typ m2.frm ⟨ng_sl_agree h2 d1 (ng_s1_ok m2.sat m2.fok m2.lsm c1), sx_sm_agree (fun s hs => (h2 s hs).symm) (fun v hv => sx_vltb_ok (List.all_eq_true.mp d2 v hv)) (by rw [sx_steq_ok c2]; exact m2.stm), ng_eqs_agree h2 (sx_oltb_ok d3) (ng_eqs_of d6 (sx_alq_ok m2.ook c3)), ng_fs_agree h2 d4 (ng_fs_of (sx_alf_ok m2.sat m2.fok c4)), ng_gs_agree h2 (sx_gltb_ok d5) (ng_gs_of d7 (sq_alg_ok m2.sat m2.fok m2.ook c5))⟩ (nl_lg_ok m2.lsm e7)
    rw [eM, Nat.eq_of_beq_eq_true e1, Nat.eq_of_beq_eq_true e3]
    exact key
  have hc := fun H S' => sx_cks_ok (P := (sx_T0, A, CT, AN)) (Post := Post) (N0 := iv.length) (p0 := p) hs2 hct hJ hpo f H S'
  exact sx_go_ok (P := (sx_T0, A, CT, AN)) hct hJ hpo hc h p ⟨fun _ _ => rfl, Nat.le_refl _, fun h hh => by cases hh⟩ [] ls st w m

/-! end, its first part -/
noncomputable def mc_full : Int × Int := (-9223372036854775808, 9223372036854775807)
theorem mc_n3 : nl_chk [(102, 0, 7), (103, 0, 7)] [] mc_AN 299 194 pm_194 44 [(0, 7), mc_all, mc_c] [] [(0, fx_r), (1, fx_i 0), (2, mc_il 1)] [] [(95, (186, [(0, 10)]), fx_i 2)] [] [(170, (ng_L [(0, fx_r), (1, fx_i 0), (2, mc_il 1), (4, mc_il 2)], [], [], [], []), [6])] 1000 = true := by decide +kernel
noncomputable def mc_AN2 : List (Nat × List (Nat × sx_an)) := [(194, [(183, ([(9, false, 0, 7), (10, false, 1, 8)], [], false, [], 10, true))])]
noncomputable def mc_sl : List (Nat × sx_V) := [(0, fx_r), (1, fx_i 0), (2, mc_il 1), (4, mc_il 2)]
theorem mc_n6 : ng_chk [] [] [] 299 194 pm_194 170 [(0, 7), mc_all, mc_c, (-9223372036854775808, 0)] [] (mc_sl ++ [(6, mc_il 3)]) [] [] [] [(253, gq_al mc_sl [])] 100 = true := by decide +kernel
theorem mc_n7 : ng_chk [(102, 0, 7), (103, 0, 7)] [] mc_AN2 299 194 pm_194 170 [(0, 7), mc_all, mc_c, (1, 9223372036854775807)] [] (mc_sl ++ [(6, mc_il 3)]) [] [] [] [(170, gq_al (mc_sl ++ [(6, .inl (.inr (-1, [(3, 1)])))]) [])] 300 = true := by decide +kernel
theorem mc_n5 : ((List.range 8).all fun a => [(0, [(0, 1), (1, -1)]), (1, [(0, -1), (1, 1)])].all fun C => ng_chk [(95, 186 + 10 * a, 187 + 10 * a)] [] [] 299 194 pm_194 334 [mc_all, mc_c, sy_full] [C] [(0, fx_r), (1, fx_k a), (2, mc_il 0), (4, mc_il 1), (9, fx_i 2)] [] [] [(mc_any, [mc_o (187 + 10 * a) (fx_k 1)], [], [(95, (186 + 10 * (a : Int), []), false, 0, 264925599)])] [] 200) = true := by decide +kernel
