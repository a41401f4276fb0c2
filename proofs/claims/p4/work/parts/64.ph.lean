/-! the reader of laws: either, both, test, sum, product, part -/
theorem px_stp {w w2 : pq_W} {vals : List Int} {n d : Int} (hV : px_V w) (t2 : sx_Ty sx_T0 w2) (f2 : sx_Fr pz_A w w2) (h : ng_eqs (fx_p (px_a w :: px_o w :: px_f w :: px_T w :: vals)) w2 (pz_E n d (fx_i 2))) (hn : 0 ≤ n) (hT : px_a w + n ≤ px_T w) : px_G 0 n d w w2 := by
  obtain ⟨e1, e2, e3⟩ := px_E h
  rw [sx_y_ev] at e3
  have e3 : px_f w2 = px_f w := e3
  exact px_adv hV t2 f2 e1 hn hT e2 (fun q => by rw [← e3]; exact q)
theorem px_stk {w w2 : pq_W} {vals : List Int} {n d : Int} (hV : px_V w) (t2 : sx_Ty sx_T0 w2) (f2 : sx_Fr pz_A w w2) (h : ng_eqs (fx_p (px_a w :: px_o w :: px_f w :: px_T w :: vals)) w2 (pz_E n d (fx_k 0))) (hf : px_f w ≤ 0) (hn : 0 ≤ n) (hT : px_a w + n ≤ px_T w) (ht : sx_Ty sx_T0 w) : px_G 0 n d w w2 := by
  obtain ⟨e1, e2, _⟩ := px_E h
  have := (px_ty ht).1
  exact px_adv hV t2 f2 e1 hn hT e2 (fun _ => by omega)
theorem px_st1 {w w2 : pq_W} {vals : List Int} {k n d : Int} (hV : px_V w) (t2 : sx_Ty sx_T0 w2) (f2 : sx_Fr pz_A w w2) (h : ng_eqs (fx_p (px_a w :: px_o w :: px_f w :: px_T w :: vals)) w2 (pz_E n d (fx_k 1))) (hn : 0 ≤ n) (hT : px_a w + n ≤ px_T w) : px_G k n d w w2 := by
  obtain ⟨e1, e2, e3⟩ := px_E h
  rw [ng_ek] at e3
  obtain ⟨a1, a2, a3, a4, a5, a6, a7, a8, _⟩ := px_adv hV t2 f2 e1 hn hT e2 (fun q => by omega)
  exact ⟨a1, a2, a3, a4, a5, a6, a7, a8, fun q => by omega⟩
theorem px_na {h g d : Int} {w w1 : pq_W} (a : px_G h g d w w1) (hg : 0 ≤ g) (hna : px_n w ≤ px_a w) : px_n w1 ≤ px_a w1 := by
  have := a.2.2.2.2.2.2.1
  omega
theorem px_n60 {w : pq_W} (ht : sx_Ty sx_T0 w) (hV : px_V w) (h : px_n w ≤ px_a w) : px_n w ≤ 60 := by
  have := (px_ty ht).2
  have := hV.2.1
  omega
theorem px_k5 {o : Nat} (ho : o < 6) (i : Nat) : 5 ≤ pz_k o i := by
  unfold pz_k
  omega
theorem px_fin {D j o : Nat} {M : pq_M} {w : pq_W} (hM : pq_tab[j]? = some M) (h1 : Nat.ble 1 (pq_mL M) = true) (h2 : (pq_ns M).headD 9 = 1) (h3 : (pq_ns M).getD 6 99 = 11) (ht : sx_Ty sx_T0 w) (main : ∃ res, pq_Go D M 0 (lv_args 0 [.ref 94]) [] w 0 0 res ∧ (res.1 = none ∧ px_G 1 0 0 w res.2)) : ∃ w', pq_Ru (D + 1) j [.ref 94] w (none, w') ∧ px_G 1 0 0 w w' := by
  obtain ⟨res, g1, g2, g3⟩ := main
  refine ⟨res.2, ?_, g3⟩
  rw [← g2]
  refine ru_of hM ?_ g1
  rw [Bool.and_eq_true]
  exact ⟨h1, sq_rcv ht rfl h2 h3⟩
theorem px_either {o : Nat} (ho : o < 6) (hX : px_X (pz_k o 4 + 1) 198 o) : px_X (pz_k o 5 + 1) 197 o := by
  intro w ht hV hna hpo
  have ck := List.all_eq_true.mp pz_e o (List.mem_range.mpr ho)
  unfold pz_1 pz_2 pz_0 at ck
  simp only [Bool.and_eq_true] at ck
  obtain ⟨⟨k0, k1⟩, k2, k3⟩ := ck
  have hov : ∀ {w' : pq_W}, px_o w' = px_o w + 0 → (0 : Int) ≤ px_o w' ∧ px_o w' ≤ 5 := fun h => by omega
  have hkc : Nat.ble (pz_k o 4 + 1) (pz_k o 5) = true := Nat.ble_eq_true_of_le (by unfold pz_k; omega)
  have hk5 : Nat.ble 5 (pz_k o 5) = true := Nat.ble_eq_true_of_le (px_k5 ho _)
  have loop : ∀ (m : Nat) (ls : pq_L) (w1 : pq_W), (px_T w - px_a w1).toNat = m → pq_lk ls 0 = some (.ref 94) → px_G 1 0 0 w w1 → ∃ res, pq_Go (pz_k o 5) pm_197 4 ls [] w1 0 0 res ∧ (res.1 = none ∧ px_G 1 0 0 w res.2) := by
    intro m
    induction m using Nat.strongRecOn with
    | ind m ih =>
      intro ls w1 hm h0 g1
      have V1 := g1.2.2.1
      refine px_run (Post := fun res => res.1 = none ∧ px_G 1 0 0 w res.2) [] k1 rfl g1.1 V1 (hov g1.2.2.2.1) h0 trivial trivial ⟨fun x w2 t2 f2 q => ?_, trivial⟩ ⟨fun ls2 st2 w2 t2 f2 q => ?_, trivial⟩
      · exact ⟨q.1, px_G_cast (px_G_comp g1 (px_stp V1 t2 f2 q.2.1 (Int.le_refl _) (by have := V1.2.1; omega))) (by omega) (by omega) (by omega)⟩
      · obtain ⟨a1, a2, a3, a4, _⟩ := q
        obtain ⟨b1, b2, _⟩ := px_Cc (C := []) a4
        have b1 : px_a w1 + 1 ≤ px_T w1 := b1
        have c0 : pq_lk ls2 0 = some (.ref 94) := a1.1
        cases px_sr a2
        have g2 : px_G 0 1 0 w1 w2 := px_stp V1 t2 f2 a3 (by omega) b1
        have G2 := px_G_comp g1 g2
        have ea2 : px_a w2 = px_a w1 + 1 := (px_E a3).1
        obtain ⟨w3, r3, g3⟩ := hX w2 t2 g2.2.2.1 (px_na G2 (by omega) hna) (by have := G2.2.2.2.1; omega)
        have G3 := px_G_comp G2 g3
        refine Exists.elim (?_ : ∃ res, pq_Go (pz_k o 5) pm_197 27 ls2 [] w3 0 0 res ∧ (res.1 = none ∧ px_G 1 0 0 w res.2)) (fun res h => ⟨res, go_cl (j := 198) (n := 1) (as := [.ref 94]) (r := none) rfl rfl rfl rfl rfl rfl hkc r3 h.1, h.2⟩)
        refine px_run (Post := fun res => res.1 = none ∧ px_G 1 0 0 w res.2) [] k2 rfl g3.1 g3.2.2.1 (hov (by have := G3.2.2.2.1; omega)) c0 trivial trivial trivial ⟨fun ls4 st4 w4 t4 f4 q => ?_, trivial⟩
        obtain ⟨a1, a2, a3, _⟩ := q
        have c4 : pq_lk ls4 0 = some (.ref 94) := a1.1
        obtain ⟨v, hst, hv⟩ := px_s2 a2
        subst hst
        have g4 : px_G 0 0 0 w3 w4 := px_stp g3.2.2.1 t4 f4 a3 (by omega) (by have := g3.2.2.1.2.1; omega)
        have G4 := px_G_comp G3 g4
        have hb := px_b2 (c := v.toInt) (by omega) (by omega)
        obtain ⟨w5, r5, g5⟩ := px_put (w := w4) (v := v) t4 g4.2.2.1 (px_n60 t4 g4.2.2.1 (px_na G4 (by omega) hna)) (fun hf => by
          have h1 := (G4.2.2.2.2.2.2.2.2 hf).2
          have h2 := px_hh hV
          rw [hb.1]
          omega)
        rw [hb.2] at g5
        have G5 := px_G_comp G4 g5
        refine Exists.elim (?_ : ∃ res, pq_Go (pz_k o 5) pm_197 34 ls4 [] w5 0 0 res ∧ (res.1 = none ∧ px_G 1 0 0 w res.2)) (fun res h => ⟨res, go_cl (j := 205) (n := 2) (as := [.ref 94, .int v]) (r := none) rfl rfl rfl rfl rfl rfl hk5 r5 h.1, h.2⟩)
        refine px_run (Post := fun res => res.1 = none ∧ px_G 1 0 0 w res.2) [] k3 rfl g5.1 g5.2.2.1 (hov (by have := G5.2.2.2.1; omega)) c4 trivial trivial trivial ⟨fun ls6 st6 w6 t6 f6 q => ?_, trivial⟩
        obtain ⟨a1, a2, a3, _⟩ := q
        cases ng_st0 a2
        have g6 : px_G 0 0 0 w5 w6 := px_stp g5.2.2.1 t6 f6 a3 (by omega) (by have := g5.2.2.1.2.1; omega)
        have G6 := px_G_comp G5 g6
        have ha3 := g3.2.2.2.2.1
        have ha4 := g4.2.2.2.2.1
        have ha5 := g5.2.2.2.2.1
        have ha6 := g6.2.2.2.2.1
        have hT1 := px_TT g1.2.1
        exact ih (px_T w - px_a w6).toNat (by omega) ls6 w6 rfl a1.1 (px_G_cast G6 (by omega) (by omega) (by omega))
  refine px_fin (o := o) (M := pm_197) rfl rfl rfl rfl ht ?_
  refine px_run (Post := fun res => res.1 = none ∧ px_G 1 0 0 w res.2) [] k0 rfl ht hV (hov (by omega)) rfl trivial trivial trivial ⟨fun ls2 st2 w2 t2 f2 q => ?_, trivial⟩
  obtain ⟨a1, a2, a3, _⟩ := q
  have c0 : pq_lk ls2 0 = some (.ref 94) := a1.1
  cases px_sr a2
  have g2 : px_G 0 0 0 w w2 := px_stp hV t2 f2 a3 (by omega) (by have := hV.2.1; omega)
  obtain ⟨w3, r3, g3⟩ := hX w2 t2 g2.2.2.1 (px_na g2 (by omega) hna) (by have := g2.2.2.2.1; omega)
  obtain ⟨res, h1, h2⟩ := loop _ ls2 w3 rfl c0 (px_G_cast (px_G_comp g2 g3) (by omega) (by omega) (by omega))
  exact ⟨res, go_cl (j := 198) (n := 1) (as := [.ref 94]) (r := none) rfl rfl rfl rfl rfl rfl hkc r3 h1, h2⟩
theorem px_both {o : Nat} (ho : o < 6) (hX : px_X (pz_k o 3 + 1) 199 o) : px_X (pz_k o 4 + 1) 198 o := by
  intro w ht hV hna hpo
  have ck := List.all_eq_true.mp pz_b o (List.mem_range.mpr ho)
  unfold pz_1 pz_2 pz_0 at ck
  simp only [Bool.and_eq_true] at ck
  obtain ⟨⟨k0, k1⟩, k2, k3⟩ := ck
  have hov : ∀ {w' : pq_W}, px_o w' = px_o w + 0 → (0 : Int) ≤ px_o w' ∧ px_o w' ≤ 5 := fun h => by omega
  have hkc : Nat.ble (pz_k o 3 + 1) (pz_k o 4) = true := Nat.ble_eq_true_of_le (by unfold pz_k; omega)
  have hk5 : Nat.ble 5 (pz_k o 4) = true := Nat.ble_eq_true_of_le (px_k5 ho _)
  have loop : ∀ (m : Nat) (ls : pq_L) (w1 : pq_W), (px_T w - px_a w1).toNat = m → pq_lk ls 0 = some (.ref 94) → px_G 1 0 0 w w1 → ∃ res, pq_Go (pz_k o 4) pm_198 4 ls [] w1 0 0 res ∧ (res.1 = none ∧ px_G 1 0 0 w res.2) := by
    intro m
    induction m using Nat.strongRecOn with
    | ind m ih =>
      intro ls w1 hm h0 g1
      have V1 := g1.2.2.1
      refine px_run (Post := fun res => res.1 = none ∧ px_G 1 0 0 w res.2) [] k1 rfl g1.1 V1 (hov g1.2.2.2.1) h0 trivial trivial ⟨fun x w2 t2 f2 q => ?_, trivial⟩ ⟨fun ls2 st2 w2 t2 f2 q => ?_, trivial⟩
      · exact ⟨q.1, px_G_cast (px_G_comp g1 (px_stp V1 t2 f2 q.2.1 (Int.le_refl _) (by have := V1.2.1; omega))) (by omega) (by omega) (by omega)⟩
      · obtain ⟨a1, a2, a3, a4, _⟩ := q
        obtain ⟨b1, b2, _⟩ := px_Cc (C := []) a4
        have b1 : px_a w1 + 1 ≤ px_T w1 := b1
        have c0 : pq_lk ls2 0 = some (.ref 94) := a1.1
        cases px_sr a2
        have g2 : px_G 0 1 0 w1 w2 := px_stp V1 t2 f2 a3 (by omega) b1
        have G2 := px_G_comp g1 g2
        have ea2 : px_a w2 = px_a w1 + 1 := (px_E a3).1
        obtain ⟨w3, r3, g3⟩ := hX w2 t2 g2.2.2.1 (px_na G2 (by omega) hna) (by have := G2.2.2.2.1; omega)
        have G3 := px_G_comp G2 g3
        refine Exists.elim (?_ : ∃ res, pq_Go (pz_k o 4) pm_198 27 ls2 [] w3 0 0 res ∧ (res.1 = none ∧ px_G 1 0 0 w res.2)) (fun res h => ⟨res, go_cl (j := 199) (n := 1) (as := [.ref 94]) (r := none) rfl rfl rfl rfl rfl rfl hkc r3 h.1, h.2⟩)
        refine px_run (Post := fun res => res.1 = none ∧ px_G 1 0 0 w res.2) [] k2 rfl g3.1 g3.2.2.1 (hov (by have := G3.2.2.2.1; omega)) c0 trivial trivial trivial ⟨fun ls4 st4 w4 t4 f4 q => ?_, trivial⟩
        obtain ⟨a1, a2, a3, _⟩ := q
        have c4 : pq_lk ls4 0 = some (.ref 94) := a1.1
        obtain ⟨v, hst, hv⟩ := px_s2 a2
        subst hst
        have g4 : px_G 0 0 0 w3 w4 := px_stp g3.2.2.1 t4 f4 a3 (by omega) (by have := g3.2.2.1.2.1; omega)
        have G4 := px_G_comp G3 g4
        have hb := px_b2 (c := v.toInt) (by omega) (by omega)
        obtain ⟨w5, r5, g5⟩ := px_put (w := w4) (v := v) t4 g4.2.2.1 (px_n60 t4 g4.2.2.1 (px_na G4 (by omega) hna)) (fun hf => by
          have h1 := (G4.2.2.2.2.2.2.2.2 hf).2
          have h2 := px_hh hV
          rw [hb.1]
          omega)
        rw [hb.2] at g5
        have G5 := px_G_comp G4 g5
        refine Exists.elim (?_ : ∃ res, pq_Go (pz_k o 4) pm_198 34 ls4 [] w5 0 0 res ∧ (res.1 = none ∧ px_G 1 0 0 w res.2)) (fun res h => ⟨res, go_cl (j := 205) (n := 2) (as := [.ref 94, .int v]) (r := none) rfl rfl rfl rfl rfl rfl hk5 r5 h.1, h.2⟩)
        refine px_run (Post := fun res => res.1 = none ∧ px_G 1 0 0 w res.2) [] k3 rfl g5.1 g5.2.2.1 (hov (by have := G5.2.2.2.1; omega)) c4 trivial trivial trivial ⟨fun ls6 st6 w6 t6 f6 q => ?_, trivial⟩
        obtain ⟨a1, a2, a3, _⟩ := q
        cases ng_st0 a2
        have g6 : px_G 0 0 0 w5 w6 := px_stp g5.2.2.1 t6 f6 a3 (by omega) (by have := g5.2.2.1.2.1; omega)
        have G6 := px_G_comp G5 g6
        have ha3 := g3.2.2.2.2.1
        have ha4 := g4.2.2.2.2.1
        have ha5 := g5.2.2.2.2.1
        have ha6 := g6.2.2.2.2.1
        have hT1 := px_TT g1.2.1
        exact ih (px_T w - px_a w6).toNat (by omega) ls6 w6 rfl a1.1 (px_G_cast G6 (by omega) (by omega) (by omega))
  refine px_fin (o := o) (M := pm_198) rfl rfl rfl rfl ht ?_
  refine px_run (Post := fun res => res.1 = none ∧ px_G 1 0 0 w res.2) [] k0 rfl ht hV (hov (by omega)) rfl trivial trivial trivial ⟨fun ls2 st2 w2 t2 f2 q => ?_, trivial⟩
  obtain ⟨a1, a2, a3, _⟩ := q
  have c0 : pq_lk ls2 0 = some (.ref 94) := a1.1
  cases px_sr a2
  have g2 : px_G 0 0 0 w w2 := px_stp hV t2 f2 a3 (by omega) (by have := hV.2.1; omega)
  obtain ⟨w3, r3, g3⟩ := hX w2 t2 g2.2.2.1 (px_na g2 (by omega) hna) (by have := g2.2.2.2.1; omega)
  obtain ⟨res, h1, h2⟩ := loop _ ls2 w3 rfl c0 (px_G_cast (px_G_comp g2 g3) (by omega) (by omega) (by omega))
  exact ⟨res, go_cl (j := 199) (n := 1) (as := [.ref 94]) (r := none) rfl rfl rfl rfl rfl rfl hkc r3 h1, h2⟩
theorem px_test {o : Nat} (ho : o < 6) (hX : px_X (pz_k o 2 + 1) 200 o) : px_X (pz_k o 3 + 1) 199 o := by
  intro w ht hV hna hpo
  have ck := List.all_eq_true.mp pz_t o (List.mem_range.mpr ho)
  unfold pz_3 pz_0 at ck
  simp only [Bool.and_eq_true] at ck
  obtain ⟨⟨⟨k0, k1⟩, k2⟩, k3⟩ := ck
  have hov : ∀ {w' : pq_W}, px_o w' = px_o w + 0 → (0 : Int) ≤ px_o w' ∧ px_o w' ≤ 5 := fun h => by omega
  have hkc : Nat.ble (pz_k o 2 + 1) (pz_k o 3) = true := Nat.ble_eq_true_of_le (by unfold pz_k; omega)
  have hk5 : Nat.ble 5 (pz_k o 3) = true := Nat.ble_eq_true_of_le (px_k5 ho _)
  have rest : ∀ (ls : pq_L) (w1 : pq_W), pq_lk ls 0 = some (.ref 94) → px_G 1 0 0 w w1 → ∃ res, pq_Go (pz_k o 3) pm_199 4 ls [] w1 0 0 res ∧ (res.1 = none ∧ px_G 1 0 0 w res.2) := by
    intro ls w1 h0 g1
    have V1 := g1.2.2.1
    refine px_run (Post := fun res => res.1 = none ∧ px_G 1 0 0 w res.2) [] k1 rfl g1.1 V1 (hov g1.2.2.2.1) h0 trivial trivial ⟨fun x w2 t2 f2 q => ?_, trivial⟩ ⟨fun ls2 st2 w2 t2 f2 q => ?_, trivial⟩
    · exact ⟨q.1, px_G_cast (px_G_comp g1 (px_stp V1 t2 f2 q.2.1 (Int.le_refl _) (by have := V1.2.1; omega))) (by omega) (by omega) (by omega)⟩
    · obtain ⟨a1, a2, a3, a4, _⟩ := q
      obtain ⟨b1, b2, _⟩ := px_Cc (C := []) a4
      have b1 : px_a w1 + 1 ≤ px_T w1 := b1
      have c0 : pq_lk ls2 0 = some (.ref 94) := a1.1
      obtain ⟨xc, xc1, xc2, xc3⟩ := a1.2.1
      cases px_sr a2
      have g2 : px_G 0 1 0 w1 w2 := px_stp V1 t2 f2 a3 (by omega) b1
      have G2 := px_G_comp g1 g2
      obtain ⟨w3, r3, g3⟩ := hX w2 t2 g2.2.2.1 (px_na G2 (by omega) hna) (by have := G2.2.2.2.1; omega)
      have G3 := px_G_comp G2 g3
      refine Exists.elim (?_ : ∃ res, pq_Go (pz_k o 3) pm_199 41 ls2 [] w3 0 0 res ∧ (res.1 = none ∧ px_G 1 0 0 w res.2)) (fun res h => ⟨res, go_cl (j := 200) (n := 1) (as := [.ref 94]) (r := none) rfl rfl rfl rfl rfl rfl hkc r3 h.1, h.2⟩)
      have sign : ∀ (op : Int), 20000 ≤ op → op ≤ 20008 → ∀ (ls4 : pq_L) (st4 : List Value) (w4 : pq_W), sx_Ty sx_T0 w4 → sx_Fr pz_A w3 w4 → ng_al (fx_p (px_a w3 :: px_o w3 :: px_f w3 :: px_T w3 :: [xc.toInt])) ls4 st4 w4 (pz_al [] [fx_k op, fx_r] (pz_E 0 0 (fx_i 2)) []) → ∃ res, pq_Go (pz_k o 3) pm_199 69 ls4 st4 w4 0 0 res ∧ (res.1 = none ∧ px_G 1 0 0 w res.2) := by
        intro op ho1 ho2 ls4 st4 w4 t4 f4 q
        obtain ⟨a1, a2, a3, _⟩ := q
        have c4 : pq_lk ls4 0 = some (.ref 94) := a1.1
        obtain ⟨v, hst, hv⟩ := px_s2 a2
        subst hst
        have g4 : px_G 0 0 0 w3 w4 := px_stp g3.2.2.1 t4 f4 a3 (by omega) (by have := g3.2.2.1.2.1; omega)
        have G4 := px_G_comp G3 g4
        have hb := px_b2 (c := v.toInt) (by omega) (by omega)
        obtain ⟨w5, r5, g5⟩ := px_put (w := w4) (v := v) t4 g4.2.2.1 (px_n60 t4 g4.2.2.1 (px_na G4 (by omega) hna)) (fun hf => by
          have h1 := (G4.2.2.2.2.2.2.2.2 hf).2
          have h2 := px_hh hV
          rw [hb.1]
          omega)
        rw [hb.2] at g5
        have G5 := px_G_comp G4 g5
        refine Exists.elim (?_ : ∃ res, pq_Go (pz_k o 3) pm_199 72 ls4 [] w5 0 0 res ∧ (res.1 = none ∧ px_G 1 0 0 w res.2)) (fun res h => ⟨res, go_cl (j := 205) (n := 2) (as := [.ref 94, .int v]) (r := none) rfl rfl rfl rfl rfl rfl hk5 r5 h.1, h.2⟩)
        refine px_run (Post := fun res => res.1 = none ∧ px_G 1 0 0 w res.2) [] k3 rfl g5.1 g5.2.2.1 (hov (by have := G5.2.2.2.1; omega)) c4 trivial trivial ⟨fun x w6 t6 f6 q => ?_, trivial⟩ trivial
        exact ⟨q.1, px_G_cast (px_G_comp G5 (px_stp g5.2.2.1 t6 f6 q.2.1 (Int.le_refl _) (by have := g5.2.2.1.2.1; omega))) (by omega) (by omega) (by omega)⟩
      exact px_run (Post := fun res => res.1 = none ∧ px_G 1 0 0 w res.2) [xc.toInt] k2 rfl g3.1 g3.2.2.1 (hov (by have := G3.2.2.2.1; omega)) c0 ⟨xc2, xc3, trivial⟩ ⟨ng_iy ⟨xc, xc1, rfl⟩ rfl, trivial⟩ trivial ⟨fun ls4 st4 w4 t4 f4 q => sign 20002 (by omega) (by omega) ls4 st4 w4 t4 f4 q, fun ls4 st4 w4 t4 f4 q => sign 20003 (by omega) (by omega) ls4 st4 w4 t4 f4 q, fun ls4 st4 w4 t4 f4 q => sign 20004 (by omega) (by omega) ls4 st4 w4 t4 f4 q, trivial⟩
  refine px_fin (o := o) (M := pm_199) rfl rfl rfl rfl ht ?_
  refine px_run (Post := fun res => res.1 = none ∧ px_G 1 0 0 w res.2) [] k0 rfl ht hV (hov (by omega)) rfl trivial trivial trivial ⟨fun ls2 st2 w2 t2 f2 q => ?_, trivial⟩
  obtain ⟨a1, a2, a3, _⟩ := q
  have c0 : pq_lk ls2 0 = some (.ref 94) := a1.1
  cases px_sr a2
  have g2 : px_G 0 0 0 w w2 := px_stp hV t2 f2 a3 (by omega) (by have := hV.2.1; omega)
  obtain ⟨w3, r3, g3⟩ := hX w2 t2 g2.2.2.1 (px_na g2 (by omega) hna) (by have := g2.2.2.2.1; omega)
  obtain ⟨res, h1, h2⟩ := rest ls2 w3 c0 (px_G_cast (px_G_comp g2 g3) (by omega) (by omega) (by omega))
  exact ⟨res, go_cl (j := 200) (n := 1) (as := [.ref 94]) (r := none) rfl rfl rfl rfl rfl rfl hkc r3 h1, h2⟩
theorem px_sum {o : Nat} (ho : o < 6) (hX : px_X (pz_k o 1 + 1) 201 o) : px_X (pz_k o 2 + 1) 200 o := by
  intro w ht hV hna hpo
  have ck := List.all_eq_true.mp pz_u o (List.mem_range.mpr ho)
  unfold pz_4 pz_0 at ck
  simp only [Bool.and_eq_true] at ck
  obtain ⟨⟨⟨k0, k1⟩, k2⟩, k3⟩ := ck
  have hov : ∀ {w' : pq_W}, px_o w' = px_o w + 0 → (0 : Int) ≤ px_o w' ∧ px_o w' ≤ 5 := fun h => by omega
  have hkc : Nat.ble (pz_k o 1 + 1) (pz_k o 2) = true := Nat.ble_eq_true_of_le (by unfold pz_k; omega)
  have hk5 : Nat.ble 5 (pz_k o 2) = true := Nat.ble_eq_true_of_le (px_k5 ho _)
  -- behind a part: the next look
  have loop : ∀ (m : Nat) (pc : Nat) (ls : pq_L) (w1 : pq_W), (pc = 4 ∨ pc = 54) → (px_T w - px_a w1).toNat = m → pq_lk ls 0 = some (.ref 94) → px_G 1 0 0 w w1 → ∃ res, pq_Go (pz_k o 2) pm_200 pc ls [] w1 0 0 res ∧ (res.1 = none ∧ px_G 1 0 0 w res.2) := by
    intro m
    induction m using Nat.strongRecOn with
    | ind m ih =>
      intro pc ls w1 hpc hm h0 g1
      have V1 := g1.2.2.1
      have ret : ∀ (x : Option Value) (w2 : pq_W), sx_Ty sx_T0 w2 → sx_Fr pz_A w1 w2 → ng_ae (fx_p (px_a w1 :: px_o w1 :: px_f w1 :: px_T w1 :: [])) x w2 (.inr (), pz_E 0 0 (fx_i 2), [], []) → x = none ∧ px_G 1 0 0 w w2 := fun x w2 t2 f2 q =>
        ⟨q.1, px_G_cast (px_G_comp g1 (px_stp V1 t2 f2 q.2.1 (Int.le_refl _) (by have := V1.2.1; omega))) (by omega) (by omega) (by omega)⟩
      have step : ∀ (ls2 : pq_L) (st2 : List Value) (w2 : pq_W), sx_Ty sx_T0 w2 → sx_Fr pz_A w1 w2 → ng_al (fx_p (px_a w1 :: px_o w1 :: px_f w1 :: px_T w1 :: [])) ls2 st2 w2 (pz_al [pz_c] [fx_r] (pz_E 1 0 (fx_i 2)) (pz_C 1)) → ∃ res, pq_Go (pz_k o 2) pm_200 32 ls2 st2 w2 0 0 res ∧ (res.1 = none ∧ px_G 1 0 0 w res.2) := by
        intro ls2 st2 w2 t2 f2 q
        obtain ⟨a1, a2, a3, a4, _⟩ := q
        obtain ⟨b1, b2, _⟩ := px_Cc (C := []) a4
        have b1 : px_a w1 + 1 ≤ px_T w1 := b1
        have c0 : pq_lk ls2 0 = some (.ref 94) := a1.1
        obtain ⟨xc, xc1, xc2, xc3⟩ := a1.2.1
        cases px_sr a2
        have g2 : px_G 0 1 0 w1 w2 := px_stp V1 t2 f2 a3 (by omega) b1
        have G2 := px_G_comp g1 g2
        have ea2 : px_a w2 = px_a w1 + 1 := (px_E a3).1
        obtain ⟨w3, r3, g3⟩ := hX w2 t2 g2.2.2.1 (px_na G2 (by omega) hna) (by have := G2.2.2.2.1; omega)
        have G3 := px_G_comp G2 g3
        refine Exists.elim (?_ : ∃ res, pq_Go (pz_k o 2) pm_200 35 ls2 [] w3 0 0 res ∧ (res.1 = none ∧ px_G 1 0 0 w res.2)) (fun res h => ⟨res, go_cl (j := 201) (n := 1) (as := [.ref 94]) (r := none) rfl rfl rfl rfl rfl rfl hkc r3 h.1, h.2⟩)
        -- with the sign
        have sign : ∀ (op : Int), 20000 ≤ op → op ≤ 20008 → ∀ (ls4 : pq_L) (st4 : List Value) (w4 : pq_W), sx_Ty sx_T0 w4 → sx_Fr pz_A w3 w4 → ng_al (fx_p (px_a w3 :: px_o w3 :: px_f w3 :: px_T w3 :: [xc.toInt])) ls4 st4 w4 (pz_al [] [fx_k op, fx_r] (pz_E 0 0 (fx_i 2)) []) → ∃ res, pq_Go (pz_k o 2) pm_200 51 ls4 st4 w4 0 0 res ∧ (res.1 = none ∧ px_G 1 0 0 w res.2) := by
          intro op ho1 ho2 ls4 st4 w4 t4 f4 q
          obtain ⟨a1, a2, a3, _⟩ := q
          have c4 : pq_lk ls4 0 = some (.ref 94) := a1.1
          obtain ⟨v, hst, hv⟩ := px_s2 a2
          subst hst
          have g4 : px_G 0 0 0 w3 w4 := px_stp g3.2.2.1 t4 f4 a3 (by omega) (by have := g3.2.2.1.2.1; omega)
          have G4 := px_G_comp G3 g4
          have hb := px_b2 (c := v.toInt) (by omega) (by omega)
          obtain ⟨w5, r5, g5⟩ := px_put (w := w4) (v := v) t4 g4.2.2.1 (px_n60 t4 g4.2.2.1 (px_na G4 (by omega) hna)) (fun hf => by
            have h1 := (G4.2.2.2.2.2.2.2.2 hf).2
            have h2 := px_hh hV
            rw [hb.1]
            omega)
          rw [hb.2] at g5
          have G5 := px_G_comp G4 g5
          have ha3 := g3.2.2.2.2.1
          have ha4 := g4.2.2.2.2.1
          have ha5 := g5.2.2.2.2.1
          have hT1 := px_TT g1.2.1
          obtain ⟨res, h1, h2⟩ := ih (px_T w - px_a w5).toNat (by omega) 54 ls4 w5 (Or.inr rfl) rfl c4 (px_G_cast G5 (by omega) (by omega) (by omega))
          exact ⟨res, go_cl (j := 205) (n := 2) (as := [.ref 94, .int v]) (r := none) rfl rfl rfl rfl rfl rfl hk5 r5 h1, h2⟩
        exact px_run (Post := fun res => res.1 = none ∧ px_G 1 0 0 w res.2) [xc.toInt] k3 rfl g3.1 g3.2.2.1 (hov (by have := G3.2.2.2.1; omega)) c0 ⟨xc2, xc3, trivial⟩ ⟨ng_iy ⟨xc, xc1, rfl⟩ rfl, trivial⟩ trivial ⟨fun ls4 st4 w4 t4 f4 q => sign 20005 (by omega) (by omega) ls4 st4 w4 t4 f4 q, fun ls4 st4 w4 t4 f4 q => sign 20006 (by omega) (by omega) ls4 st4 w4 t4 f4 q, trivial⟩
      rcases hpc with rfl | rfl
      · exact px_run (Post := fun res => res.1 = none ∧ px_G 1 0 0 w res.2) [] k1 rfl g1.1 V1 (hov g1.2.2.2.1) h0 trivial trivial ⟨ret, trivial⟩ ⟨step, trivial⟩
      · exact px_run (Post := fun res => res.1 = none ∧ px_G 1 0 0 w res.2) [] k2 rfl g1.1 V1 (hov g1.2.2.2.1) h0 trivial trivial ⟨ret, trivial⟩ ⟨step, trivial⟩
  refine px_fin (o := o) (M := pm_200) rfl rfl rfl rfl ht ?_
  refine px_run (Post := fun res => res.1 = none ∧ px_G 1 0 0 w res.2) [] k0 rfl ht hV (hov (by omega)) rfl trivial trivial trivial ⟨fun ls2 st2 w2 t2 f2 q => ?_, trivial⟩
  obtain ⟨a1, a2, a3, _⟩ := q
  have c0 : pq_lk ls2 0 = some (.ref 94) := a1.1
  cases px_sr a2
  have g2 : px_G 0 0 0 w w2 := px_stp hV t2 f2 a3 (by omega) (by have := hV.2.1; omega)
  obtain ⟨w3, r3, g3⟩ := hX w2 t2 g2.2.2.1 (px_na g2 (by omega) hna) (by have := g2.2.2.2.1; omega)
  obtain ⟨res, h1, h2⟩ := loop _ 4 ls2 w3 (Or.inl rfl) rfl c0 (px_G_cast (px_G_comp g2 g3) (by omega) (by omega) (by omega))
  exact ⟨res, go_cl (j := 201) (n := 1) (as := [.ref 94]) (r := none) rfl rfl rfl rfl rfl rfl hkc r3 h1, h2⟩
theorem px_product {o : Nat} (ho : o < 6) (hX : px_X (pz_k o 0 + 1) 202 o) : px_X (pz_k o 1 + 1) 201 o := by
  intro w ht hV hna hpo
  have ck := List.all_eq_true.mp pz_p o (List.mem_range.mpr ho)
  unfold pz_4 pz_0 at ck
  simp only [Bool.and_eq_true] at ck
  obtain ⟨⟨⟨k0, k1⟩, k2⟩, k3⟩ := ck
  have hov : ∀ {w' : pq_W}, px_o w' = px_o w + 0 → (0 : Int) ≤ px_o w' ∧ px_o w' ≤ 5 := fun h => by omega
  have hkc : Nat.ble (pz_k o 0 + 1) (pz_k o 1) = true := Nat.ble_eq_true_of_le (by unfold pz_k; omega)
  have hk5 : Nat.ble 5 (pz_k o 1) = true := Nat.ble_eq_true_of_le (px_k5 ho _)
  -- behind a part: the next look
  have loop : ∀ (m : Nat) (pc : Nat) (ls : pq_L) (w1 : pq_W), (pc = 4 ∨ pc = 54) → (px_T w - px_a w1).toNat = m → pq_lk ls 0 = some (.ref 94) → px_G 1 0 0 w w1 → ∃ res, pq_Go (pz_k o 1) pm_201 pc ls [] w1 0 0 res ∧ (res.1 = none ∧ px_G 1 0 0 w res.2) := by
    intro m
    induction m using Nat.strongRecOn with
    | ind m ih =>
      intro pc ls w1 hpc hm h0 g1
      have V1 := g1.2.2.1
      have ret : ∀ (x : Option Value) (w2 : pq_W), sx_Ty sx_T0 w2 → sx_Fr pz_A w1 w2 → ng_ae (fx_p (px_a w1 :: px_o w1 :: px_f w1 :: px_T w1 :: [])) x w2 (.inr (), pz_E 0 0 (fx_i 2), [], []) → x = none ∧ px_G 1 0 0 w w2 := fun x w2 t2 f2 q =>
        ⟨q.1, px_G_cast (px_G_comp g1 (px_stp V1 t2 f2 q.2.1 (Int.le_refl _) (by have := V1.2.1; omega))) (by omega) (by omega) (by omega)⟩
      have step : ∀ (ls2 : pq_L) (st2 : List Value) (w2 : pq_W), sx_Ty sx_T0 w2 → sx_Fr pz_A w1 w2 → ng_al (fx_p (px_a w1 :: px_o w1 :: px_f w1 :: px_T w1 :: [])) ls2 st2 w2 (pz_al [pz_c] [fx_r] (pz_E 1 0 (fx_i 2)) (pz_C 1)) → ∃ res, pq_Go (pz_k o 1) pm_201 32 ls2 st2 w2 0 0 res ∧ (res.1 = none ∧ px_G 1 0 0 w res.2) := by
        intro ls2 st2 w2 t2 f2 q
        obtain ⟨a1, a2, a3, a4, _⟩ := q
        obtain ⟨b1, b2, _⟩ := px_Cc (C := []) a4
        have b1 : px_a w1 + 1 ≤ px_T w1 := b1
        have c0 : pq_lk ls2 0 = some (.ref 94) := a1.1
        obtain ⟨xc, xc1, xc2, xc3⟩ := a1.2.1
        cases px_sr a2
        have g2 : px_G 0 1 0 w1 w2 := px_stp V1 t2 f2 a3 (by omega) b1
        have G2 := px_G_comp g1 g2
        have ea2 : px_a w2 = px_a w1 + 1 := (px_E a3).1
        obtain ⟨w3, r3, g3⟩ := hX w2 t2 g2.2.2.1 (px_na G2 (by omega) hna) (by have := G2.2.2.2.1; omega)
        have G3 := px_G_comp G2 g3
        refine Exists.elim (?_ : ∃ res, pq_Go (pz_k o 1) pm_201 35 ls2 [] w3 0 0 res ∧ (res.1 = none ∧ px_G 1 0 0 w res.2)) (fun res h => ⟨res, go_cl (j := 202) (n := 1) (as := [.ref 94]) (r := none) rfl rfl rfl rfl rfl rfl hkc r3 h.1, h.2⟩)
        -- with the sign
        have sign : ∀ (op : Int), 20000 ≤ op → op ≤ 20008 → ∀ (ls4 : pq_L) (st4 : List Value) (w4 : pq_W), sx_Ty sx_T0 w4 → sx_Fr pz_A w3 w4 → ng_al (fx_p (px_a w3 :: px_o w3 :: px_f w3 :: px_T w3 :: [xc.toInt])) ls4 st4 w4 (pz_al [] [fx_k op, fx_r] (pz_E 0 0 (fx_i 2)) []) → ∃ res, pq_Go (pz_k o 1) pm_201 51 ls4 st4 w4 0 0 res ∧ (res.1 = none ∧ px_G 1 0 0 w res.2) := by
          intro op ho1 ho2 ls4 st4 w4 t4 f4 q
          obtain ⟨a1, a2, a3, _⟩ := q
          have c4 : pq_lk ls4 0 = some (.ref 94) := a1.1
          obtain ⟨v, hst, hv⟩ := px_s2 a2
          subst hst
          have g4 : px_G 0 0 0 w3 w4 := px_stp g3.2.2.1 t4 f4 a3 (by omega) (by have := g3.2.2.1.2.1; omega)
          have G4 := px_G_comp G3 g4
          have hb := px_b2 (c := v.toInt) (by omega) (by omega)
          obtain ⟨w5, r5, g5⟩ := px_put (w := w4) (v := v) t4 g4.2.2.1 (px_n60 t4 g4.2.2.1 (px_na G4 (by omega) hna)) (fun hf => by
            have h1 := (G4.2.2.2.2.2.2.2.2 hf).2
            have h2 := px_hh hV
            rw [hb.1]
            omega)
          rw [hb.2] at g5
          have G5 := px_G_comp G4 g5
          have ha3 := g3.2.2.2.2.1
          have ha4 := g4.2.2.2.2.1
          have ha5 := g5.2.2.2.2.1
          have hT1 := px_TT g1.2.1
          obtain ⟨res, h1, h2⟩ := ih (px_T w - px_a w5).toNat (by omega) 54 ls4 w5 (Or.inr rfl) rfl c4 (px_G_cast G5 (by omega) (by omega) (by omega))
          exact ⟨res, go_cl (j := 205) (n := 2) (as := [.ref 94, .int v]) (r := none) rfl rfl rfl rfl rfl rfl hk5 r5 h1, h2⟩
        exact px_run (Post := fun res => res.1 = none ∧ px_G 1 0 0 w res.2) [xc.toInt] k3 rfl g3.1 g3.2.2.1 (hov (by have := G3.2.2.2.1; omega)) c0 ⟨xc2, xc3, trivial⟩ ⟨ng_iy ⟨xc, xc1, rfl⟩ rfl, trivial⟩ trivial ⟨fun ls4 st4 w4 t4 f4 q => sign 20007 (by omega) (by omega) ls4 st4 w4 t4 f4 q, fun ls4 st4 w4 t4 f4 q => sign 20008 (by omega) (by omega) ls4 st4 w4 t4 f4 q, trivial⟩
      rcases hpc with rfl | rfl
      · exact px_run (Post := fun res => res.1 = none ∧ px_G 1 0 0 w res.2) [] k1 rfl g1.1 V1 (hov g1.2.2.2.1) h0 trivial trivial ⟨ret, trivial⟩ ⟨step, trivial⟩
      · exact px_run (Post := fun res => res.1 = none ∧ px_G 1 0 0 w res.2) [] k2 rfl g1.1 V1 (hov g1.2.2.2.1) h0 trivial trivial ⟨ret, trivial⟩ ⟨step, trivial⟩
  refine px_fin (o := o) (M := pm_201) rfl rfl rfl rfl ht ?_
  refine px_run (Post := fun res => res.1 = none ∧ px_G 1 0 0 w res.2) [] k0 rfl ht hV (hov (by omega)) rfl trivial trivial trivial ⟨fun ls2 st2 w2 t2 f2 q => ?_, trivial⟩
  obtain ⟨a1, a2, a3, _⟩ := q
  have c0 : pq_lk ls2 0 = some (.ref 94) := a1.1
  cases px_sr a2
  have g2 : px_G 0 0 0 w w2 := px_stp hV t2 f2 a3 (by omega) (by have := hV.2.1; omega)
  obtain ⟨w3, r3, g3⟩ := hX w2 t2 g2.2.2.1 (px_na g2 (by omega) hna) (by have := g2.2.2.2.1; omega)
  obtain ⟨res, h1, h2⟩ := loop _ 4 ls2 w3 (Or.inl rfl) rfl c0 (px_G_cast (px_G_comp g2 g3) (by omega) (by omega) (by omega))
  exact ⟨res, go_cl (j := 202) (n := 1) (as := [.ref 94]) (r := none) rfl rfl rfl rfl rfl rfl hkc r3 h1, h2⟩
