/-! the reader of laws: part, and the whole -/
theorem px_b0 {c : Int} (h2 : c < 20000) : sy_nd c = 0 ∧ sy_dl c = 1 := by
  unfold sy_nd sy_dl
  rw [if_pos h2, if_pos h2]
  exact ⟨rfl, rfl⟩
theorem px_part {o : Nat} (ho : o < 6) (hP : o < 5 → px_X (pz_k (o + 1) 0 + 1) 202 ((o : Int) + 1)) (hE : o < 5 → px_X (pz_k (o + 1) 5 + 1) 197 ((o : Int) + 1)) : px_X (pz_k o 0 + 1) 202 o := by
  intro w ht hV hna hpo
  have ck0 := pz_a0 o ho
  unfold pz_5 at ck0
  have ck := List.all_eq_true.mp pz_a1 o (List.mem_range.mpr ho)
  unfold pz_6 at ck
  simp only [Bool.and_eq_true] at ck
  obtain ⟨⟨⟨⟨⟨k22, k39⟩, k57⟩, k184⟩, k188⟩, k239⟩ := ck
  have hk5 : Nat.ble 5 (pz_k o 0) = true := Nat.ble_eq_true_of_le (px_k5 ho _)
  have hov : ∀ {w' : pq_W}, px_o w' = px_o w + 0 → (0 : Int) ≤ px_o w' ∧ px_o w' ≤ 5 := fun h => by omega
  have hVT := hV.2.1
  refine px_fin (o := o) (M := pm_202) rfl rfl rfl rfl ht ?_
  -- a number
  have digit : ∀ (n : Int), 1 ≤ n → ∀ (ls2 : pq_L) (st2 : List Value) (w2 : pq_W), sx_Ty sx_T0 w2 → sx_Fr pz_A w w2 → ng_al (fx_p (px_a w :: px_o w :: px_f w :: px_T w :: [])) ls2 st2 w2 (pz_dg n).2 → ∃ res, pq_Go (pz_k o 0) pm_202 184 ls2 st2 w2 0 0 res ∧ (res.1 = none ∧ px_G 1 0 0 w res.2) := by
    intro n hn ls2 st2 w2 t2 f2 q
    obtain ⟨a1, a2, a3, a4, _⟩ := q
    obtain ⟨b1, b2, _⟩ := px_Cc (C := []) a4
    have b1 : px_a w + n ≤ px_T w := b1
    have c0 : pq_lk ls2 0 = some (.ref 94) := a1.1
    obtain ⟨xv, xv1, xv2, xv3⟩ := a1.2.1
    cases px_sr a2
    have g2 : px_G 0 n 0 w w2 := px_stp hV t2 f2 a3 (by omega) b1
    have V2 := g2.2.2.1
    obtain ⟨tf, tT⟩ := px_ty t2
    have o2 := hov (by have := g2.2.2.2.1; omega)
    have a2b := V2.2.1
    refine ng_go (J := sx_tt) (Post := fun res => res.1 = none ∧ px_G 1 0 0 w res.2) (fx_p [px_a w2, px_o w2, px_f w2, px_T w2, xv.toInt]) k184 rfl ⟨V2.1, (show px_a w2 ≤ 60 by omega), o2.1, o2.2, tf.1, tf.2, tT.1, tT.2, xv2, xv3, trivial⟩ trivial ⟨c0, ng_iy ⟨xv, xv1, rfl⟩ rfl, trivial⟩ ⟨rfl, trivial⟩ ⟨?_, ?_, ?_, ?_, trivial⟩ t2 sx_ctn (fun _ _ _ => trivial) trivial ⟨fun ls3 st3 w3 t3 f3 q => ?_, trivial⟩
    · show sy_r w2 94 (sx_ev _ (11, [])).toNat = sx_ev _ (sx_y 0)
      rw [ng_ek, sx_y_ev]
      rfl
    · show sy_r w2 94 (sx_ev _ (12, [])).toNat = sx_ev _ (sx_y 1)
      rw [ng_ek, sx_y_ev]
      rfl
    · show sy_r w2 94 (sx_ev _ (13, [])).toNat = sx_ev _ (sx_y 2)
      rw [ng_ek, sx_y_ev]
      rfl
    · show sy_r w2 95 (sx_ev _ (7, [])).toNat = sx_ev _ (sx_y 3)
      rw [ng_ek, sx_y_ev]
      rfl
    obtain ⟨a1, a2, a3, _⟩ := q
    have c3 : pq_lk ls3 0 = some (.ref 94) := a1.1
    match st3, a2 with
    | [.int v, .ref r], a2 =>
      have e1 : r = 94 := a2.2.1
      subst e1
      have e2 : v.toInt = sx_ev _ (sx_y 4) := a2.1
      rw [sx_y_ev] at e2
      have e2 : v.toInt = xv.toInt := e2
      have xv3 : xv.toInt ≤ 9999 := xv3
      have g3 : px_G 0 0 0 w2 w3 := px_stp (vals := [xv.toInt]) V2 t3 f3 a3 (by omega) (by omega)
      have G3 := px_G_comp g2 g3
      have hb := px_b0 (c := v.toInt) (by omega)
      obtain ⟨w4, r4, g4⟩ := px_put (w := w3) (v := v) t3 g3.2.2.1 (px_n60 t3 g3.2.2.1 (px_na G3 (by omega) hna)) (fun hf => by rw [hb.1]; exact px_hh g3.2.2.1)
      rw [hb.2] at g4
      have G4 := px_G_comp G3 g4
      refine Exists.elim (?_ : ∃ res, pq_Go (pz_k o 0) pm_202 188 ls3 [] w4 0 0 res ∧ (res.1 = none ∧ px_G 1 0 0 w res.2)) (fun res h => ⟨res, go_cl (j := 205) (n := 2) (as := [.ref 94, .int v]) (r := none) rfl rfl rfl rfl rfl rfl hk5 r4 h.1, h.2⟩)
      refine px_run (Post := fun res => res.1 = none ∧ px_G 1 0 0 w res.2) [] k188 rfl g4.1 g4.2.2.1 (hov (by have := G4.2.2.2.1; omega)) c3 trivial trivial ⟨fun x w5 t5 f5 q => ?_, trivial⟩ trivial
      exact ⟨q.1, px_G_cast (px_G_comp G4 (px_stp g4.2.2.1 t5 f5 q.2.1 (Int.le_refl _) (by have := g4.2.2.1.2.1; omega))) (by omega) (by omega) (by omega)⟩
  -- a name
  have name : ∀ (i : Int), -1 ≤ i → i ≤ 5 → ∀ (ls2 : pq_L) (st2 : List Value) (w2 : pq_W), sx_Ty sx_T0 w2 → sx_Fr pz_A w w2 → ng_al (fx_p (px_a w :: px_o w :: px_f w :: px_T w :: [])) ls2 st2 w2 (pz_nm i).2 → ∃ res, pq_Go (pz_k o 0) pm_202 236 ls2 st2 w2 0 0 res ∧ (res.1 = none ∧ px_G 1 0 0 w res.2) := by
    intro i hi1 hi2 ls2 st2 w2 t2 f2 q
    obtain ⟨a1, a2, a3, a4, _⟩ := q
    obtain ⟨b1, b2, _⟩ := px_Cc (C := []) a4
    have b1 : px_a w + 1 ≤ px_T w := b1
    have b2 : px_f w ≤ 0 := b2
    have c0 : pq_lk ls2 0 = some (.ref 94) := a1.1
    obtain ⟨v, hst, hv⟩ := px_s2 a2
    subst hst
    have g2 : px_G 0 0 0 w w2 := px_stk hV t2 f2 a3 b2 (by omega) (by omega) ht
    have ea2 : px_a w2 = px_a w + 0 := (px_E a3).1
    have hb := px_b0 (c := v.toInt) (by omega)
    obtain ⟨w3, r3, g3, ea3⟩ := px_put' (w := w2) (v := v) t2 g2.2.2.1 (px_n60 t2 g2.2.2.1 (px_na g2 (by omega) hna)) (fun hf => by rw [hb.1]; exact px_hh g2.2.2.1)
    rw [hb.2] at g3
    have G3 := px_G_comp g2 g3
    have eT : px_T w3 = px_T w := px_TT G3.2.1
    refine Exists.elim (?_ : ∃ res, pq_Go (pz_k o 0) pm_202 239 ls2 [] w3 0 0 res ∧ (res.1 = none ∧ px_G 1 0 0 w res.2)) (fun res h => ⟨res, go_cl (j := 205) (n := 2) (as := [.ref 94, .int v]) (r := none) rfl rfl rfl rfl rfl rfl hk5 r3 h.1, h.2⟩)
    refine px_run (Post := fun res => res.1 = none ∧ px_G 1 0 0 w res.2) [] k239 rfl g3.1 g3.2.2.1 (hov (by have := G3.2.2.2.1; omega)) c0 trivial trivial ⟨fun x w5 t5 f5 q => ?_, trivial⟩ trivial
    exact ⟨q.1, px_G_cast (px_G_comp G3 (px_stp g3.2.2.1 t5 f5 q.2.1 (by omega) (by omega))) (by omega) (by omega) (by omega)⟩
  refine px_run (Post := fun res => res.1 = none ∧ px_G 1 0 0 w res.2) [] ck0 rfl ht hV (hov (by omega)) rfl trivial trivial ⟨fun x w2 t2 f2 q => ?_, trivial⟩ ⟨fun ls2 st2 w2 t2 f2 q => ?_, fun ls2 st2 w2 t2 f2 q => ?_, digit 1 (by omega), digit 2 (by omega), digit 3 (by omega), digit 4 (by omega), name 0 (by omega) (by omega), name 1 (by omega) (by omega), name 2 (by omega) (by omega), name 3 (by omega) (by omega), name 4 (by omega) (by omega), name 5 (by omega) (by omega), name (-1) (by omega) (by omega), trivial⟩
  · exact ⟨q.1, px_st1 hV t2 f2 q.2.1 (by omega) (by omega)⟩
  · obtain ⟨a1, a2, a3, a4, _⟩ := q
    obtain ⟨b1, b2, b3⟩ := px_Cc (C := [(-4, [(1, 1)])]) a4
    have b1 : px_a w + 1 ≤ px_T w := b1
    have b2 : px_f w ≤ 0 := b2
    have b3 : -4 + (1 * px_o w + 0) ≤ 0 := b3.1
    have c0 : pq_lk ls2 0 = some (.ref 94) := a1.1
    cases px_sr a2
    have g2 : px_G 0 1 1 w w2 := px_stk hV t2 f2 a3 b2 (by omega) b1 ht
    obtain ⟨w3, r3, g3⟩ := hP (by omega) w2 t2 g2.2.2.1 (px_na g2 (by omega) hna) (by have := g2.2.2.2.1; omega)
    have G3 := px_G_comp g2 g3
    have hkc : Nat.ble (pz_k (o + 1) 0 + 1) (pz_k o 0) = true := Nat.ble_eq_true_of_le (by unfold pz_k; omega)
    refine Exists.elim (?_ : ∃ res, pq_Go (pz_k o 0) pm_202 22 ls2 [] w3 0 0 res ∧ (res.1 = none ∧ px_G 1 0 0 w res.2)) (fun res h => ⟨res, go_cl (j := 202) (n := 1) (as := [.ref 94]) (r := none) rfl rfl rfl rfl rfl rfl hkc r3 h.1, h.2⟩)
    refine px_run (Post := fun res => res.1 = none ∧ px_G 1 0 0 w res.2) [] k22 rfl g3.1 g3.2.2.1 (by have := G3.2.2.2.1; exact ⟨by show 1 ≤ px_o w3; omega, by show px_o w3 ≤ 5; omega⟩) c0 trivial trivial trivial ⟨fun ls4 st4 w4 t4 f4 q => ?_, trivial⟩
    obtain ⟨a1, a2, a3, _⟩ := q
    have c4 : pq_lk ls4 0 = some (.ref 94) := a1.1
    obtain ⟨v, hst, hv⟩ := px_s2 a2
    subst hst
    have g4 : px_G 0 0 (-1) w3 w4 := px_stp g3.2.2.1 t4 f4 a3 (by omega) (by have := g3.2.2.1.2.1; omega)
    have G4 := px_G_comp G3 g4
    have hb : sy_nd v.toInt = 1 ∧ sy_dl v.toInt = 0 := by rw [hv]; decide
    obtain ⟨w5, r5, g5⟩ := px_put (w := w4) (v := v) t4 g4.2.2.1 (px_n60 t4 g4.2.2.1 (px_na G4 (by omega) hna)) (fun hf => by
      have h1 := (G4.2.2.2.2.2.2.2.2 hf).2
      have h2 := px_hh hV
      rw [hb.1]
      omega)
    rw [hb.2] at g5
    have G5 := px_G_comp G4 g5
    refine Exists.elim (?_ : ∃ res, pq_Go (pz_k o 0) pm_202 39 ls4 [] w5 0 0 res ∧ (res.1 = none ∧ px_G 1 0 0 w res.2)) (fun res h => ⟨res, go_cl (j := 205) (n := 2) (as := [.ref 94, .int v]) (r := none) rfl rfl rfl rfl rfl rfl hk5 r5 h.1, h.2⟩)
    refine px_run (Post := fun res => res.1 = none ∧ px_G 1 0 0 w res.2) [] k39 rfl g5.1 g5.2.2.1 (hov (by have := G5.2.2.2.1; omega)) c4 trivial trivial ⟨fun x w6 t6 f6 q => ?_, trivial⟩ trivial
    exact ⟨q.1, px_G_cast (px_G_comp G5 (px_stp g5.2.2.1 t6 f6 q.2.1 (Int.le_refl _) (by have := g5.2.2.1.2.1; omega))) (by omega) (by omega) (by omega)⟩
  · obtain ⟨a1, a2, a3, a4, _⟩ := q
    obtain ⟨b1, b2, b3⟩ := px_Cc (C := [(-4, [(1, 1)])]) a4
    have b1 : px_a w + 1 ≤ px_T w := b1
    have b2 : px_f w ≤ 0 := b2
    have b3 : -4 + (1 * px_o w + 0) ≤ 0 := b3.1
    have c0 : pq_lk ls2 0 = some (.ref 94) := a1.1
    cases px_sr a2
    have g2 : px_G 0 1 1 w w2 := px_stk hV t2 f2 a3 b2 (by omega) b1 ht
    obtain ⟨w3, r3, g3⟩ := hE (by omega) w2 t2 g2.2.2.1 (px_na g2 (by omega) hna) (by have := g2.2.2.2.1; omega)
    have G3 := px_G_comp g2 g3
    have hkc : Nat.ble (pz_k (o + 1) 5 + 1) (pz_k o 0) = true := Nat.ble_eq_true_of_le (by unfold pz_k; omega)
    refine Exists.elim (?_ : ∃ res, pq_Go (pz_k o 0) pm_202 57 ls2 [] w3 0 0 res ∧ (res.1 = none ∧ px_G 1 0 0 w res.2)) (fun res h => ⟨res, go_cl (j := 197) (n := 1) (as := [.ref 94]) (r := none) rfl rfl rfl rfl rfl rfl hkc r3 h.1, h.2⟩)
    have V3 := g3.2.2.1
    refine px_run (Post := fun res => res.1 = none ∧ px_G 1 0 0 w res.2) [] k57 rfl g3.1 V3 (by have := G3.2.2.2.1; exact ⟨by show 1 ≤ px_o w3; omega, by show px_o w3 ≤ 5; omega⟩) c0 trivial trivial ⟨fun x w6 t6 f6 q => ?_, fun x w6 t6 f6 q => ?_, trivial⟩ trivial
    · exact ⟨q.1, px_G_cast (px_G_comp G3 (px_st1 (k := 0) V3 t6 f6 q.2.1 (by omega) (by have := V3.2.1; omega))) (by omega) (by omega) (by omega)⟩
    · obtain ⟨b1, b2, _⟩ := px_Cc (C := []) q.2.2.1
      have b1 : px_a w3 + 1 ≤ px_T w3 := b1
      have b2 : px_f w3 ≤ 0 := b2
      exact ⟨q.1, px_G_cast (px_G_comp G3 (px_stk V3 t6 f6 q.2.1 b2 (by omega) b1 g3.1)) (by omega) (by omega) (by omega)⟩
theorem px_chain {o : Nat} (ho : o < 6) (h : px_X (pz_k o 0 + 1) 202 o) : px_X (pz_k o 5 + 1) 197 o := px_either ho (px_both ho (px_test ho (px_sum ho (px_product ho h))))
theorem px_all : ∀ (m o : Nat), o + m = 5 → px_X (pz_k o 0 + 1) 202 o := by
  intro m
  induction m with
  | zero =>
    intro o ho
    have ho : o = 5 := by omega
    subst ho
    exact px_part (by decide) (fun h => by omega) (fun h => by omega)
  | succ m ih =>
    intro o ho
    have h1 := ih (o + 1) (by omega)
    exact px_part (by omega) (fun _ => by have := h1; rw [Int.natCast_add] at this; exact this) (fun _ => by have := px_chain (o := o + 1) (by omega) h1; rw [Int.natCast_add] at this; exact this)
theorem kx_either : px_X 66 197 0 := px_chain (o := 0) (by decide) (px_all 5 0 rfl)
