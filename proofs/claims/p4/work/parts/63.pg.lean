/-! the reader of laws, by hand over the checks -/
noncomputable def px_a (w : pq_W) : Int := sy_r w 94 11
noncomputable def px_o (w : pq_W) : Int := sy_r w 94 12
noncomputable def px_f (w : pq_W) : Int := sy_r w 94 13
noncomputable def px_n (w : pq_W) : Int := sy_r w 94 15
noncomputable def px_T (w : pq_W) : Int := sy_r w 95 7
noncomputable def px_c (w : pq_W) (k : Nat) : Int := sy_r w 104 k
noncomputable def px_h (w : pq_W) : Int := sy_ht (px_c w) (px_n w).toNat
noncomputable def px_V (w : pq_W) : Prop := 0 ≤ px_a w ∧ px_a w ≤ px_T w ∧ 0 ≤ px_n w ∧ sy_okc (px_c w) (px_n w)
noncomputable def px_A : sx_A := [(94, 11, 13), (94, 15, 15), (104, 0, 69)]
/-- from w to w': how much higher, how much room is left, how much more is open -/
noncomputable def px_G (h g d : Int) (w w' : pq_W) : Prop := sx_Ty sx_T0 w' ∧ sx_Fr px_A w w' ∧ px_V w' ∧ px_o w' = px_o w + d ∧ px_a w ≤ px_a w' ∧ px_n w ≤ px_n w' ∧ px_n w' - px_n w + g ≤ px_a w' - px_a w ∧ (∀ k : Nat, (k : Int) < px_n w → px_c w' k = px_c w k) ∧ (px_f w' = 0 → px_f w = 0 ∧ px_h w' = px_h w + h)
theorem px_TT {w w' : pq_W} (f : sx_Fr px_A w w') : px_T w' = px_T w := fr_no (A := [(94, 11, 13), (94, 15, 15), (104, 0, 69)]) f ⟨Or.inl (by decide), Or.inl (by decide), Or.inl (by decide), trivial⟩
theorem px_G_comp {h1 g1 d1 h2 g2 d2 : Int} {w w1 w2 : pq_W} (a : px_G h1 g1 d1 w w1) (b : px_G h2 g2 d2 w1 w2) : px_G (h1 + h2) (g1 + g2) (d1 + d2) w w2 := by
  obtain ⟨a1, a2, a3, a4, a5, a6, a7, a8, a9⟩ := a
  obtain ⟨b1, b2, b3, b4, b5, b6, b7, b8, b9⟩ := b
  refine ⟨b1, sx_Fr_trans a2 b2, b3, by omega, by omega, by omega, by omega, fun k hk => by rw [b8 k (by omega), a8 k hk], fun h => ?_⟩
  obtain ⟨c1, c2⟩ := b9 h
  obtain ⟨c3, c4⟩ := a9 c1
  exact ⟨c3, by omega⟩
theorem px_G_cast {h g d h' g' d' : Int} {w w1 : pq_W} (a : px_G h g d w w1) (e1 : h = h') (e2 : g' ≤ g) (e3 : d = d') : px_G h' g' d' w w1 := by
  subst e1
  subst e3
  obtain ⟨a1, a2, a3, a4, a5, a6, a7, a8, a9⟩ := a
  exact ⟨a1, a2, a3, a4, a5, a6, by omega, a8, a9⟩
theorem px_ht {c : Nat → Int} {n : Int} (h : sy_okc c n) : ∀ k : Nat, (k : Int) ≤ n → 0 ≤ sy_ht c k
  | 0, _ => Int.le_refl _
  | k + 1, hk => by
    have h1 := px_ht h k (by omega)
    have h2 := h k (by omega)
    show 0 ≤ sy_ht c k + sy_dl (c k)
    unfold sy_nd at h2
    unfold sy_dl
    split at h2
    · rw [if_pos (by assumption)]
      omega
    · split at h2
      · rw [if_neg (by assumption), if_pos (by assumption)]
        omega
      · rw [if_neg (by assumption), if_neg (by assumption)]
        omega
theorem px_hh {w : pq_W} (h : px_V w) : 0 ≤ px_h w := px_ht h.2.2.2 _ (by have := h.2.2.1; omega)
theorem px_ty {w : pq_W} (ht : sx_Ty sx_T0 w) : (0 ≤ px_f w ∧ px_f w ≤ 1) ∧ (0 ≤ px_T w ∧ px_T w ≤ 60) := by
  obtain ⟨_, _, _, h1, h2⟩ := sq_fat (r := 94) (i := 13) (lo := 0) (hi := 1) ht rfl rfl
  refine ⟨⟨h1, h2⟩, ?_⟩
  exact sy_rg (r := 95) ht rfl (g := (7, 1, 1, 0, 0, 0, 60)) (by decide) (k := 0) (j := 0) (by decide) (Nat.le_refl _) (Nat.le_refl _) (by decide)
/-- only at, open and fault are written -/
theorem px_adv {w w2 : pq_W} {n d : Int} (hV : px_V w) (t2 : sx_Ty sx_T0 w2) (f2 : sx_Fr pz_A w w2) (ea : px_a w2 = px_a w + n) (hn : 0 ≤ n) (hT : px_a w + n ≤ px_T w) (eo : px_o w2 = px_o w + d) (ef : px_f w2 = 0 → px_f w = 0) : px_G 0 n d w w2 := by
  have f2' : sx_Fr [(94, 11, 13)] w w2 := f2
  have fA : sx_Fr px_A w w2 := fr_w2 f2' ⟨⟨11, 13, by decide, by omega, by omega⟩, trivial⟩
  have en : px_n w2 = px_n w := fr_no f2' ⟨Or.inr (by omega), trivial⟩
  have ec : ∀ k, px_c w2 k = px_c w k := fun k => fr_no f2' ⟨Or.inl (by decide), trivial⟩
  have ecf : px_c w2 = px_c w := funext ec
  refine ⟨t2, fA, ⟨by have := hV.1; omega, by rw [px_TT fA]; omega, by rw [en]; exact hV.2.2.1, by rw [en, ecf]; exact hV.2.2.2⟩, eo, by omega, by omega, by omega, fun k _ => ec k, fun h => ⟨ef h, ?_⟩⟩
  unfold px_h
  rw [en, ecf]
  omega
theorem px_put' {w : pq_W} {v : Int32} (ht : sx_Ty sx_T0 w) (hV : px_V w) (hn : px_n w ≤ 60) (hnd : px_f w = 0 → sy_nd v.toInt ≤ px_h w) : ∃ w', pq_Ru 5 205 [.ref 94, .int v] w (none, w') ∧ px_G (sy_dl v.toInt) (-1) 0 w w' ∧ px_a w' = px_a w := by
  have tf := (px_ty ht).1
  have h0 := hV.2.2.1
  have main : ∃ res, pq_Go 4 pm_205 0 (lv_args 0 [.ref 94, .int v]) [] w 0 0 res ∧ (res.1 = none ∧ px_G (sy_dl v.toInt) (-1) 0 w res.2 ∧ px_a res.2 = px_a w) := by
    by_cases e : px_f w = 0
    · obtain ⟨c, ec⟩ : ∃ c : Nat, (c : Int) = px_n w := ⟨(px_n w).toNat, by omega⟩
      have etn : (px_n w).toNat = c := by omega
      have ck := List.all_eq_true.mp pz_w c (List.mem_range.mpr (by omega))
      refine ng_go (J := sx_tt) (Post := fun res => res.1 = none ∧ px_G (sy_dl v.toInt) (-1) 0 w res.2 ∧ px_a res.2 = px_a w) (fx_p [v.toInt]) ck rfl ⟨v.minValue_le_toInt, v.toInt_le, trivial⟩ trivial ⟨rfl, ng_iy ⟨v, rfl, rfl⟩ rfl, trivial⟩ trivial ⟨?_, ?_, trivial⟩ ht sx_ctn (fun _ _ _ => trivial) ⟨fun x w2 t2 f2 q => ?_, trivial⟩ trivial
      · show sy_r w 94 (sx_ev _ (13, [])).toNat = sx_ev _ (0, [])
        rw [ng_ek, ng_ek]
        exact e
      · show sy_r w 94 (sx_ev _ (15, [])).toNat = sx_ev _ ((c : Int), [])
        rw [ng_ek, ng_ek]
        exact ec.symm
      · obtain ⟨q1, ⟨q2, q3, _⟩, _⟩ := q
        rw [ng_ek, sx_y_ev, Int.toNat_natCast] at q2
        rw [ng_ek] at q3
        have q3 : sy_r w2 94 15 = sx_ev _ ((c : Int) + 1, []) := q3
        rw [ng_ek] at q3
        have q2 : px_c w2 c = v.toInt := q2
        have q3 : px_n w2 = (c : Int) + 1 := q3
        have f2 : sx_Fr [(104, (c : Int), (c : Int)), (94, 15, 15)] w w2 := f2
        have fA : sx_Fr px_A w w2 := fr_w2 f2 ⟨⟨0, 69, by decide, by omega, by omega⟩, ⟨15, 15, by decide, by omega, by omega⟩, trivial⟩
        have ea : px_a w2 = px_a w := fr_no f2 ⟨Or.inl (by decide), Or.inr (by omega), trivial⟩
        have eo : px_o w2 = px_o w := fr_no f2 ⟨Or.inl (by decide), Or.inr (by omega), trivial⟩
        have ecc : ∀ k : Nat, k < c → px_c w2 k = px_c w k := fun k hk => fr_no f2 ⟨Or.inr (by omega), Or.inl (by decide), trivial⟩
        have hh : sy_ht (px_c w2) c = px_h w := by
          unfold px_h
          rw [etn]
          exact sy_ht_congr (fun i hi => ecc i hi)
        show x = none ∧ px_G (sy_dl v.toInt) (-1) 0 w w2 ∧ px_a w2 = px_a w
        refine ⟨q1, ⟨t2, fA, ⟨by rw [ea]; exact hV.1, by rw [ea, px_TT fA]; exact hV.2.1, by omega, fun k hk => ?_⟩, by omega, by omega, by omega, by omega, fun k hk => ecc k (by omega), fun _ => ⟨e, ?_⟩⟩, ea⟩
        · by_cases ek : k = c
          · subst ek
            rw [q2, hh]
            exact hnd e
          · rw [ecc k (by omega), sy_ht_congr (d := px_c w) (fun i hi => ecc i (by omega))]
            exact hV.2.2.2 k (by omega)
        · show sy_ht (px_c w2) (px_n w2).toNat = px_h w + sy_dl v.toInt
          rw [show (px_n w2).toNat = c + 1 by omega]
          show sy_ht (px_c w2) c + sy_dl (px_c w2 c) = _
          rw [hh, q2]
    · refine ng_go (J := sx_tt) (Post := fun res => res.1 = none ∧ px_G (sy_dl v.toInt) (-1) 0 w res.2 ∧ px_a res.2 = px_a w) (fx_p [v.toInt]) pz_w1 rfl ⟨v.minValue_le_toInt, v.toInt_le, trivial⟩ trivial ⟨rfl, ng_iy ⟨v, rfl, rfl⟩ rfl, trivial⟩ trivial ⟨?_, trivial⟩ ht sx_ctn (fun _ _ _ => trivial) ⟨fun x w2 t2 f2 q => ?_, trivial⟩ trivial
      · show sy_r w 94 (sx_ev _ (13, [])).toNat = sx_ev _ (1, [])
        rw [ng_ek, ng_ek]
        show px_f w = 1
        omega
      · have f2 : sx_Fr [] w w2 := f2
        have ea : px_a w2 = px_a w := ng_nil f2 _ _
        have eo : px_o w2 = px_o w := ng_nil f2 _ _
        have ef : px_f w2 = px_f w := ng_nil f2 _ _
        have en : px_n w2 = px_n w := ng_nil f2 _ _
        have eT : px_T w2 = px_T w := ng_nil f2 _ _
        have ecc : px_c w2 = px_c w := funext (fun k => ng_nil f2 _ _)
        show x = none ∧ px_G (sy_dl v.toInt) (-1) 0 w w2 ∧ px_a w2 = px_a w
        refine ⟨q.1, ⟨t2, ng_n2 f2, ⟨by rw [ea]; exact hV.1, by rw [ea, eT]; exact hV.2.1, by rw [en]; exact h0, by rw [en, ecc]; exact hV.2.2.2⟩, by omega, by omega, by omega, by omega, fun k _ => by rw [ecc], fun h => absurd (ef ▸ h) e⟩, ea⟩
  obtain ⟨res, g1, g2, g3⟩ := main
  refine ⟨res.2, ?_, g3⟩
  rw [← g2]
  refine ru_of (k := 4) (M := pm_205) rfl ?_ g1
  rw [Bool.and_eq_true]
  exact ⟨rfl, sq_rcv ht rfl rfl rfl⟩
theorem px_put {w : pq_W} {v : Int32} (ht : sx_Ty sx_T0 w) (hV : px_V w) (hn : px_n w ≤ 60) (hnd : px_f w = 0 → sy_nd v.toInt ≤ px_h w) : ∃ w', pq_Ru 5 205 [.ref 94, .int v] w (none, w') ∧ px_G (sy_dl v.toInt) (-1) 0 w w' := by
  obtain ⟨w', h1, h2, _⟩ := px_put' ht hV hn hnd
  exact ⟨w', h1, h2⟩
/-- one stretch of the reader -/
theorem px_run {Post : pq_R → Prop} {k j : Nat} {M : pq_M} {pc : Nat} {o : Int × Int} {iv : List (Int × Int)} {sl : List (Nat × sx_V)} {re : List ng_Ae} {hd : List (Nat × ng_Al)} {w : pq_W} {ls : pq_L} (vals : List Int) (hck : pz_ck k j M pc o iv sl re hd = true) (hM : pq_tab[j]? = some M) (ht : sx_Ty sx_T0 w) (hV : px_V w) (ho : o.1 ≤ px_o w ∧ px_o w ≤ o.2) (h0 : pq_lk ls 0 = some (.ref 94)) (hiv : sx_ivs (fx_p (px_a w :: px_o w :: px_f w :: px_T w :: vals)) 4 iv) (hsl : ng_sl0 (fx_p (px_a w :: px_o w :: px_f w :: px_T w :: vals)) ls sl)
    (hret : ng_R Post pz_A w (fx_p (px_a w :: px_o w :: px_f w :: px_T w :: vals)) re) (hst : ng_K Post pz_A w (fx_p (px_a w :: px_o w :: px_f w :: px_T w :: vals)) k M hd) : ∃ res, pq_Go k M pc ls [] w 0 0 res ∧ Post res := by
  unfold pz_ck at hck
  obtain ⟨tf, tT⟩ := px_ty ht
  have ha := hV.1
  have haT := hV.2.1
  refine ng_go (J := sx_tt) (Post := Post) (fx_p (px_a w :: px_o w :: px_f w :: px_T w :: vals)) hck hM ⟨ha, (show px_a w ≤ 60 by omega), ho.1, ho.2, tf.1, tf.2, tT.1, tT.2, hiv⟩ trivial ⟨h0, hsl⟩ trivial ⟨?_, ?_, ?_, ?_, trivial⟩ ht sx_ctn (fun _ _ _ => trivial) hret hst
  · show sy_r w 94 (sx_ev _ (11, [])).toNat = sx_ev _ (sx_y 0)
    rw [ng_ek, sx_y_ev]
    rfl
  · show sy_r w 94 (sx_ev _ (12, [])).toNat = sx_ev _ (sx_y 1)
    rw [ng_ek, sx_y_ev]
    rfl
  · show sy_r w 94 (sx_ev _ (13, [])).toNat = sx_ev _ (sx_y 2)
    rw [ng_ek, sx_y_ev]
    rfl
  · show sy_r w 95 (sx_ev _ (7, [])).toNat = sx_ev _ (sx_y 3)
    rw [ng_ek, sx_y_ev]
    rfl
/-- what a stop says of at, open and fault -/
theorem px_E {p : Nat → Int} {w2 : pq_W} {n d : Int} {f : sx_F} (h : ng_eqs p w2 (pz_E n d (.inl (.inl f)))) : px_a w2 = p 0 + n ∧ px_o w2 = p 1 + d ∧ px_f w2 = sx_ev p f := by
  obtain ⟨h1, h2, h3, _⟩ := h
  rw [ng_ek] at h1 h2 h3
  have h1 : px_a w2 = n + (1 * p 0 + 0) := h1
  have h2 : px_o w2 = d + (1 * p 1 + 0) := h2
  exact ⟨by omega, by omega, h3⟩
theorem px_Cc {p : Nat → Int} {n : Int} {C : List sx_F} (h : ng_fs p (pz_C n ++ C)) : p 0 + n ≤ p 3 ∧ p 2 ≤ 0 ∧ ng_fs p C := by
  obtain ⟨h1, h2, h3⟩ := h
  have h1 : n + (1 * p 0 + (-1 * p 3 + 0)) ≤ 0 := h1
  have h2 : 0 + (1 * p 2 + 0) ≤ 0 := h2
  exact ⟨by omega, by omega, h3⟩
noncomputable def px_X (D j : Nat) (o : Int) : Prop := ∀ w, sx_Ty sx_T0 w → px_V w → px_n w ≤ px_a w → px_o w = o → ∃ w', pq_Ru D j [.ref 94] w (none, w') ∧ px_G 1 0 0 w w'
theorem px_sr {p : Nat → Int} {st : List Value} (h : sx_sm p [fx_r] st) : st = [.ref 94] := by
  match st, h with
  | [.ref x], h =>
    have e : x = 94 := h.1
    rw [e]
theorem px_s2 {p : Nat → Int} {c : Int} {st : List Value} (h : sx_sm p [fx_k c, fx_r] st) : ∃ x : Int32, st = [.int x, .ref 94] ∧ x.toInt = c := by
  match st, h with
  | [.int y, .ref x], h =>
    have e : x = 94 := h.2.1
    have e1 : y.toInt = sx_ev p (c, []) := h.1
    rw [ng_ek] at e1
    exact ⟨y, by rw [e], e1⟩
theorem px_b2 {c : Int} (h1 : 20000 ≤ c) (h2 : c ≤ 20008) : sy_nd c = 2 ∧ sy_dl c = -1 := by
  unfold sy_nd sy_dl
  rw [if_neg (by omega), if_neg (by omega), if_neg (by omega), if_neg (by omega)]
  exact ⟨rfl, rfl⟩
