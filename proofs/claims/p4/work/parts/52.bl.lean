/-! bill, by hand over the checks -/
theorem fr_w2 {A B : sx_A} {w w1 : pq_W} (f : sx_Fr A w w1) (h : fr_i B A) : sx_Fr B w w1 := fr_wk h f
theorem mo_N_own {N N1 : Nat → Int} {B : Nat → Nat → Int} {f0 : Nat} (h : mo_N N B) (hf30 : f0 < 30) (hy : mo_y N1) (h3 : N1 3 = N 3) (h5 : N1 5 = N 5) (h6 : N1 6 = N 6) (hp : ∀ i, 186 ≤ i → i < 1922 → i ≠ 304 + 34 * f0 → i ≠ 305 + 34 * f0 → ¬ (328 + 34 * f0 ≤ i ∧ i ≤ 335 + 34 * f0) → N1 i = N i) (hb : 0 ≤ N1 (304 + 34 * f0) ∨ N1 (304 + 34 * f0) = N (304 + 34 * f0)) : mo_N N1 B := by
  obtain ⟨⟨y2, y3, y5, y6, yg, yp⟩, ⟨hf, ht⟩, ha⟩ := h
  refine ⟨hy, ⟨fun g hg => ?_, fun t htt => ?_⟩, fun a ha8 => ?_⟩
  · rw [h5] at hg
    obtain ⟨k1, k2, k3⟩ := hf g hg
    refine ⟨mo_W_congr k1 (fun i hi => hp _ (by omega) (by omega) (by omega) (by omega) (by omega)), by rw [h3, hp _ (by omega) (by omega) (by omega) (by omega) (by omega)]; exact k2, fun l hl => ?_⟩
    rw [hp (320 + 34 * g + l) (by omega) (by omega) (by omega) (by omega) (by omega)]
    by_cases e : g = f0
    · subst e
      rcases hb with hb | hb
      · exact ⟨(k3 l hl).1, fun q => by omega⟩
      · rw [hb]
        exact k3 l hl
    · rw [hp (304 + 34 * g) (by omega) (by omega) (by omega) (by omega) (by omega)]
      exact k3 l hl
  · rw [h6] at htt
    exact mo_W_congr (ht t htt) (fun i hi => hp _ (by omega) (by omega) (by omega) (by omega) (by omega))
  · refine mo_a_congr (ha a ha8) (fun l hl => mo_F_congr h5 (fun g hg hg5 => ?_)) (fun j hj => hp _ (by omega) (by omega) (by omega) (by omega) (by omega))
    have := yg g hg
    exact ⟨hp _ (by omega) (by omega) (by omega) (by omega) (by omega), hp _ (by omega) (by omega) (by omega) (by omega) (by omega), hp _ (by omega) (by omega) (by omega) (by omega) (by omega)⟩
theorem mo_right2 {N N1 : Nat → Int} {B : Nat → Nat → Int} {f0 a0 l0 : Nat} {e : Int} (h : mo_N N B) (hB : 0 ≤ B a0 l0) (hy : mo_y N1) (hf0 : (f0 : Int) < N 5) (ha8 : a0 < 8) (hl8 : l0 < 8) (ha0 : mo_al N f0 = a0) (he0 : 0 ≤ e ∧ e ≤ 1099690) (hbi : 0 ≤ N (304 + 34 * f0)) (hend : N (187 + 10 * a0) ≠ 1) (h3 : N1 3 = N 3) (h5 : N1 5 = N 5) (h6 : N1 6 = N 6) (hp : ∀ i, 266 ≤ i → i < 1922 → i ≠ 320 + 34 * f0 + l0 → ¬ (328 + 34 * f0 ≤ i ∧ i ≤ 335 + 34 * f0) → N1 i = N i) (hfe : N1 (320 + 34 * f0 + l0) = e) (ho : ∀ i, 186 ≤ i → i < 266 → i ≠ 186 + 10 * a0 → i ≠ 188 + 10 * a0 + l0 → N1 i = N i) (hd : N1 (188 + 10 * a0 + l0) = max 0 (N (188 + 10 * a0 + l0) + (e - N (320 + 34 * f0 + l0)))) (hc : N1 (186 + 10 * a0) = N (186 + 10 * a0) + max 0 (-(N (188 + 10 * a0 + l0) + (e - N (320 + 34 * f0 + l0))))) : mo_N N1 B := by
  have y5 := h.1.2.2.1
  have hf30 : f0 < 30 := by omega
  obtain ⟨M, hM⟩ : ∃ M : Nat → Int, M = fun i => if 328 + 34 * f0 ≤ i ∧ i ≤ 335 + 34 * f0 then N i else N1 i := ⟨_, rfl⟩
  have m1 : ∀ i, ¬ (328 + 34 * f0 ≤ i ∧ i ≤ 335 + 34 * f0) → M i = N1 i := fun i hi => by
    rw [hM]
    exact if_neg hi
  have m2 : ∀ i, (328 + 34 * f0 ≤ i ∧ i ≤ 335 + 34 * f0) → M i = N i := fun i hi => by
    rw [hM]
    exact if_pos hi
  have hyM : mo_y M := by
    obtain ⟨y2, y3, y5, y6, yg, yp⟩ := hy
    refine ⟨by rw [m1 2 (by omega)]; exact y2, by rw [m1 3 (by omega)]; exact y3, by rw [m1 5 (by omega)]; exact y5, by rw [m1 6 (by omega)]; exact y6, fun g hg => by rw [m1 _ (by omega)]; exact yg g hg, fun p hp => by rw [m1 _ (by omega)]; exact yp p hp⟩
  have hm : mo_N M B := mo_right h hB hyM hf0 ha8 hl8 ha0 he0 hbi hend (by rw [m1 3 (by omega)]; exact h3) (by rw [m1 5 (by omega)]; exact h5) (by rw [m1 6 (by omega)]; exact h6) (fun i i1 i2 i3 => by
    by_cases q : 328 + 34 * f0 ≤ i ∧ i ≤ 335 + 34 * f0
    · exact m2 i q
    · rw [m1 i q]
      exact hp i i1 i2 i3 q) (by rw [m1 _ (by omega)]; exact hfe) (fun i i1 i2 i3 i4 => by rw [m1 i (by omega)]; exact ho i i1 i2 i3 i4) (by rw [m1 _ (by omega)]; exact hd) (by rw [m1 _ (by omega)]; exact hc)
  exact mo_N_own hm hf30 hy (m1 3 (by omega)).symm (m1 5 (by omega)).symm (m1 6 (by omega)).symm (fun i i1 i2 i3 i4 i5 => (m1 i i5).symm) (Or.inr (m1 _ (by omega)).symm)
noncomputable def bl_A : sx_A := [(97, 0, 5), (95, 138, 185), (95, 186, 265), (95, 302, 1321), (105, 0, 100000), (106, 0, 100000), (107, 0, 100000), (108, 0, 100000)]
theorem bl_fin {w w1 : pq_W} {x : Option Value} (hJ : JJ w) (ht : sx_Ty sx_T0 w1) (f : sx_Fr bl_A w w1) (hm : mo_N (sy_r w1 95) (fun _ _ => mo_B (sy_r w 95 0 / 100).toNat)) (hx : ∃ y : Int32, x = some (.int y)) : kz_P w (x, w1) := by
  have f : sx_Fr [(97, 0, 5), (95, 138, 185), (95, 186, 265), (95, 302, 1321), (105, 0, 100000), (106, 0, 100000), (107, 0, 100000), (108, 0, 100000)] w w1 := f
  have e0 : sy_r w1 95 0 = sy_r w 95 0 := fr_no f ⟨Or.inl (by decide), Or.inr (by omega), Or.inr (by omega), Or.inr (by omega), Or.inl (by decide), Or.inl (by decide), Or.inl (by decide), Or.inl (by decide), trivial⟩
  refine kz_mk hJ ht f ⟨⟨0, 100000, by decide, by omega, by omega⟩, (by first | exact ⟨138, 1321, by decide, by omega, by omega⟩ | exact ⟨3, 9, by decide, by omega, by omega⟩ | exact ⟨2, 2, by decide, by omega, by omega⟩ | exact ⟨302, 1321, by decide, by omega, by omega⟩), (by first | exact ⟨138, 1321, by decide, by omega, by omega⟩ | exact ⟨3, 9, by decide, by omega, by omega⟩ | exact ⟨2, 2, by decide, by omega, by omega⟩ | exact ⟨302, 1321, by decide, by omega, by omega⟩), (by first | exact ⟨138, 1321, by decide, by omega, by omega⟩ | exact ⟨3, 9, by decide, by omega, by omega⟩ | exact ⟨2, 2, by decide, by omega, by omega⟩ | exact ⟨302, 1321, by decide, by omega, by omega⟩), ⟨0, 100000, by decide, by omega, by omega⟩, ⟨0, 100000, by decide, by omega, by omega⟩, ⟨0, 100000, by decide, by omega, by omega⟩, ⟨0, 100000, by decide, by omega, by omega⟩, trivial⟩ ?_ hx
  refine ⟨by rw [e0]; exact hJ.2.1.1, ?_⟩
  rw [e0]
  exact hm
noncomputable def bl_I (w0 w : pq_W) (f a : Nat) : Prop := sx_Ty sx_T0 w ∧ sx_Fr bl_A w0 w ∧ mo_N (sy_r w 95) (fun _ _ => mo_B (sy_r w0 95 0 / 100).toNat) ∧ (f : Int) < sy_r w 95 5 ∧ mo_al (sy_r w 95) f = a ∧ 0 ≤ sy_r w 95 (304 + 34 * f) ∧ sy_r w 95 (187 + 10 * a) ≠ 1 ∧ (∀ l : Nat, l < 8 → 0 ≤ sy_r w 108 l ∧ sy_r w 108 l ≤ 1099690)
theorem mo_db {N : Nat → Int} {y : Nat} (h : mo_N N (fun _ _ => mo_B y)) (hy : y ≤ 30) {a l : Nat} (ha : a < 8) (hl : l < 8) : 0 ≤ N (188 + 10 * a + l) ∧ N (188 + 10 * a + l) ≤ 142990700 := by
  have h1 := (h.2.2 a ha).1 l hl
  have h2 := mo_F_bd (a := a) h.2.1 hl
  have h3 := mo_B_30 hy
  have h1 : 0 ≤ N (188 + 10 * a + l) ∧ N (188 + 10 * a + l) ≤ mo_F N a l + mo_B y := h1
  omega
theorem bl_yr {w : pq_W} (hJ : JJ w) : (sy_r w 95 0 / 100).toNat ≤ 30 := by
  have := hJ.2.1.1
  omega
noncomputable def blB (ls : pq_L) (f a d l : Int) : Prop := pq_lk ls 0 = some (.ref 94) ∧ ng_i ls 1 f ∧ ng_i ls 2 a ∧ ng_i ls 3 d ∧ ng_i ls 4 l
theorem bl_loop {w0 : pq_W} {f a : Nat} (hJ : JJ w0) (hf30 : f < 30) (ha8 : a < 8) : ∀ (m l : Nat), l + m = 8 → ∀ (ls : pq_L) (w : pq_W) (d : Int), (0 ≤ d ∧ d ≤ 1) → blB ls f a d l → bl_I w0 w f a → (∀ l' : Nat, l ≤ l' → l' < 8 → sy_r w 95 (320 + 34 * f + l') = 0) → ∃ res, pq_Go 299 pm_221 156 ls [] w 0 0 res ∧ kz_P w0 res := by
  have hfv : (0 : Int) ≤ f ∧ (f : Int) ≤ 29 := by omega
  have hav : (0 : Int) ≤ a ∧ (a : Int) ≤ 7 := by omega
  intro m
  induction m with
  | zero =>
    intro l hl ls w d hd hb hI hz
    obtain ⟨t, fr, hm, _⟩ := hI
    refine ng_go (J := sx_tt) (Post := kz_P w0) (fx_p [f, a, d]) bc_5e rfl ⟨hfv.1, hfv.2, hav.1, hav.2, hd.1, hd.2, trivial⟩ trivial ⟨hb.1, ng_iy hb.2.1 rfl, ng_iy hb.2.2.1 rfl, ng_iy hb.2.2.2.1 rfl, ng_ik hb.2.2.2.2 (show (l : Int) = 8 by omega), trivial⟩ trivial trivial t sx_ctn (fun _ _ _ => trivial) ⟨fun x w2 t2 f2 q => ?_, trivial⟩ trivial
    have f2 : sx_Fr [] w w2 := f2
    have e : sy_r w2 95 = sy_r w 95 := funext (fun i => ng_nil f2 95 i)
    exact bl_fin hJ t2 (sx_Fr_trans fr (ng_n2 f2)) (by rw [e]; exact hm) (mc_ans q.1)
  | succ m ih =>
    intro l hl ls w d hd hb hI hz
    obtain ⟨t, fr, hm, i5, ial, ibi, ien, idu⟩ := hI
    have hl8 : l < 8 := by omega
    have hlv : (0 : Int) ≤ l ∧ (l : Int) ≤ 7 := by omega
    have du := idu l hl8
    refine ng_go (J := sx_tt) (Post := kz_P w0) (fx_p [f, a, d, l, sy_r w 108 l]) bc_5 rfl ⟨hfv.1, hfv.2, hav.1, hav.2, hd.1, hd.2, hlv.1, hlv.2, du.1, du.2, trivial⟩ trivial ⟨hb.1, ng_iy hb.2.1 rfl, ng_iy hb.2.2.1 rfl, ng_iy hb.2.2.2.1 rfl, ng_iy hb.2.2.2.2 rfl, trivial⟩ trivial ⟨?_, trivial⟩ t sx_ctn (fun _ _ _ => trivial) trivial ⟨fun ls1 st1 w1 t1 f1 q => ?_, trivial⟩
    · show sy_r w 108 (sx_ev _ (sx_y 3)).toNat = sx_ev _ (sx_y 4)
      rw [sx_y_ev, sx_y_ev]
      show sy_r w 108 (l : Int).toNat = sy_r w 108 l
      rw [Int.toNat_natCast]
    obtain ⟨a1, a2, _⟩ := q
    cases ng_st0 a2
    obtain ⟨c0, c1, c2, c3, c4, ⟨xe, xe1, xe2, xe3⟩, _⟩ := a1
    have c0 : pq_lk ls1 0 = some (.ref 94) := c0
    have g1 : ng_i ls1 1 (f : Int) := ng_yi c1 rfl
    have g2 : ng_i ls1 2 (a : Int) := ng_yi c2 rfl
    have g3 : ng_i ls1 3 d := ng_yi c3 rfl
    have g4 : ng_i ls1 4 (l : Int) := ng_yi c4 rfl
    have g5 : ng_i ls1 5 xe.toInt := ⟨xe, xe1, rfl⟩
    have f1 : sx_Fr [] w w1 := f1
    have xe2 : 0 ≤ xe.toInt := xe2
    have xe3 : xe.toInt ≤ 1099690 := xe3
    have ck6 := List.all_eq_true.mp (List.all_eq_true.mp bc_6 f (List.mem_range.mpr hf30)) l (List.mem_range.mpr hl8)
    refine ng_go (J := sx_tt) (Post := kz_P w0) (fx_p [a, d, xe.toInt]) ck6 rfl ⟨hav.1, hav.2, hd.1, hd.2, xe2, xe3, trivial⟩ trivial ⟨c0, ng_ik g1 rfl, ng_iy g2 rfl, ng_iy g3 rfl, ng_ik g4 rfl, ng_iy g5 rfl, trivial⟩ trivial trivial t1 sx_ctn (fun _ _ _ => trivial) trivial ⟨fun ls2 st2 w2 t2 f2 q => ?_, trivial⟩
    obtain ⟨a1, a2, a3, _⟩ := q
    cases ng_st0 a2
    obtain ⟨c0, c1, c2, c3, c4, c5, _⟩ := a1
    have c0 : pq_lk ls2 0 = some (.ref 94) := c0
    have g1 : ng_i ls2 1 (f : Int) := ng_ki c1 rfl
    have g2 : ng_i ls2 2 (a : Int) := ng_yi c2 rfl
    have g3 : ng_i ls2 3 d := ng_yi c3 rfl
    have g4 : ng_i ls2 4 (l : Int) := ng_ki c4 rfl
    have g5 : ng_i ls2 5 xe.toInt := ng_yi c5 rfl
    have f2 : sx_Fr [(95, 320 + 34 * (f : Int) + (l : Int), 320 + 34 * (f : Int) + (l : Int))] w1 w2 := f2
    obtain ⟨v2, _⟩ := mc_oe (n := 320 + 34 * f + l) a3 (by omega)
    rw [sx_y_ev] at v2
    have v2 : sy_r w2 95 (320 + 34 * f + l) = xe.toInt := v2
    have ck7 := List.all_eq_true.mp bc_7 f (List.mem_range.mpr hf30)
    refine ng_go (J := sx_tt) (Post := kz_P w0) (fx_p [a, d, xe.toInt, l]) ck7 rfl ⟨hav.1, hav.2, hd.1, hd.2, xe2, xe3, hlv.1, hlv.2, trivial⟩ trivial ⟨c0, ng_ik g1 rfl, ng_iy g2 rfl, ng_iy g3 rfl, ng_iy g4 rfl, ng_iy g5 rfl, trivial⟩ trivial trivial t2 sx_ctn (fun _ _ _ => trivial) trivial ⟨fun ls3 st3 w3 t3 f3 q => ?_, trivial⟩
    obtain ⟨a1, a2, _⟩ := q
    cases ng_st0 a2
    obtain ⟨c0, c1, c2, c3, c4, c5, _⟩ := a1
    have c0 : pq_lk ls3 0 = some (.ref 94) := c0
    have g1 : ng_i ls3 1 (f : Int) := ng_ki c1 rfl
    have g2 : ng_i ls3 2 (a : Int) := ng_yi c2 rfl
    have g3 : ng_i ls3 3 d := ng_yi c3 rfl
    have g4 : ng_i ls3 4 (l : Int) := ng_yi c4 rfl
    have g5 : ng_i ls3 5 xe.toInt := ng_yi c5 rfl
    have f3 : sx_Fr [(95, 328 + 34 * (f : Int), 335 + 34 * (f : Int))] w2 w3 := f3
    have hdb := mo_db hm (bl_yr hJ) ha8 hl8
    have s3 : sy_r w3 95 (188 + 10 * a + l) = sy_r w 95 (188 + 10 * a + l) := by rw [fr_no f3 ⟨Or.inr (by omega), trivial⟩, fr_no f2 ⟨Or.inr (by omega), trivial⟩, ng_nil f1]
    have ck8 := List.all_eq_true.mp (List.all_eq_true.mp bc_8 a (List.mem_range.mpr ha8)) l (List.mem_range.mpr hl8)
    refine ng_go (J := sx_tt) (Post := kz_P w0) (fx_p [f, d, xe.toInt, sy_r w 95 (188 + 10 * a + l)]) ck8 rfl ⟨hfv.1, hfv.2, hd.1, hd.2, xe2, xe3, hdb.1, hdb.2, trivial⟩ trivial ⟨c0, ng_iy g1 rfl, ng_ik g2 rfl, ng_iy g3 rfl, ng_ik g4 rfl, ng_iy g5 rfl, trivial⟩ trivial (mc_eo (n := 188 + 10 * a + l) (by rw [sx_y_ev]; exact s3) (by omega) trivial) t3 sx_ctn (fun _ _ _ => trivial) trivial ⟨fun ls4 st4 w4 t4 f4 q => ?_, trivial⟩
    obtain ⟨a1, a2, a3, _⟩ := q
    cases ng_st0 a2
    obtain ⟨c0, c1, c2, c3, c4, _⟩ := a1
    have c0 : pq_lk ls4 0 = some (.ref 94) := c0
    have g1 : ng_i ls4 1 (f : Int) := ng_yi c1 rfl
    have g2 : ng_i ls4 2 (a : Int) := ng_ki c2 rfl
    have g3 : ng_i ls4 3 d := ng_yi c3 rfl
    have g4 : ng_i ls4 4 ((l + 1 : Nat) : Int) := ng_ki c4 (by omega)
    have f4 : sx_Fr [(95, 188 + 10 * (a : Int) + (l : Int), 188 + 10 * (a : Int) + (l : Int)), (95, 138, 185)] w3 w4 := f4
    obtain ⟨v4, _⟩ := mc_oe (n := 188 + 10 * a + l) a3 (by omega)
    have v4 : sy_r w4 95 (188 + 10 * a + l) = 0 + (1 * xe.toInt + (1 * sy_r w 95 (188 + 10 * a + l) + 0)) := v4
    have fall : sx_Fr [(95, 320 + 34 * (f : Int) + (l : Int), 320 + 34 * (f : Int) + (l : Int)), (95, 328 + 34 * (f : Int), 335 + 34 * (f : Int)), (95, 188 + 10 * (a : Int) + (l : Int), 188 + 10 * (a : Int) + (l : Int)), (95, 138, 185)] w w4 := fr_cat (fr_cat (fr_cat f1 f2) f3) f4
    have so : ∀ i : Nat, i ≠ 320 + 34 * f + l → ¬ (328 + 34 * f ≤ i ∧ i ≤ 335 + 34 * f) → i ≠ 188 + 10 * a + l → ¬ (138 ≤ i ∧ i ≤ 185) → sy_r w4 95 i = sy_r w 95 i := fun i h1 h2 h3 h4 => fr_no fall ⟨Or.inr (by omega), Or.inr (by omega), Or.inr (by omega), Or.inr (by omega), trivial⟩
    have vf : sy_r w4 95 (320 + 34 * f + l) = xe.toInt := by rw [fr_no f4 ⟨Or.inr (by omega), Or.inr (by omega), trivial⟩, fr_no f3 ⟨Or.inr (by omega), trivial⟩, v2]
    have old : sy_r w 95 (320 + 34 * f + l) = 0 := hz l (Nat.le_refl _) hl8
    have hy4 := mo_yT t4 (Or.inl rfl)
    have hm4 : mo_N (sy_r w4 95) (fun _ _ => mo_B (sy_r w0 95 0 / 100).toNat) := mo_right2 (f0 := f) (a0 := a) (l0 := l) (e := xe.toInt) hm (mo_B_nn _) hy4 i5 ha8 hl8 ial ⟨xe2, xe3⟩ ibi ien (so 3 (by omega) (by omega) (by omega) (by omega)) (so 5 (by omega) (by omega) (by omega) (by omega)) (so 6 (by omega) (by omega) (by omega) (by omega)) (fun i i1 i2 i3 i4 => so i i3 i4 (by omega) (by omega)) vf (fun i i1 i2 i3 i4 => so i (by omega) (by omega) i4 (by omega)) (by rw [v4, old]; omega) (by rw [so _ (by omega) (by omega) (by omega) (by omega), old]; omega)
    have frb : sx_Fr bl_A w0 w4 := sx_Fr_trans fr (fr_w2 fall ⟨⟨302, 1321, by decide, by omega, by omega⟩, ⟨302, 1321, by decide, by omega, by omega⟩, ⟨186, 265, by decide, by omega, by omega⟩, ⟨138, 185, by decide, by omega, by omega⟩, trivial⟩)
    have hpl := hm.1.2.2.2.2.1 f hf30
    refine ih (l + 1) (by omega) ls4 w4 d hd ⟨c0, g1, g2, g3, g4⟩ ⟨t4, frb, hm4, by rw [so 5 (by omega) (by omega) (by omega) (by omega)]; exact i5, ?_, by rw [so _ (by omega) (by omega) (by omega) (by omega)]; exact ibi, by rw [so _ (by omega) (by omega) (by omega) (by omega)]; exact ien, fun l' hl' => ?_⟩ (fun l' h1 h2 => ?_)
    · rw [mo_al_congr (N := sy_r w 95) (so _ (by omega) (by omega) (by omega) (by omega)) (so _ (by omega) (by omega) (by omega) (by omega))]
      exact ial
    · rw [fr_no fall ⟨Or.inl (by decide), Or.inl (by decide), Or.inl (by decide), Or.inl (by decide), trivial⟩]
      exact idu l' hl'
    · rw [so _ (by omega) (by omega) (by omega) (by omega)]
      exact hz l' (by omega) h2

theorem ff_W_of {w : pq_W} (hM : mo_f (sy_r w 95)) {f : Nat} (hf : (f : Int) < sy_r w 95 5) : ff_W w f := ⟨(hM.1 f hf).1, fun t ht => hM.2 t ht⟩
theorem kz_bill {xf : Int32} {w : pq_W} (ht : sx_Ty sx_T0 w) (hJ : JJ w) : ∃ res, pq_Ru 300 221 [.ref 94, .int xf] w res ∧ kz_P w res := by
  have hy := mo_yT ht (Or.inl rfl)
  have hy5 : 0 ≤ sy_r w 95 5 ∧ sy_r w 95 5 ≤ 30 := hy.2.2.1
  have hM := hJ.2.1
  have main : ∃ res, pq_Go 299 pm_221 0 (lv_args 0 [.ref 94, .int xf]) [] w 0 0 res ∧ kz_P w res := by
    have ck := List.all_eq_true.mp bc_1 (221, pm_221) List.mem_cons_self
    refine ng_go (J := sx_tt) (Post := kz_P w) (fx_p [xf.toInt, sy_r w 95 5]) ck rfl ⟨xf.minValue_le_toInt, xf.toInt_le, hy5.1, hy5.2, trivial⟩ trivial ⟨rfl, ng_iy ⟨xf, rfl, rfl⟩ rfl, trivial⟩ trivial (mc_eo (n := 5) (by rw [sx_y_ev]; rfl) rfl trivial) ht sx_ctn (fun _ _ _ => trivial) ⟨fun x w2 t2 f2 a => kz_er hJ t2 f2 (mc_ans a.1), trivial⟩ ⟨fun ls1 st1 w1 t1 f1 q => ?_, trivial⟩
    obtain ⟨a1, a2, _, a4, _⟩ := q
    cases ng_st0 a2
    obtain ⟨c0, c1, _⟩ := a1
    obtain ⟨d1, d2, _⟩ := a4
    have d1 : 0 + (-1 * xf.toInt + 0) ≤ 0 := d1
    have d2 : 1 + (1 * xf.toInt + (-1 * sy_r w 95 5 + 0)) ≤ 0 := d2
    obtain ⟨f, ef⟩ : ∃ f : Nat, (f : Int) = xf.toInt := ⟨xf.toInt.toNat, by omega⟩
    have hf30 : f < 30 := by omega
    have hf5 : (f : Int) < sy_r w 95 5 := by omega
    have f1 : sx_Fr [(97, 0, 5)] w w1 := f1
    have s1 : ∀ i, sy_r w1 95 i = sy_r w 95 i := fun i => fr_no f1 ⟨Or.inl (by decide), trivial⟩
    have c0 : pq_lk ls1 0 = some (.ref 94) := c0
    have g1 : ng_i ls1 1 (f : Int) := ng_yi c1 (show xf.toInt = (f : Int) by omega)
    have hfv : (0 : Int) ≤ f ∧ (f : Int) ≤ 29 := by omega
    have hpl : 0 ≤ sy_r w 95 (302 + 34 * f) ∧ sy_r w 95 (302 + 34 * f) ≤ 11 := hy.2.2.2.2.1 f hf30
    obtain ⟨pn, epn⟩ : ∃ pn : Nat, (pn : Int) = sy_r w 95 (302 + 34 * f) := ⟨(sy_r w 95 (302 + 34 * f)).toNat, by omega⟩
    have hal : 0 ≤ sy_r w 95 (267 + 3 * pn) ∧ sy_r w 95 (267 + 3 * pn) ≤ 7 := hy.2.2.2.2.2 pn (by omega)
    obtain ⟨a, ea⟩ : ∃ a : Nat, (a : Int) = sy_r w 95 (267 + 3 * pn) := ⟨(sy_r w 95 (267 + 3 * pn)).toNat, by omega⟩
    have ha8 : a < 8 := by omega
    have hav : (0 : Int) ≤ a ∧ (a : Int) ≤ 7 := by omega
    have ial : mo_al (sy_r w 95) f = a := by
      unfold mo_al
      rw [show (sy_r w 95 (302 + 34 * f)).toNat = pn by omega]
      exact ea.symm
    have bb := sy_rb w 95 (304 + 34 * f)
    have he : 0 ≤ sy_r w 95 (187 + 10 * a) ∧ sy_r w 95 (187 + 10 * a) ≤ 1 := by
      have := sy_rg (r := 95) ht rfl (g := (186, 10, 8, 1, 1, 0, 1)) (by decide) (k := a) (j := 1) ha8 (Nat.le_refl _) (Nat.le_refl _) (by show 186 + 10 * a + 1 < 2858; omega)
      have this : 0 ≤ sy_r w 95 (186 + 10 * a + 1) ∧ sy_r w 95 (186 + 10 * a + 1) ≤ 1 := this
      rw [show 187 + 10 * a = 186 + 10 * a + 1 by omega]
      exact this
    refine ng_go (J := sx_tt) (Post := kz_P w) (fx_p [f, pn, a, sy_r w 95 (304 + 34 * f), sy_r w 95 (187 + 10 * a)]) bc_2 rfl ⟨hfv.1, hfv.2, (show (0 : Int) ≤ pn by omega), (show (pn : Int) ≤ 11 by omega), hav.1, hav.2, bb.1, bb.2, he.1, he.2, trivial⟩ trivial ⟨c0, ng_iy g1 rfl, trivial⟩ trivial ⟨?_, ?_, ?_, ?_, trivial⟩ t1 sx_ctn (fun _ _ _ => trivial) ⟨fun x w2 t2 f2 q => kz_er hJ t2 (sx_Fr_trans f1 f2) (mc_ans q.1), trivial⟩ ⟨fun ls2 st2 w2 t2 f2 q => ?_, trivial⟩
    · show sy_r w1 95 (302 + (34 * (f : Int) + 0)).toNat = sx_ev _ (sx_y 1)
      rw [sx_y_ev, show (302 + (34 * (f : Int) + 0)).toNat = 302 + 34 * f by omega, s1]
      exact epn.symm
    · show sy_r w1 95 (267 + (3 * (pn : Int) + 0)).toNat = sx_ev _ (sx_y 2)
      rw [sx_y_ev, show (267 + (3 * (pn : Int) + 0)).toNat = 267 + 3 * pn by omega, s1]
      exact ea.symm
    · show sy_r w1 95 (304 + (34 * (f : Int) + 0)).toNat = sx_ev _ (sx_y 3)
      rw [sx_y_ev, show (304 + (34 * (f : Int) + 0)).toNat = 304 + 34 * f by omega, s1]
      rfl
    · show sy_r w1 95 (187 + (10 * (a : Int) + 0)).toNat = sx_ev _ (sx_y 4)
      rw [sx_y_ev, show (187 + (10 * (a : Int) + 0)).toNat = 187 + 10 * a by omega, s1]
      rfl
    obtain ⟨a1, a2, _, a4, _⟩ := q
    obtain ⟨c0, c1, c2, _⟩ := a1
    have c0 : pq_lk ls2 0 = some (.ref 94) := c0
    have g1 : ng_i ls2 1 (f : Int) := ng_yi c1 rfl
    have g2 : ng_i ls2 2 (a : Int) := ng_yi c2 rfl
    have d3 : 1 + (1 * sy_r w 95 (304 + 34 * f) + 0) ≤ 0 := a4.1
    have d4 : 0 + (1 * sy_r w 95 (187 + 10 * a) + 0) ≤ 0 := a4.2.1
    have f2 : sx_Fr [(97, 0, 5)] w w2 := sx_Fr_trans f1 f2
    have s2 : ∀ i, sy_r w2 95 i = sy_r w 95 i := fun i => fr_no f2 ⟨Or.inl (by decide), trivial⟩
    have e2 : sy_r w2 95 = sy_r w 95 := funext s2
    have j2 : sy_J0 w2 := sy_J0I w w2 hJ.1 t2 (sx_Fr_sub (by decide +kernel) f2)
    match st2, a2 with
    | [.int y1, .int y2, .int y3, .ref y4], a2 =>
      obtain ⟨z1, z2, z3, z4, _⟩ := a2
      have z1 : y1.toInt = sx_ev _ (-1, []) := z1
      have z2 : y2.toInt = sx_ev _ (0, []) := z2
      have z3 : y3.toInt = sx_ev _ (sx_y 0) := z3
      have z4 : y4 = 94 := z4
      subst z4
      rw [ng_ek] at z1 z2
      rw [sx_y_ev] at z3
      have z3 : y3.toInt = f := z3
      obtain ⟨⟨r3, w3⟩, e1, t3, f3, ⟨xg, rfl, xg1, xg2⟩, du⟩ := kx_fees (w := w2) (f := f) (xf := y3) (xt := y2) (xb := y1) t2 j2 hf30 (ff_W_of (by rw [e2]; exact hM.2.2.1) (by rw [s2]; exact hf5)) z3 (by omega) (by omega)
      have t3 : sx_Ty sx_T0 w3 := t3
      have f3 : sx_Fr ff_FA w2 w3 := f3
      have back : ∃ res, pq_Go 299 pm_221 51 ls2 [.int xg] w3 0 0 res ∧ kz_P w res := by
        have fA3 : sx_Fr [(97, 0, 5), (105, 0, 100000), (106, 0, 63), (107, 0, 63), (108, 0, 7)] w w3 := fr_cat f2 f3
        have fB3 : sx_Fr bl_A w w3 := fr_w2 fA3 ⟨⟨0, 5, by decide, by omega, by omega⟩, ⟨0, 100000, by decide, by omega, by omega⟩, ⟨0, 100000, by decide, by omega, by omega⟩, ⟨0, 100000, by decide, by omega, by omega⟩, ⟨0, 100000, by decide, by omega, by omega⟩, trivial⟩
        have s3 : ∀ i, sy_r w3 95 i = sy_r w 95 i := fun i => by rw [ff_95 f3, s2]
        have e3 : sy_r w3 95 = sy_r w 95 := funext s3
        refine ng_go (J := sx_tt) (Post := kz_P w) (fx_p [f, a, xg.toInt]) bc_3 rfl ⟨hfv.1, hfv.2, hav.1, hav.2, xg1, xg2, trivial⟩ trivial ⟨c0, ng_iy g1 rfl, ng_iy g2 rfl, trivial⟩ ⟨by show xg.toInt = sx_ev _ (sx_y 2); rw [sx_y_ev]; rfl, trivial⟩ trivial t3 sx_ctn (fun _ _ _ => trivial) ⟨fun x w4 t4 f4 q => ?_, trivial⟩ ⟨fun ls4 st4 w4 t4 f4 q => ?_, trivial⟩
        · have f4 : sx_Fr [(97, 0, 5)] w3 w4 := f4
          have e4 : sy_r w4 95 = sy_r w 95 := funext (fun i => by rw [fr_no f4 ⟨Or.inl (by decide), trivial⟩, s3])
          exact bl_fin hJ t4 (sx_Fr_trans fB3 (fr_w2 f4 ⟨⟨0, 5, by decide, by omega, by omega⟩, trivial⟩)) (by rw [e4]; exact hM.2) (mc_ans q.1)
        · obtain ⟨a1, a2, _⟩ := q
          cases ng_st0 a2
          obtain ⟨c0, c1, c2, ⟨xd, xd1, xd2, xd3⟩, _⟩ := a1
          have c0 : pq_lk ls4 0 = some (.ref 94) := c0
          have g1 : ng_i ls4 1 (f : Int) := ng_yi c1 rfl
          have g2 : ng_i ls4 2 (a : Int) := ng_yi c2 rfl
          have g3 : ng_i ls4 3 xd.toInt := ⟨xd, xd1, rfl⟩
          have xd2 : 0 ≤ xd.toInt := xd2
          have xd3 : xd.toInt ≤ 1 := xd3
          have f4 : sx_Fr [(97, 0, 5)] w3 w4 := f4
          have fB4 : sx_Fr bl_A w w4 := sx_Fr_trans fB3 (fr_w2 f4 ⟨⟨0, 5, by decide, by omega, by omega⟩, trivial⟩)
          have s4 : ∀ i, sy_r w4 95 i = sy_r w 95 i := fun i => by rw [fr_no f4 ⟨Or.inl (by decide), trivial⟩, s3]
          have du4 : ∀ l : Nat, l < 8 → 0 ≤ sy_r w4 108 l ∧ sy_r w4 108 l ≤ 1099690 := fun l hl => by
            rw [fr_no f4 ⟨Or.inl (by decide), trivial⟩]
            exact du l hl
          have ck4 := List.all_eq_true.mp bc_4 f (List.mem_range.mpr hf30)
          have day := hM.1
          refine ng_go (J := sx_tt) (Post := kz_P w) (fx_p [a, xd.toInt, sy_r w 95 0]) ck4 rfl ⟨hav.1, hav.2, xd2, xd3, day.1, day.2, trivial⟩ trivial ⟨c0, ng_ik g1 rfl, ng_iy g2 rfl, ng_iy g3 rfl, trivial⟩ trivial (mc_eo (n := 0) (by rw [sx_y_ev, s4]; rfl) rfl trivial) t4 sx_ctn (fun _ _ _ => trivial) trivial ⟨fun ls5 st5 w5 t5 f5 q => ?_, trivial⟩
          obtain ⟨a1, a2, a3, _⟩ := q
          cases ng_st0 a2
          obtain ⟨c0, c1, c2, c3, c4, _⟩ := a1
          have f5 : sx_Fr [(95, 304 + 34 * (f : Int), 305 + 34 * (f : Int))] w4 w5 := f5
          obtain ⟨v5, _⟩ := mc_oe (n := 304 + 34 * f) a3 (by omega)
          rw [sx_y_ev] at v5
          have v5 : sy_r w5 95 (304 + 34 * f) = sy_r w 95 0 := v5
          have so : ∀ i : Nat, i ≠ 304 + 34 * f → i ≠ 305 + 34 * f → sy_r w5 95 i = sy_r w 95 i := fun i i1 i2 => by rw [fr_no f5 ⟨Or.inr (by omega), trivial⟩, s4]
          have hm5 : mo_N (sy_r w5 95) (fun _ _ => mo_B (sy_r w 95 0 / 100).toNat) := mo_N_own (f0 := f) hM.2 hf30 (mo_yT t5 (Or.inl rfl)) (so 3 (by omega) (by omega)) (so 5 (by omega) (by omega)) (so 6 (by omega) (by omega)) (fun i _ _ i3 i4 _ => so i i3 i4) (Or.inl (by rw [v5]; exact day.1))
          refine bl_loop hJ hf30 ha8 8 0 rfl ls5 w5 xd.toInt ⟨xd2, xd3⟩ ⟨c0, ng_ki c1 rfl, ng_yi c2 rfl, ng_yi c3 rfl, ng_ki c4 rfl⟩ ⟨t5, sx_Fr_trans fB4 (fr_w2 f5 ⟨⟨302, 1321, by decide, by omega, by omega⟩, trivial⟩), hm5, by rw [so 5 (by omega) (by omega)]; exact hf5, ?_, by rw [v5]; exact day.1, by rw [so _ (by omega) (by omega)]; omega, fun l hl => by rw [fr_no f5 ⟨Or.inl (by decide), trivial⟩]; exact du4 l hl⟩ (fun l' _ hl' => ?_)
          · rw [mo_al_congr (N := sy_r w 95) (so _ (by omega) (by omega)) (so _ (by omega) (by omega))]
            exact ial
          · rw [so _ (by omega) (by omega)]
            exact ((hM.2.2.1.1 f hf5).2.2 l' hl').2 (by omega)
      obtain ⟨res, e3, e4⟩ := back
      exact ⟨res, go_cl (j := 223) (n := 4) (as := [.ref 94, .int y3, .int y2, .int y1]) (k1 := 100) rfl rfl rfl rfl rfl rfl rfl e1 e3, e4⟩
  obtain ⟨res, g1, g2⟩ := main
  refine ⟨res, ru_of (k := 299) (M := pm_221) rfl ?_ g1, g2⟩
  rw [Bool.and_eq_true]
  exact ⟨rfl, sq_rcv ht rfl rfl rfl⟩
