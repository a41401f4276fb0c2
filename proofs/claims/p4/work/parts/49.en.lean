/-! end, by hand over the checks -/
noncomputable def ng_l (ls : pq_L) (i : Nat) (v : Int) : Prop := ∃ x : Int64, pq_lk ls i = some (.long x) ∧ x.toInt = v
theorem ng_ly {p : Nat → Int} {ls : pq_L} {i n : Nat} {v : Int} (h : ng_l ls i v) (e : p n = v) : ng_d p ls i (mc_il n) := by
  obtain ⟨x, h1, h2⟩ := h
  exact ⟨x, h1, by rw [sx_y_ev, e]; exact h2⟩
theorem ng_yl {p : Nat → Int} {ls : pq_L} {i n : Nat} {v : Int} (h : ng_d p ls i (mc_il n)) (e : p n = v) : ng_l ls i v := by
  obtain ⟨x, h1, h2⟩ := h
  rw [sx_y_ev, e] at h2
  exact ⟨x, h1, h2⟩
theorem ng_fl {p : Nat → Int} {ls : pq_L} {i : Nat} {v : Int} {f : sx_F} (h : ng_d p ls i (.inl (.inr f))) (e : sx_ev p f = v) : ng_l ls i v := by
  obtain ⟨x, h1, h2⟩ := h
  rw [e] at h2
  exact ⟨x, h1, h2⟩
noncomputable def enB (ls : pq_L) (a al co : Int) : Prop := pq_lk ls 0 = some (.ref 94) ∧ ng_i ls 1 a ∧ ng_l ls 2 al ∧ ng_l ls 4 co
noncomputable def enA : sx_A := [(102, 0, 7), (103, 0, 7)]
/-- what is left over is given out -/
theorem en_loop {Post : pq_R → Prop} {w0 : pq_W} {a al co : Int} (ha : 0 ≤ a ∧ a ≤ 7) (hal : 0 ≤ al ∧ al ≤ 1143925600) (hco : 0 ≤ co ∧ co ≤ 264925599)
    (cont : ∀ ls w, enB ls a al co → sx_Ty sx_T0 w → sx_Fr enA w0 w → ∃ res, pq_Go 299 pm_194 253 ls [] w 0 0 res ∧ Post res) :
    ∀ (n : Nat) (lf : Int), lf.toNat ≤ n → ∀ ls w, enB ls a al co → ng_l ls 6 lf → sx_Ty sx_T0 w → sx_Fr enA w0 w → ∃ res, pq_Go 299 pm_194 170 ls [] w 0 0 res ∧ Post res := by
  have stop : ∀ (lf : Int), lf ≤ 0 → ∀ ls w, enB ls a al co → ng_l ls 6 lf → sx_Ty sx_T0 w → sx_Fr enA w0 w → ∃ res, pq_Go 299 pm_194 170 ls [] w 0 0 res ∧ Post res := by
    intro lf hlf ls w hb h6 ht hf
    have lb : -9223372036854775808 ≤ lf := by
      obtain ⟨x, _, rfl⟩ := h6
      exact x.minValue_le_toInt
    refine ng_go (J := sx_tt) (Post := Post) (fx_p [a, al, co, lf]) mc_n6 rfl ⟨ha.1, ha.2, hal.1, hal.2, hco.1, hco.2, lb, hlf, trivial⟩ trivial ⟨hb.1, ng_iy hb.2.1 rfl, ng_ly hb.2.2.1 rfl, ng_ly hb.2.2.2 rfl, ng_ly h6 rfl, trivial⟩ trivial trivial ht sx_ctn (fun _ _ _ => trivial) trivial ⟨fun ls2 st2 w2 t2 f2 q => ?_, trivial⟩
    obtain ⟨a1, a2, _⟩ := q
    cases ng_st0 a2
    obtain ⟨c0, c1, c2, c4, _⟩ := a1
    exact cont ls2 w2 ⟨c0, ng_yi c1 rfl, ng_yl c2 rfl, ng_yl c4 rfl⟩ t2 (sx_Fr_trans hf (ng_n2 f2))
  intro n
  induction n with
  | zero =>
    intro lf hlf ls w hb h6 ht hf
    exact stop lf (by omega) ls w hb h6 ht hf
  | succ n ih =>
    intro lf hlf ls w hb h6 ht hf
    by_cases e : lf ≤ 0
    · exact stop lf e ls w hb h6 ht hf
    · have lb : lf ≤ 9223372036854775807 := by
        obtain ⟨x, _, rfl⟩ := h6
        exact x.toInt_le
      refine ng_go (J := sx_tt) (Post := Post) (fx_p [a, al, co, lf]) mc_n7 rfl ⟨ha.1, ha.2, hal.1, hal.2, hco.1, hco.2, (show 1 ≤ lf by omega), lb, trivial⟩ trivial ⟨hb.1, ng_iy hb.2.1 rfl, ng_ly hb.2.2.1 rfl, ng_ly hb.2.2.2 rfl, ng_ly h6 rfl, trivial⟩ trivial trivial ht sx_ctn (fun _ _ _ => trivial) trivial ⟨fun ls2 st2 w2 t2 f2 q => ?_, trivial⟩
      obtain ⟨a1, a2, _⟩ := q
      cases ng_st0 a2
      obtain ⟨c0, c1, c2, c4, c6, _⟩ := a1
      exact ih (lf - 1) (by omega) ls2 w2 ⟨c0, ng_yi c1 rfl, ng_yl c2 rfl, ng_yl c4 rfl⟩ (ng_fl c6 (by show -1 + (1 * lf + 0) = _; omega)) t2 (sx_Fr_trans hf f2)
theorem mc_dy_to {p : Nat → Int} {w : pq_W} {a : Nat} (h : ∀ l : Nat, l < 8 → sy_r w 95 (188 + 10 * a + l) = p l) : ng_eqs p w (mc_dy a) := by
  have e : ∀ l : Nat, l < 8 → sy_r w 95 (188 + 10 * a + l) = sx_ev p (sx_y l) := fun l hl => by rw [sx_y_ev]; exact h l hl
  exact mc_eo (n := 188 + 10 * a + 0) (e 0 (by omega)) (by show 188 + 10 * (a : Int) + ((0 : Nat) : Int) = _; omega) (mc_eo (n := 188 + 10 * a + 1) (e 1 (by omega)) (by show 188 + 10 * (a : Int) + ((1 : Nat) : Int) = _; omega) (mc_eo (n := 188 + 10 * a + 2) (e 2 (by omega)) (by show 188 + 10 * (a : Int) + ((2 : Nat) : Int) = _; omega) (mc_eo (n := 188 + 10 * a + 3) (e 3 (by omega)) (by show 188 + 10 * (a : Int) + ((3 : Nat) : Int) = _; omega) (mc_eo (n := 188 + 10 * a + 4) (e 4 (by omega)) (by show 188 + 10 * (a : Int) + ((4 : Nat) : Int) = _; omega) (mc_eo (n := 188 + 10 * a + 5) (e 5 (by omega)) (by show 188 + 10 * (a : Int) + ((5 : Nat) : Int) = _; omega) (mc_eo (n := 188 + 10 * a + 6) (e 6 (by omega)) (by show 188 + 10 * (a : Int) + ((6 : Nat) : Int) = _; omega) (mc_eo (n := 188 + 10 * a + 7) (e 7 (by omega)) (by show 188 + 10 * (a : Int) + ((7 : Nat) : Int) = _; omega) trivial)))))))
/-- who has ended, behind end -/
noncomputable def en_Z (x : Int) (w w1 : pq_W) : Prop := ∀ b : Nat, b < 8 → sy_r w1 95 (187 + 10 * b) = if (b : Int) = x ∧ x < sy_r w 95 2 then 1 else sy_r w 95 (187 + 10 * b)
noncomputable def kz_PE (x : Int) (w : pq_W) (res : pq_R) : Prop := kz_PGe w res ∧ en_Z x w res.2
theorem en_er {w w1 : pq_W} {x : Int} {ans : Option Value} (hJ : JJ w) (ht : sx_Ty sx_T0 w1) (f : sx_Fr [(97, 0, 5)] w w1) (hx : ∃ y : Int32, ans = some (.int y)) (h : x < 0 ∨ sy_r w 95 2 ≤ x ∨ ∃ a : Nat, (a : Int) = x ∧ sy_r w 95 (187 + 10 * a) = 1) : kz_PE x w (ans, w1) := by
  refine ⟨kz_erGe hJ ht f hx, fun b hb => ?_⟩
  have e : sy_r w1 95 (187 + 10 * b) = sy_r w 95 (187 + 10 * b) := fr_no f ⟨Or.inl (by decide), trivial⟩
  by_cases c : (b : Int) = x ∧ x < sy_r w 95 2
  · rw [if_pos c]
    rcases h with h | h | ⟨a, ha, h⟩
    · omega
    · omega
    · have ab : a = b := by omega
      subst ab
      exact e.trans h
  · rw [if_neg c]
    exact e
theorem kz_end {xa : Int32} {w : pq_W} (ht : sx_Ty sx_T0 w) (hJ : JJ w) : ∃ res, pq_Ru 300 194 [.ref 94, .int xa] w res ∧ kz_PE xa.toInt w res := by
  have hy := mo_yT ht (Or.inl rfl)
  have hy2 : 0 ≤ sy_r w 95 2 ∧ sy_r w 95 2 ≤ 8 := hy.1
  have main : ∃ res, pq_Go 299 pm_194 0 (lv_args 0 [.ref 94, .int xa]) [] w 0 0 res ∧ kz_PE xa.toInt w res := by
    refine ng_go (J := sx_tt) (Post := kz_PE xa.toInt w) (fx_p [xa.toInt, sy_r w 95 2]) mc_n1 rfl ⟨xa.minValue_le_toInt, xa.toInt_le, hy2.1, hy2.2, trivial⟩ trivial ⟨rfl, ng_iy ⟨xa, rfl, rfl⟩ rfl, trivial⟩ trivial (mc_eo (n := 2) (by rw [sx_y_ev]; rfl) rfl trivial) ht sx_ctn (fun _ _ _ => trivial) ⟨fun x w2 t2 f2 a => en_er hJ t2 f2 (mc_ans a.1) (Or.inl (by have d : 1 + (1 * xa.toInt + 0) ≤ 0 := a.2.2.1.1; omega)), fun x w2 t2 f2 a => en_er hJ t2 f2 (mc_ans a.1) (Or.inr (Or.inl (by have d : 0 + (-1 * xa.toInt + (1 * sy_r w 95 2 + 0)) ≤ 0 := a.2.2.1.1; omega))), trivial⟩ ⟨fun ls2 st2 w2 t2 f2 q => ?_, trivial⟩
    obtain ⟨a1, a2, _, a4, _⟩ := q
    cases ng_st0 a2
    obtain ⟨c0, c1, _⟩ := a1
    obtain ⟨d1, d2, _⟩ := a4
    have d1 : 0 + (-1 * xa.toInt + 0) ≤ 0 := d1
    have d2 : 1 + (1 * xa.toInt + (-1 * sy_r w 95 2 + 0)) ≤ 0 := d2
    obtain ⟨a, ea⟩ : ∃ a : Nat, (a : Int) = xa.toInt := ⟨xa.toInt.toNat, by omega⟩
    have ha8 : a < 8 := by omega
    have f2 : sx_Fr [(97, 0, 5)] w w2 := f2
    have hM := hJ.2.1
    have k := hM.2.2.2 a ha8
    have hc : 0 ≤ sy_r w 95 (186 + 10 * a) ∧ sy_r w 95 (186 + 10 * a) ≤ 264925599 := ⟨k.2.1, k.2.2.1⟩
    have hd := fun l hl => mo_air_bd (l := l) hM ha8 hl
    have c0 : pq_lk ls2 0 = some (.ref 94) := c0
    have g1 : ng_i ls2 1 (a : Int) := ng_yi c1 (show xa.toInt = (a : Int) by omega)
    have he : 0 ≤ sy_r w 95 (187 + 10 * a) ∧ sy_r w 95 (187 + 10 * a) ≤ 1 := by
      have h := sy_rg (r := 95) ht rfl (g := (186, 10, 8, 1, 1, 0, 1)) (by decide) (k := a) (j := 1) ha8 (Nat.le_refl _) (Nat.le_refl _) (by show 186 + 10 * a + 1 < 2858; omega)
      rw [show 187 + 10 * a = 186 + 10 * a + 1 by omega]
      exact h
    have ck := List.all_eq_true.mp mc_n2 a (List.mem_range.mpr ha8)
    have hd0 := hd 0 (by omega)
    have hd1 := hd 1 (by omega)
    have hd2 := hd 2 (by omega)
    have hd3 := hd 3 (by omega)
    have hd4 := hd 4 (by omega)
    have hd5 := hd 5 (by omega)
    have hd6 := hd 6 (by omega)
    have hd7 := hd 7 (by omega)
    refine ng_go (J := sx_tt) (Post := kz_PE xa.toInt w) (fx_p [sy_r w 95 (188 + 10 * a + 0), sy_r w 95 (188 + 10 * a + 1), sy_r w 95 (188 + 10 * a + 2), sy_r w 95 (188 + 10 * a + 3), sy_r w 95 (188 + 10 * a + 4), sy_r w 95 (188 + 10 * a + 5), sy_r w 95 (188 + 10 * a + 6), sy_r w 95 (188 + 10 * a + 7), sy_r w 95 (187 + 10 * a)]) ck rfl ⟨hd0.1, hd0.2, hd1.1, hd1.2, hd2.1, hd2.2, hd3.1, hd3.2, hd4.1, hd4.2, hd5.1, hd5.2, hd6.1, hd6.2, hd7.1, hd7.2, he.1, he.2, trivial⟩ trivial ⟨c0, ng_ik g1 rfl, trivial⟩ trivial (mc_eo (n := 187 + 10 * a) (by rw [sx_y_ev, fr_no f2 ⟨Or.inl (by decide), trivial⟩]; rfl) (by omega) (mc_dy_to (fun l hl => by
      rw [fr_no f2 ⟨Or.inl (by decide), trivial⟩]
      match l, hl with
      | 0, _ => rfl
      | 1, _ => rfl
      | 2, _ => rfl
      | 3, _ => rfl
      | 4, _ => rfl
      | 5, _ => rfl
      | 6, _ => rfl
      | 7, _ => rfl))) t2 sx_ctn (fun _ _ _ => trivial) ⟨fun x w3 t3 f3 q => en_er hJ t3 (sx_Fr_trans f2 f3) (mc_ans q.1) (Or.inr (Or.inr ⟨a, ea, by have d : 1 + (-1 * sy_r w 95 (187 + 10 * a) + 0) ≤ 0 := q.2.2.1.1; omega⟩)), trivial⟩ ⟨fun ls3 st3 w3 t3 f3 q => ?_, trivial⟩
    obtain ⟨a1, a2, _⟩ := q
    cases ng_st0 a2
    obtain ⟨c0, c1, c2, _⟩ := a1
    have f3 : sx_Fr [(97, 0, 5)] w w3 := sx_Fr_trans f2 f3
    have c0 : pq_lk ls3 0 = some (.ref 94) := c0
    have g1 : ng_i ls3 1 (a : Int) := ng_ki c1 rfl
    obtain ⟨x2, x21, x22⟩ := c2
    have x22 : x2.toInt = 0 + (1 * sy_r w 95 (188 + 10 * a + 0) + (1 * sy_r w 95 (188 + 10 * a + 1) + (1 * sy_r w 95 (188 + 10 * a + 2) + (1 * sy_r w 95 (188 + 10 * a + 3) + (1 * sy_r w 95 (188 + 10 * a + 4) + (1 * sy_r w 95 (188 + 10 * a + 5) + (1 * sy_r w 95 (188 + 10 * a + 6) + (1 * sy_r w 95 (188 + 10 * a + 7) + 0)))))))) := x22
    have hal : 0 ≤ x2.toInt ∧ x2.toInt ≤ 1143925600 := by omega
    have g2 : ng_l ls3 2 x2.toInt := ⟨x2, x21, rfl⟩
    have hav : (0 : Int) ≤ a ∧ (a : Int) ≤ 7 := by omega
    refine nl_go (J := sx_tt) (Post := kz_PE xa.toInt w) (fx_p [a, x2.toInt, sy_r w 95 (186 + 10 * a)]) mc_n3 rfl ⟨hav.1, hav.2, hal.1, hal.2, hc.1, hc.2, trivial⟩ trivial ⟨c0, ng_iy g1 rfl, ng_ly g2 rfl, trivial⟩ trivial ⟨?_, trivial⟩ t3 sx_ctn (fun _ _ _ => trivial) trivial ⟨fun ls4 st4 w4 t4 f4 q q6 => ?_, trivial⟩
    · show sy_r w3 95 (186 + (10 * (a : Int) + 0)).toNat = sx_ev _ (sx_y 2)
      rw [sx_y_ev, show (186 + (10 * (a : Int) + 0)).toNat = 186 + 10 * a by omega, fr_no f3 ⟨Or.inl (by decide), trivial⟩]
      rfl
    · obtain ⟨a1, a2, _⟩ := q
      cases ng_st0 a2
      obtain ⟨c0, c1, c2, c4, _⟩ := a1
      obtain ⟨x6, x61⟩ := q6 6 List.mem_cons_self
      have bB : enB ls4 a x2.toInt (sy_r w 95 (186 + 10 * a)) := ⟨c0, ng_yi c1 rfl, ng_yl c2 rfl, ng_yl c4 rfl⟩
      have f4 : sx_Fr enA w3 w4 := f4
      refine en_loop (w0 := w4) (Post := kz_PE xa.toInt w) hav hal hc ?_ x6.toInt.toNat x6.toInt (Nat.le_refl _) ls4 w4 bB ⟨x6, x61, rfl⟩ t4 (sx_Fr_refl _ _)
      intro ls5 w5 b5 t5 f5
      have ck := List.all_eq_true.mp mc_n4 a (List.mem_range.mpr ha8)
      refine ng_go (J := sx_tt) (Post := kz_PE xa.toInt w) (fx_p [x2.toInt, sy_r w 95 (186 + 10 * a)]) ck rfl ⟨hal.1, hal.2, hc.1, hc.2, trivial⟩ trivial ⟨b5.1, ng_ik b5.2.1 rfl, ng_ly b5.2.2.1 rfl, ng_ly b5.2.2.2 rfl, trivial⟩ trivial trivial t5 sx_ctn (fun _ _ _ => trivial) trivial ⟨fun ls6 st6 w6 t6 f6 q => ?_, trivial⟩
      obtain ⟨a1, a2, a3, _⟩ := q
      cases ng_st0 a2
      obtain ⟨c0, c1, c2, c4, ⟨x9, x91, x92, x93⟩, _⟩ := a1
      have hz := mc_ds_of a3
      have f6s : sx_Fr [(95, 143, 143), (95, 149, 149), (95, 155, 155), (95, 161, 161), (95, 167, 167), (95, 173, 173), (95, 179, 179), (95, 185, 185), (95, 188 + 10 * (a : Int), 195 + 10 * (a : Int))] w5 w6 := f6
      have f6 : sx_Fr [(95, 138, 185), (95, 188 + 10 * (a : Int), 195 + 10 * (a : Int))] w5 w6 := fr_wk (A := [(95, 143, 143), (95, 149, 149), (95, 155, 155), (95, 161, 161), (95, 167, 167), (95, 173, 173), (95, 179, 179), (95, 185, 185), (95, 188 + 10 * (a : Int), 195 + 10 * (a : Int))]) ⟨⟨138, 185, List.mem_cons_self, by decide, by decide⟩, ⟨138, 185, List.mem_cons_self, by decide, by decide⟩, ⟨138, 185, List.mem_cons_self, by decide, by decide⟩, ⟨138, 185, List.mem_cons_self, by decide, by decide⟩, ⟨138, 185, List.mem_cons_self, by decide, by decide⟩, ⟨138, 185, List.mem_cons_self, by decide, by decide⟩, ⟨138, 185, List.mem_cons_self, by decide, by decide⟩, ⟨138, 185, List.mem_cons_self, by decide, by decide⟩, ⟨188 + 10 * (a : Int), 195 + 10 * (a : Int), List.mem_cons_of_mem _ List.mem_cons_self, Int.le_refl _, Int.le_refl _⟩, trivial⟩ f6s
      have c0 : pq_lk ls6 0 = some (.ref 94) := c0
      have g1 : ng_i ls6 1 (a : Int) := ng_ki c1 rfl
      have g2 : ng_l ls6 2 x2.toInt := ng_yl c2 rfl
      have g4 : ng_l ls6 4 (sy_r w 95 (186 + 10 * a)) := ng_yl c4 rfl
      have g9 : ng_i ls6 9 x9.toInt := ⟨x9, x91, rfl⟩
      have ck5 := List.all_eq_true.mp mc_n5 a (List.mem_range.mpr ha8)
      -- the last stretch, whichever is more
      have last : ∀ C : sx_F, C ∈ [((0 : Int), [((0 : Nat), (1 : Int)), (1, -1)]), (1, [(0, -1), (1, 1)])] → sx_ev (fx_p [x2.toInt, sy_r w 95 (186 + 10 * a), x9.toInt]) C ≤ 0 → ∃ res, pq_Go 299 pm_194 334 ls6 [] w6 0 0 res ∧ kz_PE xa.toInt w res := by
        intro C hC hCv
        have ck := List.all_eq_true.mp ck5 C hC
        refine ng_go (J := sx_tt) (Post := kz_PE xa.toInt w) (fx_p [x2.toInt, sy_r w 95 (186 + 10 * a), x9.toInt]) ck rfl ⟨hal.1, hal.2, hc.1, hc.2, x92, x93, trivial⟩ ⟨hCv, trivial⟩ ⟨c0, ng_ik g1 rfl, ng_ly g2 rfl, ng_ly g4 rfl, ng_iy g9 rfl, trivial⟩ trivial trivial t6 sx_ctn (fun _ _ _ => trivial) ⟨fun x w7 t7 f7 q => ?_, trivial⟩ trivial
        obtain ⟨q1, q2, _, q4⟩ := q
        have f7 : sx_Fr [(95, 186 + 10 * (a : Int), 187 + 10 * (a : Int))] w6 w7 := f7
        obtain ⟨q2, _⟩ := mc_oe (n := 187 + 10 * a) q2 (by omega)
        rw [ng_ek] at q2
        have q4 := ng_g1 (r := 95) (e := (186 + 10 * (a : Int), [])) (lo := 0) (hi := 264925599) (rest := []) q4
        rw [ng_ek, show (186 + 10 * (a : Int)).toNat = 186 + 10 * a by omega] at q4
        have hz7 : ∀ l : Nat, l < 8 → sy_r w7 95 (188 + 10 * a + l) = 0 := fun l hl => by
          rw [fr_no f7 ⟨Or.inr (by omega), trivial⟩]
          exact hz l hl
        have fa : sx_Fr ([(97, 0, 5)] ++ enA ++ enA ++ [(95, 138, 185), (95, 188 + 10 * (a : Int), 195 + 10 * (a : Int))] ++ [(95, 186 + 10 * (a : Int), 187 + 10 * (a : Int))]) w w7 := fr_cat (fr_cat (fr_cat (fr_cat f3 f4) f5) f6) f7
        have fa : sx_Fr [(97, 0, 5), (102, 0, 7), (103, 0, 7), (102, 0, 7), (103, 0, 7), (95, 138, 185), (95, 188 + 10 * (a : Int), 195 + 10 * (a : Int)), (95, 186 + 10 * (a : Int), 187 + 10 * (a : Int))] w w7 := fa
        have so : ∀ i : Nat, ¬ (138 ≤ i ∧ i ≤ 185) → ¬ (186 + 10 * a ≤ i ∧ i ≤ 195 + 10 * a) → sy_r w7 95 i = sy_r w 95 i := fun i hi hi2 => fr_no fa ⟨Or.inl (by decide), Or.inl (by decide), Or.inl (by decide), Or.inl (by decide), Or.inl (by decide), Or.inr (by omega), Or.inr (by omega), Or.inr (by omega), trivial⟩
        have hm0 : mo_N (sy_r w7 95) (fun _ _ => mo_B (sy_r w 95 0 / 100).toNat) := mo_end (a0 := a) hM.2 (fun _ _ => mo_B_nn _) (mo_yT t7 (Or.inl rfl)).1 (so 3 (by omega) (by omega)) (so 5 (by omega) (by omega)) (so 6 (by omega) (by omega)) (fun i h1 h2 => so i (by omega) (by omega)) (fun b hb hne j hj => so _ (by omega) (by omega)) (by unfold mo_C; exact q4) q2 hz7
        have hMo : Mo (sy_r w7 95) := by
          refine ⟨by rw [so 0 (by omega) (by omega)]; exact hM.1, ?_⟩
          rw [so 0 (by omega) (by omega)]
          exact hm0
        have fs : sx_Fr ([(97, 0, 5)] ++ enA ++ enA ++ [(95, 143, 143), (95, 149, 149), (95, 155, 155), (95, 161, 161), (95, 167, 167), (95, 173, 173), (95, 179, 179), (95, 185, 185), (95, 188 + 10 * (a : Int), 195 + 10 * (a : Int))] ++ [(95, 186 + 10 * (a : Int), 187 + 10 * (a : Int))]) w w7 := fr_cat (fr_cat (fr_cat (fr_cat f3 f4) f5) f6s) f7
        have fs : sx_Fr [(97, 0, 5), (102, 0, 7), (103, 0, 7), (102, 0, 7), (103, 0, 7), (95, 143, 143), (95, 149, 149), (95, 155, 155), (95, 161, 161), (95, 167, 167), (95, 173, 173), (95, 179, 179), (95, 185, 185), (95, 188 + 10 * (a : Int), 195 + 10 * (a : Int)), (95, 186 + 10 * (a : Int), 187 + 10 * (a : Int))] w w7 := fs
        refine ⟨kz_mkGe hJ t7 fs ⟨⟨0, 100000, by decide, by decide, by decide⟩, ⟨0, 100000, by decide, by decide, by decide⟩, ⟨0, 100000, by decide, by decide, by decide⟩, ⟨0, 100000, by decide, by decide, by decide⟩, ⟨0, 100000, by decide, by decide, by decide⟩, ⟨143, 143, by decide, by decide, by decide⟩, ⟨149, 149, by decide, by decide, by decide⟩, ⟨155, 155, by decide, by decide, by decide⟩, ⟨161, 161, by decide, by decide, by decide⟩, ⟨167, 167, by decide, by decide, by decide⟩, ⟨173, 173, by decide, by decide, by decide⟩, ⟨179, 179, by decide, by decide, by decide⟩, ⟨185, 185, by decide, by decide, by decide⟩, ⟨186, 265, by decide, by omega, by omega⟩, ⟨186, 265, by decide, by omega, by omega⟩, trivial⟩ hMo (mc_ans q1), fun b hb => ?_⟩
        show sy_r w7 95 (187 + 10 * b) = _
        by_cases c : (b : Int) = xa.toInt ∧ xa.toInt < sy_r w 95 2
        · rw [if_pos c]
          have ab : b = a := by omega
          rw [ab]
          exact q2
        · rw [if_neg c]
          have ab : b ≠ a := fun h => c ⟨by omega, by omega⟩
          exact so _ (by omega) (by omega)
      by_cases e : x2.toInt ≤ sy_r w 95 (186 + 10 * a)
      · exact last _ List.mem_cons_self (by show 0 + (1 * x2.toInt + (-1 * sy_r w 95 (186 + 10 * a) + 0)) ≤ 0; omega)
      · exact last _ (List.mem_cons_of_mem _ List.mem_cons_self) (by show 1 + (-1 * x2.toInt + (1 * sy_r w 95 (186 + 10 * a) + 0)) ≤ 0; omega)
  obtain ⟨res, g1, g2⟩ := main
  refine ⟨res, ru_of (k := 299) (M := pm_194) rfl ?_ g1, g2⟩
  rw [Bool.and_eq_true]
  exact ⟨rfl, sq_rcv ht rfl rfl rfl⟩
