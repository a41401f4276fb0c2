/-! which told row is known, of both sides; row -/
noncomputable def tk_v (g d : Nat → Int) (f k : Int) : Nat → Int
  | 0 => -1
  | t + 1 => if g t = f ∧ d t ≤ k then (t : Int) else tk_v g d f k t
theorem tk_b {g d : Nat → Int} {f k : Int} : ∀ n, -1 ≤ tk_v g d f k n ∧ tk_v g d f k n < n
  | 0 => ⟨by show (-1 : Int) ≤ -1; decide, by show (-1 : Int) < 0; decide⟩
  | n + 1 => by
    have h := tk_b (g := g) (d := d) (f := f) (k := k) n
    show -1 ≤ (if g n = f ∧ d n ≤ k then (n : Int) else tk_v g d f k n) ∧ (if g n = f ∧ d n ≤ k then (n : Int) else tk_v g d f k n) < ((n + 1 : Nat) : Int)
    split <;> omega
theorem tk_congr {g d g2 d2 : Nat → Int} {f k : Int} : ∀ {n : Nat}, (∀ t, t < n → g t = g2 t ∧ d t = d2 t) → tk_v g d f k n = tk_v g2 d2 f k n
  | 0, _ => rfl
  | n + 1, e => by
    have ih := tk_congr (g := g) (d := d) (g2 := g2) (d2 := d2) (f := f) (k := k) (n := n) (fun t ht => e t (by omega))
    show (if g n = f ∧ d n ≤ k then (n : Int) else tk_v g d f k n) = (if g2 n = f ∧ d2 n ≤ k then (n : Int) else tk_v g2 d2 f k n)
    rw [(e n (by omega)).1, (e n (by omega)).2, ih]
-- the reference: symbols 0 flight, 1 day, 2 found, 3 told, 4 that one's flight, 5 that one's day
noncomputable def kn_sl (a b : sx_V) : List (Nat × sx_V) := [(0, .inr (.inr 94)), (1, fx_i 0), (2, fx_i 1), (3, a), (4, b)]
noncomputable def kn_iv (lo : Int) (g : Int × Int) : List (Int × Int) := [(0, 29), sy_full, (-1, 1909), (lo, 40), g, sy_full]
noncomputable def kn_n (C : List sx_F) : Bool := (List.range 40).all fun t => ng_chk [] [] [] 5 218 pm_218 5 (kn_iv 1 (0, 29)) (((t : Int) + 1, [(3, -1)]) :: C) (kn_sl (fx_i 2) (fx_k t)) [] [mc_o 6 (fx_i 3), mc_o (1322 + 15 * (t : Int)) (fx_i 4), mc_o (1323 + 15 * (t : Int)) (fx_i 5)] [] [(5, (ng_L (kn_sl (fx_i 2) (fx_k (t + 1))), [], [], [], []))] 6000
noncomputable def kn_d (C : sx_F) (y : Bool) : Bool := (List.range 40).all fun t => ng_chk [] [] [] 5 218 pm_218 5 (kn_iv 1 (0, 29)) [((t : Int) + 1, [(3, -1)]), C] (kn_sl (fx_i 2) (fx_k t)) [] [mc_o 6 (fx_i 3), mc_o (1322 + 15 * (t : Int)) (fx_i 0), mc_o (1323 + 15 * (t : Int)) (fx_i 5)] [] [(5, (ng_L (kn_sl (bif y then fx_k (1324 + 15 * (t : Int)) else fx_i 2) (fx_k (t + 1))), [], [], [], []))] 6000
noncomputable def kn_e : Bool := ng_chk [] [] [] 5 218 pm_218 5 (kn_iv 0 (0, 29)) [] (kn_sl (fx_i 2) (fx_i 3)) [] [mc_o 6 (fx_i 3)] [(.inl (.inl (fx_i 2)), [], [], [])] [] 6000
noncomputable def kn_s : Bool := ng_chk [] [] [] 5 218 pm_218 0 [(0, 29), sy_full] [] [(0, .inr (.inr 94)), (1, fx_i 0), (2, fx_i 1)] [] [] [] [(5, (ng_L (kn_sl (fx_k (-1)) (fx_k 0)), [], [], [], []))] 6000
theorem kn_nl : kn_n [(1, [(0, -1), (4, 1)])] = true := by decide +kernel
theorem kn_ng : kn_n [(1, [(0, 1), (4, -1)])] = true := by decide +kernel
theorem kn_dn : kn_d (1, [(1, 1), (5, -1)]) false = true := by decide +kernel
theorem kn_dy : kn_d (0, [(1, -1), (5, 1)]) true = true := by decide +kernel
theorem kn_e_ok : kn_e = true := by decide +kernel
theorem kn_s_ok : kn_s = true := by decide +kernel
noncomputable def kn_P (x : Int) : Int := if x < 0 then -1 else 1324 + 15 * x
noncomputable def kn_B (ls : pq_L) (f k a b : Int) : Prop := pq_lk ls 0 = some (.ref 94) ∧ ng_i ls 1 f ∧ ng_i ls 2 k ∧ ng_i ls 3 a ∧ ng_i ls 4 b
noncomputable def kn_T (w : pq_W) (f k : Int) (n : Nat) : Int := kn_P (tk_v (fun t => sy_r w 95 (1322 + 15 * t)) (fun t => sy_r w 95 (1323 + 15 * t)) f k n)
noncomputable def kn_Q (w : pq_W) (v : Int) (res : pq_R) : Prop := (∃ y : Int32, res.1 = some (.int y) ∧ y.toInt = v) ∧ sx_Ty sx_T0 res.2 ∧ sx_Fr [] w res.2
theorem kn_lp {w0 : pq_W} {f k : Int} {n : Nat} (hf : 0 ≤ f ∧ f ≤ 29) (hk : -2147483648 ≤ k ∧ k ≤ 2147483647) (hn : n ≤ 40) (en : sy_r w0 95 6 = (n : Int)) : ∀ (m t : Nat), t + m = n → ∀ ls w, kn_B ls f k (kn_T w0 f k t) t → sx_Ty sx_T0 w → sx_Fr [] w0 w → ∃ res, pq_Go 5 pm_218 5 ls [] w 0 0 res ∧ kn_Q w0 (kn_T w0 f k n) res := by
  have hT : ∀ t : Nat, t ≤ 40 → -1 ≤ kn_T w0 f k t ∧ kn_T w0 f k t ≤ 1909 := fun t ht => by
    have h := tk_b (g := fun t => sy_r w0 95 (1322 + 15 * t)) (d := fun t => sy_r w0 95 (1323 + 15 * t)) (f := f) (k := k) t
    unfold kn_T kn_P
    split <;> omega
  intro m
  induction m with
  | zero =>
    intro t ht ls w hb hw hfr
    have ht : t = n := by omega
    subst ht
    have hc := hT t (by omega)
    refine ng_go (J := sx_tt) (Post := kn_Q w0 (kn_T w0 f k t)) (fx_p [f, k, kn_T w0 f k t, t, 0, 0]) kn_e_ok rfl ⟨hf.1, hf.2, hk.1, hk.2, hc.1, hc.2, (show (0 : Int) ≤ t by omega), (show (t : Int) ≤ 40 by omega), (show (0 : Int) ≤ 0 by decide), (show (0 : Int) ≤ 29 by decide), (show (-2147483648 : Int) ≤ 0 by decide), (show (0 : Int) ≤ 2147483647 by decide), trivial⟩ trivial ⟨hb.1, ng_iy hb.2.1 rfl, ng_iy hb.2.2.1 rfl, ng_iy hb.2.2.2.1 rfl, ng_iy hb.2.2.2.2 rfl, trivial⟩ trivial (mc_eo (n := 6) (by rw [sx_y_ev, ng_nil hfr, en]; rfl) rfl trivial) hw sx_ctn (fun _ _ _ => trivial) ⟨fun y w1 t1 f1 a => ?_, trivial⟩ trivial
    obtain ⟨⟨z, y1, y2⟩, _⟩ := a
    exact ⟨⟨z, y1, y2.trans (sx_y_ev _ _)⟩, t1, sx_Fr_trans hfr f1⟩
  | succ m ih =>
    intro t ht ls w hb hw hfr
    have hc := hT t (by omega)
    have e6 : sy_r w 95 6 = (n : Int) := by rw [ng_nil hfr, en]
    have eg : sy_r w 95 (1322 + 15 * t) = sy_r w0 95 (1322 + 15 * t) := ng_nil hfr 95 _
    have ed : sy_r w 95 (1323 + 15 * t) = sy_r w0 95 (1323 + 15 * t) := ng_nil hfr 95 _
    have bg := sy_rg (r := 95) hw rfl (g := (1322, 15, 40, 0, 0, 0, 29)) (by decide) (k := t) (j := 0) (by show t < 40; omega) (Nat.le_refl _) (Nat.le_refl _) (by show 1322 + 15 * t + 0 < 2858; omega)
    have bg : 0 ≤ sy_r w 95 (1322 + 15 * t) ∧ sy_r w 95 (1322 + 15 * t) ≤ 29 := bg
    have bd := sy_rb w 95 (1323 + 15 * t)
    have c1 : (t : Int) + 1 + (-1 * (n : Int) + 0) ≤ 0 := by omega
    have mk : t ∈ List.range 40 := List.mem_range.mpr (by omega)
    have iv : sx_ivs (fx_p [f, k, kn_T w0 f k t, n, sy_r w 95 (1322 + 15 * t), sy_r w 95 (1323 + 15 * t)]) 0 (kn_iv 1 (0, 29)) := ⟨hf.1, hf.2, hk.1, hk.2, hc.1, hc.2, (show (1 : Int) ≤ n by omega), (show (n : Int) ≤ 40 by omega), bg.1, bg.2, bd.1, bd.2, trivial⟩
    have sl : ng_sl0 (fx_p [f, k, kn_T w0 f k t, n, sy_r w 95 (1322 + 15 * t), sy_r w 95 (1323 + 15 * t)]) ls (kn_sl (fx_i 2) (fx_k t)) := ⟨hb.1, ng_iy hb.2.1 rfl, ng_iy hb.2.2.1 rfl, ng_iy hb.2.2.2.1 rfl, ng_ik hb.2.2.2.2 rfl, trivial⟩
    have same : ∀ ls2 w2, sx_Ty sx_T0 w2 → sx_Fr [] w w2 → ng_sl (fx_p [f, k, kn_T w0 f k t, n, sy_r w 95 (1322 + 15 * t), sy_r w 95 (1323 + 15 * t)]) ls2 (ng_L (kn_sl (fx_i 2) (fx_k (t + 1)))) → ¬ (sy_r w0 95 (1322 + 15 * t) = f ∧ sy_r w0 95 (1323 + 15 * t) ≤ k) → ∃ res, pq_Go 5 pm_218 5 ls2 [] w2 0 0 res ∧ kn_Q w0 (kn_T w0 f k n) res := fun ls2 w2 t2 f2 a1 hne => by
      obtain ⟨d0, d1, d2, d3, d4, _⟩ := a1
      have e : kn_T w0 f k (t + 1) = kn_T w0 f k t := by
        unfold kn_T
        exact congrArg kn_P (if_neg hne)
      exact ih (t + 1) (by omega) ls2 w2 ⟨d0, ng_yi d1 rfl, ng_yi d2 rfl, ng_yi d3 (by rw [e]; rfl), ng_ki d4 (by omega)⟩ t2 (sx_Fr_trans hfr f2)
    by_cases e : sy_r w0 95 (1322 + 15 * t) = f
    · have go2 : ∀ (C : sx_F) (y : Bool), kn_d C y = true → sx_ev (fx_p [f, k, kn_T w0 f k t, n, sy_r w 95 (1322 + 15 * t), sy_r w 95 (1323 + 15 * t)]) C ≤ 0 → (∀ ls2 w2, sx_Ty sx_T0 w2 → sx_Fr [] w w2 → ng_sl (fx_p [f, k, kn_T w0 f k t, n, sy_r w 95 (1322 + 15 * t), sy_r w 95 (1323 + 15 * t)]) ls2 (ng_L (kn_sl (bif y then fx_k (1324 + 15 * (t : Int)) else fx_i 2) (fx_k (t + 1)))) → ∃ res, pq_Go 5 pm_218 5 ls2 [] w2 0 0 res ∧ kn_Q w0 (kn_T w0 f k n) res) → ∃ res, pq_Go 5 pm_218 5 ls [] w 0 0 res ∧ kn_Q w0 (kn_T w0 f k n) res := fun C y ck hC cont => by
        refine ng_go (J := sx_tt) (Post := kn_Q w0 (kn_T w0 f k n)) (fx_p [f, k, kn_T w0 f k t, n, sy_r w 95 (1322 + 15 * t), sy_r w 95 (1323 + 15 * t)]) (List.all_eq_true.mp ck t mk) rfl iv ⟨c1, hC, trivial⟩ sl trivial (mc_eo (n := 6) (by rw [sx_y_ev, e6]; rfl) rfl (mc_eo (n := 1322 + 15 * t) (by rw [sx_y_ev, eg, e]; rfl) (by omega) (mc_eo (n := 1323 + 15 * t) (by rw [sx_y_ev]; rfl) (by omega) trivial))) hw sx_ctn (fun _ _ _ => trivial) trivial ⟨fun ls2 st2 w2 t2 f2 a => ?_, trivial⟩
        obtain ⟨a1, a2, _⟩ := a
        cases ng_st0 a2
        exact cont ls2 w2 t2 f2 a1
      by_cases l : sy_r w0 95 (1323 + 15 * t) ≤ k
      · refine go2 _ true kn_dy (by show 0 + (-1 * k + (1 * sy_r w 95 (1323 + 15 * t) + 0)) ≤ 0; rw [ed]; omega) (fun ls2 w2 t2 f2 a1 => ?_)
        obtain ⟨d0, d1, d2, d3, d4, _⟩ := a1
        have e : kn_T w0 f k (t + 1) = 1324 + 15 * (t : Int) := by
          have h : tk_v (fun t => sy_r w0 95 (1322 + 15 * t)) (fun t => sy_r w0 95 (1323 + 15 * t)) f k (t + 1) = (t : Int) := if_pos ⟨e, l⟩
          unfold kn_T
          rw [h]
          exact if_neg (by omega)
        exact ih (t + 1) (by omega) ls2 w2 ⟨d0, ng_yi d1 rfl, ng_yi d2 rfl, ng_ki d3 (by rw [e]), ng_ki d4 (by omega)⟩ t2 (sx_Fr_trans hfr f2)
      · exact go2 _ false kn_dn (by show 1 + (1 * k + (-1 * sy_r w 95 (1323 + 15 * t) + 0)) ≤ 0; rw [ed]; omega) (fun ls2 w2 t2 f2 a1 => same ls2 w2 t2 f2 a1 (fun h => l h.2))
    · have go1 : ∀ C : List sx_F, kn_n C = true → ng_fs (fx_p [f, k, kn_T w0 f k t, n, sy_r w 95 (1322 + 15 * t), sy_r w 95 (1323 + 15 * t)]) C → ∃ res, pq_Go 5 pm_218 5 ls [] w 0 0 res ∧ kn_Q w0 (kn_T w0 f k n) res := fun C ck hC => by
        refine ng_go (J := sx_tt) (Post := kn_Q w0 (kn_T w0 f k n)) (fx_p [f, k, kn_T w0 f k t, n, sy_r w 95 (1322 + 15 * t), sy_r w 95 (1323 + 15 * t)]) (List.all_eq_true.mp ck t mk) rfl iv ⟨c1, hC⟩ sl trivial (mc_eo (n := 6) (by rw [sx_y_ev, e6]; rfl) rfl (mc_eo (n := 1322 + 15 * t) (by rw [sx_y_ev]; rfl) (by omega) (mc_eo (n := 1323 + 15 * t) (by rw [sx_y_ev]; rfl) (by omega) trivial))) hw sx_ctn (fun _ _ _ => trivial) trivial ⟨fun ls2 st2 w2 t2 f2 a => ?_, trivial⟩
        obtain ⟨a1, a2, _⟩ := a
        cases ng_st0 a2
        exact same ls2 w2 t2 f2 a1 (fun h => e h.1)
      by_cases l : sy_r w 95 (1322 + 15 * t) < f
      · exact go1 _ kn_nl ⟨by show 1 + (-1 * f + (1 * sy_r w 95 (1322 + 15 * t) + 0)) ≤ 0; omega, trivial⟩
      · exact go1 _ kn_ng ⟨by show 1 + (1 * f + (-1 * sy_r w 95 (1322 + 15 * t) + 0)) ≤ 0; rw [eg] at l ⊢; omega, trivial⟩
theorem kn_ok {xf xk : Int32} {w : pq_W} {n : Nat} (hf : 0 ≤ xf.toInt ∧ xf.toInt ≤ 29) (hn : n ≤ 40) (en : sy_r w 95 6 = (n : Int)) (ht : sx_Ty sx_T0 w) : ∃ res, pq_Ru 6 218 [.ref 94, .int xf, .int xk] w res ∧ kn_Q w (kn_T w xf.toInt xk.toInt n) res := by
  have rk := sh_i32 xk
  have main : ∃ res, pq_Go 5 pm_218 0 (lv_args 0 [.ref 94, .int xf, .int xk]) [] w 0 0 res ∧ kn_Q w (kn_T w xf.toInt xk.toInt n) res := by
    refine ng_go (J := sx_tt) (Post := kn_Q w (kn_T w xf.toInt xk.toInt n)) (fx_p [xf.toInt, xk.toInt]) kn_s_ok rfl ⟨hf.1, hf.2, rk.1, rk.2, trivial⟩ trivial ⟨rfl, ng_iy ⟨xf, rfl, rfl⟩ rfl, ng_iy ⟨xk, rfl, rfl⟩ rfl, trivial⟩ trivial trivial ht sx_ctn (fun _ _ _ => trivial) trivial ⟨fun ls2 st2 w2 t2 f2 a => ?_, trivial⟩
    obtain ⟨⟨d0, d1, d2, d3, d4, _⟩, a2, _⟩ := a
    cases ng_st0 a2
    exact kn_lp hf rk hn en n 0 (by omega) ls2 w2 ⟨d0, ng_yi d1 rfl, ng_yi d2 rfl, ng_ki d3 rfl, ng_ki d4 rfl⟩ t2 f2
  obtain ⟨res, g, h⟩ := main
  exact ⟨res, ru_of (k := 5) (M := pm_218) rfl (by rw [Bool.and_eq_true]; exact ⟨rfl, sq_rcv ht rfl rfl rfl⟩) g, h⟩
-- the class: symbols 0 flight, 1 day, 2 told, 3 that one's flight, 4 that one's day
noncomputable def kw_sl (b : sx_V) : List (Nat × sx_V) := [(0, .inr (.inr 29)), (1, fx_i 0), (2, fx_i 1), (3, b)]
noncomputable def kw_iv (n : Int × Int) : List (Int × Int) := [(0, 29), sy_full, n, (0, 29), sy_full]
noncomputable def kw_O (t : Nat) (g : sx_V) : sx_O := [sh_o 29 7 (fx_i 2), sh_o 36 t g, sh_o 37 t (fx_i 4)]
noncomputable def kw_h (t : Nat) : List (Nat × ng_Al) := [(10, (ng_L (kw_sl (fx_k ((t : Int) - 1))), [], [], [], []))]
noncomputable def kw_z : Bool := (List.range 40).all fun t => ng_chk [] [] [] 5 95 pm_95 10 (kw_iv (0, 40)) [(-(t : Int), [(2, 1)])] (kw_sl (fx_k t)) [] [sh_o 29 7 (fx_i 2)] [] (kw_h t) 6000
noncomputable def kw_n (C : sx_F) : Bool := (List.range 40).all fun t => ng_chk [] [] [] 5 95 pm_95 10 (kw_iv (1, 40)) [((t : Int) + 1, [(2, -1)]), C] (kw_sl (fx_k t)) [] (kw_O t (fx_i 3)) [] (kw_h t) 6000
noncomputable def kw_d : Bool := (List.range 40).all fun t => ng_chk [] [] [] 5 95 pm_95 10 (kw_iv (1, 40)) [((t : Int) + 1, [(2, -1)]), (1, [(1, 1), (4, -1)])] (kw_sl (fx_k t)) [] (kw_O t (fx_i 0)) [] (kw_h t) 6000
noncomputable def kw_y : Bool := (List.range 40).all fun t => ng_chk [] [] [] 5 95 pm_95 10 (kw_iv (1, 40)) [((t : Int) + 1, [(2, -1)]), (0, [(1, -1), (4, 1)])] (kw_sl (fx_k t)) [] (kw_O t (fx_i 0)) [(sh_x (30 + (t : Int)), [], [], [])] [] 6000
noncomputable def kw_e : Bool := ng_chk [] [] [] 5 95 pm_95 10 [(0, 29), sy_full] [] (kw_sl (fx_k (-1))) [] [] [(sh_x (-1), [], [], [])] [] 6000
noncomputable def kw_s (k : Int × Int) : Bool := ng_chk [] [] [] 5 95 pm_95 0 [(0, 29), k] [] [(0, .inr (.inr 29)), (1, fx_i 0), (2, fx_i 1)] [] [] [] [(10, (ng_L (kw_sl (fx_k 39)), [], [], [], []))] 6000
noncomputable def kw_m : Bool := ng_chk [] [] [] 5 95 pm_95 0 [(0, 29)] [] [(0, .inr (.inr 29)), (1, fx_i 0), (2, fx_k (-1))] [] [] [(.inl (.inl (fx_i 0)), [], [], [])] [] 6000
theorem kw_z_ok : kw_z = true := by decide +kernel
theorem kw_nl : kw_n (1, [(0, -1), (3, 1)]) = true := by decide +kernel
theorem kw_ng : kw_n (1, [(0, 1), (3, -1)]) = true := by decide +kernel
theorem kw_d_ok : kw_d = true := by decide +kernel
theorem kw_y_ok : kw_y = true := by decide +kernel
theorem kw_e_ok : kw_e = true := by decide +kernel
theorem kw_s_ok : kw_s (0, 3000) = true := by decide +kernel
theorem kw_m_ok : kw_m = true := by decide +kernel
noncomputable def kw_B (ls : pq_L) (f k b : Int) : Prop := pq_lk ls 0 = some (.ref 29) ∧ ng_i ls 1 f ∧ ng_i ls 2 k ∧ ng_i ls 3 b
noncomputable def kw_P (x : Int) : Int := if x < 0 then -1 else 30 + x
noncomputable def kw_T (w : pq_W) (f k : Int) (n : Nat) : Int := kw_P (tk_v (sy_r w 36) (sy_r w 37) f k n)
theorem kw_lp {w0 : pq_W} {f k : Int} {n : Nat} (hf : 0 ≤ f ∧ f ≤ 29) (hk : 0 ≤ k ∧ k ≤ 3000) (hn : n ≤ 40) (en : sy_r w0 29 7 = (n : Int)) : ∀ (m : Nat), m ≤ 40 → tk_v (sy_r w0 36) (sy_r w0 37) f k n = tk_v (sy_r w0 36) (sy_r w0 37) f k (if m ≤ n then m else n) → ∀ ls w, kw_B ls f k ((m : Int) - 1) → sx_Ty sx_T0 w → sx_Fr [] w0 w → ∃ res, pq_Go 5 pm_95 10 ls [] w 0 0 res ∧ kn_Q w0 (kw_T w0 f k n) res := by
  intro m
  induction m with
  | zero =>
    intro _ hv ls w hb hw hfr
    rw [if_pos (Nat.zero_le _)] at hv
    have e : kw_T w0 f k n = -1 := by
      unfold kw_T
      rw [hv]
      rfl
    refine ng_go (J := sx_tt) (Post := kn_Q w0 (kw_T w0 f k n)) (fx_p [f, k]) kw_e_ok rfl ⟨hf.1, hf.2, (show -2147483648 ≤ k by omega), (show k ≤ 2147483647 by omega), trivial⟩ trivial ⟨hb.1, ng_iy hb.2.1 rfl, ng_iy hb.2.2.1 rfl, ng_ik hb.2.2.2 rfl, trivial⟩ trivial trivial hw sx_ctn (fun _ _ _ => trivial) ⟨fun y w1 t1 f1 a => ?_, trivial⟩ trivial
    obtain ⟨z, y1, y2⟩ := sh_ans a.1
    exact ⟨⟨z, y1, by rw [y2, e]⟩, t1, sx_Fr_trans hfr f1⟩
  | succ t ih =>
    intro hm hv ls w hb hw hfr
    have e29 : sy_r w 29 7 = (n : Int) := by rw [ng_nil hfr, en]
    have eg : sy_r w 36 t = sy_r w0 36 t := ng_nil hfr 36 t
    have ed : sy_r w 37 t = sy_r w0 37 t := ng_nil hfr 37 t
    have mk : t ∈ List.range 40 := List.mem_range.mpr (by omega)
    have bg := sy_rg (r := 36) hw rfl (g := (0, 1, 40, 0, 0, 0, 29)) (by decide) (k := t) (j := 0) (by show t < 40; omega) (Nat.le_refl _) (Nat.le_refl _) (by show 0 + 1 * t + 0 < 40; omega)
    have bg : 0 ≤ sy_r w 36 (0 + 1 * t + 0) ∧ sy_r w 36 (0 + 1 * t + 0) ≤ 29 := bg
    rw [show 0 + 1 * t + 0 = t by omega] at bg
    have bd := sy_rb w 37 t
    have hb3 : ng_i ls 3 (t : Int) := by
      have := hb.2.2.2
      rw [show ((t + 1 : Nat) : Int) - 1 = (t : Int) by omega] at this
      exact this
    have iv : ∀ lo : Int, lo ≤ n → sx_ivs (fx_p [f, k, n, sy_r w 36 t, sy_r w 37 t]) 0 (kw_iv (lo, 40)) := fun lo hlo => ⟨hf.1, hf.2, (show -2147483648 ≤ k by omega), (show k ≤ 2147483647 by omega), hlo, (show (n : Int) ≤ 40 by omega), bg.1, bg.2, bd.1, bd.2, trivial⟩
    have sl : ng_sl0 (fx_p [f, k, n, sy_r w 36 t, sy_r w 37 t]) ls (kw_sl (fx_k t)) := ⟨hb.1, ng_iy hb.2.1 rfl, ng_iy hb.2.2.1 rfl, ng_ik hb3 rfl, trivial⟩
    have next : ∀ ls2 w2, sx_Ty sx_T0 w2 → sx_Fr [] w w2 → ng_sl (fx_p [f, k, n, sy_r w 36 t, sy_r w 37 t]) ls2 (ng_L (kw_sl (fx_k ((t : Int) - 1)))) → ¬ (t < n ∧ sy_r w0 36 t = f ∧ sy_r w0 37 t ≤ k) → ∃ res, pq_Go 5 pm_95 10 ls2 [] w2 0 0 res ∧ kn_Q w0 (kw_T w0 f k n) res := fun ls2 w2 t2 f2 a1 hne => by
      obtain ⟨d0, d1, d2, d3, _⟩ := a1
      refine ih (by omega) ?_ ls2 w2 ⟨d0, ng_yi d1 rfl, ng_yi d2 rfl, ng_ki d3 rfl⟩ t2 (sx_Fr_trans hfr f2)
      rw [hv]
      by_cases c : t + 1 ≤ n
      · rw [if_pos c, if_pos (by omega)]
        exact if_neg (fun h => hne ⟨by omega, h⟩)
      · by_cases c2 : t ≤ n
        · rw [if_neg c, if_pos c2, show n = t by omega]
        · rw [if_neg c, if_neg c2]
    by_cases c : (n : Int) ≤ t
    · refine ng_go (J := sx_tt) (Post := kn_Q w0 (kw_T w0 f k n)) (fx_p [f, k, n, sy_r w 36 t, sy_r w 37 t]) (List.all_eq_true.mp kw_z_ok t mk) rfl (iv 0 (by omega)) ⟨by show -(t : Int) + (1 * (n : Int) + 0) ≤ 0; omega, trivial⟩ sl trivial (sh_eo (n := 7) (by rw [sx_y_ev, e29]; rfl) rfl trivial) hw sx_ctn (fun _ _ _ => trivial) trivial ⟨fun ls2 st2 w2 t2 f2 a => ?_, trivial⟩
      obtain ⟨a1, a2, _⟩ := a
      cases ng_st0 a2
      exact next ls2 w2 t2 f2 a1 (fun h => by omega)
    have c1 : (t : Int) + 1 + (-1 * (n : Int) + 0) ≤ 0 := by omega
    by_cases e : sy_r w0 36 t = f
    · have oo : ng_eqs (fx_p [f, k, n, sy_r w 36 t, sy_r w 37 t]) w (kw_O t (fx_i 0)) := sh_eo (n := 7) (by rw [sx_y_ev, e29]; rfl) rfl (sh_eo (n := t) (by rw [sx_y_ev, eg, e]; rfl) rfl (sh_eo (n := t) (by rw [sx_y_ev]; rfl) rfl trivial))
      by_cases l : sy_r w0 37 t ≤ k
      · have hT : kw_T w0 f k n = 30 + (t : Int) := by
          rw [if_pos (by omega)] at hv
          have h : tk_v (sy_r w0 36) (sy_r w0 37) f k (t + 1) = (t : Int) := if_pos ⟨e, l⟩
          unfold kw_T
          rw [hv, h]
          exact if_neg (by omega)
        refine ng_go (J := sx_tt) (Post := kn_Q w0 (kw_T w0 f k n)) (fx_p [f, k, n, sy_r w 36 t, sy_r w 37 t]) (List.all_eq_true.mp kw_y_ok t mk) rfl (iv 1 (by omega)) ⟨c1, by show 0 + (-1 * k + (1 * sy_r w 37 t + 0)) ≤ 0; rw [ed]; omega, trivial⟩ sl trivial oo hw sx_ctn (fun _ _ _ => trivial) ⟨fun y w1 t1 f1 a => ?_, trivial⟩ trivial
        obtain ⟨z, y1, y2⟩ := sh_ans a.1
        exact ⟨⟨z, y1, by rw [y2, hT]⟩, t1, sx_Fr_trans hfr f1⟩
      · refine ng_go (J := sx_tt) (Post := kn_Q w0 (kw_T w0 f k n)) (fx_p [f, k, n, sy_r w 36 t, sy_r w 37 t]) (List.all_eq_true.mp kw_d_ok t mk) rfl (iv 1 (by omega)) ⟨c1, by show 1 + (1 * k + (-1 * sy_r w 37 t + 0)) ≤ 0; rw [ed]; omega, trivial⟩ sl trivial oo hw sx_ctn (fun _ _ _ => trivial) trivial ⟨fun ls2 st2 w2 t2 f2 a => ?_, trivial⟩
        obtain ⟨a1, a2, _⟩ := a
        cases ng_st0 a2
        exact next ls2 w2 t2 f2 a1 (fun h => l h.2.2)
    · have go1 : ∀ C : sx_F, kw_n C = true → sx_ev (fx_p [f, k, n, sy_r w 36 t, sy_r w 37 t]) C ≤ 0 → ∃ res, pq_Go 5 pm_95 10 ls [] w 0 0 res ∧ kn_Q w0 (kw_T w0 f k n) res := fun C ck hC => by
        refine ng_go (J := sx_tt) (Post := kn_Q w0 (kw_T w0 f k n)) (fx_p [f, k, n, sy_r w 36 t, sy_r w 37 t]) (List.all_eq_true.mp ck t mk) rfl (iv 1 (by omega)) ⟨c1, hC, trivial⟩ sl trivial (sh_eo (n := 7) (by rw [sx_y_ev, e29]; rfl) rfl (sh_eo (n := t) (by rw [sx_y_ev]; rfl) rfl (sh_eo (n := t) (by rw [sx_y_ev]; rfl) rfl trivial))) hw sx_ctn (fun _ _ _ => trivial) trivial ⟨fun ls2 st2 w2 t2 f2 a => ?_, trivial⟩
        obtain ⟨a1, a2, _⟩ := a
        cases ng_st0 a2
        exact next ls2 w2 t2 f2 a1 (fun h => e h.2.1)
      by_cases l : sy_r w 36 t < f
      · exact go1 _ kw_nl (by show 1 + (-1 * f + (1 * sy_r w 36 t + 0)) ≤ 0; omega)
      · exact go1 _ kw_ng (by show 1 + (1 * f + (-1 * sy_r w 36 t + 0)) ≤ 0; rw [eg] at l ⊢; omega)
/-- the class's row: the flight's own (day -1), or that of what was told -/
noncomputable def kw_R (w : pq_W) (f k : Int) (n : Nat) : Int := if k = -1 then f else kw_T w f k n
theorem kw_ok {xf xk : Int32} {w : pq_W} {n : Nat} (hf : 0 ≤ xf.toInt ∧ xf.toInt ≤ 29) (hk : -1 ≤ xk.toInt ∧ xk.toInt ≤ 3000) (hn : n ≤ 40) (en : sy_r w 29 7 = (n : Int)) (ht : sx_Ty sx_T0 w) : ∃ res, pq_Ru 6 95 [.ref 29, .int xf, .int xk] w res ∧ kn_Q w (kw_R w xf.toInt xk.toInt n) res := by
  have main : ∃ res, pq_Go 5 pm_95 0 (lv_args 0 [.ref 29, .int xf, .int xk]) [] w 0 0 res ∧ kn_Q w (kw_R w xf.toInt xk.toInt n) res := by
    by_cases e : xk.toInt = -1
    · refine ng_go (J := sx_tt) (Post := kn_Q w (kw_R w xf.toInt xk.toInt n)) (fx_p [xf.toInt]) kw_m_ok rfl ⟨hf.1, hf.2, trivial⟩ trivial ⟨rfl, ng_iy ⟨xf, rfl, rfl⟩ rfl, ng_ik ⟨xk, rfl, rfl⟩ e, trivial⟩ trivial trivial ht sx_ctn (fun _ _ _ => trivial) ⟨fun y w1 t1 f1 a => ?_, trivial⟩ trivial
      obtain ⟨⟨z, y1, y2⟩, _⟩ := a
      exact ⟨⟨z, y1, by rw [y2, sx_y_ev]; exact (if_pos e).symm⟩, t1, f1⟩
    · have ck := kw_s_ok
      unfold kw_s at ck
      refine ng_go (J := sx_tt) (Post := kn_Q w (kw_R w xf.toInt xk.toInt n)) (fx_p [xf.toInt, xk.toInt]) ck rfl ⟨hf.1, hf.2, (show 0 ≤ xk.toInt by omega), hk.2, trivial⟩ trivial ⟨rfl, ng_iy ⟨xf, rfl, rfl⟩ rfl, ng_iy ⟨xk, rfl, rfl⟩ rfl, trivial⟩ trivial trivial ht sx_ctn (fun _ _ _ => trivial) trivial ⟨fun ls2 st2 w2 t2 f2 a => ?_, trivial⟩
      obtain ⟨⟨d0, d1, d2, d3, _⟩, a2, _⟩ := a
      cases ng_st0 a2
      have er : kw_R w xf.toInt xk.toInt n = kw_T w xf.toInt xk.toInt n := if_neg e
      rw [er]
      refine kw_lp hf ⟨by omega, hk.2⟩ hn en 40 (Nat.le_refl _) ?_ ls2 w2 ⟨d0, ng_yi d1 rfl, ng_yi d2 rfl, ng_ki d3 rfl⟩ t2 f2
      by_cases c : 40 ≤ n
      · rw [if_pos c, show n = 40 by omega]
      · rw [if_neg c]
  obtain ⟨res, g, h⟩ := main
  exact ⟨res, ru_of (k := 5) (M := pm_95) rfl (by rw [Bool.and_eq_true]; exact ⟨rfl, sq_rcv ht rfl rfl rfl⟩) g, h⟩
-- the reference's rowOf
noncomputable def ro_m : Bool := ng_chk [] [] [] 9 217 pm_217 0 [(0, 29)] [] [(0, .inr (.inr 94)), (1, fx_i 0), (2, fx_k (-1))] [] [] [(.inl (.inl (.inl (.inl (307, [(0, 34)])))), [], [], [])] [] 6000
noncomputable def ro_s : Bool := ng_chk [] [] [] 9 217 pm_217 0 [(0, 29), (0, 3000)] [] [(0, .inr (.inr 94)), (1, fx_i 0), (2, fx_i 1)] [] [] [] [(15, ([], [fx_i 1, fx_i 0, .inr (.inr 94)], [], [], []))] 6000
theorem ro_m_ok : ro_m = true := by decide +kernel
theorem ro_s_ok : ro_s = true := by decide +kernel
noncomputable def ro_R (w : pq_W) (f k : Int) (n : Nat) : Int := if k = -1 then 307 + 34 * f else kn_T w f k n
theorem ro_ok {xf xk : Int32} {w : pq_W} {n : Nat} (hf : 0 ≤ xf.toInt ∧ xf.toInt ≤ 29) (hk : -1 ≤ xk.toInt ∧ xk.toInt ≤ 3000) (hn : n ≤ 40) (en : sy_r w 95 6 = (n : Int)) (ht : sx_Ty sx_T0 w) : ∃ res, pq_Ru 10 217 [.ref 94, .int xf, .int xk] w res ∧ kn_Q w (ro_R w xf.toInt xk.toInt n) res := by
  have main : ∃ res, pq_Go 9 pm_217 0 (lv_args 0 [.ref 94, .int xf, .int xk]) [] w 0 0 res ∧ kn_Q w (ro_R w xf.toInt xk.toInt n) res := by
    by_cases e : xk.toInt = -1
    · refine ng_go (J := sx_tt) (Post := kn_Q w (ro_R w xf.toInt xk.toInt n)) (fx_p [xf.toInt]) ro_m_ok rfl ⟨hf.1, hf.2, trivial⟩ trivial ⟨rfl, ng_iy ⟨xf, rfl, rfl⟩ rfl, ng_ik ⟨xk, rfl, rfl⟩ e, trivial⟩ trivial trivial ht sx_ctn (fun _ _ _ => trivial) ⟨fun y w1 t1 f1 a => ?_, trivial⟩ trivial
      obtain ⟨⟨z, y1, y2⟩, _⟩ := a
      have y2 : z.toInt = 307 + (34 * xf.toInt + 0) := y2
      exact ⟨⟨z, y1, by rw [y2]; unfold ro_R; rw [if_pos e]; omega⟩, t1, f1⟩
    · refine ng_go (J := sx_tt) (Post := kn_Q w (ro_R w xf.toInt xk.toInt n)) (fx_p [xf.toInt, xk.toInt]) ro_s_ok rfl ⟨hf.1, hf.2, (show 0 ≤ xk.toInt by omega), hk.2, trivial⟩ trivial ⟨rfl, ng_iy ⟨xf, rfl, rfl⟩ rfl, ng_iy ⟨xk, rfl, rfl⟩ rfl, trivial⟩ trivial trivial ht sx_ctn (fun _ _ _ => trivial) trivial ⟨fun ls2 st2 w2 t2 f2 a => ?_, trivial⟩
      obtain ⟨_, q0, _⟩ := a
      obtain ⟨x1, s1, rfl, z1, q1⟩ := vo_si q0
      obtain ⟨x2, s2, rfl, z2, q2⟩ := vo_si q1
      obtain ⟨s3, rfl, q3⟩ := vo_sr q2
      cases vo_s0 q3
      have kx1 : x1 = xk := Int32.toInt_inj.mp z1
      have kx2 : x2 = xf := Int32.toInt_inj.mp z2
      subst kx1
      subst kx2
      have f2 : sx_Fr [] w w2 := f2
      obtain ⟨⟨r3, w3⟩, g3, ⟨y, y1, y2⟩, t3, f3⟩ := kn_ok (w := w2) (xf := x2) (xk := x1) (n := n) hf hn (by rw [ng_nil f2]; exact en) t2
      have y1 : r3 = some (.int y) := y1
      subst y1
      have f3 : sx_Fr [] w2 w3 := f3
      refine ⟨(some (.int y), w3), go_cl (j := 218) (n := 3) (as := [.ref 94, .int x2, .int x1]) (r := some (.int y)) (st' := [.int y]) (cs' := 0) (ss' := 0) (k1 := 6) rfl rfl rfl rfl rfl rfl rfl g3 (go_end 1 (fun _ _ => rfl)), ⟨y, rfl, ?_⟩, t3, sx_Fr_trans f2 f3⟩
      rw [y2]
      unfold ro_R
      rw [if_neg e]
      unfold kn_T
      rw [show (fun t => sy_r w2 95 (1322 + 15 * t)) = (fun t => sy_r w 95 (1322 + 15 * t)) from funext (fun i => ng_nil f2 95 _), show (fun t => sy_r w2 95 (1323 + 15 * t)) = (fun t => sy_r w 95 (1323 + 15 * t)) from funext (fun i => ng_nil f2 95 _)]
  obtain ⟨res, g, h⟩ := main
  exact ⟨res, ru_of (k := 9) (M := pm_217) rfl (by rw [Bool.and_eq_true]; exact ⟨rfl, sq_rcv ht rfl rfl rfl⟩) g, h⟩
-- row: symbols 0 flight, 1 day, 2 number's place, 3 how many flights
noncomputable def rw_z : List ((Int × Int) × (Int × Int) × (Int × Int) × List sx_F) := [(sh_lo, sy_full, sy_full, []), (sy_full, sy_full, sy_full, [(0, [(0, -1), (3, 1)])]), (sy_full, (-2147483648, -2), sy_full, []), (sy_full, (3001, 2147483647), sy_full, []), (sy_full, sy_full, sh_lo, [])]
noncomputable def rw_1 (cn pn ce j : Nat) (M : pq_M) (r0 : Nat) : Bool := rw_z.all fun z => ng_chk [(ce, 0, 100000)] [] [] 299 j M 0 [z.1, z.2.1, z.2.2.1, (0, 30)] z.2.2.2 (sh_sl r0 (fx_i 0) (fx_i 1) (fx_i 2)) [] [sh_o cn pn (fx_i 3)] [(sh_x (-1000001), [], [], [])] [] 6000
noncomputable def rw_2 (cn pn j : Nat) (M : pq_M) (r0 pc r1 : Nat) : Bool := ng_chk [] [] [] 299 j M 0 [(0, 29), (-1, 3000), (0, 2147483647), (0, 30)] [(1, [(0, 1), (3, -1)])] (sh_sl r0 (fx_i 0) (fx_i 1) (fx_i 2)) [] [sh_o cn pn (fx_i 3)] [] [(pc, (ng_L (sh_sl r0 (fx_i 0) (fx_i 1) (fx_i 2)), [fx_i 1, fx_i 0, .inr (.inr r1)], [], [], []))] 6000
theorem rwc_1 : rw_1 29 0 93 94 pm_94 5 = true := by decide +kernel
theorem rwc_2 : rw_2 29 0 94 pm_94 5 38 29 = true := by decide +kernel
theorem rwm_1 : rw_1 95 5 97 216 pm_216 94 = true := by decide +kernel
theorem rwm_2 : rw_2 95 5 216 pm_216 94 37 94 = true := by decide +kernel
noncomputable def rw_bad (f c k i : Int) : Prop := f < 0 ∨ c ≤ f ∨ k < -1 ∨ 3000 < k ∨ i < 0
theorem rw_gen {cn pn ce j : Nat} {M : pq_M} {r0 pc r1 : Nat} (k1 : rw_1 cn pn ce j M r0 = true) (k2 : rw_2 cn pn j M r0 pc r1 = true) (hM : pq_tab[j]? = some M) (xf xk xi : Int32) {w : pq_W} (ht : sx_Ty sx_T0 w) (hn : 0 ≤ sy_r w cn pn ∧ sy_r w cn pn ≤ 30) {Post : pq_R → Prop}
    (hE : rw_bad xf.toInt (sy_r w cn pn) xk.toInt xi.toInt → ∀ (x : Int32) (w1 : pq_W), sx_Ty sx_T0 w1 → sx_Fr [(ce, 0, 100000)] w w1 → x.toInt = -1000001 → Post (some (.int x), w1))
    (hS : ¬ rw_bad xf.toInt (sy_r w cn pn) xk.toInt xi.toInt → ∀ (ls : pq_L) (w1 : pq_W), pq_lk ls 0 = some (.ref r0) → ng_i ls 1 xf.toInt → ng_i ls 2 xk.toInt → ng_i ls 3 xi.toInt → sx_Ty sx_T0 w1 → sx_Fr [] w w1 → ∃ res, pq_Go 299 M pc ls [.int xk, .int xf, .ref r1] w1 0 0 res ∧ Post res) : ∃ res, pq_Go 299 M 0 (lv_args 0 [.ref r0, .int xf, .int xk, .int xi]) [] w 0 0 res ∧ Post res := by
  have rf := sh_i32 xf
  have rk := sh_i32 xk
  have ri := sh_i32 xi
  have sl : ng_sl0 (fx_p [xf.toInt, xk.toInt, xi.toInt, sy_r w cn pn]) (lv_args 0 [.ref r0, .int xf, .int xk, .int xi]) (sh_sl r0 (fx_i 0) (fx_i 1) (fx_i 2)) := ⟨rfl, ng_iy ⟨xf, rfl, rfl⟩ rfl, ng_iy ⟨xk, rfl, rfl⟩ rfl, ng_iy ⟨xi, rfl, rfl⟩ rfl, trivial⟩
  by_cases b0 : rw_bad xf.toInt (sy_r w cn pn) xk.toInt xi.toInt
  · have bad : ∀ z ∈ rw_z, (z.1.1 ≤ xf.toInt ∧ xf.toInt ≤ z.1.2) → (z.2.1.1 ≤ xk.toInt ∧ xk.toInt ≤ z.2.1.2) → (z.2.2.1.1 ≤ xi.toInt ∧ xi.toInt ≤ z.2.2.1.2) → ng_fs (fx_p [xf.toInt, xk.toInt, xi.toInt, sy_r w cn pn]) z.2.2.2 → ∃ res, pq_Go 299 M 0 (lv_args 0 [.ref r0, .int xf, .int xk, .int xi]) [] w 0 0 res ∧ Post res := fun z hz h1 h2 h3 h4 => by
      obtain ⟨⟨r, w1⟩, g, t, f, q, hq, a⟩ := sh_onc (fx_p [xf.toInt, xk.toInt, xi.toInt, sy_r w cn pn]) (List.all_eq_true.mp k1 z hz) hM ⟨h1.1, h1.2, h2.1, h2.2, h3.1, h3.2, hn.1, hn.2, trivial⟩ h4 sl (sh_eo (n := pn) (by rw [sx_y_ev]; rfl) rfl trivial) ht
      cases List.mem_singleton.mp hq
      obtain ⟨x, x1, x2⟩ := sh_ans a.1
      have x1 : r = some (.int x) := x1
      subst x1
      exact ⟨_, g, hE b0 x w1 t f x2⟩
    by_cases c1 : xf.toInt < 0
    · exact bad _ List.mem_cons_self ⟨rf.1, by show xf.toInt ≤ -1; omega⟩ ⟨rk.1, rk.2⟩ ⟨ri.1, ri.2⟩ trivial
    by_cases c2 : sy_r w cn pn ≤ xf.toInt
    · exact bad _ (List.mem_cons_of_mem _ List.mem_cons_self) ⟨rf.1, rf.2⟩ ⟨rk.1, rk.2⟩ ⟨ri.1, ri.2⟩ ⟨by show 0 + (-1 * xf.toInt + (1 * sy_r w cn pn + 0)) ≤ 0; omega, trivial⟩
    by_cases c3 : xk.toInt < -1
    · exact bad _ (List.mem_cons_of_mem _ (List.mem_cons_of_mem _ List.mem_cons_self)) ⟨rf.1, rf.2⟩ ⟨rk.1, by show xk.toInt ≤ -2; omega⟩ ⟨ri.1, ri.2⟩ trivial
    by_cases c4 : 3000 < xk.toInt
    · exact bad _ (List.mem_cons_of_mem _ (List.mem_cons_of_mem _ (List.mem_cons_of_mem _ List.mem_cons_self))) ⟨rf.1, rf.2⟩ ⟨by show 3001 ≤ xk.toInt; omega, rk.2⟩ ⟨ri.1, ri.2⟩ trivial
    · unfold rw_bad at b0
      exact bad _ (List.mem_cons_of_mem _ (List.mem_cons_of_mem _ (List.mem_cons_of_mem _ (List.mem_cons_of_mem _ List.mem_cons_self)))) ⟨rf.1, rf.2⟩ ⟨rk.1, rk.2⟩ ⟨ri.1, by show xi.toInt ≤ -1; omega⟩ trivial
  have b1 := b0
  unfold rw_bad at b1
  unfold rw_2 at k2
  refine ng_go (J := sx_tt) (Post := Post) (fx_p [xf.toInt, xk.toInt, xi.toInt, sy_r w cn pn]) k2 hM ⟨(show 0 ≤ xf.toInt by omega), (show xf.toInt ≤ 29 by omega), (show -1 ≤ xk.toInt by omega), (show xk.toInt ≤ 3000 by omega), (show 0 ≤ xi.toInt by omega), ri.2, hn.1, hn.2, trivial⟩ ⟨by show 1 + (1 * xf.toInt + (-1 * sy_r w cn pn + 0)) ≤ 0; omega, trivial⟩ sl trivial (sh_eo (n := pn) (by rw [sx_y_ev]; rfl) rfl trivial) ht sx_ctn (fun _ _ _ => trivial) trivial ⟨fun ls st w1 t1 f1 al => ?_, trivial⟩
  obtain ⟨⟨c0, c1, c2, c3, _⟩, q0, _⟩ := al
  obtain ⟨x1, s1, rfl, z1, q1⟩ := vo_si q0
  obtain ⟨x2, s2, rfl, z2, q2⟩ := vo_si q1
  obtain ⟨s3, rfl, q3⟩ := vo_sr q2
  cases vo_s0 q3
  have kx1 : x1 = xk := Int32.toInt_inj.mp z1
  have kx2 : x2 = xf := Int32.toInt_inj.mp z2
  subst kx1
  subst kx2
  exact hS b0 ls w1 c0 (ng_yi c1 rfl) (ng_yi c2 rfl) (ng_yi c3 rfl) t1 f1
/-- row's answer, by the row (negative: none), its size and the number -/
noncomputable def rw_X (r i z v : Int) : Int := if r < 0 ∨ z ≤ i then -1000002 else v
noncomputable def rwQ (ce : Nat) (w : pq_W) (bad : Prop) (x : Int) (res : pq_R) : Prop := (∃ y : Int32, res.1 = some (.int y) ∧ ((bad ∧ y.toInt = -1000001) ∨ (¬ bad ∧ y.toInt = x))) ∧ sx_Fr [(ce, 0, 100000)] w res.2
-- the class behind rowKnown: symbols 0 row, 1 number's place, 2 size, 3 the number
noncomputable def rc_n : Bool := ng_chk [(93, 0, 100000)] [] [] 299 94 pm_94 41 [(0, 2147483647)] [] [(0, .inr (.inr 5)), (3, fx_i 0)] [fx_k (-1)] [] [(sh_x (-1000002), [], [], [])] [] 6000
noncomputable def rc_b : Bool := ng_chk [(93, 0, 100000)] [] [] 299 94 pm_94 41 [(0, 69), (12, 2147483647)] [] [(0, .inr (.inr 5)), (3, fx_i 1)] [fx_i 0] [] [(sh_x (-1000002), [], [], [])] [] 6000
noncomputable def rc_s : Bool := ng_chk [(93, 0, 100000)] [] [] 299 94 pm_94 41 [(0, 69), (0, 11), (0, 12)] [(0, [(1, -1), (2, 1)])] [(0, .inr (.inr 5)), (3, fx_i 1)] [fx_i 0] [(38, sx_y 0, fx_i 2)] [(sh_x (-1000002), [], [], [])] [] 6000
noncomputable def rc_v : Bool := ng_chk [(93, 0, 100000)] [] [] 299 94 pm_94 41 [(0, 69), (0, 11), (0, 12), sy_full] [(1, [(1, 1), (2, -1)])] [(0, .inr (.inr 5)), (3, fx_i 1)] [fx_i 0] [(38, sx_y 0, fx_i 2), (39, (0, [(0, 12), (1, 1)]), fx_i 3)] [(.inl (.inl (fx_i 3)), [], [], [])] [] 6000
theorem rc_n_ok : rc_n = true := by decide +kernel
theorem rc_b_ok : rc_b = true := by decide +kernel
theorem rc_s_ok : rc_s = true := by decide +kernel
theorem rc_v_ok : rc_v = true := by decide +kernel
theorem rwc_ok {xf xk xi : Int32} {w : pq_W} {n : Nat} (hn : n ≤ 40) (en : sy_r w 29 7 = (n : Int)) (ht : sx_Ty sx_T0 w) : ∃ res, pq_Go 299 pm_94 0 (lv_args 0 [.ref 5, .int xf, .int xk, .int xi]) [] w 0 0 res ∧ rwQ 93 w (rw_bad xf.toInt (sy_r w 29 0) xk.toInt xi.toInt) (rw_X (kw_R w xf.toInt xk.toInt n) xi.toInt (sy_r w 38 (kw_R w xf.toInt xk.toInt n).toNat) (sy_r w 39 (12 * (kw_R w xf.toInt xk.toInt n).toNat + xi.toInt.toNat))) res := by
  obtain ⟨_, _, _, u1, u2⟩ := sq_fat (r := 29) (i := 0) (lo := 0) (hi := 30) ht rfl rfl
  refine rw_gen rwc_1 rwc_2 rfl xf xk xi ht ⟨u1, u2⟩ (fun hb x w1 t1 f1 h1 => ⟨⟨x, rfl, Or.inl ⟨hb, h1⟩⟩, f1⟩) (fun hb ls w1 c0 c1 c2 c3 t1 f1 => ?_)
  have hb1 := hb
  unfold rw_bad at hb1
  have ri := sh_i32 xi
  obtain ⟨⟨r2, w2⟩, g2, ⟨y, y1, y2⟩, t2, f2⟩ := kw_ok (w := w1) (xf := xf) (xk := xk) (n := n) (by omega) (by omega) hn (by rw [ng_nil f1]; exact en) t1
  have y1 : r2 = some (.int y) := y1
  subst y1
  have f2 : sx_Fr [] w1 w2 := f2
  have f12 : sx_Fr [] w w2 := sx_Fr_trans f1 f2
  have eR : kw_R w1 xf.toInt xk.toInt n = kw_R w xf.toInt xk.toInt n := by
    unfold kw_R kw_T
    rw [show sy_r w1 36 = sy_r w 36 from funext (fun i => ng_nil f1 36 i), show sy_r w1 37 = sy_r w 37 from funext (fun i => ng_nil f1 37 i)]
  rw [eR] at y2
  have bT := tk_b (g := sy_r w 36) (d := sy_r w 37) (f := xf.toInt) (k := xk.toInt) n
  have bR : -1 ≤ kw_R w xf.toInt xk.toInt n ∧ kw_R w xf.toInt xk.toInt n ≤ 69 := by
    unfold kw_R kw_T kw_P
    split
    · omega
    · split <;> omega
  generalize hR : kw_R w xf.toInt xk.toInt n = R at *
  have t2 : sx_Ty sx_T0 w2 := t2
  have key : ∃ res, pq_Go 299 pm_94 41 ls [.int y] w2 0 0 res ∧ rwQ 93 w (rw_bad xf.toInt (sy_r w 29 0) xk.toInt xi.toInt) (rw_X R xi.toInt (sy_r w 38 R.toNat) (sy_r w 39 (12 * R.toNat + xi.toInt.toNat))) res := by
    have none : ∀ (y0 : Option Value) (w3 : pq_W) (p : Nat → Int), sx_Fr [(93, 0, 100000)] w2 w3 → ng_a1 p y0 (sh_x (-1000002)) → (R < 0 ∨ sy_r w 38 R.toNat ≤ xi.toInt) → rwQ 93 w (rw_bad xf.toInt (sy_r w 29 0) xk.toInt xi.toInt) (rw_X R xi.toInt (sy_r w 38 R.toNat) (sy_r w 39 (12 * R.toNat + xi.toInt.toNat))) (y0, w3) := fun y0 w3 p f3 a hc => by
      obtain ⟨z, z1, z2⟩ := sh_ans a
      exact ⟨⟨z, z1, Or.inr ⟨hb, by rw [z2]; exact (if_pos hc).symm⟩⟩, fr_cat f12 f3⟩
    by_cases d1 : R < 0
    · refine ng_go (J := sx_tt) (fx_p [xi.toInt]) rc_n_ok rfl ⟨(show 0 ≤ xi.toInt by omega), ri.2, trivial⟩ trivial ⟨c0, ng_iy c3 rfl, trivial⟩ ⟨by show y.toInt = sx_ev _ (-1, []); rw [ng_ek, y2]; omega, trivial⟩ trivial t2 sx_ctn (fun _ _ _ => trivial) ⟨fun y0 w3 t3 f3 a => none y0 w3 _ f3 a.1 (Or.inl d1), trivial⟩ trivial
    obtain ⟨r, er⟩ : ∃ r : Nat, R = (r : Int) := ⟨R.toNat, by omega⟩
    have ert : R.toNat = r := by omega
    have b38 := sy_rg (r := 38) t2 rfl (g := (0, 1, 70, 0, 0, 0, 12)) (by decide) (k := r) (j := 0) (by show r < 70; omega) (Nat.le_refl _) (Nat.le_refl _) (by show 0 + 1 * r + 0 < 70; omega)
    have b38 : 0 ≤ sy_r w2 38 (0 + 1 * r + 0) ∧ sy_r w2 38 (0 + 1 * r + 0) ≤ 12 := b38
    rw [show 0 + 1 * r + 0 = r by omega] at b38
    have e38 : sy_r w2 38 r = sy_r w 38 R.toNat := by rw [ng_nil f12, ert]
    by_cases d2 : 12 ≤ xi.toInt
    · refine ng_go (J := sx_tt) (fx_p [R, xi.toInt]) rc_b_ok rfl ⟨(show 0 ≤ R by omega), bR.2, d2, ri.2, trivial⟩ trivial ⟨c0, ng_iy c3 rfl, trivial⟩ ⟨by show y.toInt = sx_ev _ (sx_y 0); rw [sx_y_ev, y2]; rfl, trivial⟩ trivial t2 sx_ctn (fun _ _ _ => trivial) ⟨fun y0 w3 t3 f3 a => none y0 w3 _ f3 a.1 (Or.inr (by rw [← e38]; omega)), trivial⟩ trivial
    have o38 : ∀ p : Nat → Int, p 0 = R → sy_r w2 38 (sx_ev p (sx_y 0)).toNat = sy_r w2 38 r := fun p p0 => by rw [sx_y_ev, p0, ert]
    by_cases d3 : sy_r w2 38 r ≤ xi.toInt
    · refine ng_go (J := sx_tt) (fx_p [R, xi.toInt, sy_r w2 38 r]) rc_s_ok rfl ⟨(show 0 ≤ R by omega), bR.2, (show 0 ≤ xi.toInt by omega), (show xi.toInt ≤ 11 by omega), b38.1, b38.2, trivial⟩ ⟨by show 0 + (-1 * xi.toInt + (1 * sy_r w2 38 r + 0)) ≤ 0; omega, trivial⟩ ⟨c0, ng_iy c3 rfl, trivial⟩ ⟨by show y.toInt = sx_ev _ (sx_y 0); rw [sx_y_ev, y2]; rfl, trivial⟩ ⟨by rw [o38 _ rfl, sx_y_ev]; rfl, trivial⟩ t2 sx_ctn (fun _ _ _ => trivial) ⟨fun y0 w3 t3 f3 a => none y0 w3 _ f3 a.1 (Or.inr (by rw [← e38]; exact d3)), trivial⟩ trivial
    · obtain ⟨i, ei⟩ : ∃ i : Nat, xi.toInt = (i : Int) := ⟨xi.toInt.toNat, by omega⟩
      have vb := sy_rb w2 39 (12 * r + i)
      refine ng_go (J := sx_tt) (fx_p [R, xi.toInt, sy_r w2 38 r, sy_r w2 39 (12 * r + i)]) rc_v_ok rfl ⟨(show 0 ≤ R by omega), bR.2, (show 0 ≤ xi.toInt by omega), (show xi.toInt ≤ 11 by omega), b38.1, b38.2, vb.1, vb.2, trivial⟩ ⟨by show 1 + (1 * xi.toInt + (-1 * sy_r w2 38 r + 0)) ≤ 0; omega, trivial⟩ ⟨c0, ng_iy c3 rfl, trivial⟩ ⟨by show y.toInt = sx_ev _ (sx_y 0); rw [sx_y_ev, y2]; rfl, trivial⟩ ⟨by rw [o38 _ rfl, sx_y_ev]; rfl, by rw [sx_y_ev]; show sy_r w2 39 (0 + (12 * R + (1 * xi.toInt + 0))).toNat = sy_r w2 39 (12 * r + i); rw [show (0 + (12 * R + (1 * xi.toInt + 0))).toNat = 12 * r + i by omega], trivial⟩ t2 sx_ctn (fun _ _ _ => trivial) ⟨fun y0 w3 t3 f3 a => ?_, trivial⟩ trivial
      obtain ⟨z, z1, z2⟩ := a.1
      have z2 : z.toInt = sy_r w2 39 (12 * r + i) := z2.trans (sx_y_ev _ _)
      refine ⟨⟨z, z1, Or.inr ⟨hb, ?_⟩⟩, fr_cat f12 f3⟩
      rw [z2, ng_nil f12]
      unfold rw_X
      rw [if_neg (by rw [← e38]; omega), ert, ei, Int.toNat_natCast]
  obtain ⟨res, k1, k2⟩ := key
  exact ⟨res, go_cl (j := 95) (n := 3) (as := [.ref 29, .int xf, .int xk]) (r := some (.int y)) (st' := [.int y]) (cs' := 0) (ss' := 0) (k1 := 6) rfl rfl rfl rfl rfl rfl rfl g2 k1, k2⟩
-- the reference behind rowOf: symbols 0 row, 1 number's place, 2 size, 3 the number
noncomputable def rm_n : Bool := ng_chk [(97, 0, 100000)] [] [] 299 216 pm_216 40 [(0, 2147483647)] [] [(0, .inr (.inr 94)), (3, fx_i 0)] [fx_k (-1)] [] [(sh_x (-1000002), [], [], [])] [] 6000
noncomputable def rm_s : Bool := ng_chk [(97, 0, 100000)] [] [] 299 216 pm_216 40 [(0, 1909), (0, 2147483647), (0, 12)] [(0, [(1, -1), (2, 1)])] [(0, .inr (.inr 94)), (3, fx_i 1)] [fx_i 0] [(95, sx_y 0, fx_i 2)] [(sh_x (-1000002), [], [], [])] [] 6000
noncomputable def rm_v : Bool := ng_chk [(97, 0, 100000)] [] [] 299 216 pm_216 40 [(0, 1909), (0, 11), (0, 12), sy_full] [(1, [(1, 1), (2, -1)])] [(0, .inr (.inr 94)), (3, fx_i 1)] [fx_i 0] [(95, sx_y 0, fx_i 2), (95, (1, [(0, 1), (1, 1)]), fx_i 3)] [(.inl (.inl (fx_i 3)), [], [], [])] [] 6000
theorem rm_n_ok : rm_n = true := by decide +kernel
theorem rm_s_ok : rm_s = true := by decide +kernel
theorem rm_v_ok : rm_v = true := by decide +kernel
theorem rwm_ok {xf xk xi : Int32} {w : pq_W} {n : Nat} (hn : n ≤ 40) (en : sy_r w 95 6 = (n : Int)) (ht : sx_Ty sx_T0 w) : ∃ res, pq_Go 299 pm_216 0 (lv_args 0 [.ref 94, .int xf, .int xk, .int xi]) [] w 0 0 res ∧ rwQ 97 w (rw_bad xf.toInt (sy_r w 95 5) xk.toInt xi.toInt) (rw_X (ro_R w xf.toInt xk.toInt n) xi.toInt (sy_r w 95 (ro_R w xf.toInt xk.toInt n).toNat) (sy_r w 95 ((ro_R w xf.toInt xk.toInt n).toNat + 1 + xi.toInt.toNat))) res := by
  have hy := (mo_yT ht (Or.inl rfl)).2.2.1
  refine rw_gen rwm_1 rwm_2 rfl xf xk xi ht hy (fun hb x w1 t1 f1 h1 => ⟨⟨x, rfl, Or.inl ⟨hb, h1⟩⟩, f1⟩) (fun hb ls w1 c0 c1 c2 c3 t1 f1 => ?_)
  have hb1 := hb
  unfold rw_bad at hb1
  have ri := sh_i32 xi
  obtain ⟨⟨r2, w2⟩, g2, ⟨y, y1, y2⟩, t2, f2⟩ := ro_ok (w := w1) (xf := xf) (xk := xk) (n := n) (by omega) (by omega) hn (by rw [ng_nil f1]; exact en) t1
  have y1 : r2 = some (.int y) := y1
  subst y1
  have f2 : sx_Fr [] w1 w2 := f2
  have f12 : sx_Fr [] w w2 := sx_Fr_trans f1 f2
  have eR : ro_R w1 xf.toInt xk.toInt n = ro_R w xf.toInt xk.toInt n := by
    unfold ro_R kn_T
    rw [show (fun t => sy_r w1 95 (1322 + 15 * t)) = (fun t => sy_r w 95 (1322 + 15 * t)) from funext (fun i => ng_nil f1 95 _), show (fun t => sy_r w1 95 (1323 + 15 * t)) = (fun t => sy_r w 95 (1323 + 15 * t)) from funext (fun i => ng_nil f1 95 _)]
  rw [eR] at y2
  have bT := tk_b (g := fun t => sy_r w 95 (1322 + 15 * t)) (d := fun t => sy_r w 95 (1323 + 15 * t)) (f := xf.toInt) (k := xk.toInt) n
  have t2 : sx_Ty sx_T0 w2 := t2
  have bR : ro_R w xf.toInt xk.toInt n = -1 ∨ ∃ r : Nat, r ≤ 1909 ∧ ro_R w xf.toInt xk.toInt n = (r : Int) ∧ 0 ≤ sy_r w2 95 r ∧ sy_r w2 95 r ≤ 12 := by
    unfold ro_R kn_T kn_P
    split
    · obtain ⟨f, ef⟩ : ∃ f : Nat, xf.toInt = (f : Int) := ⟨xf.toInt.toNat, by omega⟩
      have b := sy_rg (r := 95) t2 rfl (g := (302, 34, 30, 5, 5, 0, 12)) (by decide) (k := f) (j := 5) (by show f < 30; omega) (Nat.le_refl _) (Nat.le_refl _) (by show 302 + 34 * f + 5 < 2858; omega)
      have b : 0 ≤ sy_r w2 95 (302 + 34 * f + 5) ∧ sy_r w2 95 (302 + 34 * f + 5) ≤ 12 := b
      rw [show 302 + 34 * f + 5 = 307 + 34 * f by omega] at b
      exact Or.inr ⟨307 + 34 * f, by omega, by omega, b⟩
    · split
      · exact Or.inl rfl
      · obtain ⟨t, et⟩ : ∃ t : Nat, tk_v (fun t => sy_r w 95 (1322 + 15 * t)) (fun t => sy_r w 95 (1323 + 15 * t)) xf.toInt xk.toInt n = (t : Int) := ⟨(tk_v (fun t => sy_r w 95 (1322 + 15 * t)) (fun t => sy_r w 95 (1323 + 15 * t)) xf.toInt xk.toInt n).toNat, by omega⟩
        have b := sy_rg (r := 95) t2 rfl (g := (1322, 15, 40, 2, 2, 0, 12)) (by decide) (k := t) (j := 2) (by show t < 40; omega) (Nat.le_refl _) (Nat.le_refl _) (by show 1322 + 15 * t + 2 < 2858; omega)
        have b : 0 ≤ sy_r w2 95 (1322 + 15 * t + 2) ∧ sy_r w2 95 (1322 + 15 * t + 2) ≤ 12 := b
        rw [show 1322 + 15 * t + 2 = 1324 + 15 * t by omega] at b
        exact Or.inr ⟨1324 + 15 * t, by omega, by rw [et]; omega, b⟩
  generalize hR : ro_R w xf.toInt xk.toInt n = R at *
  have key : ∃ res, pq_Go 299 pm_216 40 ls [.int y] w2 0 0 res ∧ rwQ 97 w (rw_bad xf.toInt (sy_r w 95 5) xk.toInt xi.toInt) (rw_X R xi.toInt (sy_r w 95 R.toNat) (sy_r w 95 (R.toNat + 1 + xi.toInt.toNat))) res := by
    have none : ∀ (y0 : Option Value) (w3 : pq_W) (p : Nat → Int), sx_Fr [(97, 0, 100000)] w2 w3 → ng_a1 p y0 (sh_x (-1000002)) → (R < 0 ∨ sy_r w 95 R.toNat ≤ xi.toInt) → rwQ 97 w (rw_bad xf.toInt (sy_r w 95 5) xk.toInt xi.toInt) (rw_X R xi.toInt (sy_r w 95 R.toNat) (sy_r w 95 (R.toNat + 1 + xi.toInt.toNat))) (y0, w3) := fun y0 w3 p f3 a hc => by
      obtain ⟨z, z1, z2⟩ := sh_ans a
      exact ⟨⟨z, z1, Or.inr ⟨hb, by rw [z2]; exact (if_pos hc).symm⟩⟩, fr_cat f12 f3⟩
    rcases bR with d1 | ⟨r, hr, er, b1, b2⟩
    · refine ng_go (J := sx_tt) (fx_p [xi.toInt]) rm_n_ok rfl ⟨(show 0 ≤ xi.toInt by omega), ri.2, trivial⟩ trivial ⟨c0, ng_iy c3 rfl, trivial⟩ ⟨by show y.toInt = sx_ev _ (-1, []); rw [ng_ek, y2, d1], trivial⟩ trivial t2 sx_ctn (fun _ _ _ => trivial) ⟨fun y0 w3 t3 f3 a => none y0 w3 _ f3 a.1 (Or.inl (by omega)), trivial⟩ trivial
    have ert : R.toNat = r := by omega
    have e38 : sy_r w2 95 r = sy_r w 95 R.toNat := by rw [ng_nil f12, ert]
    have o38 : ∀ p : Nat → Int, p 0 = R → sy_r w2 95 (sx_ev p (sx_y 0)).toNat = sy_r w2 95 r := fun p p0 => by rw [sx_y_ev, p0, ert]
    by_cases d3 : sy_r w2 95 r ≤ xi.toInt
    · refine ng_go (J := sx_tt) (fx_p [R, xi.toInt, sy_r w2 95 r]) rm_s_ok rfl ⟨(show 0 ≤ R by omega), (show R ≤ 1909 by omega), (show 0 ≤ xi.toInt by omega), ri.2, b1, b2, trivial⟩ ⟨by show 0 + (-1 * xi.toInt + (1 * sy_r w2 95 r + 0)) ≤ 0; omega, trivial⟩ ⟨c0, ng_iy c3 rfl, trivial⟩ ⟨by show y.toInt = sx_ev _ (sx_y 0); rw [sx_y_ev, y2]; rfl, trivial⟩ ⟨by rw [o38 _ rfl, sx_y_ev]; rfl, trivial⟩ t2 sx_ctn (fun _ _ _ => trivial) ⟨fun y0 w3 t3 f3 a => none y0 w3 _ f3 a.1 (Or.inr (by rw [← e38]; exact d3)), trivial⟩ trivial
    · obtain ⟨i, ei⟩ : ∃ i : Nat, xi.toInt = (i : Int) := ⟨xi.toInt.toNat, by omega⟩
      have vb := sy_rb w2 95 (r + 1 + i)
      refine ng_go (J := sx_tt) (fx_p [R, xi.toInt, sy_r w2 95 r, sy_r w2 95 (r + 1 + i)]) rm_v_ok rfl ⟨(show 0 ≤ R by omega), (show R ≤ 1909 by omega), (show 0 ≤ xi.toInt by omega), (show xi.toInt ≤ 11 by omega), b1, b2, vb.1, vb.2, trivial⟩ ⟨by show 1 + (1 * xi.toInt + (-1 * sy_r w2 95 r + 0)) ≤ 0; omega, trivial⟩ ⟨c0, ng_iy c3 rfl, trivial⟩ ⟨by show y.toInt = sx_ev _ (sx_y 0); rw [sx_y_ev, y2]; rfl, trivial⟩ ⟨by rw [o38 _ rfl, sx_y_ev]; rfl, by rw [sx_y_ev]; show sy_r w2 95 (1 + (1 * R + (1 * xi.toInt + 0))).toNat = sy_r w2 95 (r + 1 + i); rw [show (1 + (1 * R + (1 * xi.toInt + 0))).toNat = r + 1 + i by omega], trivial⟩ t2 sx_ctn (fun _ _ _ => trivial) ⟨fun y0 w3 t3 f3 a => ?_, trivial⟩ trivial
      obtain ⟨z, z1, z2⟩ := a.1
      have z2 : z.toInt = sy_r w2 95 (r + 1 + i) := z2.trans (sx_y_ev _ _)
      refine ⟨⟨z, z1, Or.inr ⟨hb, ?_⟩⟩, fr_cat f12 f3⟩
      rw [z2, ng_nil f12]
      unfold rw_X
      rw [if_neg (by rw [← e38]; omega), ert, ei, Int.toNat_natCast]
  obtain ⟨res, k1, k2⟩ := key
  exact ⟨res, go_cl (j := 217) (n := 3) (as := [.ref 94, .int xf, .int xk]) (r := some (.int y)) (st' := [.int y]) (cs' := 0) (ss' := 0) (k1 := 10) rfl rfl rfl rfl rfl rfl rfl g2 k1, k2⟩
