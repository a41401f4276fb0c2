/-! addFiled, addFlown, toldOf of the class; file and fly, exactly -/
noncomputable def ad_0 : Bool := (List.range 30).all fun f => ng_chk [(30, (f : Int), (f : Int)), (31, (f : Int), (f : Int))] [] [] 9 86 pm_86 0 [(0, 11), sy_full, (0, 3)] [] [(0, .inr (.inr 29)), (1, fx_i 0), (2, fx_i 1), (3, .inr (.inr 89)), (4, fx_i 2)] [] [sh_o 29 0 (fx_k f)] [] [(40, (ng_L [(0, .inr (.inr 29)), (5, fx_k f)], [fx_i 2, .inr (.inr 89), fx_k f, .inr (.inr 29)], [sh_o 30 f (fx_i 0), sh_o 31 f (fx_i 1)], [], []))] 6000
noncomputable def ad_1 : Bool := ng_chk [(29, 0, 0)] [] [] 9 86 pm_86 43 [(0, 29)] [] [(0, .inr (.inr 29)), (5, fx_i 0)] [] [sh_o 29 0 (fx_i 0)] [(.inl (.inl (fx_i 0)), [sh_o 29 0 (.inl (.inl (1, [(0, 1)])))], [], [])] [] 6000
theorem ad_0_ok : ad_0 = true := by decide +kernel
theorem ad_1_ok : ad_1 = true := by decide +kernel
noncomputable def ad_A (f : Nat) : sx_A := [(30, (f : Int), (f : Int)), (31, (f : Int), (f : Int)), (38, (f : Int), (f : Int)), (39, 0, 839), (29, 0, 0)]
noncomputable def ad_E (w : pq_W) (p d : Int) (s f n q : Nat) (w1 : pq_W) : Prop := sx_Ty sx_T0 w1 ∧ sx_Fr (ad_A f) w w1 ∧ sy_r w1 29 0 = (f : Int) + 1 ∧ sy_r w1 30 f = p ∧ sy_r w1 31 f = d ∧ sy_r w1 38 f = (n : Int) ∧ sy_r w1 39 q = kr_N (sy_r w 39) (fun k => sy_r w 91 (24 * s + k)) (12 * f) n q
theorem ad_ok {xp xd xs : Int32} {w : pq_W} {s f n q : Nat} (hp : 0 ≤ xp.toInt ∧ xp.toInt ≤ 11) (hf : f < 30) (ef : sy_r w 29 0 = (f : Int)) (hs : s < 4) (es : xs.toInt = (s : Int)) (hn : n ≤ 12) (en : sy_r w 92 s = (n : Int)) (hq : q < 840) (ht : sx_Ty sx_T0 w) : ∃ res, pq_Ru 10 86 [.ref 29, .int xp, .int xd, .ref 89, .int xs] w res ∧ (∃ y : Int32, res.1 = some (.int y) ∧ y.toInt = (f : Int)) ∧ ad_E w xp.toInt xd.toInt s f n q res.2 := by
  have rd := sh_i32 xd
  have main : ∃ res, pq_Go 9 pm_86 0 (lv_args 0 [.ref 29, .int xp, .int xd, .ref 89, .int xs]) [] w 0 0 res ∧ ((∃ y : Int32, res.1 = some (.int y) ∧ y.toInt = (f : Int)) ∧ ad_E w xp.toInt xd.toInt s f n q res.2) := by
    refine ng_go (J := sx_tt) (fx_p [xp.toInt, xd.toInt, (s : Int)]) (List.all_eq_true.mp ad_0_ok f (List.mem_range.mpr hf)) rfl ⟨hp.1, hp.2, rd.1, rd.2, (show (0 : Int) ≤ s by omega), (show (s : Int) ≤ 3 by omega), trivial⟩ trivial ⟨rfl, ng_iy ⟨xp, rfl, rfl⟩ rfl, ng_iy ⟨xd, rfl, rfl⟩ rfl, rfl, ng_iy ⟨xs, rfl, rfl⟩ es.symm, trivial⟩ trivial (sh_eo (n := 0) (by rw [ng_ek]; exact ef) rfl trivial) ht sx_ctn (fun _ _ _ => trivial) trivial ⟨fun ls st w1 t1 f1 al => ?_, trivial⟩
    obtain ⟨⟨c0, c5, _⟩, q0, o, _⟩ := al
    obtain ⟨x1, s1, rfl, z1, q1⟩ := vo_si q0
    obtain ⟨s2, rfl, q2⟩ := vo_sr q1
    obtain ⟨x3, s3, rfl, z3, q3⟩ := vo_sk q2
    obtain ⟨s4, rfl, q4⟩ := vo_sr q3
    cases vo_s0 q4
    have z1 : x1.toInt = (s : Int) := z1
    obtain ⟨o1, o⟩ := sh_oe (n := f) o rfl
    obtain ⟨o2, _⟩ := sh_oe (n := f) o rfl
    rw [sx_y_ev] at o1 o2
    have o1 : sy_r w1 30 f = xp.toInt := o1
    have o2 : sy_r w1 31 f = xd.toInt := o2
    have f1 : sx_Fr [(30, (f : Int), (f : Int)), (31, (f : Int), (f : Int))] w w1 := f1
    obtain ⟨⟨r2, w2⟩, g2, k1, k2, k3, k4, k5⟩ := kr_ok (w := w1) (r := f) (s := s) (n := n) (q := q) (xr := x3) (xs := x1) (by omega) z3 hs z1 hn (by rw [fr_no f1 ⟨Or.inl (by decide), Or.inl (by decide), trivial⟩]; exact en) hq t1
    have k1 : r2 = none := k1
    subst k1
    have k2 : sx_Ty sx_T0 w2 := k2
    have k3 : sx_Fr [(38, (f : Int), (f : Int)), (39, 0, 839)] w1 w2 := k3
    have k4 : sy_r w2 38 f = (n : Int) := k4
    have k5 : sy_r w2 39 q = kr_N (sy_r w1 39) (fun k => sy_r w1 91 (24 * s + k)) (12 * f) n q := k5
    have e29 : sy_r w2 29 0 = (f : Int) := by rw [fr_no k3 ⟨Or.inl (by decide), Or.inl (by decide), trivial⟩, fr_no f1 ⟨Or.inl (by decide), Or.inl (by decide), trivial⟩]; exact ef
    have back : ∃ res, pq_Go 9 pm_86 43 ls [] w2 0 0 res ∧ ((∃ y : Int32, res.1 = some (.int y) ∧ y.toInt = (f : Int)) ∧ ad_E w xp.toInt xd.toInt s f n q res.2) := by
      refine ng_go (J := sx_tt) (fx_p [(f : Int)]) ad_1_ok rfl ⟨(show (0 : Int) ≤ f by omega), (show (f : Int) ≤ 29 by omega), trivial⟩ trivial ⟨c0, ng_iy (ng_ki c5 rfl) rfl, trivial⟩ trivial (sh_eo (n := 0) (by rw [sx_y_ev]; exact e29) rfl trivial) k2 sx_ctn (fun _ _ _ => trivial) ⟨fun y w3 t3 f3 a => ?_, trivial⟩ trivial
      obtain ⟨⟨z, y1, y2⟩, o3, _⟩ := a
      obtain ⟨o3, _⟩ := sh_oe (n := 0) o3 rfl
      have o3 : sy_r w3 29 0 = 1 + (1 * (f : Int) + 0) := o3
      have f3 : sx_Fr [(29, 0, 0)] w2 w3 := f3
      refine ⟨⟨z, y1, y2.trans (sx_y_ev _ _)⟩, t3, fr_cat (fr_cat f1 k3) f3, ?_, ?_, ?_, ?_, ?_⟩
      · show sy_r w3 29 0 = _
        omega
      · show sy_r w3 30 f = _
        rw [fr_no f3 ⟨Or.inl (by decide), trivial⟩, fr_no k3 ⟨Or.inl (by decide), Or.inl (by decide), trivial⟩, o1]
      · show sy_r w3 31 f = _
        rw [fr_no f3 ⟨Or.inl (by decide), trivial⟩, fr_no k3 ⟨Or.inl (by decide), Or.inl (by decide), trivial⟩, o2]
      · show sy_r w3 38 f = _
        rw [fr_no f3 ⟨Or.inl (by decide), trivial⟩, k4]
      · show sy_r w3 39 q = _
        rw [fr_no f3 ⟨Or.inl (by decide), trivial⟩, k5, show sy_r w1 39 = sy_r w 39 from funext (fun i => fr_no f1 ⟨Or.inl (by decide), Or.inl (by decide), trivial⟩), show (fun k => sy_r w1 91 (24 * s + k)) = (fun k => sy_r w 91 (24 * s + k)) from funext (fun i => fr_no f1 ⟨Or.inl (by decide), Or.inl (by decide), trivial⟩)]
    obtain ⟨res, h1, h2⟩ := back
    exact ⟨res, go_cl (j := 87) (n := 4) (as := [.ref 29, .int x3, .ref 89, .int x1]) (r := none) (st' := []) (cs' := 0) (ss' := 0) (k1 := 6) rfl rfl rfl rfl rfl rfl rfl g2 h1, h2⟩
  obtain ⟨res, g, h⟩ := main
  exact ⟨res, ru_of (k := 9) (M := pm_86) rfl (by rw [Bool.and_eq_true]; exact ⟨rfl, sq_rcv ht rfl rfl rfl⟩) g, h⟩
-- addFlown
noncomputable def af_0 : Bool := (List.range 40).all fun t => ng_chk [(36, (t : Int), (t : Int)), (37, (t : Int), (t : Int))] [] [] 9 90 pm_90 0 [(0, 29), sy_full, (0, 3)] [] [(0, .inr (.inr 29)), (1, fx_i 0), (2, fx_i 1), (3, .inr (.inr 89)), (4, fx_i 2)] [] [sh_o 29 7 (fx_k t)] [] [(47, (ng_L [(0, .inr (.inr 29))], [fx_i 2, .inr (.inr 89), fx_k (30 + t), .inr (.inr 29)], [sh_o 36 t (fx_i 0), sh_o 37 t (fx_i 1)], [], []))] 6000
noncomputable def af_1 : Bool := ng_chk [(29, 7, 7)] [] [] 9 90 pm_90 50 [(0, 39)] [] [(0, .inr (.inr 29))] [] [sh_o 29 7 (fx_i 0)] [(.inr (), [sh_o 29 7 (.inl (.inl (1, [(0, 1)])))], [], [])] [] 6000
theorem af_0_ok : af_0 = true := by decide +kernel
theorem af_1_ok : af_1 = true := by decide +kernel
noncomputable def af_A (t : Nat) : sx_A := [(36, (t : Int), (t : Int)), (37, (t : Int), (t : Int)), (38, ((30 + t : Nat) : Int), ((30 + t : Nat) : Int)), (39, 0, 839), (29, 7, 7)]
noncomputable def af_E (w : pq_W) (g d : Int) (s t n q : Nat) (w1 : pq_W) : Prop := sx_Ty sx_T0 w1 ∧ sx_Fr (af_A t) w w1 ∧ sy_r w1 29 7 = (t : Int) + 1 ∧ sy_r w1 36 t = g ∧ sy_r w1 37 t = d ∧ sy_r w1 38 (30 + t) = (n : Int) ∧ sy_r w1 39 q = kr_N (sy_r w 39) (fun k => sy_r w 91 (24 * s + k)) (12 * (30 + t)) n q
theorem af_ok {xg xd xs : Int32} {w : pq_W} {s t n q : Nat} (hg : 0 ≤ xg.toInt ∧ xg.toInt ≤ 29) (hf : t < 40) (ef : sy_r w 29 7 = (t : Int)) (hs : s < 4) (es : xs.toInt = (s : Int)) (hn : n ≤ 12) (en : sy_r w 92 s = (n : Int)) (hq : q < 840) (ht : sx_Ty sx_T0 w) : ∃ res, pq_Ru 10 90 [.ref 29, .int xg, .int xd, .ref 89, .int xs] w res ∧ res.1 = none ∧ af_E w xg.toInt xd.toInt s t n q res.2 := by
  have rd := sh_i32 xd
  have main : ∃ res, pq_Go 9 pm_90 0 (lv_args 0 [.ref 29, .int xg, .int xd, .ref 89, .int xs]) [] w 0 0 res ∧ (res.1 = none ∧ af_E w xg.toInt xd.toInt s t n q res.2) := by
    refine ng_go (J := sx_tt) (fx_p [xg.toInt, xd.toInt, (s : Int)]) (List.all_eq_true.mp af_0_ok t (List.mem_range.mpr hf)) rfl ⟨hg.1, hg.2, rd.1, rd.2, (show (0 : Int) ≤ s by omega), (show (s : Int) ≤ 3 by omega), trivial⟩ trivial ⟨rfl, ng_iy ⟨xg, rfl, rfl⟩ rfl, ng_iy ⟨xd, rfl, rfl⟩ rfl, rfl, ng_iy ⟨xs, rfl, rfl⟩ es.symm, trivial⟩ trivial (sh_eo (n := 7) (by rw [ng_ek]; exact ef) rfl trivial) ht sx_ctn (fun _ _ _ => trivial) trivial ⟨fun ls st w1 t1 f1 al => ?_, trivial⟩
    obtain ⟨⟨c0, _⟩, q0, o, _⟩ := al
    obtain ⟨x1, s1, rfl, z1, q1⟩ := vo_si q0
    obtain ⟨s2, rfl, q2⟩ := vo_sr q1
    obtain ⟨x3, s3, rfl, z3, q3⟩ := vo_sk q2
    obtain ⟨s4, rfl, q4⟩ := vo_sr q3
    cases vo_s0 q4
    have z1 : x1.toInt = (s : Int) := z1
    obtain ⟨o1, o⟩ := sh_oe (n := t) o rfl
    obtain ⟨o2, _⟩ := sh_oe (n := t) o rfl
    rw [sx_y_ev] at o1 o2
    have o1 : sy_r w1 36 t = xg.toInt := o1
    have o2 : sy_r w1 37 t = xd.toInt := o2
    have f1 : sx_Fr [(36, (t : Int), (t : Int)), (37, (t : Int), (t : Int))] w w1 := f1
    obtain ⟨⟨r2, w2⟩, g2, k1, k2, k3, k4, k5⟩ := kr_ok (w := w1) (r := 30 + t) (s := s) (n := n) (q := q) (xr := x3) (xs := x1) (by omega) (z3.trans (by omega)) hs z1 hn (by rw [fr_no f1 ⟨Or.inl (by decide), Or.inl (by decide), trivial⟩]; exact en) hq t1
    have k1 : r2 = none := k1
    subst k1
    have k2 : sx_Ty sx_T0 w2 := k2
    have k3 : sx_Fr [(38, ((30 + t : Nat) : Int), ((30 + t : Nat) : Int)), (39, 0, 839)] w1 w2 := k3
    have k4 : sy_r w2 38 (30 + t) = (n : Int) := k4
    have k5 : sy_r w2 39 q = kr_N (sy_r w1 39) (fun k => sy_r w1 91 (24 * s + k)) (12 * (30 + t)) n q := k5
    have e29 : sy_r w2 29 7 = (t : Int) := by rw [fr_no k3 ⟨Or.inl (by decide), Or.inl (by decide), trivial⟩, fr_no f1 ⟨Or.inl (by decide), Or.inl (by decide), trivial⟩]; exact ef
    have back : ∃ res, pq_Go 9 pm_90 50 ls [] w2 0 0 res ∧ (res.1 = none ∧ af_E w xg.toInt xd.toInt s t n q res.2) := by
      refine ng_go (J := sx_tt) (fx_p [(t : Int)]) af_1_ok rfl ⟨(show (0 : Int) ≤ t by omega), (show (t : Int) ≤ 39 by omega), trivial⟩ trivial ⟨c0, trivial⟩ trivial (sh_eo (n := 7) (by rw [sx_y_ev]; exact e29) rfl trivial) k2 sx_ctn (fun _ _ _ => trivial) ⟨fun y w3 t3 f3 a => ?_, trivial⟩ trivial
      obtain ⟨y1, o3, _⟩ := a
      obtain ⟨o3, _⟩ := sh_oe (n := 7) o3 rfl
      have o3 : sy_r w3 29 7 = 1 + (1 * (t : Int) + 0) := o3
      have f3 : sx_Fr [(29, 7, 7)] w2 w3 := f3
      refine ⟨y1, t3, fr_cat (fr_cat f1 k3) f3, ?_, ?_, ?_, ?_, ?_⟩
      · show sy_r w3 29 7 = _
        omega
      · show sy_r w3 36 t = _
        rw [fr_no f3 ⟨Or.inl (by decide), trivial⟩, fr_no k3 ⟨Or.inl (by decide), Or.inl (by decide), trivial⟩, o1]
      · show sy_r w3 37 t = _
        rw [fr_no f3 ⟨Or.inl (by decide), trivial⟩, fr_no k3 ⟨Or.inl (by decide), Or.inl (by decide), trivial⟩, o2]
      · show sy_r w3 38 (30 + t) = _
        rw [fr_no f3 ⟨Or.inl (by decide), trivial⟩, k4]
      · show sy_r w3 39 q = _
        rw [fr_no f3 ⟨Or.inl (by decide), trivial⟩, k5, show sy_r w1 39 = sy_r w 39 from funext (fun i => fr_no f1 ⟨Or.inl (by decide), Or.inl (by decide), trivial⟩), show (fun k => sy_r w1 91 (24 * s + k)) = (fun k => sy_r w 91 (24 * s + k)) from funext (fun i => fr_no f1 ⟨Or.inl (by decide), Or.inl (by decide), trivial⟩)]
    obtain ⟨res, h1, h2⟩ := back
    exact ⟨res, go_cl (j := 87) (n := 4) (as := [.ref 29, .int x3, .ref 89, .int x1]) (r := none) (st' := []) (cs' := 0) (ss' := 0) (k1 := 6) rfl rfl rfl rfl rfl rfl rfl g2 h1, h2⟩
  obtain ⟨res, g, h⟩ := main
  exact ⟨res, ru_of (k := 9) (M := pm_90) rfl (by rw [Bool.and_eq_true]; exact ⟨rfl, sq_rcv ht rfl rfl rfl⟩) g, h⟩
-- toldOf
noncomputable def tf_c (g : Nat → Int) (f : Int) : Nat → Nat
  | 0 => 0
  | t + 1 => if g t = f then tf_c g f t + 1 else tf_c g f t
theorem tf_le {g : Nat → Int} {f : Int} : ∀ t, tf_c g f t ≤ t
  | 0 => Nat.le_refl 0
  | t + 1 => by
    have h := tf_le (g := g) (f := f) t
    show (if g t = f then tf_c g f t + 1 else tf_c g f t) ≤ t + 1
    split <;> omega
theorem tf_congr {g h : Nat → Int} {f : Int} : ∀ {n : Nat}, (∀ t, t < n → g t = h t) → tf_c g f n = tf_c h f n
  | 0, _ => rfl
  | n + 1, e => by
    have ih := tf_congr (g := g) (h := h) (f := f) (n := n) (fun t ht => e t (by omega))
    show (if g n = f then tf_c g f n + 1 else tf_c g f n) = (if h n = f then tf_c h f n + 1 else tf_c h f n)
    rw [e n (by omega), ih]
-- symbols 0 flight, 1 so many, 2 told, 3 that one's flight
noncomputable def tf_sl (n k : sx_V) : List (Nat × sx_V) := [(0, .inr (.inr 29)), (1, fx_i 0), (2, n), (3, k)]
noncomputable def tf_n (c : sx_F) : Bool := (List.range 40).all fun t => ng_chk [] [] [] 5 91 pm_91 4 [(0, 29), (0, 40), (1, 40), (0, 29)] [((t : Int) + 1, [(2, -1)]), c] (tf_sl (fx_i 1) (fx_k t)) [] [sh_o 29 7 (fx_i 2), sh_o 36 t (fx_i 3)] [] [(4, (ng_L (tf_sl (fx_i 1) (fx_k (t + 1))), [], [], [], []))] 6000
noncomputable def tf_y : Bool := (List.range 40).all fun t => ng_chk [] [] [] 5 91 pm_91 4 [(0, 29), (0, 40), (1, 40)] [((t : Int) + 1, [(2, -1)])] (tf_sl (fx_i 1) (fx_k t)) [] [sh_o 29 7 (fx_i 2), sh_o 36 t (fx_i 0)] [] [(4, (ng_L (tf_sl (.inl (.inl (1, [(1, 1)]))) (fx_k (t + 1))), [], [], [], []))] 6000
noncomputable def tf_e : Bool := ng_chk [] [] [] 5 91 pm_91 4 [(0, 29), (0, 40), (0, 40)] [] (tf_sl (fx_i 1) (fx_i 2)) [] [sh_o 29 7 (fx_i 2)] [(.inl (.inl (fx_i 1)), [], [], [])] [] 6000
noncomputable def tf_s : Bool := ng_chk [] [] [] 5 91 pm_91 0 [(0, 29)] [] [(0, .inr (.inr 29)), (1, fx_i 0)] [] [] [] [(4, (ng_L (tf_sl (fx_k 0) (fx_k 0)), [], [], [], []))] 6000
theorem tf_nl : tf_n (1, [(0, -1), (3, 1)]) = true := by decide +kernel
theorem tf_ng : tf_n (1, [(0, 1), (3, -1)]) = true := by decide +kernel
theorem tf_y_ok : tf_y = true := by decide +kernel
theorem tf_e_ok : tf_e = true := by decide +kernel
theorem tf_s_ok : tf_s = true := by decide +kernel
noncomputable def tf_B (ls : pq_L) (g n k : Int) : Prop := pq_lk ls 0 = some (.ref 29) ∧ ng_i ls 1 g ∧ ng_i ls 2 n ∧ ng_i ls 3 k
noncomputable def tf_Q (w : pq_W) (g : Int) (n : Nat) (res : pq_R) : Prop := (∃ y : Int32, res.1 = some (.int y) ∧ y.toInt = (tf_c (sy_r w 36) g n : Nat)) ∧ sx_Ty sx_T0 res.2 ∧ sx_Fr [] w res.2
theorem tf_lp {w0 : pq_W} {g : Int} {n : Nat} (hg : 0 ≤ g ∧ g ≤ 29) (hn : n ≤ 40) (en : sy_r w0 29 7 = (n : Int)) : ∀ (m k : Nat), k + m = n → ∀ ls w, tf_B ls g (tf_c (sy_r w0 36) g k : Nat) k → sx_Ty sx_T0 w → sx_Fr [] w0 w → ∃ res, pq_Go 5 pm_91 4 ls [] w 0 0 res ∧ tf_Q w0 g n res := by
  intro m
  induction m with
  | zero =>
    intro k hk ls w hb ht hf
    have hk : k = n := by omega
    subst hk
    have hc := tf_le (g := sy_r w0 36) (f := g) k
    refine ng_go (J := sx_tt) (Post := tf_Q w0 g k) (fx_p [g, (tf_c (sy_r w0 36) g k : Nat), k]) tf_e_ok rfl ⟨hg.1, hg.2, (show (0 : Int) ≤ (tf_c (sy_r w0 36) g k : Nat) by omega), (show ((tf_c (sy_r w0 36) g k : Nat) : Int) ≤ 40 by omega), (show (0 : Int) ≤ k by omega), (show (k : Int) ≤ 40 by omega), trivial⟩ trivial ⟨hb.1, ng_iy hb.2.1 rfl, ng_iy hb.2.2.1 rfl, ng_iy hb.2.2.2 rfl, trivial⟩ trivial (sh_eo (n := 7) (by rw [sx_y_ev, ng_nil hf, en]; rfl) rfl trivial) ht sx_ctn (fun _ _ _ => trivial) ⟨fun y w1 t1 f1 a => ?_, trivial⟩ trivial
    obtain ⟨⟨z, y1, y2⟩, _⟩ := a
    exact ⟨⟨z, y1, y2.trans (sx_y_ev _ _)⟩, t1, sx_Fr_trans hf f1⟩
  | succ m ih =>
    intro k hk ls w hb ht hf
    have hc := tf_le (g := sy_r w0 36) (f := g) k
    have e29 : sy_r w 29 7 = (n : Int) := by rw [ng_nil hf, en]
    have e36 : sy_r w 36 k = sy_r w0 36 k := ng_nil hf 36 k
    have b36 := sy_rg (r := 36) ht rfl (g := (0, 1, 40, 0, 0, 0, 29)) (by decide) (k := k) (j := 0) (by show k < 40; omega) (Nat.le_refl _) (Nat.le_refl _) (by show 0 + 1 * k + 0 < 40; omega)
    have b36 : 0 ≤ sy_r w 36 (0 + 1 * k + 0) ∧ sy_r w 36 (0 + 1 * k + 0) ≤ 29 := b36
    rw [show 0 + 1 * k + 0 = k by omega] at b36
    have c1 : (k : Int) + 1 + (-1 * (n : Int) + 0) ≤ 0 := by omega
    have mk : k ∈ List.range 40 := List.mem_range.mpr (by omega)
    by_cases e : sy_r w0 36 k = g
    · have ec : tf_c (sy_r w0 36) g (k + 1) = tf_c (sy_r w0 36) g k + 1 := if_pos e
      refine ng_go (J := sx_tt) (Post := tf_Q w0 g n) (fx_p [g, (tf_c (sy_r w0 36) g k : Nat), n]) (List.all_eq_true.mp tf_y_ok k mk) rfl ⟨hg.1, hg.2, (show (0 : Int) ≤ (tf_c (sy_r w0 36) g k : Nat) by omega), (show ((tf_c (sy_r w0 36) g k : Nat) : Int) ≤ 40 by omega), (show (1 : Int) ≤ n by omega), (show (n : Int) ≤ 40 by omega), trivial⟩ ⟨c1, trivial⟩ ⟨hb.1, ng_iy hb.2.1 rfl, ng_iy hb.2.2.1 rfl, ng_ik hb.2.2.2 rfl, trivial⟩ trivial (sh_eo (n := 7) (by rw [sx_y_ev, e29]; rfl) rfl (sh_eo (n := k) (by rw [sx_y_ev, e36, e]; rfl) rfl trivial)) ht sx_ctn (fun _ _ _ => trivial) trivial ⟨fun ls2 st2 w2 t2 f2 a => ?_, trivial⟩
      obtain ⟨⟨d0, d1, d2, d3, _⟩, a2, _⟩ := a
      cases ng_st0 a2
      exact ih (k + 1) (by omega) ls2 w2 ⟨d0, ng_yi d1 rfl, ng_fi d2 (by show 1 + (1 * ((tf_c (sy_r w0 36) g k : Nat) : Int) + 0) = _; omega), ng_ki d3 (by omega)⟩ t2 (sx_Fr_trans hf f2)
    · have ec : tf_c (sy_r w0 36) g (k + 1) = tf_c (sy_r w0 36) g k := if_neg e
      have go1 : ∀ C : sx_F, tf_n C = true → sx_ev (fx_p [g, (tf_c (sy_r w0 36) g k : Nat), n, sy_r w 36 k]) C ≤ 0 → ∃ res, pq_Go 5 pm_91 4 ls [] w 0 0 res ∧ tf_Q w0 g n res := fun C ck hC => by
        refine ng_go (J := sx_tt) (Post := tf_Q w0 g n) (fx_p [g, (tf_c (sy_r w0 36) g k : Nat), n, sy_r w 36 k]) (List.all_eq_true.mp ck k mk) rfl ⟨hg.1, hg.2, (show (0 : Int) ≤ (tf_c (sy_r w0 36) g k : Nat) by omega), (show ((tf_c (sy_r w0 36) g k : Nat) : Int) ≤ 40 by omega), (show (1 : Int) ≤ n by omega), (show (n : Int) ≤ 40 by omega), b36.1, b36.2, trivial⟩ ⟨c1, hC, trivial⟩ ⟨hb.1, ng_iy hb.2.1 rfl, ng_iy hb.2.2.1 rfl, ng_ik hb.2.2.2 rfl, trivial⟩ trivial (sh_eo (n := 7) (by rw [sx_y_ev, e29]; rfl) rfl (sh_eo (n := k) (by rw [sx_y_ev]; rfl) rfl trivial)) ht sx_ctn (fun _ _ _ => trivial) trivial ⟨fun ls2 st2 w2 t2 f2 a => ?_, trivial⟩
        obtain ⟨⟨d0, d1, d2, d3, _⟩, a2, _⟩ := a
        cases ng_st0 a2
        exact ih (k + 1) (by omega) ls2 w2 ⟨d0, ng_yi d1 rfl, ng_yi d2 (by rw [ec]; rfl), ng_ki d3 (by omega)⟩ t2 (sx_Fr_trans hf f2)
      by_cases l : sy_r w 36 k < g
      · exact go1 _ tf_nl (by show 1 + (-1 * g + (1 * sy_r w 36 k + 0)) ≤ 0; omega)
      · exact go1 _ tf_ng (by show 1 + (1 * g + (-1 * sy_r w 36 k + 0)) ≤ 0; rw [e36] at l ⊢; omega)
theorem tf_ok {xg : Int32} {w : pq_W} {n : Nat} (hg : 0 ≤ xg.toInt ∧ xg.toInt ≤ 29) (hn : n ≤ 40) (en : sy_r w 29 7 = (n : Int)) (ht : sx_Ty sx_T0 w) : ∃ res, pq_Ru 6 91 [.ref 29, .int xg] w res ∧ tf_Q w xg.toInt n res := by
  have main : ∃ res, pq_Go 5 pm_91 0 (lv_args 0 [.ref 29, .int xg]) [] w 0 0 res ∧ tf_Q w xg.toInt n res := by
    refine ng_go (J := sx_tt) (Post := tf_Q w xg.toInt n) (fx_p [xg.toInt]) tf_s_ok rfl ⟨hg.1, hg.2, trivial⟩ trivial ⟨rfl, ng_iy ⟨xg, rfl, rfl⟩ rfl, trivial⟩ trivial trivial ht sx_ctn (fun _ _ _ => trivial) trivial ⟨fun ls2 st2 w2 t2 f2 a => ?_, trivial⟩
    obtain ⟨⟨d0, d1, d2, d3, _⟩, a2, _⟩ := a
    cases ng_st0 a2
    exact tf_lp hg hn en n 0 (by omega) ls2 w2 ⟨d0, ng_yi d1 rfl, ng_ki d2 rfl, ng_ki d3 rfl⟩ t2 f2
  obtain ⟨res, g, h⟩ := main
  exact ⟨res, ru_of (k := 5) (M := pm_91) rfl (by rw [Bool.and_eq_true]; exact ⟨rfl, sq_rcv ht rfl rfl rfl⟩) g, h⟩
