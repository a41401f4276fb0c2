/-- slots told anew -/
noncomputable def sy_sv (p p2 : Nat → Int) : sx_V → sx_V → Prop
  | .inl (.inl e), .inl (.inl f) => sx_ev p e = sx_ev p2 f
  | .inl (.inr e), .inl (.inr f) => sx_ev p e = sx_ev p2 f
  | .inr (.inr a), .inr (.inr b) => a = b
  | _, _ => False
theorem sy_svy {p p2 : Nat → Int} {e : sx_F} {n : Nat} (h : sx_ev p e = p2 n) : sy_sv p p2 (.inl (.inl e)) (.inl (.inl (sx_y n))) := by
  show sx_ev p e = sx_ev p2 (sx_y n)
  rw [sx_y_ev]
  exact h
noncomputable def sy_same (p p2 : Nat → Int) : List (Nat × sx_V) → List (Nat × sx_V) → Prop
  | [], [] => True
  | a :: r, b :: s => a.1 = b.1 ∧ sy_sv p p2 a.2 b.2 ∧ sy_same p p2 r s
  | _, _ => False
theorem sy_svt {p p2 : Nat → Int} {v u : sx_V} {x : Value} (h : sy_sv p p2 v u) (hd : sx_d p v x) : sx_d p2 u x := by
  match v, u, h, x, hd with
  | .inl (.inl e), .inl (.inl f), h, .int x, hd => exact (show x.toInt = sx_ev p e from hd).trans h
  | .inl (.inr e), .inl (.inr f), h, .long x, hd => exact (show x.toInt = sx_ev p e from hd).trans h
  | .inr (.inr a), .inr (.inr b), h, .ref x, hd => exact (show x = a from hd).trans h
theorem sy_lmt {p p2 : Nat → Int} {ls : pq_L} : ∀ {l l2 : List (Nat × sx_V)}, sx_lm p l ls → sy_same p p2 l l2 → sx_lm p2 l2 ls
  | [], [], _, _ => sy_lm0
  | a :: r, b :: s, h, hs => by
    obtain ⟨⟨x, k1, k2⟩, h⟩ := sy_lm2 h
    exact sy_lm1 ⟨x, by rw [← hs.1]; exact k1, sy_svt hs.2.1 k2⟩ (sy_lmt h hs.2.2)
  | [], _ :: _, _, hs => hs.elim
  | _ :: _, [], _, hs => hs.elim
/-! knownOn, by hand -/
noncomputable def kp_kn : sx_P := (sx_T0, [], [], [])
noncomputable def sy_full : Int × Int := (-2147483648, 2147483647)
noncomputable def iv_kn : List (Int × Int) := [(0, 0), (0, 29), sy_full, (-1, 1909), (0, 40)]
noncomputable def sl_kn (a b : sx_F) : List (Nat × sx_V) := [(0, .inr (.inr 94)), (1, .inl (.inl (sx_y 1))), (2, .inl (.inl (sx_y 2))), (3, .inl (.inl a)), (4, .inl (.inl b))]
noncomputable def al_kn : List sx_Al := [(sl_kn (sx_y 3) (1, [(4, 1)]), [], [(-39, [(4, 1)])]), (sl_kn (1324, [(4, 15)]) (1, [(4, 1)]), [], [(-39, [(4, 1)])])]
noncomputable def re_kn : List sx_Ae := [(.inl (.inl (.inl (.inl (sx_y 3)))), [], [])]
noncomputable def ss_kn : sx_S := sx_s0 9 218 pm_218 5 iv_kn [] (sl_kn (sx_y 3) (sx_y 4)) [] []
theorem ck_kn0 : sx_go kp_kn (sy_ret []) (sx_cks kp_kn (sy_ret []) (sx_stop 218 9 5 [(sl_kn (-1, []) (0, []), [], [])]) 100) [] (sx_beg kp_kn 9 218 pm_218 kk_knownOn.as [] []) = true := by decide +kernel
theorem ck_kn1 : sx_go kp_kn (sy_ret re_kn) (sx_cks kp_kn (sy_ret re_kn) (sx_stop 218 9 5 al_kn) 100) [] ss_kn = true := by decide +kernel
noncomputable def sy_fd (x : Int) : Prop := x = -1 ∨ ∃ t : Nat, t < 40 ∧ x = 1324 + 15 * (t : Int)
noncomputable def sy_pt (p : Nat → Int) (a b : Int) : Nat → Int := fun s => if s = 3 then a else if s = 4 then b else p s
theorem lp_kn : ∀ (m t : Nat), t + m = 40 → ∀ (a : Int) (p : Nat → Int) (ls : pq_L) (w : pq_W), sy_fd a → p 3 = a → p 4 = t → sx_ivs p 0 iv_kn → sx_lm p (sl_kn (sx_y 3) (sx_y 4)) ls → sx_Ty sx_T0 w → ∃ res : pq_R, pq_Go 9 pm_218 5 ls [] w 0 0 res ∧ ((∃ x : Int32, res.1 = some (.int x) ∧ sy_fd x.toInt) ∧ sx_Ty sx_T0 res.2 ∧ sx_Fr [] w res.2) := by
  intro m
  induction m with
  | zero =>
    intro t hm a p ls w hf h3 h4 hi hl ht
    refine sy_sg (S := ss_kn) (J := sx_tt) (Post := fun res => ((∃ x : Int32, res.1 = some (.int x) ∧ sy_fd x.toInt) ∧ sx_Ty sx_T0 res.2 ∧ sx_Fr [] w res.2)) ck_kn1 (sx_s0_ok (p := p) rfl hi sy_F0 hl sy_O0 ht (sx_Fr_refl _ _) rfl) sx_ctn (fun _ _ _ => trivial)
      (fun p2 r w2 e t2 f a2 => ⟨?_, t2, f⟩) (fun p2 ls2 w2 e t2 f a2 => ?_)
    · have a2 := (sy_one a2).1
      match r, a2 with
      | some (.int y), a2 =>
        have a2 : y.toInt = sx_ev p2 (sx_y 3) := a2
        exact ⟨y, rfl, by rw [a2, sx_y_ev, e 3 (by decide), h3]; exact hf⟩
    · exfalso
      obtain ⟨z, hz, _, _, hq⟩ := a2
      have e4 : p2 4 = t := by rw [e 4 (by decide), h4]
      have : sx_ev p2 (-39, [(4, 1)]) ≤ 0 := by
        rcases List.mem_cons.mp hz with h | h
        · rw [h] at hq; exact hq _ List.mem_cons_self
        · cases List.mem_singleton.mp h; exact hq _ List.mem_cons_self
      have : (-39 : Int) + (1 * p2 4 + 0) ≤ 0 := this
      omega
  | succ m ih =>
    intro t hm a p ls w hf h3 h4 hi hl ht
    refine sy_sg (S := ss_kn) (J := sx_tt) (Post := fun res => ((∃ x : Int32, res.1 = some (.int x) ∧ sy_fd x.toInt) ∧ sx_Ty sx_T0 res.2 ∧ sx_Fr [] w res.2)) ck_kn1 (sx_s0_ok (p := p) rfl hi sy_F0 hl sy_O0 ht (sx_Fr_refl _ _) rfl) sx_ctn (fun _ _ _ => trivial)
      (fun p2 r w2 e t2 f a2 => ⟨?_, t2, f⟩) (fun p2 ls2 w2 e t2 f a2 => ?_)
    · have a2 := (sy_one a2).1
      match r, a2 with
      | some (.int y), a2 =>
        have a2 : y.toInt = sx_ev p2 (sx_y 3) := a2
        exact ⟨y, rfl, by rw [a2, sx_y_ev, e 3 (by decide), h3]; exact hf⟩
    · have e3 : p2 3 = a := by rw [e 3 (by decide), h3]
      have e4 : p2 4 = t := by rw [e 4 (by decide), h4]
      have hi2 : sx_ivs p2 0 iv_kn := sy_ivs_agree hi (fun s hs => e s hs)
      -- on, with what was found
      have go : ∀ b : Int, sy_fd b → (-1 ≤ b ∧ b ≤ 1909) → sx_lm (sy_pt p2 b (t + 1)) (sl_kn (sx_y 3) (sx_y 4)) ls2 → ∃ res : pq_R, pq_Go 9 pm_218 5 ls2 [] w2 0 0 res ∧ ((∃ x : Int32, res.1 = some (.int x) ∧ sy_fd x.toInt) ∧ sx_Ty sx_T0 res.2 ∧ sx_Fr [] w res.2) := by
        intro b hb hr hl2
        obtain ⟨res, g1, g2, g3, g4⟩ := ih (t + 1) (by omega) b (sy_pt p2 b (t + 1)) ls2 w2 hb rfl (by show ((t : Int) + 1) = _; omega) ⟨hi2.1, hi2.2.1, hi2.2.2.1, hi2.2.2.2.1, hi2.2.2.2.2.1, hi2.2.2.2.2.2.1, hr.1, hr.2, (by show (0 : Int) ≤ t + 1; omega), (by show (t : Int) + 1 ≤ 40; omega), trivial⟩ hl2 t2
        exact ⟨res, g1, g2, g3, sx_Fr_trans f g4⟩
      have mv : ∀ (x y : sx_F) (b : Int), sx_ev p2 x = b → sx_ev p2 y = t + 1 → sx_lm p2 (sl_kn x y) ls2 → sx_lm (sy_pt p2 b (t + 1)) (sl_kn (sx_y 3) (sx_y 4)) ls2 := by
        intro x y b hx hy h
        exact sy_lmt h ⟨rfl, rfl, rfl, rfl, rfl, rfl, rfl, sy_svy hx, rfl, sy_svy hy, trivial⟩
      have ev4 : sx_ev p2 (1, [(4, 1)]) = t + 1 := by
        show (1 : Int) + (1 * p2 4 + 0) = _
        omega
      obtain ⟨z, hz, hzl, _, hq⟩ := a2
      rcases List.mem_cons.mp hz with h | h
      · rw [h] at hzl
        have b3 := hi2.2.2.2.2.2.2
        refine go a hf ⟨by rw [← e3]; exact b3.1, by rw [← e3]; exact b3.2.1⟩ (mv _ _ a ?_ ev4 hzl)
        rw [sx_y_ev, e3]
      · have h := List.mem_singleton.mp h
        rw [h] at hzl hq
        have h39 := hq _ List.mem_cons_self
        have h39 : (-39 : Int) + (1 * p2 4 + 0) ≤ 0 := h39
        refine go (1324 + 15 * (t : Int)) (Or.inr ⟨t, by omega, rfl⟩) ⟨by omega, by omega⟩ (mv _ _ _ ?_ ev4 hzl)
        show (1324 : Int) + (15 * p2 4 + 0) = _
        omega
theorem kt_knownOn : sx_Kok sx_T0 sy_J0 218 kk_knownOn := by
  intro as w ha hkn hkg ht hj
  obtain ⟨r, w1, g1, ⟨x, g2, g3⟩, g4, g5⟩ := sy_ent (P := kp_kn) (w0 := w) (J := sx_tt) (M := pm_218) (k := 9) (Post := fun res => ((∃ x : Int32, res.1 = some (.int x) ∧ sy_fd x.toInt) ∧ sx_Ty sx_T0 res.2 ∧ sx_Fr [] w res.2)) ck_kn0 sx_ctn (fun _ _ _ => trivial) rfl (by decide +kernel) ha hkn hkg ht
    (fun p r w2 e t f a => by
      obtain ⟨x, hx, _⟩ := a
      cases hx)
    (fun p ls w2 e t f a => by
      have a := (sy_one a).1
      have hi := sy_ivs_agree (p2 := p) (sy_iv_ok (n := 0) (p := sx_pv as 0) (show sx_noany kk_knownOn.as = true from rfl) ha (fun s _ => rfl)) (fun s hs => e s (by rw [Nat.zero_add, List.length_map] at hs; exact hs))
      have hl : sx_lm (sy_pt p (-1) 0) (sl_kn (sx_y 3) (sx_y 4)) ls := sy_lmt a ⟨rfl, rfl, rfl, rfl, rfl, rfl, rfl, rfl, rfl, rfl, trivial⟩
      obtain ⟨res, g1, g2, g3, g4⟩ := lp_kn 40 0 rfl (-1) (sy_pt p (-1) 0) ls w2 (Or.inl rfl) rfl rfl ⟨hi.1, hi.2.1, hi.2.2.1, hi.2.2.2.1, hi.2.2.2.2.1, hi.2.2.2.2.2.1, (by decide : (-1 : Int) ≤ -1), (by decide : (-1 : Int) ≤ 1909), (by decide : (0 : Int) ≤ 0), (by decide : (0 : Int) ≤ 40), trivial⟩ hl t
      exact ⟨res, g1, g2, g3, sx_Fr_trans f g4⟩)
  refine ⟨r, w1, g1, g4, sy_J0I w w1 hj g4 (sx_Fr_sub (by decide +kernel) g5), ?_, g5⟩
  have hjt : sy_JT w1 95 := (sy_J0I w w1 hj g4 (sx_Fr_sub (by decide +kernel) g5)).1.1
  have hr : r = some (.int x) := g2
  have g4 : sx_Ty sx_T0 w1 := g4
  rcases g3 with h | ⟨t, h1, h2⟩
  · refine ⟨_, List.mem_cons_self, sx_pv as 0, fun _ _ => rfl, trivial, ⟨_, hr, ?_⟩, sy_O0⟩
    show x.toInt = sx_ev _ (-1, [])
    rw [h]
    rfl
  · have z := (sy_z95 g4).1 t h1
    have y := hjt t h1
    refine ⟨_, List.mem_cons_of_mem _ List.mem_cons_self, fun s => if s = 3 then (t : Int) else if s = 4 then sy_r w1 95 (1324 + 15 * t) else if s = 5 then sy_r w1 95 (1324 + 15 * t + (sy_r w1 95 (1324 + 15 * t)).toNat) else sx_pv as 0 s, fun s hs => ?_, ⟨?_, ?_, z.1, z.2, y.1, y.2, trivial⟩, ⟨_, hr, ?_⟩, sy_O1 ?_ (sy_O1 ?_ sy_O0)⟩
    · have hs : s < 3 := hs
      show (if s = 3 then (t : Int) else if s = 4 then _ else if s = 5 then _ else _) = _
      rw [if_neg (by omega), if_neg (by omega), if_neg (by omega)]
    · show (0 : Int) ≤ t
      omega
    · show (t : Int) ≤ 39
      omega
    · show x.toInt = 1324 + (15 * (t : Int) + 0)
      omega
    · refine sy_Oat (i := 1324 + 15 * t) g4 rfl (by omega) ?_ ?_
      · show ((1324 + 15 * t : Nat) : Int) = 1324 + (15 * (t : Int) + 0)
        omega
      · show sy_r w1 95 (1324 + 15 * t) = 0 + (1 * sy_r w1 95 (1324 + 15 * t) + 0)
        omega
    · refine sy_Oat (i := 1324 + 15 * t + (sy_r w1 95 (1324 + 15 * t)).toNat) g4 rfl (by omega) ?_ ?_
      · show ((1324 + 15 * t + (sy_r w1 95 (1324 + 15 * t)).toNat : Nat) : Int) = 1324 + (15 * (t : Int) + (1 * sy_r w1 95 (1324 + 15 * t) + 0))
        omega
      · show sy_r w1 95 (1324 + 15 * t + (sy_r w1 95 (1324 + 15 * t)).toNat) = 0 + (1 * sy_r w1 95 (1324 + 15 * t + (sy_r w1 95 (1324 + 15 * t)).toNat) + 0)
        omega
/-! worked, by hand -/
noncomputable def kp_wk : sx_P := (sx_T0, [(105, 0, 100000)], [], [(187, [(4, ([(2, false, (-2147483648), 2147483647), (3, false, 0, 3000)], [], true, [], 3, true))])])
noncomputable def iv_wk (lo : Int) (c : Int × Int) : List (Int × Int) := [(0, 0), (0, 11), (0, 11), (-1, 29), (-1, 7), (lo, 70), (0, 70), (0, 70), c]
noncomputable def sl_wk (a b : sx_F) : List (Nat × sx_V) := [(0, .inr (.inr 94)), (1, .inl (.inl (sx_y 1))), (2, .inl (.inl (sx_y 2))), (3, .inl (.inl (sx_y 3))), (4, .inl (.inl (sx_y 4))), (5, .inl (.inl (1922, [(1, 73)]))), (6, .inl (.inl a)), (7, .inl (.inl b))]
noncomputable def O_wk : sx_O := [(95, (1924, [(1, 73)]), .inl (.inl (sx_y 7))), (95, (1925, [(1, 73), (6, 1)]), .inl (.inl (sx_y 8)))]
noncomputable def ss_wk (lo : Int) (c : Int × Int) (C : List sx_F) (O : sx_O) : sx_S := sx_s0 59 185 pm_185 16 (iv_wk lo c) C (sl_wk (sx_y 5) (sx_y 6)) O []
noncomputable def al_wk (d : Int) : List sx_Al := [(sl_wk (d, [(5, 1)]) (1, [(6, 1)]), [], [])]
noncomputable def re_wk : List sx_Ae := [(.inl (.inr (-2147483648, 2147483647)), [], [])]
/-- k is below the size; k is not -/
noncomputable def C_wk : List sx_F := [(1, [(6, 1), (7, -1)])]
noncomputable def D_wk : List sx_F := [(0, [(6, -1), (7, 1)])]
theorem ck_wk0 : sx_go kp_wk (sy_ret []) (sx_cks kp_wk (sy_ret []) (sx_stop 185 59 16 [(sl_wk (0, []) (0, []), [], [])]) 100) [] (sx_beg kp_wk 59 185 pm_185 kk_worked.as [] []) = true := by decide +kernel
theorem ck_wk9 : sx_go kp_wk (sy_ret re_wk) (sx_cks kp_wk (sy_ret re_wk) (sx_stop 185 59 16 []) 100) [] (ss_wk 0 sy_full D_wk [(95, (1924, [(1, 73)]), .inl (.inl (sx_y 7)))]) = true := by decide +kernel
theorem ck_wk1 : sx_go kp_wk (sy_ret []) (sx_cks kp_wk (sy_ret []) (sx_stop 185 59 16 (al_wk 1)) 400) [] (ss_wk 0 (-2147483648, 19999) (C_wk ++ [(0, [(5, 1), (6, -1)])]) O_wk) = true := by decide +kernel
theorem ck_wk2 : sx_go kp_wk (sy_ret []) (sx_cks kp_wk (sy_ret []) (sx_stop 185 59 16 (al_wk 0)) 400) [] (ss_wk 1 (20009, 20009) C_wk O_wk) = true := by decide +kernel
theorem ck_wk3 : sx_go kp_wk (sy_ret []) (sx_cks kp_wk (sy_ret []) (sx_stop 185 59 16 (al_wk (-1))) 400) [] (ss_wk 2 (20000, 20008) C_wk O_wk) = true := by decide +kernel
theorem ck_wk4 : sx_go kp_wk (sy_ret []) (sx_cks kp_wk (sy_ret []) (sx_stop 185 59 16 (al_wk (-1))) 400) [] (ss_wk 2 (20010, 2147483647) C_wk O_wk) = true := by decide +kernel
