theorem fx_rng3 {w0 w w2 : pq_W} (h : sx_Fr fx_A w0 w) (f : sx_Fr fx_A3 w w2) : sx_Fr fx_A w0 w2 := sx_Fr_trans h (sx_Fr_sub rfl f)
theorem fx_eqR3 {w w2 : pq_W} (f : sx_Fr fx_A3 w w2) : (fx_R w → fx_R w2) ∧ fx_ph w2 = fx_ph w ∧ ∀ c d, fx_rel w2 c d → fx_rel w c d := fx_eqR (fx_fr3 f (by decide)) (fx_fr3 f (by decide)) (fx_fr3 f (by decide)) (fx_fr3 f (by decide))
noncomputable def fx_Post (w0 : pq_W) (res : pq_R) : Prop := sx_rtm (some (.inl (-1, 63))) res.1 ∧ sx_Ty sx_T0 res.2 ∧ sx_Fr fx_A w0 res.2
theorem fx_find {w0 : pq_W} {a k c ds : Nat} (ha : a < 64) (hk : k ≤ 62) (hc : c < 64) (hs : ds < 64) {Na Nc : Int} (K : ∀ ls w (d : Nat), d < 64 → sx_lm (fx_p [a, k + 1]) (fx_l5 (fx_i 1)) ls → sx_Ty sx_T0 w → fx_R w → (∀ x y, x < 64 → y < 64 → ¬ fx_rel w x y) → sx_Fr fx_A w0 w → sy_r w 112 (k + 1) = d → sy_r w 109 d < 100000000 → sy_r w 110 d + 1 = sy_r w 110 c → sy_r w 110 a = Na ∧ sy_r w 110 c = Nc → ∃ res, pq_Go 119 pm_232 323 ls [] w 0 0 res ∧ fx_Post w0 res) : ∀ n d : Nat, d + n = ds → ∀ ls w, fx_gd w c ds → sx_lm (fx_p [a, k, c, d]) (fx_l6 (fx_i 1) (fx_i 2) (fx_i 3)) ls → sx_Ty sx_T0 w → fx_R w → (∀ x y, x < 64 → y < 64 → ¬ fx_rel w x y) → sx_Fr fx_A w0 w → sy_r w 110 a = Na ∧ sy_r w 110 c = Nc → ∃ res, pq_Go 119 pm_232 346 ls [] w 0 0 res ∧ fx_Post w0 res := by
  intro n
  induction n with
  | zero =>
    intro d hd ls w hg hl ht hR hx hF hN
    have e : d = ds := by omega
    subst e
    refine fx_find1 ha hk hc hs ht hR hl (fun ls2 w2 h1 h2 h3 h4 => absurd hg h4) (fun ls2 w2 h1 h2 h3 h4 h5 => ?_)
    obtain ⟨a1, a2, a3⟩ := fx_eqR3 h3
    have s109 : sy_r w2 109 = sy_r w 109 := fx_fr3 h3 (by decide)
    have s110 : sy_r w2 110 = sy_r w 110 := fx_fr3 h3 (by decide)
    exact K ls2 w2 d hs h1 h2 (a1 hR) (fun x y k1 k2 k3 => hx x y k1 k2 (a3 x y k3)) (fx_rng3 hF h3) h4 (by rw [s109]; exact h5.2.1) (by rw [s110]; exact h5.2.2.1) (by rw [s110]; exact hN)
  | succ n ih =>
    intro d hd ls w hg hl ht hR hx hF hN
    refine fx_find1 ha hk hc (by omega) ht hR hl (fun ls2 w2 h1 h2 h3 h4 => ?_) (fun ls2 w2 h1 h2 h3 h4 h5 => ?_)
    · obtain ⟨a1, a2, a3⟩ := fx_eqR3 h3
      have s109 : sy_r w2 109 = sy_r w 109 := fx_fr3 h3 (by decide)
      have s110 : sy_r w2 110 = sy_r w 110 := fx_fr3 h3 (by decide)
      have s111 : sy_r w2 111 = sy_r w 111 := fx_fr3 h3 (by decide)
      have s95 : sy_r w2 95 = sy_r w 95 := fx_fr3 h3 (by decide)
      refine ih (d + 1) (by omega) ls2 w2 ?_ h1 h2 (a1 hR) (fun x y k1 k2 k3 => hx x y k1 k2 (a3 x y k3)) (fx_rng3 hF h3) ?_
      · unfold fx_gd fx_cand at *
        rw [s109, s110, s111, s95]
        exact hg
      · rw [s110]; exact hN
    · obtain ⟨a1, a2, a3⟩ := fx_eqR3 h3
      have s109 : sy_r w2 109 = sy_r w 109 := fx_fr3 h3 (by decide)
      have s110 : sy_r w2 110 = sy_r w 110 := fx_fr3 h3 (by decide)
      exact K ls2 w2 d (by omega) h1 h2 (a1 hR) (fun x y k1 k2 k3 => hx x y k1 k2 (a3 x y k3)) (fx_rng3 hF h3) h4 (by rw [s109]; exact h5.2.1) (by rw [s110]; exact h5.2.2.1) (by rw [s110]; exact hN)
theorem fx_way {w0 : pq_W} {a : Nat} (ha : a < 64) : ∀ n k : Nat, ∀ ls w (c : Nat), ((k : Int) + n = sy_r w 110 a) → c < 64 → sy_r w 112 k = (c : Nat) → sy_r w 109 c < 100000000 → sy_r w 110 c = n → sx_lm (fx_p [a, k]) (fx_l5 (fx_i 1)) ls → sx_Ty sx_T0 w → fx_R w → (∀ x y, x < 64 → y < 64 → ¬ fx_rel w x y) → sx_Fr fx_A w0 w → ∃ res, pq_Go 119 pm_232 323 ls [] w 0 0 res ∧ fx_Post w0 res := by
  intro n
  induction n with
  | zero =>
    intro k ls w c hn hc hw hf hs hl ht hR hx hF
    have Sa := fw_steps hR.2 ha
    refine sq_sg (P := fx_P3) (S := sq_s0 119 232 pm_232 323 [(0, 63), (0, 63)] [] (fx_l5 (fx_i 1)) [] [(110, (0, [(0, 1)]), fx_i 1)] []) (J := sx_tt) (w0 := w) (p0 := fx_p [a, k]) (Post := fx_Post w0) fx_w2 (sq_s0_ok rfl ⟨(show (0 : Int) ≤ a by omega), (show (a : Int) ≤ 63 by omega), (show (0 : Int) ≤ k by omega), (show (k : Int) ≤ 63 by omega), trivial⟩ sy_F0 hl trivial (sy_O1 (sy_Oat (i := a) ht rfl ha (by show (a : Int) = 0 + (1 * (a : Int) + 0); omega) (by show sy_r w 110 a = 0 + (1 * (k : Int) + 0); omega)) sy_O0) ht (sx_Fr_refl _ _) rfl) sx_ctn (fun _ _ _ => trivial)
      (fun p r w2 e t f al => ?_)
      (fun h hh a2 ha2 p ls2 st w2 e t f hq => by cases hh)
    have al := (sy_one al).1
    match r, al with
    | some (.int y), al =>
      have al : y.toInt = sx_ev p (sx_y 1) := al
      rw [sx_y_ev, e 1 (by show 1 < 2; decide)] at al
      have al : y.toInt = k := al
      exact ⟨⟨by rw [al]; omega, by rw [al]; omega⟩, t, fx_rng3 hF f⟩
  | succ n ih =>
    intro k ls w c hn hc hw hf hs hl ht hR hx hF
    have Sa := fw_steps hR.2 ha
    have Sc := fw_steps hR.2 hc
    obtain ⟨ds, d1, d2, d3, d4, d5⟩ := fw_fix (fun x hx => (hR.1 x hx).1) (fx_fuel ht).1 hR.2 (fun x y k1 k2 k3 k4 k5 k6 => hx x y k1 k2 ⟨k3, k4, k5, k6⟩) hc hf (by omega)
    refine sq_sg (P := fx_P3) (S := sq_s0 119 232 pm_232 323 [(0, 63), (0, 62), (0, 63), (0, 63)] [(1, [(1, 1), (2, -1)])] (fx_l5 (fx_i 1)) [] [(110, (0, [(0, 1)]), fx_i 2), (112, (0, [(1, 1)]), fx_i 3)] []) (J := sx_tt) (w0 := w) (p0 := fx_p [a, k, sy_r w 110 a, c]) (Post := fx_Post w0) fx_w3 (sq_s0_ok rfl ⟨(show (0 : Int) ≤ a by omega), (show (a : Int) ≤ 63 by omega), (show (0 : Int) ≤ k by omega), (show (k : Int) ≤ 62 by omega), Sa.1, Sa.2.1, (show (0 : Int) ≤ c by omega), (show (c : Int) ≤ 63 by omega), trivial⟩ (fun q hq => by
        cases List.mem_singleton.mp hq
        show 1 + (1 * (k : Int) + (-1 * sy_r w 110 a + 0)) ≤ 0
        omega) (sy_lmt hl ⟨rfl, rfl, rfl, rfl, rfl, rfl, trivial⟩) trivial (sy_O1 (sy_Oat (i := a) ht rfl ha (by show (a : Int) = 0 + (1 * (a : Int) + 0); omega) (by show sy_r w 110 a = 0 + (1 * sy_r w 110 a + 0); omega)) (sy_O1 (sy_Oat (i := k) ht rfl (by omega) (by show (k : Int) = 0 + (1 * (k : Int) + 0); omega) (by show sy_r w 112 k = 0 + (1 * (c : Int) + 0); omega)) sy_O0)) ht (sx_Fr_refl _ _) rfl) sx_ctn (fun _ _ _ => trivial)
      (fun p r w2 e t f a => by
        obtain ⟨x, hx, _⟩ := a
        cases hx)
      (fun h hh a2 ha2 p ls2 st w2 e t f hq => ?_)
    cases List.mem_singleton.mp hh
    cases List.mem_singleton.mp ha2
    obtain ⟨q1, q2, _, _, _⟩ := hq
    have q1 := fx_back (n := 4) e rfl q1
    match st, q2 with
    | [], _ =>
      have f : sx_Fr fx_A3 w w2 := f
      obtain ⟨a1, a2, a3⟩ := fx_eqR3 f
      have s109 : sy_r w2 109 = sy_r w 109 := fx_fr3 f (by decide)
      have s110 : sy_r w2 110 = sy_r w 110 := fx_fr3 f (by decide)
      have s111 : sy_r w2 111 = sy_r w 111 := fx_fr3 f (by decide)
      have s95 : sy_r w2 95 = sy_r w 95 := fx_fr3 f (by decide)
      refine fx_find (w0 := w0) (ds := ds) ha (show k ≤ 62 by omega) hc d1 (fun ls3 w3 d k1 k2 k3 k4 k5 k6 k7 k8 k9 kN => ?_) ds 0 (by omega) ls2 w2 ?_ (sy_lmt q1 ⟨rfl, rfl, rfl, rfl, rfl, rfl, rfl, rfl, rfl, sy_svy rfl, trivial⟩) t (a1 hR) (fun x y z1 z2 z3 => hx x y z1 z2 (a3 x y z3)) (fx_rng3 hF f) (by rw [s110]; exact ⟨rfl, hs⟩)
      · exact ih (k + 1) ls3 w3 d (by rw [kN.1]; omega) k1 k7 k8 (by omega) k2 k3 k4 k5 k6
      · unfold fx_gd fx_cand
        rw [s109, s110, s111, s95]
        exact ⟨d2, d3, d4, d5⟩
