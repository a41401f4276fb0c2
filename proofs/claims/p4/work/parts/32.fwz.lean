theorem fx_299 {w0 : pq_W} {a : Nat} (ha : a < 64) {ls : pq_L} {w : pq_W} (hl : sx_lm (fx_p [a]) [(0, fx_r), (2, fx_i 0)] ls) (ht : sx_Ty sx_T0 w) (hR : fx_R w) (hF : sx_Fr fx_A w0 w) (hx : ∀ x y, x < 64 → y < 64 → ¬ fx_rel w x y) : ∃ res, pq_Go 119 pm_232 299 ls [] w 0 0 res ∧ fx_Post w0 res := by
  have Sa := fw_steps hR.2 ha
  have Sb : sy_r w 109 a ≤ 100000000 := Sa.2.2.2
  by_cases hf : sy_r w 109 a < 100000000
  · refine sq_sg (P := fx_P3) (S := sq_s0 119 232 pm_232 299 [(0, 63), (0, 99999999)] [] [(0, fx_r), (2, fx_i 0)] [] [(109, (0, [(0, 1)]), fx_i 1)] []) (J := sx_tt) (w0 := w) (p0 := fx_p [a, sy_r w 109 a]) (Post := fx_Post w0) fx_w1 (sq_s0_ok rfl ⟨(show (0 : Int) ≤ a by omega), (show (a : Int) ≤ 63 by omega), Sa.2.2.1, (show sy_r w 109 a ≤ 99999999 by omega), trivial⟩ sy_F0 (sy_lmt hl ⟨rfl, rfl, rfl, rfl, trivial⟩) trivial (sy_O1 (sy_Oat (i := a) ht rfl ha (by show (a : Int) = 0 + (1 * (a : Int) + 0); omega) (by show sy_r w 109 a = 0 + (1 * sy_r w 109 a + 0); omega)) sy_O0) ht (sx_Fr_refl _ _) rfl) sx_ctn (fun _ _ _ => trivial)
      (fun p r w2 e t f a => by
        obtain ⟨x, hx, _⟩ := a
        cases hx)
      (fun h hh a2 ha2 p ls2 st w2 e t f hq => ?_)
    cases List.mem_singleton.mp hh
    cases List.mem_singleton.mp ha2
    obtain ⟨q1, q2, q3, _, _⟩ := hq
    have q1 := fx_back (n := 2) e rfl q1
    obtain ⟨i, i1, x, i2, i3⟩ := q3 _ List.mem_cons_self
    have i1 : (i : Int) = 0 + 0 := i1
    have ei : i = 0 := by omega
    subst ei
    match st, q2, x, i2, i3 with
    | [], _, .int x, i2, i3 =>
      have f : sx_Fr fx_A3 w w2 := f
      obtain ⟨a1, a2, a3⟩ := fx_eqR3 f
      have s109 : sy_r w2 109 = sy_r w 109 := fx_fr3 f (by decide)
      have s110 : sy_r w2 110 = sy_r w 110 := fx_fr3 f (by decide)
      have i3 : x.toInt = 0 + (1 * p 0 + 0) := i3
      have e0 : p 0 = a := e 0 (by show 0 < 2; decide)
      refine fx_way (w0 := w0) ha (sy_r w 110 a).toNat 0 ls2 w2 a ?_ ha ?_ (by rw [s109]; exact hf) (by rw [s110]; omega) (sy_lmt q1 ⟨rfl, rfl, rfl, rfl, rfl, sy_svy rfl, trivial⟩) t (a1 hR) (fun x y z1 z2 z3 => hx x y z1 z2 (a3 x y z3)) (fx_rng3 hF f)
      · rw [s110]; omega
      · rw [sy_r_of i2]; omega
  · refine sq_sg (P := fx_P3) (S := sq_s0 119 232 pm_232 299 [(0, 63), (100000000, 100000000)] [] [(0, fx_r), (2, fx_i 0)] [] [(109, (0, [(0, 1)]), fx_i 1)] []) (J := sx_tt) (w0 := w) (p0 := fx_p [a, sy_r w 109 a]) (Post := fx_Post w0) fx_w0 (sq_s0_ok rfl ⟨(show (0 : Int) ≤ a by omega), (show (a : Int) ≤ 63 by omega), (show 100000000 ≤ sy_r w 109 a by omega), Sb, trivial⟩ sy_F0 (sy_lmt hl ⟨rfl, rfl, rfl, rfl, trivial⟩) trivial (sy_O1 (sy_Oat (i := a) ht rfl ha (by show (a : Int) = 0 + (1 * (a : Int) + 0); omega) (by show sy_r w 109 a = 0 + (1 * sy_r w 109 a + 0); omega)) sy_O0) ht (sx_Fr_refl _ _) rfl) sx_ctn (fun _ _ _ => trivial)
      (fun p r w2 e t f al => ?_)
      (fun h hh a2 ha2 p ls2 st w2 e t f hq => by cases hh)
    have al := (sy_one al).1
    match r, al with
    | some (.int y), al =>
      have al : y.toInt = -1 + 0 := al
      exact ⟨⟨by rw [al]; decide, by rw [al]; decide⟩, t, fx_rng3 hF f⟩
noncomputable def fx_ini (w : pq_W) (x : Nat) : Prop := (sy_r w 109 x = 0 ∨ sy_r w 109 x = 100000000) ∧ sy_r w 110 x = 0 ∧ 0 ≤ sy_r w 111 x ∧ sy_r w 111 x ≤ 49990
theorem fx_in1 {c : Nat} {w w2 : pq_W} (hc : c < 64) (f : sx_Fr (fx_P1 c).A w w2) : sx_Fr fx_A w w2 ∧ ∀ x, x ≠ c → sy_r w2 109 x = sy_r w 109 x ∧ sy_r w2 110 x = sy_r w 110 x ∧ sy_r w2 111 x = sy_r w 111 x := by
  have key : ∀ r i, sx_InA (fx_P1 c).A r i → i = c ∧ sx_InA fx_A r i := fun r i ⟨q, hq, e1, e2, e3⟩ => by
    rcases List.mem_cons.mp hq with k | k
    · rw [k] at e1 e2 e3
      have e2 : (c : Int) ≤ i := e2
      have e3 : (i : Int) ≤ c := e3
      exact ⟨by omega, _, List.mem_cons_self, e1, by show (0 : Int) ≤ i; omega, by show (i : Int) ≤ 100000; omega⟩
    · rcases List.mem_cons.mp k with k | k
      · rw [k] at e1 e2 e3
        have e2 : (c : Int) ≤ i := e2
        have e3 : (i : Int) ≤ c := e3
        exact ⟨by omega, _, List.mem_cons_of_mem _ List.mem_cons_self, e1, by show (0 : Int) ≤ i; omega, by show (i : Int) ≤ 100000; omega⟩
      · rw [List.mem_singleton.mp k] at e1 e2 e3
        have e2 : (c : Int) ≤ i := e2
        have e3 : (i : Int) ≤ c := e3
        exact ⟨by omega, _, List.mem_cons_of_mem _ (List.mem_cons_of_mem _ List.mem_cons_self), e1, by show (0 : Int) ≤ i; omega, by show (i : Int) ≤ 100000; omega⟩
  exact ⟨fun r i hn => f r i (fun h => hn (key r i h).2), fun x hx => ⟨sy_r_fr f (fun h => hx (key _ _ h).1), sy_r_fr f (fun h => hx (key _ _ h).1), sy_r_fr f (fun h => hx (key _ _ h).1)⟩⟩
theorem fx_init {w0 : pq_W} {a : Nat} {to fa : Int} (ha : a < 64) (hto : 0 ≤ to ∧ to ≤ 63) (hfa : 0 ≤ fa ∧ fa ≤ 9999) : ∀ n c : Nat, c + n = 64 → ∀ ls w, sx_lm (fx_p [a, to, fa]) (fx_l1 (fx_i 2) (fx_k c)) ls → sx_Ty sx_T0 w → (∀ x, x < c → fx_ini w x) → sx_Fr fx_A w0 w → ∃ res, pq_Go 119 pm_232 12 ls [] w 0 0 res ∧ fx_Post w0 res := by
  intro n
  induction n with
  | zero =>
    intro c hn ls w hl ht hi hF
    have e : c = 64 := by omega
    subst e
    refine sq_sg (P := fx_P) (S := sq_s0 119 232 pm_232 12 [(0, 63), (0, 63), (0, 9999)] [] (fx_l1 (fx_i 2) (fx_k 64)) [] [] []) (J := sx_tt) (w0 := w) (p0 := fx_p [a, to, fa]) (Post := fx_Post w0) fx_k3 (sq_s0_ok rfl ⟨(show (0 : Int) ≤ a by omega), (show (a : Int) ≤ 63 by omega), hto.1, hto.2, hfa.1, hfa.2, trivial⟩ sy_F0 hl trivial sy_O0 ht (sx_Fr_refl _ _) rfl) sx_ctn (fun _ _ _ => trivial)
      (fun p r w2 e t f a => by
        obtain ⟨x, hx, _⟩ := a
        cases hx)
      (fun h hh a2 ha2 p ls2 st w2 e t f hq => ?_)
    cases List.mem_singleton.mp hh
    cases List.mem_singleton.mp ha2
    obtain ⟨q1, q2, _, _, _⟩ := hq
    have q1 := fx_back (n := 3) e rfl q1
    match st, q2 with
    | [], _ =>
      have s109 := fx_nil f 109
      have s110 := fx_nil f 110
      have s111 := fx_nil f 111
      have hR : fx_R w2 := by
        refine ⟨fun x hx => by rw [s111]; exact (hi x hx).2.2, fun x hx => ?_⟩
        rw [s109, s110]
        have h := hi x hx
        rcases h.1 with h1 | h1
        · right
          rw [h1]
          refine ⟨Int.le_refl _, by decide, [], ⟨hx, Or.inr ⟨h1, by rw [h.2.1]; exact Int.le_refl _⟩⟩, rfl, h.2.1⟩
        · left
          exact ⟨h1, h.2.1⟩
      exact fx_wh (w0 := w0) (fr := a) ⟨by omega, by omega⟩ (fun ls3 w3 h1 h2 h3 h4 h5 => fx_299 ha h1 h2 h3 h4 (fun x y k1 k2 => h5 x y k1 k2)) (fx_ph w2 + 1) ls2 w2 (Nat.lt_succ_self _) (sy_lmt q1 ⟨rfl, rfl, rfl, rfl, rfl, sy_svy rfl, trivial⟩) t hR (sx_Fr_trans hF (sx_Fr_sub rfl f))
  | succ n ih =>
    intro c hn ls w hl ht hi hF
    have hc : c < 64 := by omega
    have hq0 := List.all_eq_true.mp fx_k2 c (List.mem_range.mpr hc)
    refine sq_sg (P := fx_P1 c) (S := sq_s0 119 232 pm_232 12 [(0, 63), (0, 63), (0, 9999)] [] (fx_l1 (fx_i 2) (fx_k c)) [] [] []) (J := sx_tt) (w0 := w) (p0 := fx_p [a, to, fa]) (Post := fx_Post w0) hq0 (sq_s0_ok rfl ⟨(show (0 : Int) ≤ a by omega), (show (a : Int) ≤ 63 by omega), hto.1, hto.2, hfa.1, hfa.2, trivial⟩ sy_F0 hl trivial sy_O0 ht (sx_Fr_refl _ _) rfl) sx_ctn (fun _ _ _ => trivial)
      (fun p r w2 e t f a => by
        obtain ⟨x, hx, _⟩ := a
        cases hx)
      (fun h hh a2 ha2 p ls2 st w2 e t f hq => ?_)
    cases List.mem_singleton.mp hh
    obtain ⟨f1, f2⟩ := fx_in1 hc f
    have go : ∀ v : Int, (v = 0 ∨ v = 100000000) → sq_alO p ls2 st w2 (fx_l1 (fx_i 2) (fx_k (c + 1)), [], [(109, ((c : Int), []), fx_k v), (110, ((c : Int), []), fx_k 0)], [], [(111, ((c : Int), []), false, 0, 49990)]) → ∃ res, pq_Go 119 pm_232 12 ls2 st w2 0 0 res ∧ fx_Post w0 res := by
      intro v hv hq
      obtain ⟨q1, q2, q3, _, q5⟩ := hq
      have q1 := fx_back (n := 3) e rfl q1
      obtain ⟨i, i1, x, i2, i3⟩ := q3 _ List.mem_cons_self
      obtain ⟨i', i1', x', i2', i3'⟩ := q3 _ (List.mem_cons_of_mem _ List.mem_cons_self)
      obtain ⟨j, j1, y, j2, j3⟩ := q5 _ List.mem_cons_self
      have i1 : (i : Int) = (c : Int) + 0 := i1
      have i1' : (i' : Int) = (c : Int) + 0 := i1'
      have j1 : (j : Int) = (c : Int) + 0 := j1
      have ei : i = c := by omega
      have ei' : i' = c := by omega
      have ej : j = c := by omega
      rw [ei] at i2
      rw [ei'] at i2'
      rw [ej] at j2
      match st, q2, x, i2, i3, x', i2', i3', y, j2, j3 with
      | [], _, .int x, i2, i3, .int x', i2', i3', .int y, j2, j3 =>
        have i3 : x.toInt = v + 0 := i3
        have i3' : x'.toInt = 0 + 0 := i3'
        have j3 : 0 ≤ y.toInt ∧ y.toInt ≤ 49990 := j3
        refine ih (c + 1) (by omega) ls2 w2 q1 t (fun z hz => ?_) (sx_Fr_trans hF f1)
        by_cases ez : z = c
        · rw [ez]
          unfold fx_ini
          rw [sy_r_of i2, sy_r_of i2', sy_r_of j2]
          exact ⟨by omega, by omega, j3.1, j3.2⟩
        · have h := hi z (by omega)
          unfold fx_ini
          rw [(f2 z ez).1, (f2 z ez).2.1, (f2 z ez).2.2]
          exact h
    rcases List.mem_cons.mp ha2 with k | k
    · rw [k] at hq
      exact go 0 (Or.inl rfl) hq
    · rw [List.mem_singleton.mp k] at hq
      exact go 100000000 (Or.inr rfl) hq
theorem kt_findWayR : sx_Kok sx_T0 sy_J0 232 kk_findWayR := by
  intro as w ha hkn hkg ht hj
  obtain ⟨r, w1, g1, g2, g3, g4⟩ := sq_ent (P := fx_P) (w0 := w) (J := sx_tt) (M := pm_232) (k := 119) (O := []) (Post := fun res => sx_rtm (some (.inl (-1, 63))) res.1 ∧ sx_Ty sx_T0 res.2 ∧ sx_Fr kk_findWayR.md w res.2) fx_k0 sx_ctn (fun _ _ _ => trivial) rfl (by decide +kernel) ha sy_O0 ht
    (fun p r w2 e t f a => by
      obtain ⟨x, hx, _⟩ := a
      cases hx)
    (fun h hh a2 ha2 p ls2 st w2 e t f hq => by
      cases List.mem_singleton.mp hh
      cases List.mem_singleton.mp ha2
      obtain ⟨q1, q2, _, _, _⟩ := hq
      have hi := sy_ivs_agree (p2 := p) (sy_iv_ok (n := 0) (p := sx_pv as 0) (show sx_noany kk_findWayR.as = true from rfl) ha (fun s _ => rfl)) (fun s hs => e s (by rw [Nat.zero_add, List.length_map] at hs; exact hs))
      have l1 : 0 ≤ p 1 ∧ p 1 ≤ 11 := ⟨hi.2.2.1, hi.2.2.2.1⟩
      have l2 : 0 ≤ p 2 ∧ p 2 ≤ 63 := ⟨hi.2.2.2.2.1, hi.2.2.2.2.2.1⟩
      have l3 : 0 ≤ p 3 ∧ p 3 ≤ 63 := ⟨hi.2.2.2.2.2.2.1, hi.2.2.2.2.2.2.2.1⟩
      have t : sx_Ty sx_T0 w2 := t
      have f : sx_Fr [] w w2 := f
      have hj2 : sy_J0 w2 := sy_J0I w w2 hj t (sx_Fr_sub rfl f)
      match st, q2 with
      | [.int x1, .int x2, .int xp, .ref rr], q2 =>
        have e1 : x1.toInt = -1 + 0 := q2.1
        have e2 : x2.toInt = -1 + 0 := q2.2.1
        have e3 : xp.toInt = 0 + (1 * p 1 + 0) := q2.2.2.1
        have e4 : rr = 94 := q2.2.2.2.1
        obtain ⟨rf, w3, k1, k2, k3, k4, k5⟩ := kt_factor sy_J0I kt_worked [.ref rr, .int xp, .int x2, .int x1] w2 ⟨e4, ⟨by omega, by omega⟩, ⟨by omega, by omega⟩, ⟨by omega, by omega⟩, trivial⟩ sy_O0 (fun q hq => by cases hq) t hj2
        match rf, k4 with
        | some (.int xf), k4 =>
          have k4 : 0 ≤ xf.toInt ∧ xf.toInt ≤ 9999 := k4
          have ea : ((p 2).toNat : Int) = p 2 := by omega
          have q1b : sx_lm (fx_p [((p 2).toNat : Int), p 3, xf.toInt]) [(0, fx_r), (2, fx_i 0), (3, fx_i 1)] ls2 := by
            obtain ⟨z0, q1⟩ := sy_lm2 q1
            obtain ⟨z1, q1⟩ := sy_lm2 q1
            obtain ⟨z2, q1⟩ := sy_lm2 q1
            obtain ⟨z3, q1⟩ := sy_lm2 q1
            exact sy_lmt (sy_lm1 z0 (sy_lm1 z2 (sy_lm1 z3 sy_lm0))) ⟨rfl, rfl, rfl, sy_svy (by rw [sx_y_ev]; exact ea.symm), rfl, sy_svy (by rw [sx_y_ev]; rfl), trivial⟩
          have h7 : ∃ res, pq_Go 119 pm_232 7 ls2 [.int xf] w3 0 0 res ∧ fx_Post w3 res := by
            refine sq_sg (P := fx_P) (S := sq_s0 119 232 pm_232 7 [(0, 63), (0, 63), (0, 9999)] [] [(0, fx_r), (2, fx_i 0), (3, fx_i 1)] [fx_i 2] [] []) (J := sx_tt) (w0 := w3) (p0 := fx_p [((p 2).toNat : Int), p 3, xf.toInt]) (Post := fx_Post w3) fx_k1 (sq_s0_ok rfl ⟨(show (0 : Int) ≤ ((p 2).toNat : Int) by omega), (show ((p 2).toNat : Int) ≤ 63 by omega), l3.1, l3.2, k4.1, k4.2, trivial⟩ sy_F0 q1b ⟨(by show xf.toInt = 0 + (1 * xf.toInt + 0); omega), trivial⟩ sy_O0 k2 (sx_Fr_refl _ _) rfl) sx_ctn (fun _ _ _ => trivial)
              (fun p r w2 e t f a => by
                obtain ⟨x, hx, _⟩ := a
                cases hx)
              (fun h hh a2 ha2 p5 ls5 st5 w5 e5 t5 f5 hq5 => ?_)
            cases List.mem_singleton.mp hh
            cases List.mem_singleton.mp ha2
            obtain ⟨z1, z2, _, _, _⟩ := hq5
            have z1 := fx_back (n := 3) e5 rfl z1
            match st5, z2 with
            | [], _ => exact fx_init (w0 := w3) (show (p 2).toNat < 64 by omega) l3 k4 64 0 rfl ls5 w5 z1 t5 (fun x hx => absurd hx (Nat.not_lt_zero x)) (sx_Fr_sub rfl f5)
          obtain ⟨res, g1, g2, g3, g4⟩ := h7
          refine ⟨res, go_cl (j := 180) (n := 4) (as := [.ref rr, .int xp, .int x2, .int x1]) (k1 := 90) rfl rfl rfl rfl rfl rfl rfl k1 g1, g2, g3, ?_⟩
          exact sx_Fr_trans (sx_Fr_sub rfl f) (sx_Fr_trans (sx_Fr_sub rfl k5) (sx_Fr_sub rfl g4)))
  exact ⟨r, w1, g1, g3, sy_J0I w w1 hj g3 (sx_Fr_sub (by decide +kernel) g4), g2, g4⟩
theorem kt_RH : sx_RH sy_J0 := ⟨kt_worked, kt_knownOn, kt_findWayR⟩
