/-! the rounds of findWay -/
noncomputable def fx_A : sx_A := [(109, 0, 100000), (110, 0, 100000), (111, 0, 100000), (112, 0, 100000)]
noncomputable def fx_ph (w : pq_W) : Nat := fw_ph (sy_r w 109) (sy_r w 110)
noncomputable def fx_St (w0 w : pq_W) (N : Nat) (m : Int) (c d : Nat) : Prop := sx_Ty sx_T0 w ∧ fx_R w ∧ sx_Fr fx_A w0 w ∧ fx_ph w ≤ N ∧ ((m = 1 ∧ fx_ph w < N) ∨ (m = 0 ∧ ∀ c' d', c' < 64 → d' < 64 → (c' < c ∨ (c' = c ∧ d' < d)) → ¬ fx_rel w c' d'))
theorem fx_St01 {w0 w : pq_W} {N : Nat} {m : Int} {c d : Nat} (h : fx_St w0 w N m c d) : 0 ≤ m ∧ m ≤ 1 := by
  rcases h.2.2.2.2 with h | h <;> omega
theorem fx_eqR {w w2 : pq_W} (h1 : sy_r w2 109 = sy_r w 109) (h2 : sy_r w2 110 = sy_r w 110) (h3 : sy_r w2 111 = sy_r w 111) (h4 : sy_r w2 95 = sy_r w 95) : (fx_R w → fx_R w2) ∧ fx_ph w2 = fx_ph w ∧ ∀ c d, fx_rel w2 c d → fx_rel w c d := by
  refine ⟨fun h => ?_, ?_, fun c d h => ?_⟩
  · unfold fx_R fx_Iv at *
    rw [h1, h2, h3, h4]
    exact h
  · unfold fx_ph
    rw [h1, h2]
  · unfold fx_rel fx_cand at *
    rw [h1, h2, h3, h4] at h
    exact h
theorem fx_eqS {w0 w w2 : pq_W} {N : Nat} {m : Int} {c d : Nat} (h1 : sy_r w2 109 = sy_r w 109) (h2 : sy_r w2 110 = sy_r w 110) (h3 : sy_r w2 111 = sy_r w 111) (h4 : sy_r w2 95 = sy_r w 95) (t : sx_Ty sx_T0 w2) (f : sx_Fr fx_A w0 w2) (h : fx_St w0 w N m c d) : fx_St w0 w2 N m c d := by
  obtain ⟨a1, a2, a3⟩ := fx_eqR h1 h2 h3 h4
  obtain ⟨b1, b2, b3, b4, b5⟩ := h
  refine ⟨t, a1 b2, f, by rw [a2]; exact b4, ?_⟩
  rw [a2]
  rcases b5 with b5 | b5
  · exact Or.inl b5
  · exact Or.inr ⟨b5.1, fun c' d' k1 k2 k3 k4 => b5.2 c' d' k1 k2 k3 (a3 c' d' k4)⟩
theorem fx_nil {w w2 : pq_W} (f : sx_Fr [] w w2) (r : Nat) : sy_r w2 r = sy_r w r := funext fun i => sy_r_fr f (fun ⟨q, hq, _⟩ => by cases hq)
theorem fx_nilS {w0 w w2 : pq_W} {N : Nat} {m : Int} {c d : Nat} (f : sx_Fr [] w w2) (t : sx_Ty sx_T0 w2) (h : fx_St w0 w N m c d) : fx_St w0 w2 N m c d := fx_eqS (fx_nil f _) (fx_nil f _) (fx_nil f _) (fx_nil f _) t (sx_Fr_trans h.2.2.1 (sx_Fr_sub rfl f)) h
theorem fx_fr2 {c : Nat} {w w2 : pq_W} (f : sx_Fr (fx_P2 c).A w w2) : (∀ r, r ≠ 109 → r ≠ 110 → sy_r w2 r = sy_r w r) ∧ ∀ i, i ≠ c → sy_r w2 109 i = sy_r w 109 i ∧ sy_r w2 110 i = sy_r w 110 i := by
  have key : ∀ r i, (r ≠ 109 ∧ r ≠ 110 ∨ i ≠ c) → ¬ sx_InA (fx_P2 c).A r i := fun r i h => fun ⟨q, hq, e1, e2, e3⟩ => by
    rcases List.mem_cons.mp hq with k | k
    · rw [k] at e1 e2 e3
      have e1 : 109 = r := e1
      have e2 : (c : Int) ≤ i := e2
      have e3 : (i : Int) ≤ c := e3
      omega
    · rw [List.mem_singleton.mp k] at e1 e2 e3
      have e1 : 110 = r := e1
      have e2 : (c : Int) ≤ i := e2
      have e3 : (i : Int) ≤ c := e3
      omega
  exact ⟨fun r h1 h2 => funext fun i => sy_r_fr f (key r i (Or.inl ⟨h1, h2⟩)), fun i hi => ⟨sy_r_fr f (key _ i (Or.inr hi)), sy_r_fr f (key _ i (Or.inr hi))⟩⟩
theorem fx_wk {c : Nat} {w w2 : pq_W} (hc : c < 64) (f : sx_Fr (fx_P2 c).A w w2) : sx_Fr fx_A w w2 := fun r i hn => f r i (fun ⟨q, hq, e1, e2, e3⟩ => hn (by
  rcases List.mem_cons.mp hq with k | k
  · rw [k] at e1 e2 e3
    have e2 : (c : Int) ≤ i := e2
    have e3 : (i : Int) ≤ c := e3
    exact ⟨_, List.mem_cons_self, e1, by show (0 : Int) ≤ i; omega, by show (i : Int) ≤ 100000; omega⟩
  · rw [List.mem_singleton.mp k] at e1 e2 e3
    have e2 : (c : Int) ≤ i := e2
    have e3 : (i : Int) ≤ c := e3
    exact ⟨_, List.mem_cons_of_mem _ List.mem_cons_self, e1, by show (0 : Int) ≤ i; omega, by show (i : Int) ≤ 100000; omega⟩))
theorem fx_d {Post : pq_R → Prop} {w0 : pq_W} {N c : Nat} {fr : Int} (hc : c < 64) (hfr : 0 ≤ fr ∧ fr ≤ 63) (K : ∀ ls w m, sx_lm (fx_p [fr, m, c + 1]) (fx_l3 (fx_i 1) (fx_i 2)) ls → fx_St w0 w N m (c + 1) 0 → ∃ res, pq_Go 119 pm_232 128 ls [] w 0 0 res ∧ Post res) : ∀ n d : Nat, d + n = 64 → ∀ ls w m, sx_lm (fx_p [fr, m, c, d]) (fx_l4 (fx_i 1) (fx_i 2) (fx_i 3)) ls → fx_St w0 w N m c d → ∃ res, pq_Go 119 pm_232 138 ls [] w 0 0 res ∧ Post res := by
  intro n
  induction n with
  | zero =>
    intro d hd ls w m hl hs
    have hm := fx_St01 hs
    have e64 : (d : Int) = 64 := by omega
    refine sq_sg (P := fx_P) (S := sq_s0 119 232 pm_232 138 [(0, 63), (0, 1), (0, 63)] [] (fx_l4 (fx_i 1) (fx_i 2) (fx_k 64)) [] [] []) (J := sx_tt) (w0 := w) (p0 := fx_p [fr, m, c]) (Post := Post) fx_k9 (sq_s0_ok rfl ⟨hfr.1, hfr.2, hm.1, hm.2, (show (0 : Int) ≤ c by omega), (show (c : Int) ≤ 63 by omega), trivial⟩ sy_F0 (sy_lmt hl ⟨rfl, rfl, rfl, rfl, rfl, rfl, rfl, rfl, rfl, (by show 0 + (1 * (d : Int) + 0) = 64 + 0; omega), trivial⟩) trivial sy_O0 hs.1 (sx_Fr_refl _ _) rfl) sx_ctn (fun _ _ _ => trivial)
      (fun p r w2 e t f a => by
        obtain ⟨x, hx, _⟩ := a
        cases hx)
      (fun h hh a ha p ls2 st w2 e t f hq => ?_)
    cases List.mem_singleton.mp hh
    cases List.mem_singleton.mp ha
    obtain ⟨q1, q2, _, _, _⟩ := hq
    have q1 := fx_back (n := 3) e rfl q1
    match st, q2 with
    | [], _ =>
      have s2 := fx_nilS f t hs
      refine K ls2 w2 m (sy_lmt q1 ⟨rfl, rfl, rfl, rfl, rfl, rfl, rfl, sy_svy (by show 1 + (1 * (c : Int) + 0) = (c : Int) + 1; omega), trivial⟩) ⟨s2.1, s2.2.1, s2.2.2.1, s2.2.2.2.1, ?_⟩
      rcases s2.2.2.2.2 with k | k
      · exact Or.inl k
      · exact Or.inr ⟨k.1, fun c' d' k1 k2 k3 => k.2 c' d' k1 k2 (by omega)⟩
  | succ n ih =>
    intro d hd ls w m hl hs
    have hm := fx_St01 hs
    obtain ⟨b1, b2, b3, b4, b5⟩ := hs
    refine fx_look hc (by omega) b1 b2 hfr hm hl (fun ls2 w2 hl2 t f h1 h2 hn => ?_) (fun ls2 w2 hl2 t f h1 h2 hn => ?_)
    · obtain ⟨f1, f2⟩ := fx_fr2 f
      have g1 : sy_r w2 109 = sy_r w 109 := funext fun i => by
        by_cases e : i = c
        · rw [e]; exact h1
        · exact (f2 i e).1
      have g2 : sy_r w2 110 = sy_r w 110 := funext fun i => by
        by_cases e : i = c
        · rw [e]; exact h2
        · exact (f2 i e).2
      have s2 := fx_eqS g1 g2 (f1 111 (by decide) (by decide)) (f1 95 (by decide) (by decide)) t (sx_Fr_trans b3 (fx_wk hc f)) ⟨b1, b2, b3, b4, b5⟩
      have a3 := (fx_eqR g1 g2 (f1 111 (by decide) (by decide)) (f1 95 (by decide) (by decide))).2.2
      refine ih (d + 1) (by omega) ls2 w2 m hl2 ⟨s2.1, s2.2.1, s2.2.2.1, s2.2.2.2.1, ?_⟩
      rcases s2.2.2.2.2 with k | k
      · exact Or.inl k
      · refine Or.inr ⟨k.1, fun c' d' k1 k2 k3 k4 => ?_⟩
        by_cases e : c' = c ∧ d' = d
        · rw [e.1, e.2] at k4
          exact hn (a3 _ _ k4)
        · exact k.2 c' d' k1 k2 (by omega) k4
    · obtain ⟨f1, f2⟩ := fx_fr2 f
      have g3 := f1 111 (by decide) (by decide)
      have g4 := f1 95 (by decide) (by decide)
      obtain ⟨n1, n2, n3, n4⟩ := hn
      have hdd : d < 64 := by omega
      have rx := fw_relax (C' := sy_r w2 109) (S' := sy_r w2 110) (fun x hx => (b2.1 x hx).1) (fx_fuel b1).1 b2.2 hc hdd n1 n2 n3 n4 h1 h2 (fun x _ hx => f2 x hx)
      have fall := fw_fall b2.2 rx.1 hc (by rw [h1, h2]; exact n4) (fun x _ hx => f2 x hx)
      have r2 : fx_R w2 := by
        unfold fx_R fx_Iv
        rw [g3, g4]
        exact ⟨b2.1, rx.1⟩
      have p2 : fx_ph w2 < fx_ph w := fall
      exact ih (d + 1) (by omega) ls2 w2 1 hl2 ⟨t, r2, sx_Fr_trans b3 (fx_wk hc f), by omega, Or.inl ⟨rfl, by omega⟩⟩
theorem fx_c {Post : pq_R → Prop} {w0 : pq_W} {N : Nat} {fr : Int} (hfr : 0 ≤ fr ∧ fr ≤ 63) (K : ∀ ls w m, sx_lm (fx_p [fr, m]) (fx_l2 (fx_i 1)) ls → fx_St w0 w N m 64 0 → ∃ res, pq_Go 119 pm_232 117 ls [] w 0 0 res ∧ Post res) : ∀ n c : Nat, c + n = 64 → ∀ ls w m, sx_lm (fx_p [fr, m, c]) (fx_l3 (fx_i 1) (fx_i 2)) ls → fx_St w0 w N m c 0 → ∃ res, pq_Go 119 pm_232 128 ls [] w 0 0 res ∧ Post res := by
  intro n
  induction n with
  | zero =>
    intro c hc ls w m hl hs
    have hm := fx_St01 hs
    have e64 : c = 64 := by omega
    subst e64
    refine sq_sg (P := fx_P) (S := sq_s0 119 232 pm_232 128 [(0, 63), (0, 1)] [] (fx_l3 (fx_i 1) (fx_k 64)) [] [] []) (J := sx_tt) (w0 := w) (p0 := fx_p [fr, m]) (Post := Post) fx_k7 (sq_s0_ok rfl ⟨hfr.1, hfr.2, hm.1, hm.2, trivial⟩ sy_F0 (sy_lmt hl ⟨rfl, rfl, rfl, rfl, rfl, rfl, rfl, rfl, trivial⟩) trivial sy_O0 hs.1 (sx_Fr_refl _ _) rfl) sx_ctn (fun _ _ _ => trivial)
      (fun p r w2 e t f a => by
        obtain ⟨x, hx, _⟩ := a
        cases hx)
      (fun h hh a ha p ls2 st w2 e t f hq => ?_)
    cases List.mem_singleton.mp hh
    cases List.mem_singleton.mp ha
    obtain ⟨q1, q2, _, _, _⟩ := hq
    have q1 := fx_back (n := 2) e rfl q1
    match st, q2 with
    | [], _ => exact K ls2 w2 m q1 (fx_nilS f t hs)
  | succ n ih =>
    intro c hc ls w m hl hs
    have hm := fx_St01 hs
    have hc64 : c < 64 := by omega
    refine sq_sg (P := fx_P) (S := sq_s0 119 232 pm_232 128 [(0, 63), (0, 1), (0, 63)] [] (fx_l3 (fx_i 1) (fx_i 2)) [] [] []) (J := sx_tt) (w0 := w) (p0 := fx_p [fr, m, c]) (Post := Post) fx_k6 (sq_s0_ok rfl ⟨hfr.1, hfr.2, hm.1, hm.2, (show (0 : Int) ≤ c by omega), (show (c : Int) ≤ 63 by omega), trivial⟩ sy_F0 hl trivial sy_O0 hs.1 (sx_Fr_refl _ _) rfl) sx_ctn (fun _ _ _ => trivial)
      (fun p r w2 e t f a => by
        obtain ⟨x, hx, _⟩ := a
        cases hx)
      (fun h hh a ha p ls2 st w2 e t f hq => ?_)
    cases List.mem_singleton.mp hh
    cases List.mem_singleton.mp ha
    obtain ⟨q1, q2, _, _, _⟩ := hq
    have q1 := fx_back (n := 3) e rfl q1
    match st, q2 with
    | [], _ => exact fx_d hc64 hfr (fun ls3 w3 m3 hl3 hs3 => ih (c + 1) (by omega) ls3 w3 m3 hl3 hs3) 64 0 rfl ls2 w2 m (sy_lmt q1 ⟨rfl, rfl, rfl, rfl, rfl, rfl, rfl, rfl, rfl, sy_svy rfl, trivial⟩) (fx_nilS f t hs)
theorem fx_wh {Post : pq_R → Prop} {w0 : pq_W} {fr : Int} (hfr : 0 ≤ fr ∧ fr ≤ 63) (K : ∀ ls w, sx_lm (fx_p [fr]) [(0, fx_r), (2, fx_i 0)] ls → sx_Ty sx_T0 w → fx_R w → sx_Fr fx_A w0 w → (∀ c d, c < 64 → d < 64 → ¬ fx_rel w c d) → ∃ res, pq_Go 119 pm_232 299 ls [] w 0 0 res ∧ Post res) : ∀ B ls w, fx_ph w < B → sx_lm (fx_p [fr, 1]) (fx_l2 (fx_i 1)) ls → sx_Ty sx_T0 w → fx_R w → sx_Fr fx_A w0 w → ∃ res, pq_Go 119 pm_232 117 ls [] w 0 0 res ∧ Post res := by
  intro B
  induction B with
  | zero => intro ls w h; omega
  | succ B ih =>
    intro ls w hB hl ht hR hF
    refine sq_sg (P := fx_P) (S := sq_s0 119 232 pm_232 117 [(0, 63)] [] (fx_l2 (fx_k 1)) [] [] []) (J := sx_tt) (w0 := w) (p0 := fx_p [fr]) (Post := Post) fx_k4 (sq_s0_ok rfl ⟨hfr.1, hfr.2, trivial⟩ sy_F0 (sy_lmt hl ⟨rfl, rfl, rfl, rfl, rfl, rfl, trivial⟩) trivial sy_O0 ht (sx_Fr_refl _ _) rfl) sx_ctn (fun _ _ _ => trivial)
      (fun p r w2 e t f a => by
        obtain ⟨x, hx, _⟩ := a
        cases hx)
      (fun h hh a ha p ls2 st w2 e t f hq => ?_)
    cases List.mem_singleton.mp hh
    cases List.mem_singleton.mp ha
    obtain ⟨q1, q2, _, _, _⟩ := hq
    have q1 := fx_back (n := 1) e rfl q1
    match st, q2 with
    | [], _ =>
      obtain ⟨a1, a2, a3⟩ := fx_eqR (fx_nil f 109) (fx_nil f 110) (fx_nil f 111) (fx_nil f 95)
      refine fx_c (w0 := w0) (N := fx_ph w) hfr (fun ls3 w3 m3 hl3 hs3 => ?_) 64 0 rfl ls2 w2 0 (sy_lmt q1 ⟨rfl, rfl, rfl, rfl, rfl, sy_svy rfl, rfl, sy_svy rfl, trivial⟩) ⟨t, a1 hR, sx_Fr_trans hF (sx_Fr_sub rfl f), by rw [a2]; exact Nat.le_refl _, Or.inr ⟨rfl, fun c' d' _ _ h => by omega⟩⟩
      obtain ⟨b1, b2, b3, b4, b5⟩ := hs3
      rcases b5 with k | k
      · rw [k.1] at hl3
        exact ih ls3 w3 (by omega) hl3 b1 b2 b3
      · rw [k.1] at hl3
        refine sq_sg (P := fx_P) (S := sq_s0 119 232 pm_232 117 [(0, 63)] [] (fx_l2 (fx_k 0)) [] [] []) (J := sx_tt) (w0 := w3) (p0 := fx_p [fr]) (Post := Post) fx_k5 (sq_s0_ok rfl ⟨hfr.1, hfr.2, trivial⟩ sy_F0 (sy_lmt hl3 ⟨rfl, rfl, rfl, rfl, rfl, rfl, trivial⟩) trivial sy_O0 b1 (sx_Fr_refl _ _) rfl) sx_ctn (fun _ _ _ => trivial)
          (fun p r w2 e t f a => by
            obtain ⟨x, hx, _⟩ := a
            cases hx)
          (fun h hh a ha p ls4 st4 w4 e4 t4 f4 hq4 => ?_)
        cases List.mem_singleton.mp hh
        cases List.mem_singleton.mp ha
        obtain ⟨z1, z2, _, _, _⟩ := hq4
        have z1 := fx_back (n := 1) e4 rfl z1
        match st4, z2 with
        | [], _ =>
          obtain ⟨c1, c2, c3⟩ := fx_eqR (fx_nil f4 109) (fx_nil f4 110) (fx_nil f4 111) (fx_nil f4 95)
          exact K ls4 w4 z1 t4 (c1 b2) (sx_Fr_trans b3 (sx_Fr_sub rfl f4)) (fun c d h1 h2 h3 => k.2 c d h1 h2 (Or.inl h1) (c3 c d h3))
