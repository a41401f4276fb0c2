/-! file and fly of the reference, behind isRow: what stands at any place at the end -/
theorem gp_in {w : pq_W} {p : Nat → Int} {r q n : Nat} {e : sx_F} (he : sx_ev p e = (q : Int)) (hv : sy_r w r q = p n) : sy_r w r (sx_ev p e).toNat = sx_ev p (sx_y n) := by
  rw [he, sx_y_ev, Int.toNat_natCast, hv]
theorem gp_out {w : pq_W} {p : Nat → Int} {r q n : Nat} {e : sx_F} (he : sx_ev p e = (q : Int)) (h : sy_r w r (sx_ev p e).toNat = sx_ev p (sx_y n)) : sy_r w r q = p n := by
  rw [he, sx_y_ev, Int.toNat_natCast] at h
  exact h
theorem gp_oute {w : pq_W} {p : Nat → Int} {r q : Nat} {e v : sx_F} (he : sx_ev p e = (q : Int)) (h : sy_r w r (sx_ev p e).toNat = sx_ev p v) : sy_r w r q = sx_ev p v := by
  rw [he, Int.toNat_natCast] at h
  exact h
/-- a loop that lays one number after the other -/
theorem gl_lp {K : Nat} {M : pq_M} {pc : Nat} {A : sx_A} {b n q : Nat} {num : Nat → Int} {SB : pq_L → Nat → Prop} {w0 : pq_W} {Post : pq_R → Prop}
    (step : ∀ k, k < n → ∀ ls w, SB ls k → sx_Ty sx_T0 w → sx_Fr A w0 w → (∀ ls2 w2, SB ls2 (k + 1) → sx_Ty sx_T0 w2 → sx_Fr A w w2 → sy_r w2 95 q = (if q = b + k then num k else sy_r w 95 q) → ∃ res, pq_Go K M pc ls2 [] w2 0 0 res ∧ Post res) → ∃ res, pq_Go K M pc ls [] w 0 0 res ∧ Post res)
    (cont : ∀ ls w, SB ls n → sx_Ty sx_T0 w → sx_Fr A w0 w → sy_r w 95 q = kr_N (sy_r w0 95) num b n q → ∃ res, pq_Go K M pc ls [] w 0 0 res ∧ Post res) :
    ∀ (m k : Nat), k + m = n → ∀ ls w, SB ls k → sx_Ty sx_T0 w → sx_Fr A w0 w → sy_r w 95 q = kr_N (sy_r w0 95) num b k q → ∃ res, pq_Go K M pc ls [] w 0 0 res ∧ Post res := by
  intro m
  induction m with
  | zero =>
    intro k hk ls w hb ht hf hv
    have hk : k = n := by omega
    subst hk
    exact cont ls w hb ht hf hv
  | succ m ih =>
    intro k hk ls w hb ht hf hv
    refine step k (by omega) ls w hb ht hf (fun ls2 w2 b2 t2 f2 v2 => ih (k + 1) (by omega) ls2 w2 b2 t2 (sx_Fr_trans hf f2) ?_)
    rw [v2]
    by_cases e : q = b + k
    · rw [if_pos e, e]
      exact kr_Ne.symm
    · rw [if_neg e, hv, kr_Ns e]
theorem kr_N0 {old num : Nat → Int} {b q : Nat} : kr_N old num b 0 q = old q := by
  unfold kr_N
  rw [if_neg (by omega)]
-- file: symbols 0 plane, 1 sheet, 2 flight, 3 the place in its row, 4 how far away any other place is, 5 what stands there, 6 size, 7 the number
noncomputable def gz_c1 (C e : sx_F) : Bool := ng_chk [(95, 302, 1321)] [] [] 299 208 pm_208 104 [(0, 11), (0, 3), (0, 29), (0, 33), (0, 2857), sy_full] [C] (fc_b (fx_i 2) (fx_i 3)) [] ([(95, e, fx_i 5)]) [] [(104, (ng_L (fc_b (fx_i 2) (.inl (.inl (1, [(3, 1)])))), [], [(95, e, fx_i 5)], [], []))] 6000
noncomputable def gz_c2 : Bool := ng_chk [(95, 302, 1321)] [] [] 299 208 pm_208 104 [(0, 11), (0, 3), (0, 29), (0, 33), (0, 2857), sy_full] [] (fc_b (fx_i 2) (fx_i 3)) [] [] [] [(104, (ng_L (fc_b (fx_i 2) (.inl (.inl (1, [(3, 1)])))), [], [(95, (302, [(2, 34), (3, 1)]), fx_k 0)], [], []))] 6000
theorem gz_l : gz_c1 (-301, [(2, -34), (3, -1), (4, 1)]) (301, [(2, 34), (3, 1), (4, -1)]) = true := by decide +kernel
theorem gz_g : gz_c1 (-2554, [(2, 34), (3, 1), (4, 1)]) (303, [(2, 34), (3, 1), (4, 1)]) = true := by decide +kernel
theorem gz_e : gz_c2 = true := by decide +kernel
noncomputable def gk_c1 (C e : sx_F) : Bool := ng_chk [(95, 302, 1321)] [] [] 299 208 pm_208 186 [(0, 11), (0, 3), (0, 29), (0, 11), (0, 2857), sy_full, (0, 12), (0, 63)] [(1, [(3, 1), (6, -1)]), C] (fc_b (fx_i 2) (fx_i 3)) [] ([(99, sx_y 1, fx_i 6), (100, (0, [(1, 24), (3, 1)]), fx_i 7)] ++ [(95, e, fx_i 5)]) [] [(186, (ng_L (fc_b (fx_i 2) (.inl (.inl (1, [(3, 1)])))), [], [(95, e, fx_i 5)], [], []))] 6000
noncomputable def gk_c2 : Bool := ng_chk [(95, 302, 1321)] [] [] 299 208 pm_208 186 [(0, 11), (0, 3), (0, 29), (0, 11), (0, 2857), sy_full, (0, 12), (0, 63)] [(1, [(3, 1), (6, -1)])] (fc_b (fx_i 2) (fx_i 3)) [] ([(99, sx_y 1, fx_i 6), (100, (0, [(1, 24), (3, 1)]), fx_i 7)]) [] [(186, (ng_L (fc_b (fx_i 2) (.inl (.inl (1, [(3, 1)])))), [], [(95, (308, [(2, 34), (3, 1)]), fx_i 7)], [], []))] 6000
theorem gk_l : gk_c1 (-307, [(2, -34), (3, -1), (4, 1)]) (307, [(2, 34), (3, 1), (4, -1)]) = true := by decide +kernel
theorem gk_g : gk_c1 (-2548, [(2, 34), (3, 1), (4, 1)]) (309, [(2, 34), (3, 1), (4, 1)]) = true := by decide +kernel
theorem gk_e : gk_c2 = true := by decide +kernel
noncomputable def gy_b (k : sx_V) : List (Nat × sx_V) := [(0, fx_r), (1, fx_i 0), (2, fx_i 1), (3, fx_i 2), (4, .inl (.inl (1322, [(2, 15)]))), (5, k)]
-- fly: symbols 0 flight, 1 sheet, 2 told, 3 .. 7 the same
noncomputable def gy_c1 (C e : sx_F) : Bool := ng_chk [(95, 1322, 1921)] [] [] 299 212 pm_212 129 [(0, 29), (0, 3), (0, 39), (0, 11), (0, 2857), sy_full, (0, 12), (-1, 63)] [(1, [(3, 1), (6, -1)]), C] (gy_b (fx_i 3)) [] ([(99, sx_y 1, fx_i 6), (100, (0, [(1, 24), (3, 1)]), fx_i 7)] ++ [(95, e, fx_i 5)]) [] [(129, (ng_L (gy_b (.inl (.inl (1, [(3, 1)])))), [], [(95, e, fx_i 5)], [], []))] 6000
noncomputable def gy_c2 : Bool := ng_chk [(95, 1322, 1921)] [] [] 299 212 pm_212 129 [(0, 29), (0, 3), (0, 39), (0, 11), (0, 2857), sy_full, (0, 12), (-1, 63)] [(1, [(3, 1), (6, -1)])] (gy_b (fx_i 3)) [] ([(99, sx_y 1, fx_i 6), (100, (0, [(1, 24), (3, 1)]), fx_i 7)]) [] [(129, (ng_L (gy_b (.inl (.inl (1, [(3, 1)])))), [], [(95, (1325, [(2, 15), (3, 1)]), fx_i 7)], [], []))] 6000
theorem gy_l : gy_c1 (-1324, [(2, -15), (3, -1), (4, 1)]) (1324, [(2, 15), (3, 1), (4, -1)]) = true := by decide +kernel
theorem gy_g : gy_c1 (-1531, [(2, 15), (3, 1), (4, 1)]) (1326, [(2, 15), (3, 1), (4, 1)]) = true := by decide +kernel
theorem gy_e : gy_c2 = true := by decide +kernel
theorem gz_st {w : pq_W} {ls : pq_L} {p s : Int} {f k q : Nat} (hf : f < 30) (hp : 0 ≤ p ∧ p ≤ 11) (hs : 0 ≤ s ∧ s ≤ 3) (hk : k < 34) (hq : q < 2858) {Post : pq_R → Prop} (ht : sx_Ty sx_T0 w) (hb : flB ls p s f (k : Int))
    (cont : ∀ ls2 w2, flB ls2 p s f ((k + 1 : Nat) : Int) → sx_Ty sx_T0 w2 → sx_Fr [(95, 302, 1321)] w w2 → sy_r w2 95 q = (if q = (302 + 34 * f) + k then 0 else sy_r w 95 q) → ∃ res, pq_Go 299 pm_208 104 ls2 [] w2 0 0 res ∧ Post res) : ∃ res, pq_Go 299 pm_208 104 ls [] w 0 0 res ∧ Post res := by
  have vb := sy_rb w 95 q
  have iv : ∀ d : Nat, d ≤ 2857 → sx_ivs (fx_p [p, s, (f : Int), (k : Int), d, sy_r w 95 q]) 0 [(0, 11), (0, 3), (0, 29), (0, 33), (0, 2857), sy_full] := fun d hd => ⟨hp.1, hp.2, hs.1, hs.2, (show (0 : Int) ≤ f by omega), (show (f : Int) ≤ 29 by omega), (show (0 : Int) ≤ k by omega), (show (k : Int) ≤ 33 by omega), (show (0 : Int) ≤ d by omega), (show (d : Int) ≤ 2857 by omega), vb.1, vb.2, trivial⟩
  have sl : ∀ d : Nat, ng_sl0 (fx_p [p, s, (f : Int), (k : Int), d, sy_r w 95 q]) ls (fc_b (fx_i 2) (fx_i 3)) := fun d => ⟨hb.1, ng_iy hb.2.1 rfl, ng_iy hb.2.2.1 rfl, ng_iy hb.2.2.2.1 rfl, ng_iy hb.2.2.2.2 rfl, trivial⟩
  have nx : ∀ (d : Nat) ls2, ng_sl (fx_p [p, s, (f : Int), (k : Int), d, sy_r w 95 q]) ls2 (ng_L (fc_b (fx_i 2) (.inl (.inl (1, [(3, 1)]))))) → flB ls2 p s f ((k + 1 : Nat) : Int) := fun d ls2 a => by
    obtain ⟨d0, d1, d2, d3, d4, _⟩ := a
    exact ⟨d0, ng_yi d1 rfl, ng_yi d2 rfl, ng_yi d3 rfl, ng_fi d4 (by show 1 + (1 * (k : Int) + 0) = _; omega)⟩
  have go1 : ∀ (d : Nat) (C e : sx_F), d ≤ 2857 → gz_c1 C e = true → sx_ev (fx_p [p, s, (f : Int), (k : Int), d, sy_r w 95 q]) C ≤ 0 → sx_ev (fx_p [p, s, (f : Int), (k : Int), d, sy_r w 95 q]) e = (q : Int) → ¬ q = (302 + 34 * f) + k → ∃ res, pq_Go 299 pm_208 104 ls [] w 0 0 res ∧ Post res := fun d C e hd ck hC he hne => by
    refine ng_go (J := sx_tt) (Post := Post) (fx_p [p, s, (f : Int), (k : Int), d, sy_r w 95 q]) ck rfl (iv d hd) ⟨hC, trivial⟩ (sl d) trivial ⟨gp_in (p := (fx_p [p, s, (f : Int), (k : Int), d, sy_r w 95 q])) (n := 5) he rfl, trivial⟩ ht sx_ctn (fun _ _ _ => trivial) trivial ⟨fun ls2 st2 w2 t2 f2 a => ?_, trivial⟩
    obtain ⟨a1, a2, a3, _⟩ := a
    cases ng_st0 a2
    have e1 : sy_r w2 95 q = sy_r w 95 q := gp_out (p := (fx_p [p, s, (f : Int), (k : Int), d, sy_r w 95 q])) (n := 5) he a3.1
    exact cont ls2 w2 (nx d ls2 a1) t2 f2 (by rw [if_neg hne, e1])
  by_cases e1 : q < (302 + 34 * f) + k
  · refine go1 ((302 + 34 * f) + k - 1 - q) _ _ (by omega) gz_l ?_ ?_ (by omega)
    · show -301 + (-34 * (f : Int) + (-1 * (k : Int) + (1 * (((302 + 34 * f) + k - 1 - q : Nat) : Int) + 0))) ≤ 0
      omega
    · show 301 + (34 * (f : Int) + (1 * (k : Int) + (-1 * (((302 + 34 * f) + k - 1 - q : Nat) : Int) + 0))) = (q : Int)
      omega
  by_cases e2 : (302 + 34 * f) + k < q
  · refine go1 (q - ((302 + 34 * f) + k) - 1) _ _ (by omega) gz_g ?_ ?_ (by omega)
    · show -2554 + (34 * (f : Int) + (1 * (k : Int) + (1 * ((q - ((302 + 34 * f) + k) - 1 : Nat) : Int) + 0))) ≤ 0
      omega
    · show 303 + (34 * (f : Int) + (1 * (k : Int) + (1 * ((q - ((302 + 34 * f) + k) - 1 : Nat) : Int) + 0))) = (q : Int)
      omega
  have e3 : q = (302 + 34 * f) + k := by omega
  refine ng_go (J := sx_tt) (Post := Post) (fx_p [p, s, (f : Int), (k : Int), (0 : Nat), sy_r w 95 q]) gz_e rfl (iv 0 (by decide)) trivial (sl 0) trivial trivial ht sx_ctn (fun _ _ _ => trivial) trivial ⟨fun ls2 st2 w2 t2 f2 a => ?_, trivial⟩
  obtain ⟨a1, a2, a3, _⟩ := a
  cases ng_st0 a2
  have e4 := gp_oute (q := q) (by show 302 + (34 * (f : Int) + (1 * (k : Int) + 0)) = (q : Int); omega) a3.1
  exact cont ls2 w2 (nx 0 ls2 a1) t2 f2 (by rw [if_pos e3, e4]; exact ng_ek _ _)
theorem gk_st {w : pq_W} {ls : pq_L} {p : Int} {s f k q sz : Nat} (hf : f < 30) (hp : 0 ≤ p ∧ p ≤ 11) (hs : s < 4) (hk : k < sz) (hz : sz ≤ 12) (hq : q < 2858) (hsz : sy_r w 99 s = (sz : Int)) (hx : 0 ≤ irR w s k ∧ irR w s k ≤ 63) {Post : pq_R → Prop} (ht : sx_Ty sx_T0 w) (hb : flB ls p s f (k : Int))
    (cont : ∀ ls2 w2, flB ls2 p s f ((k + 1 : Nat) : Int) → sx_Ty sx_T0 w2 → sx_Fr [(95, 302, 1321)] w w2 → sy_r w2 95 q = (if q = (308 + 34 * f) + k then irR w s k else sy_r w 95 q) → ∃ res, pq_Go 299 pm_208 186 ls2 [] w2 0 0 res ∧ Post res) : ∃ res, pq_Go 299 pm_208 186 ls [] w 0 0 res ∧ Post res := by
  have vb := sy_rb w 95 q
  have o1 : ∀ d : Nat, sy_r w 99 (sx_ev (fx_p [p, (s : Int), (f : Int), (k : Int), d, sy_r w 95 q, (sz : Int), irR w s k]) (sx_y 1)).toNat = sx_ev (fx_p [p, (s : Int), (f : Int), (k : Int), d, sy_r w 95 q, (sz : Int), irR w s k]) (sx_y 6) := fun d => by
    rw [sx_y_ev, sx_y_ev]
    show sy_r w 99 (s : Int).toNat = (sz : Int)
    rw [Int.toNat_natCast]
    exact hsz
  have o2 : ∀ d : Nat, sy_r w 100 (sx_ev (fx_p [p, (s : Int), (f : Int), (k : Int), d, sy_r w 95 q, (sz : Int), irR w s k]) (0, [(1, 24), (3, 1)])).toNat = sx_ev (fx_p [p, (s : Int), (f : Int), (k : Int), d, sy_r w 95 q, (sz : Int), irR w s k]) (sx_y 7) := fun d => by
    rw [sx_y_ev]
    show sy_r w 100 (0 + (24 * (s : Int) + (1 * (k : Int) + 0))).toNat = irR w s k
    rw [show (0 + (24 * (s : Int) + (1 * (k : Int) + 0))).toNat = 24 * s + k by omega]
    rfl
  have c1 : 1 + (1 * (k : Int) + (-1 * (sz : Int) + 0)) ≤ 0 := by omega
  have iv : ∀ d : Nat, d ≤ 2857 → sx_ivs (fx_p [p, (s : Int), (f : Int), (k : Int), d, sy_r w 95 q, (sz : Int), irR w s k]) 0 [(0, 11), (0, 3), (0, 29), (0, 11), (0, 2857), sy_full, (0, 12), (0, 63)] := fun d hd => ⟨hp.1, hp.2, (show (0 : Int) ≤ s by omega), (show (s : Int) ≤ 3 by omega), (show (0 : Int) ≤ f by omega), (show (f : Int) ≤ 29 by omega), (show (0 : Int) ≤ k by omega), (show (k : Int) ≤ 11 by omega), (show (0 : Int) ≤ d by omega), (show (d : Int) ≤ 2857 by omega), vb.1, vb.2, (show (0 : Int) ≤ sz by omega), (show (sz : Int) ≤ 12 by omega), hx.1, hx.2, trivial⟩
  have sl : ∀ d : Nat, ng_sl0 (fx_p [p, (s : Int), (f : Int), (k : Int), d, sy_r w 95 q, (sz : Int), irR w s k]) ls (fc_b (fx_i 2) (fx_i 3)) := fun d => ⟨hb.1, ng_iy hb.2.1 rfl, ng_iy hb.2.2.1 rfl, ng_iy hb.2.2.2.1 rfl, ng_iy hb.2.2.2.2 rfl, trivial⟩
  have nx : ∀ (d : Nat) ls2, ng_sl (fx_p [p, (s : Int), (f : Int), (k : Int), d, sy_r w 95 q, (sz : Int), irR w s k]) ls2 (ng_L (fc_b (fx_i 2) (.inl (.inl (1, [(3, 1)]))))) → flB ls2 p s f ((k + 1 : Nat) : Int) := fun d ls2 a => by
    obtain ⟨d0, d1, d2, d3, d4, _⟩ := a
    exact ⟨d0, ng_yi d1 rfl, ng_yi d2 rfl, ng_yi d3 rfl, ng_fi d4 (by show 1 + (1 * (k : Int) + 0) = _; omega)⟩
  have go1 : ∀ (d : Nat) (C e : sx_F), d ≤ 2857 → gk_c1 C e = true → sx_ev (fx_p [p, (s : Int), (f : Int), (k : Int), d, sy_r w 95 q, (sz : Int), irR w s k]) C ≤ 0 → sx_ev (fx_p [p, (s : Int), (f : Int), (k : Int), d, sy_r w 95 q, (sz : Int), irR w s k]) e = (q : Int) → ¬ q = (308 + 34 * f) + k → ∃ res, pq_Go 299 pm_208 186 ls [] w 0 0 res ∧ Post res := fun d C e hd ck hC he hne => by
    refine ng_go (J := sx_tt) (Post := Post) (fx_p [p, (s : Int), (f : Int), (k : Int), d, sy_r w 95 q, (sz : Int), irR w s k]) ck rfl (iv d hd) ⟨c1, hC, trivial⟩ (sl d) trivial ⟨o1 d, o2 d, gp_in (p := (fx_p [p, (s : Int), (f : Int), (k : Int), d, sy_r w 95 q, (sz : Int), irR w s k])) (n := 5) he rfl, trivial⟩ ht sx_ctn (fun _ _ _ => trivial) trivial ⟨fun ls2 st2 w2 t2 f2 a => ?_, trivial⟩
    obtain ⟨a1, a2, a3, _⟩ := a
    cases ng_st0 a2
    have e1 : sy_r w2 95 q = sy_r w 95 q := gp_out (p := (fx_p [p, (s : Int), (f : Int), (k : Int), d, sy_r w 95 q, (sz : Int), irR w s k])) (n := 5) he a3.1
    exact cont ls2 w2 (nx d ls2 a1) t2 f2 (by rw [if_neg hne, e1])
  by_cases e1 : q < (308 + 34 * f) + k
  · refine go1 ((308 + 34 * f) + k - 1 - q) _ _ (by omega) gk_l ?_ ?_ (by omega)
    · show -307 + (-34 * (f : Int) + (-1 * (k : Int) + (1 * (((308 + 34 * f) + k - 1 - q : Nat) : Int) + 0))) ≤ 0
      omega
    · show 307 + (34 * (f : Int) + (1 * (k : Int) + (-1 * (((308 + 34 * f) + k - 1 - q : Nat) : Int) + 0))) = (q : Int)
      omega
  by_cases e2 : (308 + 34 * f) + k < q
  · refine go1 (q - ((308 + 34 * f) + k) - 1) _ _ (by omega) gk_g ?_ ?_ (by omega)
    · show -2548 + (34 * (f : Int) + (1 * (k : Int) + (1 * ((q - ((308 + 34 * f) + k) - 1 : Nat) : Int) + 0))) ≤ 0
      omega
    · show 309 + (34 * (f : Int) + (1 * (k : Int) + (1 * ((q - ((308 + 34 * f) + k) - 1 : Nat) : Int) + 0))) = (q : Int)
      omega
  have e3 : q = (308 + 34 * f) + k := by omega
  refine ng_go (J := sx_tt) (Post := Post) (fx_p [p, (s : Int), (f : Int), (k : Int), (0 : Nat), sy_r w 95 q, (sz : Int), irR w s k]) gk_e rfl (iv 0 (by decide)) ⟨c1, trivial⟩ (sl 0) trivial ⟨o1 (0 : Nat), o2 (0 : Nat), trivial⟩ ht sx_ctn (fun _ _ _ => trivial) trivial ⟨fun ls2 st2 w2 t2 f2 a => ?_, trivial⟩
  obtain ⟨a1, a2, a3, _⟩ := a
  cases ng_st0 a2
  have e4 := gp_oute (q := q) (by show 308 + (34 * (f : Int) + (1 * (k : Int) + 0)) = (q : Int); omega) a3.1
  exact cont ls2 w2 (nx 0 ls2 a1) t2 f2 (by rw [if_pos e3, e4]; exact sx_y_ev _ _)
noncomputable def gyB (ls : pq_L) (g s t k : Int) : Prop := pq_lk ls 0 = some (.ref 94) ∧ ng_i ls 1 g ∧ ng_i ls 2 s ∧ ng_i ls 3 t ∧ ng_i ls 4 (1322 + 15 * t) ∧ ng_i ls 5 k
theorem gy_st {w : pq_W} {ls : pq_L} {g : Int} {s t k q sz : Nat} (hf : t < 40) (hp : 0 ≤ g ∧ g ≤ 29) (hs : s < 4) (hk : k < sz) (hz : sz ≤ 12) (hq : q < 2858) (hsz : sy_r w 99 s = (sz : Int)) (hx : -1 ≤ irR w s k ∧ irR w s k ≤ 63) {Post : pq_R → Prop} (ht : sx_Ty sx_T0 w) (hb : gyB ls g s t (k : Int))
    (cont : ∀ ls2 w2, gyB ls2 g s t ((k + 1 : Nat) : Int) → sx_Ty sx_T0 w2 → sx_Fr [(95, 1322, 1921)] w w2 → sy_r w2 95 q = (if q = (1325 + 15 * t) + k then irR w s k else sy_r w 95 q) → ∃ res, pq_Go 299 pm_212 129 ls2 [] w2 0 0 res ∧ Post res) : ∃ res, pq_Go 299 pm_212 129 ls [] w 0 0 res ∧ Post res := by
  have vb := sy_rb w 95 q
  have o1 : ∀ d : Nat, sy_r w 99 (sx_ev (fx_p [g, (s : Int), (t : Int), (k : Int), d, sy_r w 95 q, (sz : Int), irR w s k]) (sx_y 1)).toNat = sx_ev (fx_p [g, (s : Int), (t : Int), (k : Int), d, sy_r w 95 q, (sz : Int), irR w s k]) (sx_y 6) := fun d => by
    rw [sx_y_ev, sx_y_ev]
    show sy_r w 99 (s : Int).toNat = (sz : Int)
    rw [Int.toNat_natCast]
    exact hsz
  have o2 : ∀ d : Nat, sy_r w 100 (sx_ev (fx_p [g, (s : Int), (t : Int), (k : Int), d, sy_r w 95 q, (sz : Int), irR w s k]) (0, [(1, 24), (3, 1)])).toNat = sx_ev (fx_p [g, (s : Int), (t : Int), (k : Int), d, sy_r w 95 q, (sz : Int), irR w s k]) (sx_y 7) := fun d => by
    rw [sx_y_ev]
    show sy_r w 100 (0 + (24 * (s : Int) + (1 * (k : Int) + 0))).toNat = irR w s k
    rw [show (0 + (24 * (s : Int) + (1 * (k : Int) + 0))).toNat = 24 * s + k by omega]
    rfl
  have c1 : 1 + (1 * (k : Int) + (-1 * (sz : Int) + 0)) ≤ 0 := by omega
  have iv : ∀ d : Nat, d ≤ 2857 → sx_ivs (fx_p [g, (s : Int), (t : Int), (k : Int), d, sy_r w 95 q, (sz : Int), irR w s k]) 0 [(0, 29), (0, 3), (0, 39), (0, 11), (0, 2857), sy_full, (0, 12), (-1, 63)] := fun d hd => ⟨hp.1, hp.2, (show (0 : Int) ≤ s by omega), (show (s : Int) ≤ 3 by omega), (show (0 : Int) ≤ t by omega), (show (t : Int) ≤ 39 by omega), (show (0 : Int) ≤ k by omega), (show (k : Int) ≤ 11 by omega), (show (0 : Int) ≤ d by omega), (show (d : Int) ≤ 2857 by omega), vb.1, vb.2, (show (0 : Int) ≤ sz by omega), (show (sz : Int) ≤ 12 by omega), hx.1, hx.2, trivial⟩
  have sl : ∀ d : Nat, ng_sl0 (fx_p [g, (s : Int), (t : Int), (k : Int), d, sy_r w 95 q, (sz : Int), irR w s k]) ls (gy_b (fx_i 3)) := fun d => ⟨hb.1, ng_iy hb.2.1 rfl, ng_iy hb.2.2.1 rfl, ng_iy hb.2.2.2.1 rfl, ng_if hb.2.2.2.2.1 (by show 1322 + (15 * (t : Int) + 0) = _; omega), ng_iy hb.2.2.2.2.2 rfl, trivial⟩
  have nx : ∀ (d : Nat) ls2, ng_sl (fx_p [g, (s : Int), (t : Int), (k : Int), d, sy_r w 95 q, (sz : Int), irR w s k]) ls2 (ng_L (gy_b (.inl (.inl (1, [(3, 1)]))))) → gyB ls2 g s t ((k + 1 : Nat) : Int) := fun d ls2 a => by
    obtain ⟨d0, d1, d2, d3, d4, d5, _⟩ := a
    exact ⟨d0, ng_yi d1 rfl, ng_yi d2 rfl, ng_yi d3 rfl, ng_fi d4 (by show 1322 + (15 * (t : Int) + 0) = _; omega), ng_fi d5 (by show 1 + (1 * (k : Int) + 0) = _; omega)⟩
  have go1 : ∀ (d : Nat) (C e : sx_F), d ≤ 2857 → gy_c1 C e = true → sx_ev (fx_p [g, (s : Int), (t : Int), (k : Int), d, sy_r w 95 q, (sz : Int), irR w s k]) C ≤ 0 → sx_ev (fx_p [g, (s : Int), (t : Int), (k : Int), d, sy_r w 95 q, (sz : Int), irR w s k]) e = (q : Int) → ¬ q = (1325 + 15 * t) + k → ∃ res, pq_Go 299 pm_212 129 ls [] w 0 0 res ∧ Post res := fun d C e hd ck hC he hne => by
    refine ng_go (J := sx_tt) (Post := Post) (fx_p [g, (s : Int), (t : Int), (k : Int), d, sy_r w 95 q, (sz : Int), irR w s k]) ck rfl (iv d hd) ⟨c1, hC, trivial⟩ (sl d) trivial ⟨o1 d, o2 d, gp_in (p := (fx_p [g, (s : Int), (t : Int), (k : Int), d, sy_r w 95 q, (sz : Int), irR w s k])) (n := 5) he rfl, trivial⟩ ht sx_ctn (fun _ _ _ => trivial) trivial ⟨fun ls2 st2 w2 t2 f2 a => ?_, trivial⟩
    obtain ⟨a1, a2, a3, _⟩ := a
    cases ng_st0 a2
    have e1 : sy_r w2 95 q = sy_r w 95 q := gp_out (p := (fx_p [g, (s : Int), (t : Int), (k : Int), d, sy_r w 95 q, (sz : Int), irR w s k])) (n := 5) he a3.1
    exact cont ls2 w2 (nx d ls2 a1) t2 f2 (by rw [if_neg hne, e1])
  by_cases e1 : q < (1325 + 15 * t) + k
  · refine go1 ((1325 + 15 * t) + k - 1 - q) _ _ (by omega) gy_l ?_ ?_ (by omega)
    · show -1324 + (-15 * (t : Int) + (-1 * (k : Int) + (1 * (((1325 + 15 * t) + k - 1 - q : Nat) : Int) + 0))) ≤ 0
      omega
    · show 1324 + (15 * (t : Int) + (1 * (k : Int) + (-1 * (((1325 + 15 * t) + k - 1 - q : Nat) : Int) + 0))) = (q : Int)
      omega
  by_cases e2 : (1325 + 15 * t) + k < q
  · refine go1 (q - ((1325 + 15 * t) + k) - 1) _ _ (by omega) gy_g ?_ ?_ (by omega)
    · show -1531 + (15 * (t : Int) + (1 * (k : Int) + (1 * ((q - ((1325 + 15 * t) + k) - 1 : Nat) : Int) + 0))) ≤ 0
      omega
    · show 1326 + (15 * (t : Int) + (1 * (k : Int) + (1 * ((q - ((1325 + 15 * t) + k) - 1 : Nat) : Int) + 0))) = (q : Int)
      omega
  have e3 : q = (1325 + 15 * t) + k := by omega
  refine ng_go (J := sx_tt) (Post := Post) (fx_p [g, (s : Int), (t : Int), (k : Int), (0 : Nat), sy_r w 95 q, (sz : Int), irR w s k]) gy_e rfl (iv 0 (by decide)) ⟨c1, trivial⟩ (sl 0) trivial ⟨o1 (0 : Nat), o2 (0 : Nat), trivial⟩ ht sx_ctn (fun _ _ _ => trivial) trivial ⟨fun ls2 st2 w2 t2 f2 a => ?_, trivial⟩
  obtain ⟨a1, a2, a3, _⟩ := a
  cases ng_st0 a2
  have e4 := gp_oute (q := q) (by show 1325 + (15 * (t : Int) + (1 * (k : Int) + 0)) = (q : Int); omega) a3.1
  exact cont ls2 w2 (nx 0 ls2 a1) t2 f2 (by rw [if_pos e3, e4]; exact sx_y_ev _ _)
