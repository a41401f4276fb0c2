/-! file and fly of the reference, whole -/
theorem kr_Nq {old old2 num : Nat → Int} {b n q : Nat} (h : old q = old2 q) : kr_N old num b n q = kr_N old2 num b n q := by
  unfold kr_N
  rw [h]
-- file, between the loops: symbols 0 plane, 1 sheet, 2 flight, 3 size, 4 how far away, 5 what stands there, 6 day
noncomputable def gm_iv : List (Int × Int) := [(0, 11), (0, 3), (0, 29), (0, 12), (0, 2857), sy_full, sy_full]
noncomputable def gm_c (C : List sx_F) (e : sx_F) : Bool := ng_chk [(95, 302, 1321)] [] [] 299 208 pm_208 104 gm_iv C (fc_b (fx_i 2) (fx_k 34)) [] [(99, sx_y 1, fx_i 3), mc_o 0 (fx_i 6), (95, e, fx_i 5)] [] [(186, (ng_L (fc_b (fx_i 2) (fx_k 0)), [], [(95, e, fx_i 5)], [], []))] 6000
noncomputable def gm_v : Bool := ng_chk [(95, 302, 1321)] [] [] 299 208 pm_208 104 gm_iv [] (fc_b (fx_i 2) (fx_k 34)) [] [(99, sx_y 1, fx_i 3), mc_o 0 (fx_i 6)] [] [(186, (ng_L (fc_b (fx_i 2) (fx_k 0)), [], [(95, (302, [(2, 34)]), fx_i 0), (95, (303, [(2, 34)]), fx_i 6), (95, (304, [(2, 34)]), fx_k (-1)), (95, (307, [(2, 34)]), fx_i 3)], [], []))] 6000
theorem gm_v_ok : gm_v = true := by decide +kernel
theorem gm_3 : gm_c [] (305, [(2, 34)]) = true := by decide +kernel
theorem gm_4 : gm_c [] (306, [(2, 34)]) = true := by decide +kernel
theorem gm_l : gm_c [(-301, [(2, -34), (4, 1)])] (301, [(2, 34), (4, -1)]) = true := by decide +kernel
theorem gm_g : gm_c [(-2549, [(2, 34), (4, 1)])] (308, [(2, 34), (4, 1)]) = true := by decide +kernel
noncomputable def gm_V (old : Nat → Int) (p d z : Int) (b q : Nat) : Int := if q = b then p else if q = b + 1 then d else if q = b + 2 then -1 else if q = b + 5 then z else old q
theorem gm_Vq {old old2 : Nat → Int} {p d z : Int} {b q : Nat} (h : old q = old2 q) : gm_V old p d z b q = gm_V old2 p d z b q := by
  unfold gm_V
  rw [h]
theorem gm_ok {w : pq_W} {ls : pq_L} {p : Int} {s f q sz : Nat} (hf : f < 30) (hp : 0 ≤ p ∧ p ≤ 11) (hs : s < 4) (hz : sz ≤ 12) (hq : q < 2858) (hsz : sy_r w 99 s = (sz : Int)) {Post : pq_R → Prop} (ht : sx_Ty sx_T0 w) (hb : flB ls p s f 34)
    (cont : ∀ ls2 w2, flB ls2 p s f 0 → sx_Ty sx_T0 w2 → sx_Fr [(95, 302, 1321)] w w2 → sy_r w2 95 q = gm_V (sy_r w 95) p (sy_r w 95 0) sz (302 + 34 * f) q → ∃ res, pq_Go 299 pm_208 186 ls2 [] w2 0 0 res ∧ Post res) : ∃ res, pq_Go 299 pm_208 104 ls [] w 0 0 res ∧ Post res := by
  have vb := sy_rb w 95 q
  have db := sy_rb w 95 0
  have iv : ∀ d : Nat, d ≤ 2857 → sx_ivs (fx_p [p, (s : Int), (f : Int), (sz : Int), d, sy_r w 95 q, sy_r w 95 0]) 0 gm_iv := fun d hd => ⟨hp.1, hp.2, (show (0 : Int) ≤ s by omega), (show (s : Int) ≤ 3 by omega), (show (0 : Int) ≤ f by omega), (show (f : Int) ≤ 29 by omega), (show (0 : Int) ≤ sz by omega), (show (sz : Int) ≤ 12 by omega), (show (0 : Int) ≤ d by omega), (show (d : Int) ≤ 2857 by omega), vb.1, vb.2, db.1, db.2, trivial⟩
  have sl : ∀ d : Nat, ng_sl0 (fx_p [p, (s : Int), (f : Int), (sz : Int), d, sy_r w 95 q, sy_r w 95 0]) ls (fc_b (fx_i 2) (fx_k 34)) := fun d => ⟨hb.1, ng_iy hb.2.1 rfl, ng_iy hb.2.2.1 rfl, ng_iy hb.2.2.2.1 rfl, ng_ik hb.2.2.2.2 rfl, trivial⟩
  have o1 : ∀ d : Nat, sy_r w 99 (sx_ev (fx_p [p, (s : Int), (f : Int), (sz : Int), d, sy_r w 95 q, sy_r w 95 0]) (sx_y 1)).toNat = sx_ev (fx_p [p, (s : Int), (f : Int), (sz : Int), d, sy_r w 95 q, sy_r w 95 0]) (sx_y 3) := fun d => by
    rw [sx_y_ev, sx_y_ev]
    show sy_r w 99 (s : Int).toNat = (sz : Int)
    rw [Int.toNat_natCast]
    exact hsz
  have nx : ∀ (d : Nat) ls2, ng_sl (fx_p [p, (s : Int), (f : Int), (sz : Int), d, sy_r w 95 q, sy_r w 95 0]) ls2 (ng_L (fc_b (fx_i 2) (fx_k 0))) → flB ls2 p s f 0 := fun d ls2 a => by
    obtain ⟨d0, d1, d2, d3, d4, _⟩ := a
    exact ⟨d0, ng_yi d1 rfl, ng_yi d2 rfl, ng_yi d3 rfl, ng_ki d4 rfl⟩
  have go1 : ∀ (d : Nat) (C : List sx_F) (e : sx_F), d ≤ 2857 → gm_c C e = true → ng_fs (fx_p [p, (s : Int), (f : Int), (sz : Int), d, sy_r w 95 q, sy_r w 95 0]) C → sx_ev (fx_p [p, (s : Int), (f : Int), (sz : Int), d, sy_r w 95 q, sy_r w 95 0]) e = (q : Int) → gm_V (sy_r w 95) p (sy_r w 95 0) sz (302 + 34 * f) q = sy_r w 95 q → ∃ res, pq_Go 299 pm_208 104 ls [] w 0 0 res ∧ Post res := fun d C e hd ck hC he hne => by
    refine ng_go (J := sx_tt) (Post := Post) (fx_p [p, (s : Int), (f : Int), (sz : Int), d, sy_r w 95 q, sy_r w 95 0]) ck rfl (iv d hd) hC (sl d) trivial ⟨o1 d, mc_eo (n := 0) (by rw [sx_y_ev]; rfl) rfl ⟨gp_in (p := fx_p [p, (s : Int), (f : Int), (sz : Int), d, sy_r w 95 q, sy_r w 95 0]) (n := 5) he rfl, trivial⟩⟩ ht sx_ctn (fun _ _ _ => trivial) trivial ⟨fun ls2 st2 w2 t2 f2 a => ?_, trivial⟩
    obtain ⟨a1, a2, a3, _⟩ := a
    cases ng_st0 a2
    have e1 : sy_r w2 95 q = sy_r w 95 q := gp_out (p := fx_p [p, (s : Int), (f : Int), (sz : Int), d, sy_r w 95 q, sy_r w 95 0]) (n := 5) he a3.1
    exact cont ls2 w2 (nx d ls2 a1) t2 f2 (by rw [hne, e1])
  by_cases c1 : q < 302 + 34 * f
  · refine go1 (301 + 34 * f - q) _ _ (by omega) gm_l ⟨?_, trivial⟩ ?_ ?_
    · show -301 + (-34 * (f : Int) + (1 * ((301 + 34 * f - q : Nat) : Int) + 0)) ≤ 0
      omega
    · show 301 + (34 * (f : Int) + (-1 * ((301 + 34 * f - q : Nat) : Int) + 0)) = (q : Int)
      omega
    · unfold gm_V
      rw [if_neg (by omega), if_neg (by omega), if_neg (by omega), if_neg (by omega)]
  by_cases c2 : 308 + 34 * f ≤ q
  · refine go1 (q - (308 + 34 * f)) _ _ (by omega) gm_g ⟨?_, trivial⟩ ?_ ?_
    · show -2549 + (34 * (f : Int) + (1 * ((q - (308 + 34 * f) : Nat) : Int) + 0)) ≤ 0
      omega
    · show 308 + (34 * (f : Int) + (1 * ((q - (308 + 34 * f) : Nat) : Int) + 0)) = (q : Int)
      omega
    · unfold gm_V
      rw [if_neg (by omega), if_neg (by omega), if_neg (by omega), if_neg (by omega)]
  by_cases c3 : q = 305 + 34 * f
  · refine go1 0 _ _ (by omega) gm_3 trivial ?_ ?_
    · show 305 + (34 * (f : Int) + 0) = (q : Int)
      omega
    · unfold gm_V
      rw [if_neg (by omega), if_neg (by omega), if_neg (by omega), if_neg (by omega)]
  by_cases c4 : q = 306 + 34 * f
  · refine go1 0 _ _ (by omega) gm_4 trivial ?_ ?_
    · show 306 + (34 * (f : Int) + 0) = (q : Int)
      omega
    · unfold gm_V
      rw [if_neg (by omega), if_neg (by omega), if_neg (by omega), if_neg (by omega)]
  refine ng_go (J := sx_tt) (Post := Post) (fx_p [p, (s : Int), (f : Int), (sz : Int), (0 : Nat), sy_r w 95 q, sy_r w 95 0]) gm_v_ok rfl (iv 0 (by decide)) trivial (sl 0) trivial ⟨o1 0, mc_eo (n := 0) (by rw [sx_y_ev]; rfl) rfl trivial⟩ ht sx_ctn (fun _ _ _ => trivial) trivial ⟨fun ls2 st2 w2 t2 f2 a => ?_, trivial⟩
  obtain ⟨a1, a2, a3, _⟩ := a
  cases ng_st0 a2
  obtain ⟨v0, v1, v2, v5, _⟩ := a3
  refine cont ls2 w2 (nx 0 ls2 a1) t2 f2 ?_
  unfold gm_V
  by_cases c5 : q = 302 + 34 * f
  · have e := gp_oute (q := q) (by show 302 + (34 * (f : Int) + 0) = (q : Int); omega) v0
    rw [if_pos c5, e]
    exact sx_y_ev _ _
  by_cases c6 : q = 302 + 34 * f + 1
  · have e := gp_oute (q := q) (by show 303 + (34 * (f : Int) + 0) = (q : Int); omega) v1
    rw [if_neg c5, if_pos c6, e]
    exact sx_y_ev _ _
  by_cases c7 : q = 302 + 34 * f + 2
  · have e := gp_oute (q := q) (by show 304 + (34 * (f : Int) + 0) = (q : Int); omega) v2
    rw [if_neg c5, if_neg c6, if_pos c7, e]
    exact ng_ek _ _
  have c8 : q = 302 + 34 * f + 5 := by omega
  have e := gp_oute (q := q) (by show 307 + (34 * (f : Int) + 0) = (q : Int); omega) v5
  rw [if_neg c5, if_neg c6, if_neg c7, if_pos c8, e]
  exact sx_y_ev _ _
/-- what file leaves at a place -/
noncomputable def fm_V (old num : Nat → Int) (p d : Int) (sz f q : Nat) : Int := if q = 5 then (f : Int) + 1 else kr_N (gm_V (kr_N old (fun _ => 0) (302 + 34 * f) 34) p d sz (302 + 34 * f)) num (308 + 34 * f) sz q
noncomputable def fmQ (w : pq_W) (xp xs E : Int) (row : Bool) (q : Nat) (res : pq_R) : Prop := (∃ y : Int32, res.1 = some (.int y) ∧ y.toInt = fi_X E row (sy_r w 95 5)) ∧ ((¬ fi_g E row (sy_r w 95 5) ∧ sx_Fr [(97, 0, 100000), (106, 0, 63), (107, 0, 63)] w res.2) ∨ (fi_g E row (sy_r w 95 5) ∧ ∃ f s sz : Nat, f < 30 ∧ sy_r w 95 5 = (f : Int) ∧ s < 4 ∧ xs = (s : Int) ∧ sy_r w 99 s = (sz : Int) ∧ sz ≤ 12 ∧ ir_ok w s 0 ∧ sy_r res.2 95 q = fm_V (sy_r w 95) (irR w s) xp (sy_r w 95 0) sz f q))
theorem fmx_ok {xp xs : Int32} {w : pq_W} {q : Nat} (hq : q < 2858) (ht : sx_Ty sx_T0 w) (hZ : ∀ a : Nat, a < 8 → sy_r w 95 2 ≤ a → sy_r w 95 (187 + 10 * a) = 0) (hW : ∀ s, s < 4 → 0 ≤ sy_r w 98 s ∧ sy_r w 98 s ≤ 32) {E : Int} (hE : E = fi_E xp.toInt xs.toInt (sy_r w 95 3) (sy_r w 98 xs.toInt.toNat) (sy_r w 95 (187 + 10 * (sy_r w 95 (267 + 3 * xp.toInt.toNat)).toNat))) {row : Bool} (hr : row = true ↔ ir_ok w xs.toInt.toNat 0) : ∃ res, pq_Go 299 pm_208 0 (lv_args 0 [.ref 94, .int xp, .int xs]) [] w 0 0 res ∧ fmQ w xp.toInt xs.toInt E row q res := by
  have hy := mo_yT ht (Or.inl rfl)
  have hy5 : 0 ≤ sy_r w 95 5 ∧ sy_r w 95 5 ≤ 30 := hy.2.2.1
  refine fi_gen (P := fi_m) fim_1 fim_2 fim_3 fim_4 rfl (fun p => 267 + 3 * p) (fun a => 187 + 10 * a) (fun v p h => by show 267 + (3 * v 0 + 0) = _; omega) (fun v p h => by show 187 + (10 * v 3 + 0) = _; omega) xp xs ht hy.2.1 (fun p hp => ?_) hW (fun a ha => fi_em2 ht ha) hy.1 hZ hE (fun x w1 t1 f1 h1 h2 => ?_) (fun e0 ls w1 c0 c1 c2 p1 p2 s1 s2 t1 f1 => ?_)
  · have := sy_rg (r := 95) ht rfl (g := (266, 3, 12, 1, 1, 0, 7)) (by decide) (k := p) (j := 1) hp (Nat.le_refl _) (Nat.le_refl _) (by show 266 + 3 * p + 1 < 2858; omega)
    have e : 266 + 3 * p + 1 = 267 + 3 * p := by omega
    have h : 0 ≤ sy_r w 95 (266 + 3 * p + 1) ∧ sy_r w 95 (266 + 3 * p + 1) ≤ 7 := this
    rw [e] at h
    exact h
  · have f1 : sx_Fr [(97, 0, 100000)] w w1 := f1
    exact ⟨⟨x, rfl, by rw [h1]; exact (if_neg h2).symm⟩, Or.inl ⟨fun h => h2 h.1, sx_Fr_sub (by decide +kernel) f1⟩⟩
  · have p2 : xp.toInt < sy_r w 95 3 := p2
    have hy3 : 0 ≤ sy_r w 95 3 ∧ sy_r w 95 3 ≤ 12 := hy.2.1
    obtain ⟨s, es⟩ : ∃ s : Nat, (s : Int) = xs.toInt := ⟨xs.toInt.toNat, by omega⟩
    have est : xs.toInt.toNat = s := by omega
    rw [est] at hr
    have hs4 : s < 4 := by omega
    have sm : ∀ r i, sy_r w1 r i = sy_r w r i := fun r i => ng_nil f1 r i
    obtain ⟨⟨r2, w2⟩, g2, t2, f2, x, x1, x2⟩ := irx_exact (w := w1) (s := s) (xs := xs) (xl := nI 0) t1 hs4 es.symm (by decide)
    have x1 : r2 = some (.int x) := x1
    subst x1
    have f2 : sx_Fr [(106, 0, 63), (107, 0, 63)] w1 w2 := f2
    have f12 : sx_Fr [(106, 0, 63), (107, 0, 63)] w w2 := fr_cat f1 f2
    have t2 : sx_Ty sx_T0 w2 := t2
    have n2 : ∀ r i, r ≠ 106 → r ≠ 107 → sy_r w2 r i = sy_r w r i := fun r i h1 h2 => by rw [fr_no f2 ⟨Or.inl (fun e => h1 e.symm), Or.inl (fun e => h2 e.symm), trivial⟩, sm]
    have c5 : sy_r w2 95 5 = sy_r w 95 5 := n2 95 5 (by decide) (by decide)
    have ok : ir_ok w1 s (nI 0).toInt ↔ row = true := by
      rw [hr]
      unfold ir_ok
      rw [show irR w1 s = irR w s from funext (fun k => sm 100 _), sm]
      exact Iff.rfl
    have hp : 0 ≤ xp.toInt ∧ xp.toInt ≤ 11 := by omega
    have key : ∃ res, pq_Go 299 pm_208 71 ls [.int x] w2 0 0 res ∧ fmQ w xp.toInt xs.toInt E row q res := by
      subst e0
      rcases x2 with ⟨x2, x3⟩ | ⟨x2, x3⟩
      · have er : row = true := ok.mp x3
        subst er
        by_cases hc : sy_r w 95 5 = 30
        · refine ng_go (J := sx_tt) (Post := fmQ w xp.toInt xs.toInt 0 true q) (fx_p [xp.toInt, xs.toInt]) fim_f rfl ⟨hp.1, hp.2, s1, s2, trivial⟩ trivial ⟨c0, ng_iy c1 rfl, ng_iy c2 rfl, trivial⟩ ⟨by show x.toInt = sx_ev _ (1, []); rw [ng_ek, x2], trivial⟩ (mc_eo (n := 5) (by rw [ng_ek, c5, hc]) rfl trivial) t2 sx_ctn (fun _ _ _ => trivial) ⟨fun y w3 t3 f3 a => ?_, trivial⟩ trivial
          have f3 : sx_Fr [(97, 0, 5)] w2 w3 := f3
          obtain ⟨z, z1, z2⟩ := sh_ans a.1
          exact ⟨⟨z, z1, by rw [z2, hc]; rfl⟩, Or.inl ⟨fun h => h.2.2 hc, sx_Fr_sub (by decide +kernel) (fr_cat f12 f3)⟩⟩
        · obtain ⟨f, ef⟩ : ∃ f : Nat, sy_r w 95 5 = (f : Int) := ⟨(sy_r w 95 5).toNat, by omega⟩
          have hf30 : f < 30 := by omega
          have hok : ir_ok w s 0 := hr.mp rfl
          have hsz1 : 2 ≤ sy_r w 99 s := hok.1
          have hsz2 : sy_r w 99 s ≤ 12 := hok.2.1
          obtain ⟨sz, esz⟩ : ∃ sz : Nat, sy_r w 99 s = (sz : Int) := ⟨(sy_r w 99 s).toNat, by omega⟩
          refine ng_go (J := sx_tt) (Post := fmQ w xp.toInt xs.toInt 0 true q) (fx_p [xp.toInt, xs.toInt, sy_r w 95 5]) fim_g rfl ⟨hp.1, hp.2, s1, s2, hy5.1, (show sy_r w 95 5 ≤ 29 by omega), trivial⟩ trivial ⟨c0, ng_iy c1 rfl, ng_iy c2 rfl, trivial⟩ ⟨by show x.toInt = sx_ev _ (1, []); rw [ng_ek, x2], trivial⟩ (mc_eo (n := 5) (by rw [sx_y_ev, c5]; rfl) rfl trivial) t2 sx_ctn (fun _ _ _ => trivial) trivial ⟨fun ls4 st4 w4 t4 f4 a => ?_, trivial⟩
          obtain ⟨a1, a2, _⟩ := a
          cases ng_st0 a2
          obtain ⟨b0, b1, b2, b3, b4, _⟩ := a1
          have f4 : sx_Fr [] w2 w4 := f4
          have n4 : ∀ r i, r ≠ 106 → r ≠ 107 → sy_r w4 r i = sy_r w r i := fun r i h1 h2 => by rw [ng_nil f4, n2 r i h1 h2]
          have bB4 : flB ls4 xp.toInt s f ((0 : Nat) : Int) := ⟨b0, ng_yi b1 rfl, ng_yi b2 es.symm, ng_yi b3 ef, ng_ki b4 rfl⟩
          refine gl_lp (K := 299) (M := pm_208) (pc := 104) (A := [(95, 302, 1321)]) (b := 302 + 34 * f) (n := 34) (q := q) (num := fun _ => 0) (SB := fun l k => flB l xp.toInt s f (k : Int)) (w0 := w4) (Post := fmQ w xp.toInt xs.toInt 0 true q) (fun k hk l v hb hv hfr cont => gz_st hf30 hp ⟨by omega, by omega⟩ hk hq hv hb cont) ?_ 34 0 (by omega) ls4 w4 bB4 t4 (sx_Fr_refl _ _) (by unfold kr_N; rw [if_neg (by omega)])
          intro ls5 w5 b5 t5 f5 v5
          refine gm_ok (w := w5) (p := xp.toInt) (s := s) (f := f) (q := q) (sz := sz) hf30 hp hs4 (by omega) hq (by rw [fr_no f5 ⟨Or.inl (by decide), trivial⟩, n4 99 s (by decide) (by decide)]; exact esz) t5 b5 (fun ls6 w6 b6 t6 f6 v6 => ?_)
          have f46 : sx_Fr [(95, 302, 1321)] w4 w6 := sx_Fr_trans f5 f6
          have i6 : ∀ k, irR w6 s k = irR w s k := fun k => by
            show sy_r w6 100 _ = sy_r w 100 _
            rw [fr_no f46 ⟨Or.inl (by decide), trivial⟩, n4 100 _ (by decide) (by decide)]
          have h6 : sy_r w6 99 s = (sz : Int) := by rw [fr_no f46 ⟨Or.inl (by decide), trivial⟩, n4 99 s (by decide) (by decide)]; exact esz
          refine gl_lp (K := 299) (M := pm_208) (pc := 186) (A := [(95, 302, 1321)]) (b := 308 + 34 * f) (n := sz) (q := q) (num := irR w s) (SB := fun l k => flB l xp.toInt s f (k : Int)) (w0 := w6) (Post := fmQ w xp.toInt xs.toInt 0 true q) (fun k hk l v hb hv hfr cont => ?_) ?_ sz 0 (by omega) ls6 w6 b6 t6 (sx_Fr_refl _ _) (by unfold kr_N; rw [if_neg (by omega)])
          · have i7 : ∀ k, irR v s k = irR w s k := fun k => by
              show sy_r v 100 _ = _
              rw [fr_no hfr ⟨Or.inl (by decide), trivial⟩]
              exact i6 k
            have hx := hok.2.2.1 k (by omega)
            refine gk_st (sz := sz) hf30 hp hs4 hk (by omega) hq (by rw [fr_no hfr ⟨Or.inl (by decide), trivial⟩, h6]) (by rw [i7]; omega) hv hb (fun l2 v2 b2 y2 fr2 e2 => cont l2 v2 b2 y2 fr2 (by rw [e2, i7]))
          · intro ls7 w7 b7 t7 f7 v7
            have f47 : sx_Fr [(95, 302, 1321)] w4 w7 := sx_Fr_trans f46 f7
            have h57 : sy_r w7 95 5 = (f : Int) := by rw [fr_no f47 ⟨Or.inr (by omega), trivial⟩, n4 95 5 (by decide) (by decide)]; exact ef
            refine ng_go (J := sx_tt) (Post := fmQ w xp.toInt xs.toInt 0 true q) (fx_p [xp.toInt, s, sz, f]) fim_7 rfl ⟨hp.1, hp.2, (show (0 : Int) ≤ s by omega), (show (s : Int) ≤ 3 by omega), (show (0 : Int) ≤ sz by omega), (show (sz : Int) ≤ 12 by omega), (show (0 : Int) ≤ f by omega), (show (f : Int) ≤ 29 by omega), trivial⟩ trivial ⟨b7.1, ng_iy b7.2.1 rfl, ng_iy b7.2.2.1 rfl, ng_iy b7.2.2.2.1 rfl, ng_iy b7.2.2.2.2 rfl, trivial⟩ trivial ⟨?_, mc_eo (n := 5) (by rw [sx_y_ev, h57]; rfl) rfl trivial⟩ t7 sx_ctn (fun _ _ _ => trivial) ⟨fun y w8 t8 f8 a => ?_, trivial⟩ trivial
            · rw [sx_y_ev, sx_y_ev]
              show sy_r w7 99 (s : Int).toNat = (sz : Int)
              rw [Int.toNat_natCast, fr_no f7 ⟨Or.inl (by decide), trivial⟩, h6]
            obtain ⟨q1, q2, _⟩ := a
            obtain ⟨v8, _⟩ := mc_oe (n := 5) q2 rfl
            have v8 : sy_r w8 95 5 = 1 + (1 * (f : Int) + 0) := v8
            have f8 : sx_Fr [(95, 5, 5)] w7 w8 := f8
            obtain ⟨z, z1, z2⟩ := q1
            have z2 : z.toInt = (f : Int) := z2.trans (sx_y_ev _ _)
            refine ⟨⟨z, z1, by rw [z2, ef]; exact (if_neg (by omega)).symm⟩, Or.inr ⟨⟨rfl, rfl, hc⟩, f, s, sz, hf30, ef, hs4, es.symm, esz, by omega, hok, ?_⟩⟩
            show sy_r w8 95 q = _
            unfold fm_V
            by_cases e5 : q = 5
            · rw [if_pos e5, e5, v8]
              omega
            · rw [if_neg e5, fr_no f8 ⟨Or.inr (by omega), trivial⟩, v7]
              refine kr_Nq ?_
              rw [v6, show sy_r w5 95 0 = sy_r w 95 0 by rw [fr_no f5 ⟨Or.inr (by omega), trivial⟩, n4 95 0 (by decide) (by decide)]]
              refine gm_Vq ?_
              rw [v5]
              exact kr_Nq (n4 95 q (by decide) (by decide))
      · have er : row = false := by
          cases row with
          | false => rfl
          | true => exact absurd (ok.mpr rfl) x3
        subst er
        refine ng_go (J := sx_tt) (Post := fmQ w xp.toInt xs.toInt 0 false q) (fx_p [xp.toInt, xs.toInt]) fim_z rfl ⟨hp.1, hp.2, s1, s2, trivial⟩ trivial ⟨c0, ng_iy c1 rfl, ng_iy c2 rfl, trivial⟩ ⟨by show x.toInt = sx_ev _ (0, []); rw [ng_ek, x2], trivial⟩ trivial t2 sx_ctn (fun _ _ _ => trivial) ⟨fun y w3 t3 f3 a => ?_, trivial⟩ trivial
        have f3 : sx_Fr [(97, 0, 5)] w2 w3 := f3
        obtain ⟨z, z1, z2⟩ := sh_ans a.1
        exact ⟨⟨z, z1, by rw [z2]; rfl⟩, Or.inl ⟨fun h => absurd h.2.1 (by decide), sx_Fr_sub (by decide +kernel) (fr_cat f12 f3)⟩⟩
    obtain ⟨res, k1, k2⟩ := key
    exact ⟨res, go_cl (j := 209) (n := 3) (as := [.ref 94, .int xs, .int (nI 0)]) (r := some (.int x)) (st' := [.int x]) (cs' := 0) (ss' := 0) (k1 := 30) rfl rfl rfl rfl rfl rfl rfl g2 k1, k2⟩
-- fly: symbols 0 flight, 1 sheet, 2 told, 3 size, 4 how far away, 5 what stands there, 6 day or how often told
noncomputable def gn_iv : List (Int × Int) := [(0, 29), (0, 3), (0, 39), (0, 12), (0, 2857), sy_full, sy_full]
noncomputable def gn_c (C : List sx_F) (e : sx_F) : Bool := ng_chk [(95, 1322, 1921)] [] [] 299 212 pm_212 45 gn_iv C (fi_s2 94) [fx_k 1] [mc_o 6 (fx_i 2), (99, sx_y 1, fx_i 3), mc_o 0 (fx_i 6), (95, e, fx_i 5)] [] [(129, (ng_L (gy_b (fx_k 0)), [], [(95, e, fx_i 5)], [], []))] 6000
noncomputable def gn_v : Bool := ng_chk [(95, 1322, 1921)] [] [] 299 212 pm_212 45 gn_iv [] (fi_s2 94) [fx_k 1] [mc_o 6 (fx_i 2), (99, sx_y 1, fx_i 3), mc_o 0 (fx_i 6)] [] [(129, (ng_L (gy_b (fx_k 0)), [], [(95, (1322, [(2, 15)]), fx_i 0), (95, (1323, [(2, 15)]), fx_i 6), (95, (1324, [(2, 15)]), fx_i 3)], [], []))] 6000
theorem gn_v_ok : gn_v = true := by decide +kernel
theorem gn_l : gn_c [(-1321, [(2, -15), (4, 1)])] (1321, [(2, 15), (4, -1)]) = true := by decide +kernel
theorem gn_g : gn_c [(-1532, [(2, 15), (4, 1)])] (1325, [(2, 15), (4, 1)]) = true := by decide +kernel
noncomputable def gn_V (old : Nat → Int) (g d z : Int) (b q : Nat) : Int := if q = b then g else if q = b + 1 then d else if q = b + 2 then z else old q
theorem gn_Vq {old old2 : Nat → Int} {p d z : Int} {b q : Nat} (h : old q = old2 q) : gn_V old p d z b q = gn_V old2 p d z b q := by
  unfold gn_V
  rw [h]
theorem gn_ok {w : pq_W} {ls : pq_L} {g : Int} {x : Int32} {s t q sz : Nat} (hf : t < 40) (hp : 0 ≤ g ∧ g ≤ 29) (hs : s < 4) (hz : sz ≤ 12) (hq : q < 2858) (hsz : sy_r w 99 s = (sz : Int)) (et : sy_r w 95 6 = (t : Int)) (hx : x.toInt = 1) {Post : pq_R → Prop} (ht : sx_Ty sx_T0 w) (c0 : pq_lk ls 0 = some (.ref 94)) (c1 : ng_i ls 1 g) (c2 : ng_i ls 2 s)
    (cont : ∀ ls2 w2, gyB ls2 g s t 0 → sx_Ty sx_T0 w2 → sx_Fr [(95, 1322, 1921)] w w2 → sy_r w2 95 q = gn_V (sy_r w 95) g (sy_r w 95 0) sz (1322 + 15 * t) q → ∃ res, pq_Go 299 pm_212 129 ls2 [] w2 0 0 res ∧ Post res) : ∃ res, pq_Go 299 pm_212 45 ls [.int x] w 0 0 res ∧ Post res := by
  have vb := sy_rb w 95 q
  have db := sy_rb w 95 0
  have iv : ∀ d : Nat, d ≤ 2857 → sx_ivs (fx_p [g, (s : Int), (t : Int), (sz : Int), d, sy_r w 95 q, sy_r w 95 0]) 0 gn_iv := fun d hd => ⟨hp.1, hp.2, (show (0 : Int) ≤ s by omega), (show (s : Int) ≤ 3 by omega), (show (0 : Int) ≤ t by omega), (show (t : Int) ≤ 39 by omega), (show (0 : Int) ≤ sz by omega), (show (sz : Int) ≤ 12 by omega), (show (0 : Int) ≤ d by omega), (show (d : Int) ≤ 2857 by omega), vb.1, vb.2, db.1, db.2, trivial⟩
  have sl : ∀ d : Nat, ng_sl0 (fx_p [g, (s : Int), (t : Int), (sz : Int), d, sy_r w 95 q, sy_r w 95 0]) ls (fi_s2 94) := fun d => ⟨c0, ng_iy c1 rfl, ng_iy c2 rfl, trivial⟩
  have sm : ∀ d : Nat, sx_sm (fx_p [g, (s : Int), (t : Int), (sz : Int), d, sy_r w 95 q, sy_r w 95 0]) [fx_k 1] [.int x] := fun d => ⟨by show x.toInt = sx_ev _ (1, []); rw [ng_ek, hx], trivial⟩
  have o1 : ∀ d : Nat, sy_r w 99 (sx_ev (fx_p [g, (s : Int), (t : Int), (sz : Int), d, sy_r w 95 q, sy_r w 95 0]) (sx_y 1)).toNat = sx_ev (fx_p [g, (s : Int), (t : Int), (sz : Int), d, sy_r w 95 q, sy_r w 95 0]) (sx_y 3) := fun d => by
    rw [sx_y_ev, sx_y_ev]
    show sy_r w 99 (s : Int).toNat = (sz : Int)
    rw [Int.toNat_natCast]
    exact hsz
  have nx : ∀ (d : Nat) ls2, ng_sl (fx_p [g, (s : Int), (t : Int), (sz : Int), d, sy_r w 95 q, sy_r w 95 0]) ls2 (ng_L (gy_b (fx_k 0))) → gyB ls2 g s t 0 := fun d ls2 a => by
    obtain ⟨d0, d1, d2, d3, d4, d5, _⟩ := a
    exact ⟨d0, ng_yi d1 rfl, ng_yi d2 rfl, ng_yi d3 rfl, ng_fi d4 (by show 1322 + (15 * (t : Int) + 0) = _; omega), ng_ki d5 rfl⟩
  have go1 : ∀ (d : Nat) (C : List sx_F) (e : sx_F), d ≤ 2857 → gn_c C e = true → ng_fs (fx_p [g, (s : Int), (t : Int), (sz : Int), d, sy_r w 95 q, sy_r w 95 0]) C → sx_ev (fx_p [g, (s : Int), (t : Int), (sz : Int), d, sy_r w 95 q, sy_r w 95 0]) e = (q : Int) → gn_V (sy_r w 95) g (sy_r w 95 0) sz (1322 + 15 * t) q = sy_r w 95 q → ∃ res, pq_Go 299 pm_212 45 ls [.int x] w 0 0 res ∧ Post res := fun d C e hd ck hC he hne => by
    refine ng_go (J := sx_tt) (Post := Post) (fx_p [g, (s : Int), (t : Int), (sz : Int), d, sy_r w 95 q, sy_r w 95 0]) ck rfl (iv d hd) hC (sl d) (sm d) (mc_eo (n := 6) (by rw [sx_y_ev]; exact et) rfl ⟨o1 d, mc_eo (n := 0) (by rw [sx_y_ev]; rfl) rfl ⟨gp_in (p := fx_p [g, (s : Int), (t : Int), (sz : Int), d, sy_r w 95 q, sy_r w 95 0]) (n := 5) he rfl, trivial⟩⟩) ht sx_ctn (fun _ _ _ => trivial) trivial ⟨fun ls2 st2 w2 t2 f2 a => ?_, trivial⟩
    obtain ⟨a1, a2, a3, _⟩ := a
    cases ng_st0 a2
    have e1 : sy_r w2 95 q = sy_r w 95 q := gp_out (p := fx_p [g, (s : Int), (t : Int), (sz : Int), d, sy_r w 95 q, sy_r w 95 0]) (n := 5) he a3.1
    exact cont ls2 w2 (nx d ls2 a1) t2 f2 (by rw [hne, e1])
  by_cases c3 : q < 1322 + 15 * t
  · refine go1 (1321 + 15 * t - q) _ _ (by omega) gn_l ⟨?_, trivial⟩ ?_ ?_
    · show -1321 + (-15 * (t : Int) + (1 * ((1321 + 15 * t - q : Nat) : Int) + 0)) ≤ 0
      omega
    · show 1321 + (15 * (t : Int) + (-1 * ((1321 + 15 * t - q : Nat) : Int) + 0)) = (q : Int)
      omega
    · unfold gn_V
      rw [if_neg (by omega), if_neg (by omega), if_neg (by omega)]
  by_cases c4 : 1325 + 15 * t ≤ q
  · refine go1 (q - (1325 + 15 * t)) _ _ (by omega) gn_g ⟨?_, trivial⟩ ?_ ?_
    · show -1532 + (15 * (t : Int) + (1 * ((q - (1325 + 15 * t) : Nat) : Int) + 0)) ≤ 0
      omega
    · show 1325 + (15 * (t : Int) + (1 * ((q - (1325 + 15 * t) : Nat) : Int) + 0)) = (q : Int)
      omega
    · unfold gn_V
      rw [if_neg (by omega), if_neg (by omega), if_neg (by omega)]
  refine ng_go (J := sx_tt) (Post := Post) (fx_p [g, (s : Int), (t : Int), (sz : Int), (0 : Nat), sy_r w 95 q, sy_r w 95 0]) gn_v_ok rfl (iv 0 (by decide)) trivial (sl 0) (sm 0) (mc_eo (n := 6) (by rw [sx_y_ev]; exact et) rfl ⟨o1 0, mc_eo (n := 0) (by rw [sx_y_ev]; rfl) rfl trivial⟩) ht sx_ctn (fun _ _ _ => trivial) trivial ⟨fun ls2 st2 w2 t2 f2 a => ?_, trivial⟩
  obtain ⟨a1, a2, a3, _⟩ := a
  cases ng_st0 a2
  obtain ⟨v0, v1, v2, _⟩ := a3
  refine cont ls2 w2 (nx 0 ls2 a1) t2 f2 ?_
  unfold gn_V
  by_cases c5 : q = 1322 + 15 * t
  · have e := gp_oute (q := q) (by show 1322 + (15 * (t : Int) + 0) = (q : Int); omega) v0
    rw [if_pos c5, e]
    exact sx_y_ev _ _
  by_cases c6 : q = 1322 + 15 * t + 1
  · have e := gp_oute (q := q) (by show 1323 + (15 * (t : Int) + 0) = (q : Int); omega) v1
    rw [if_neg c5, if_pos c6, e]
    exact sx_y_ev _ _
  have c7 : q = 1322 + 15 * t + 2 := by omega
  have e := gp_oute (q := q) (by show 1324 + (15 * (t : Int) + 0) = (q : Int); omega) v2
  rw [if_neg c5, if_neg c6, if_pos c7, e]
  exact sx_y_ev _ _
-- fly's end
noncomputable def go_iv : List (Int × Int) := [(0, 29), (0, 3), (0, 39), (0, 12), (0, 2857), sy_full, (0, 40)]
noncomputable def go_o (O : sx_O) : sx_O := (99, sx_y 1, fx_i 3) :: mc_o 6 (fx_i 2) :: (95, (306, [(0, 34)]), fx_i 6) :: O
noncomputable def go_c (C e : sx_F) : Bool := ng_chk [(95, 6, 6), (95, 302, 1321)] [] [] 299 212 pm_212 129 go_iv [C] (gy_b (fx_i 3)) [] (go_o [(95, e, fx_i 5)]) [(.inl (.inl (.inl (.inl (1, [(6, 1)])))), [(95, e, fx_i 5)], [], [])] [] 6000
noncomputable def go_v : Bool := ng_chk [(95, 6, 6), (95, 302, 1321)] [] [] 299 212 pm_212 129 go_iv [] (gy_b (fx_i 3)) [] (go_o []) [(.inl (.inl (.inl (.inl (1, [(6, 1)])))), [mc_o 6 (.inl (.inl (1, [(2, 1)]))), (95, (306, [(0, 34)]), .inl (.inl (1, [(6, 1)])))], [], [])] [] 6000
theorem go_v_ok : go_v = true := by decide +kernel
theorem go_1 : go_c (-5, [(4, 1)]) (5, [(4, -1)]) = true := by decide +kernel
noncomputable def go_2s (g : Nat) : List (Nat × sx_V) := [(0, fx_r), (1, fx_k g), (2, fx_i 1), (3, fx_i 2), (4, .inl (.inl (1322, [(2, 15)]))), (5, fx_i 3)]
noncomputable def go_2k (g : Nat) : Bool := ng_chk [(95, 6, 6), (95, 302, 1321)] [] [] 299 212 pm_212 129 [(0, 29), (0, 3), (0, 39), (0, 12), (0, 3 + 34 * (g : Int)), sy_full, (0, 40)] [] (go_2s g) [] [(99, sx_y 1, fx_i 3), mc_o 6 (fx_i 2), mc_o (306 + 34 * (g : Int)) (fx_i 6), (95, (305 + 34 * (g : Int), [(4, -1)]), fx_i 5)] [(.inl (.inl (.inl (.inl (1, [(6, 1)])))), [(95, (305 + 34 * (g : Int), [(4, -1)]), fx_i 5)], [], [])] [] 6000
theorem go_2 : (List.range 30).all go_2k = true := by decide +kernel
theorem go_3 : go_c (-2550, [(0, 34), (4, 1)]) (307, [(0, 34), (4, 1)]) = true := by decide +kernel
noncomputable def go_V (old : Nat → Int) (t c g q : Nat) : Int := if q = 6 then (t : Int) + 1 else if q = 306 + 34 * g then (c : Int) + 1 else old q
theorem go_Vq {old old2 : Nat → Int} {t c g q : Nat} (h : old q = old2 q) : go_V old t c g q = go_V old2 t c g q := by
  unfold go_V
  rw [h]
theorem go_ok {w : pq_W} {ls : pq_L} {g s t c q sz : Nat} (hf : t < 40) (hg : g < 30) (hs : s < 4) (hz : sz ≤ 12) (hq : q < 2858) (hsz : sy_r w 99 s = (sz : Int)) (et : sy_r w 95 6 = (t : Int)) (ec : sy_r w 95 (306 + 34 * g) = (c : Int)) (hc : c ≤ 40) (ht : sx_Ty sx_T0 w) (hb : gyB ls g s t sz) : ∃ res, pq_Go 299 pm_212 129 ls [] w 0 0 res ∧ sx_Ty sx_T0 res.2 ∧ sx_Fr [(95, 6, 6), (95, 302, 1321)] w res.2 ∧ (∃ y : Int32, res.1 = some (.int y) ∧ y.toInt = (c : Int) + 1) ∧ sy_r res.2 95 q = go_V (sy_r w 95) t c g q := by
  have vb := sy_rb w 95 q
  have iv : ∀ d : Nat, d ≤ 2857 → sx_ivs (fx_p [(g : Int), (s : Int), (t : Int), (sz : Int), d, sy_r w 95 q, (c : Int)]) 0 go_iv := fun d hd => ⟨(show (0 : Int) ≤ g by omega), (show (g : Int) ≤ 29 by omega), (show (0 : Int) ≤ s by omega), (show (s : Int) ≤ 3 by omega), (show (0 : Int) ≤ t by omega), (show (t : Int) ≤ 39 by omega), (show (0 : Int) ≤ sz by omega), (show (sz : Int) ≤ 12 by omega), (show (0 : Int) ≤ d by omega), (show (d : Int) ≤ 2857 by omega), vb.1, vb.2, (show (0 : Int) ≤ c by omega), (show (c : Int) ≤ 40 by omega), trivial⟩
  have sl : ∀ d : Nat, ng_sl0 (fx_p [(g : Int), (s : Int), (t : Int), (sz : Int), d, sy_r w 95 q, (c : Int)]) ls (gy_b (fx_i 3)) := fun d => ⟨hb.1, ng_iy hb.2.1 rfl, ng_iy hb.2.2.1 rfl, ng_iy hb.2.2.2.1 rfl, ng_if hb.2.2.2.2.1 (by show 1322 + (15 * (t : Int) + 0) = _; omega), ng_iy hb.2.2.2.2.2 rfl, trivial⟩
  have oo : ∀ (d : Nat) (O : sx_O), ng_eqs (fx_p [(g : Int), (s : Int), (t : Int), (sz : Int), d, sy_r w 95 q, (c : Int)]) w O → ng_eqs (fx_p [(g : Int), (s : Int), (t : Int), (sz : Int), d, sy_r w 95 q, (c : Int)]) w (go_o O) := fun d O hO => by
    refine ⟨?_, mc_eo (n := 6) (by rw [sx_y_ev]; exact et) rfl ⟨?_, hO⟩⟩
    · rw [sx_y_ev, sx_y_ev]
      show sy_r w 99 (s : Int).toNat = (sz : Int)
      rw [Int.toNat_natCast]
      exact hsz
    · rw [sx_y_ev]
      show sy_r w 95 (306 + (34 * (g : Int) + 0)).toNat = (c : Int)
      rw [show (306 + (34 * (g : Int) + 0)).toNat = 306 + 34 * g by omega]
      exact ec
  have go1 : ∀ (d : Nat) (C e : sx_F), d ≤ 2857 → go_c C e = true → sx_ev (fx_p [(g : Int), (s : Int), (t : Int), (sz : Int), d, sy_r w 95 q, (c : Int)]) C ≤ 0 → sx_ev (fx_p [(g : Int), (s : Int), (t : Int), (sz : Int), d, sy_r w 95 q, (c : Int)]) e = (q : Int) → go_V (sy_r w 95) t c g q = sy_r w 95 q → ∃ res, pq_Go 299 pm_212 129 ls [] w 0 0 res ∧ sx_Ty sx_T0 res.2 ∧ sx_Fr [(95, 6, 6), (95, 302, 1321)] w res.2 ∧ (∃ y : Int32, res.1 = some (.int y) ∧ y.toInt = (c : Int) + 1) ∧ sy_r res.2 95 q = go_V (sy_r w 95) t c g q := fun d C e hd ck hC he hne => by
    refine ng_go (J := sx_tt) (fx_p [(g : Int), (s : Int), (t : Int), (sz : Int), d, sy_r w 95 q, (c : Int)]) ck rfl (iv d hd) ⟨hC, trivial⟩ (sl d) trivial (oo d _ ⟨gp_in (p := fx_p [(g : Int), (s : Int), (t : Int), (sz : Int), d, sy_r w 95 q, (c : Int)]) (n := 5) he rfl, trivial⟩) ht sx_ctn (fun _ _ _ => trivial) ⟨fun y w2 t2 f2 a => ?_, trivial⟩ trivial
    obtain ⟨⟨z, z1, z2⟩, a3, _⟩ := a
    have e1 : sy_r w2 95 q = sy_r w 95 q := gp_out (p := fx_p [(g : Int), (s : Int), (t : Int), (sz : Int), d, sy_r w 95 q, (c : Int)]) (n := 5) he a3.1
    have z2 : z.toInt = 1 + (1 * (c : Int) + 0) := z2
    exact ⟨t2, f2, ⟨z, z1, by omega⟩, by show sy_r w2 95 q = _; rw [hne, e1]⟩
  by_cases c1 : q < 6
  · refine go1 (5 - q) _ _ (by omega) go_1 ?_ ?_ ?_
    · show -5 + (1 * ((5 - q : Nat) : Int) + 0) ≤ 0
      omega
    · show 5 + (-1 * ((5 - q : Nat) : Int) + 0) = (q : Int)
      omega
    · unfold go_V
      rw [if_neg (by omega), if_neg (by omega)]
  by_cases c2 : 302 ≤ q ∧ q < 306 + 34 * g
  · have ck := List.all_eq_true.mp go_2 g (List.mem_range.mpr hg)
    unfold go_2k at ck
    have he : sx_ev (fx_p [(g : Int), (s : Int), (t : Int), (sz : Int), ((305 + 34 * g - q : Nat) : Int), sy_r w 95 q, (c : Int)]) (305 + 34 * (g : Int), [(4, -1)]) = (q : Int) := by
      show 305 + 34 * (g : Int) + (-1 * ((305 + 34 * g - q : Nat) : Int) + 0) = (q : Int)
      omega
    refine ng_go (J := sx_tt) (fx_p [(g : Int), (s : Int), (t : Int), (sz : Int), ((305 + 34 * g - q : Nat) : Int), sy_r w 95 q, (c : Int)]) ck rfl ⟨(show (0 : Int) ≤ g by omega), (show (g : Int) ≤ 29 by omega), (show (0 : Int) ≤ s by omega), (show (s : Int) ≤ 3 by omega), (show (0 : Int) ≤ t by omega), (show (t : Int) ≤ 39 by omega), (show (0 : Int) ≤ sz by omega), (show (sz : Int) ≤ 12 by omega), (show (0 : Int) ≤ ((305 + 34 * g - q : Nat) : Int) by omega), (show ((305 + 34 * g - q : Nat) : Int) ≤ 3 + 34 * (g : Int) by omega), vb.1, vb.2, (show (0 : Int) ≤ c by omega), (show (c : Int) ≤ 40 by omega), trivial⟩ trivial ⟨hb.1, ng_ik hb.2.1 rfl, ng_iy hb.2.2.1 rfl, ng_iy hb.2.2.2.1 rfl, ng_if hb.2.2.2.2.1 (by show 1322 + (15 * (t : Int) + 0) = _; omega), ng_iy hb.2.2.2.2.2 rfl, trivial⟩ trivial ⟨by
      rw [sx_y_ev, sx_y_ev]
      show sy_r w 99 (s : Int).toNat = (sz : Int)
      rw [Int.toNat_natCast]
      exact hsz, mc_eo (n := 6) (by rw [sx_y_ev]; exact et) rfl (mc_eo (n := 306 + 34 * g) (by rw [sx_y_ev]; exact ec) (by omega) ⟨gp_in (p := fx_p [(g : Int), (s : Int), (t : Int), (sz : Int), ((305 + 34 * g - q : Nat) : Int), sy_r w 95 q, (c : Int)]) (n := 5) he rfl, trivial⟩)⟩ ht sx_ctn (fun _ _ _ => trivial) ⟨fun y w2 t2 f2 a => ?_, trivial⟩ trivial
    obtain ⟨⟨z, z1, z2⟩, a3, _⟩ := a
    have e1 : sy_r w2 95 q = sy_r w 95 q := gp_out (p := fx_p [(g : Int), (s : Int), (t : Int), (sz : Int), ((305 + 34 * g - q : Nat) : Int), sy_r w 95 q, (c : Int)]) (n := 5) he a3.1
    have z2 : z.toInt = 1 + (1 * (c : Int) + 0) := z2
    refine ⟨t2, f2, ⟨z, z1, by omega⟩, ?_⟩
    show sy_r w2 95 q = _
    unfold go_V
    rw [if_neg (by omega), if_neg (by omega), e1]
  by_cases c3 : 306 + 34 * g < q
  · refine go1 (q - (307 + 34 * g)) _ _ (by omega) go_3 ?_ ?_ ?_
    · show -2550 + (34 * (g : Int) + (1 * ((q - (307 + 34 * g) : Nat) : Int) + 0)) ≤ 0
      omega
    · show 307 + (34 * (g : Int) + (1 * ((q - (307 + 34 * g) : Nat) : Int) + 0)) = (q : Int)
      omega
    · unfold go_V
      rw [if_neg (by omega), if_neg (by omega)]
  refine ng_go (J := sx_tt) (fx_p [(g : Int), (s : Int), (t : Int), (sz : Int), (0 : Nat), sy_r w 95 q, (c : Int)]) go_v_ok rfl (iv 0 (by decide)) trivial (sl 0) trivial (oo 0 [] trivial) ht sx_ctn (fun _ _ _ => trivial) ⟨fun y w2 t2 f2 a => ?_, trivial⟩ trivial
  obtain ⟨⟨z, z1, z2⟩, a3, _⟩ := a
  have z2 : z.toInt = 1 + (1 * (c : Int) + 0) := z2
  obtain ⟨o6, o7, _⟩ := mc_oe (n := 6) a3 rfl
  have o6 : sy_r w2 95 6 = 1 + (1 * (t : Int) + 0) := o6
  refine ⟨t2, f2, ⟨z, z1, by omega⟩, ?_⟩
  show sy_r w2 95 q = _
  unfold go_V
  by_cases c5 : q = 6
  · rw [if_pos c5, c5, o6]
    omega
  by_cases c6 : q < 302
  · rw [if_neg c5, if_neg (by omega)]
    have f2 : sx_Fr [(95, 6, 6), (95, 302, 1321)] w w2 := f2
    exact fr_no f2 ⟨Or.inr (by omega), Or.inr (by omega), trivial⟩
  · have e := gp_oute (q := q) (by show 306 + (34 * (g : Int) + 0) = (q : Int); omega) o7
    have e : sy_r w2 95 q = 1 + (1 * (c : Int) + 0) := e
    rw [if_neg c5, if_pos (by omega), e]
    omega
/-- what fly leaves at a place -/
noncomputable def fn_V (old num : Nat → Int) (d : Int) (sz t c g q : Nat) : Int := go_V (kr_N (gn_V old g d sz (1322 + 15 * t)) num (1325 + 15 * t) sz) t c g q
noncomputable def fnQ (w : pq_W) (xg xs E : Int) (row : Bool) (q : Nat) (res : pq_R) : Prop := (∃ y : Int32, res.1 = some (.int y) ∧ y.toInt = fy_X E row (sy_r w 95 6) (sy_r w 95 (306 + 34 * xg.toNat) + 1)) ∧ ((¬ fy_g E row (sy_r w 95 6) ∧ sx_Fr [(97, 0, 100000), (106, 0, 63), (107, 0, 63)] w res.2) ∨ (fy_g E row (sy_r w 95 6) ∧ ∃ t s sz g c : Nat, t < 40 ∧ sy_r w 95 6 = (t : Int) ∧ s < 4 ∧ xs = (s : Int) ∧ sy_r w 99 s = (sz : Int) ∧ sz ≤ 12 ∧ g < 30 ∧ xg = (g : Int) ∧ (g : Int) < sy_r w 95 5 ∧ sy_r w 95 (306 + 34 * g) = (c : Int) ∧ ir_ok w s (-1) ∧ sy_r res.2 95 q = fn_V (sy_r w 95) (irR w s) (sy_r w 95 0) sz t c g q))
theorem fmy_z : ng_chk [(97, 0, 5)] [] [] 299 212 pm_212 45 [(0, 29), (0, 3)] [] (fi_s2 94) [fx_k 0] [] [(sh_x (-1000005), [], [], [])] [] 6000 = true := by decide +kernel
theorem fmy_f : ng_chk [(97, 0, 5)] [] [] 299 212 pm_212 45 [(0, 29), (0, 3)] [] (fi_s2 94) [fx_k 1] [mc_o 6 (fx_k 40)] [(sh_x (-1000004), [], [], [])] [] 6000 = true := by decide +kernel
theorem fmy_ok {xg xs : Int32} {w : pq_W} {q : Nat} (hq : q < 2858) (ht : sx_Ty sx_T0 w) (hW : ∀ s, s < 4 → 0 ≤ sy_r w 98 s ∧ sy_r w 98 s ≤ 32) (hC : ∀ g : Nat, g < 30 → (g : Int) < sy_r w 95 5 → 0 ≤ sy_r w 95 (306 + 34 * g) ∧ sy_r w 95 (306 + 34 * g) ≤ 40) {E : Int} (hE : E = fy_E xg.toInt xs.toInt (sy_r w 95 5) (sy_r w 98 xs.toInt.toNat)) {row : Bool} (hr : row = true ↔ ir_ok w xs.toInt.toNat (-1)) : ∃ res, pq_Go 299 pm_212 0 (lv_args 0 [.ref 94, .int xg, .int xs]) [] w 0 0 res ∧ fnQ w xg.toInt xs.toInt E row q res := by
  have hy := mo_yT ht (Or.inl rfl)
  have hy5 : 0 ≤ sy_r w 95 5 ∧ sy_r w 95 5 ≤ 30 := hy.2.2.1
  have hy6 := sy_rg (r := 95) ht rfl (g := (6, 1, 1, 0, 0, 0, 40)) (by decide) (k := 0) (j := 0) (by decide) (Nat.le_refl _) (Nat.le_refl _) (by decide)
  have hy6 : 0 ≤ sy_r w 95 6 ∧ sy_r w 95 6 ≤ 40 := hy6
  refine fy_gen (xg := nI 0 - 1) fym_1 fym_2 fym_4 rfl rfl xg xs ht hy5 hW hE (fun x w1 t1 f1 h1 h2 => ?_) (fun e0 ls w1 c0 c1 c2 p1 p2 s1 s2 t1 f1 => ?_)
  · exact ⟨⟨x, rfl, by rw [h1]; exact (if_neg h2).symm⟩, Or.inl ⟨fun h => h2 h.1, sx_Fr_sub (by decide +kernel) f1⟩⟩
  · obtain ⟨s, es⟩ : ∃ s : Nat, (s : Int) = xs.toInt := ⟨xs.toInt.toNat, by omega⟩
    have est : xs.toInt.toNat = s := by omega
    rw [est] at hr
    have hs4 : s < 4 := by omega
    obtain ⟨g, eg⟩ : ∃ g : Nat, xg.toInt = (g : Int) := ⟨xg.toInt.toNat, by omega⟩
    have egt : xg.toInt.toNat = g := by omega
    have hg30 : g < 30 := by omega
    have hcg := hC g hg30 (by omega)
    obtain ⟨c, ec⟩ : ∃ c : Nat, sy_r w 95 (306 + 34 * g) = (c : Int) := ⟨(sy_r w 95 (306 + 34 * g)).toNat, by omega⟩
    have sm : ∀ r i, sy_r w1 r i = sy_r w r i := fun r i => ng_nil f1 r i
    obtain ⟨⟨r2, w2⟩, g2, t2, f2, x, x1, x2⟩ := irx_exact (w := w1) (s := s) (xs := xs) (xl := nI 0 - 1) t1 hs4 es.symm (by decide)
    have x1 : r2 = some (.int x) := x1
    subst x1
    have f2 : sx_Fr [(106, 0, 63), (107, 0, 63)] w1 w2 := f2
    have f12 : sx_Fr [(106, 0, 63), (107, 0, 63)] w w2 := fr_cat f1 f2
    have t2 : sx_Ty sx_T0 w2 := t2
    have n2 : ∀ r i, r ≠ 106 → r ≠ 107 → sy_r w2 r i = sy_r w r i := fun r i h1 h2 => by rw [fr_no f2 ⟨Or.inl (fun e => h1 e.symm), Or.inl (fun e => h2 e.symm), trivial⟩, sm]
    have n95 : sy_r w2 95 = sy_r w 95 := funext (fun i => n2 95 i (by decide) (by decide))
    have ok : ir_ok w1 s (nI 0 - 1).toInt ↔ row = true := by
      rw [hr]
      unfold ir_ok
      rw [show irR w1 s = irR w s from funext (fun k => sm 100 _), sm]
      exact Iff.rfl
    have hp : 0 ≤ xg.toInt ∧ xg.toInt ≤ 29 := by omega
    have key : ∃ res, pq_Go 299 pm_212 45 ls [.int x] w2 0 0 res ∧ fnQ w xg.toInt xs.toInt E row q res := by
      subst e0
      rcases x2 with ⟨x2, x3⟩ | ⟨x2, x3⟩
      · have er : row = true := ok.mp x3
        subst er
        by_cases hc : sy_r w 95 6 = 40
        · refine ng_go (J := sx_tt) (Post := fnQ w xg.toInt xs.toInt 0 true q) (fx_p [xg.toInt, xs.toInt]) fmy_f rfl ⟨hp.1, hp.2, s1, s2, trivial⟩ trivial ⟨c0, ng_iy c1 rfl, ng_iy c2 rfl, trivial⟩ ⟨by show x.toInt = sx_ev _ (1, []); rw [ng_ek, x2], trivial⟩ (mc_eo (n := 6) (by rw [ng_ek, n95, hc]) rfl trivial) t2 sx_ctn (fun _ _ _ => trivial) ⟨fun y w3 t3 f3 a => ?_, trivial⟩ trivial
          have f3 : sx_Fr [(97, 0, 5)] w2 w3 := f3
          obtain ⟨z, z1, z2⟩ := sh_ans a.1
          exact ⟨⟨z, z1, by rw [z2, hc]; rfl⟩, Or.inl ⟨fun h => h.2.2 hc, sx_Fr_sub (by decide +kernel) (fr_cat f12 f3)⟩⟩
        · obtain ⟨t, et⟩ : ∃ t : Nat, sy_r w 95 6 = (t : Int) := ⟨(sy_r w 95 6).toNat, by omega⟩
          have ht40 : t < 40 := by omega
          have hok : ir_ok w s (-1) := hr.mp rfl
          have hsz1 : 2 ≤ sy_r w 99 s := hok.1
          have hsz2 : sy_r w 99 s ≤ 12 := hok.2.1
          obtain ⟨sz, esz⟩ : ∃ sz : Nat, sy_r w 99 s = (sz : Int) := ⟨(sy_r w 99 s).toNat, by omega⟩
          refine gn_ok (w := w2) (g := xg.toInt) (s := s) (t := t) (q := q) (sz := sz) ht40 hp hs4 (by omega) hq (by rw [n2 99 s (by decide) (by decide)]; exact esz) (by rw [n95]; exact et) x2 t2 c0 c1 (by rw [es]; exact c2) (fun ls6 w6 b6 t6 f6 v6 => ?_)
          rw [n95] at v6
          have i6 : ∀ k, irR w6 s k = irR w s k := fun k => by
            show sy_r w6 100 _ = sy_r w 100 _
            rw [fr_no f6 ⟨Or.inl (by decide), trivial⟩, n2 100 _ (by decide) (by decide)]
          have h6 : sy_r w6 99 s = (sz : Int) := by rw [fr_no f6 ⟨Or.inl (by decide), trivial⟩, n2 99 s (by decide) (by decide)]; exact esz
          refine gl_lp (K := 299) (M := pm_212) (pc := 129) (A := [(95, 1322, 1921)]) (b := 1325 + 15 * t) (n := sz) (q := q) (num := irR w s) (SB := fun l k => gyB l xg.toInt s t (k : Int)) (w0 := w6) (Post := fnQ w xg.toInt xs.toInt 0 true q) (fun k hk l v hb hv hfr cont => ?_) ?_ sz 0 (by omega) ls6 w6 b6 t6 (sx_Fr_refl _ _) (by unfold kr_N; rw [if_neg (by omega)])
          · have i7 : ∀ k, irR v s k = irR w s k := fun k => by
              show sy_r v 100 _ = _
              rw [fr_no hfr ⟨Or.inl (by decide), trivial⟩]
              exact i6 k
            have hx := hok.2.2.1 k (by omega)
            exact gy_st (sz := sz) ht40 hp hs4 hk (by omega) hq (by rw [fr_no hfr ⟨Or.inl (by decide), trivial⟩, h6]) (by rw [i7]; omega) hv hb (fun l2 v2 b2 y2 fr2 e2 => cont l2 v2 b2 y2 fr2 (by rw [e2, i7]))
          · intro ls7 w7 b7 t7 f7 v7
            have f67 : sx_Fr [(95, 1322, 1921)] w2 w7 := sx_Fr_trans f6 f7
            rw [eg] at b7 v6
            obtain ⟨⟨r8, w8⟩, g8, t8, f8, ⟨y, y1, y2⟩, v8⟩ := go_ok (w := w7) (g := g) (s := s) (t := t) (c := c) (q := q) (sz := sz) ht40 hg30 hs4 (by omega) hq (by rw [fr_no f7 ⟨Or.inl (by decide), trivial⟩, h6]) (by rw [fr_no f67 ⟨Or.inr (by omega), trivial⟩, n95]; exact et) (by rw [fr_no f67 ⟨Or.inr (by omega), trivial⟩, n95]; exact ec) (by omega) t7 b7
            have v8 : sy_r w8 95 q = go_V (sy_r w7 95) t c g q := v8
            refine ⟨(r8, w8), g8, ⟨y, y1, ?_⟩, Or.inr ⟨⟨rfl, rfl, hc⟩, t, s, sz, g, c, ht40, et, hs4, es.symm, esz, by omega, hg30, eg, by omega, ec, hok, ?_⟩⟩
            · rw [y2, egt, ec]
              exact (if_neg hc).symm
            · show sy_r w8 95 q = _
              rw [v8]
              unfold fn_V
              refine go_Vq ?_
              rw [v7]
              refine kr_Nq ?_
              exact v6
      · have er : row = false := by
          cases row with
          | false => rfl
          | true => exact absurd (ok.mpr rfl) x3
        subst er
        refine ng_go (J := sx_tt) (Post := fnQ w xg.toInt xs.toInt 0 false q) (fx_p [xg.toInt, xs.toInt]) fmy_z rfl ⟨hp.1, hp.2, s1, s2, trivial⟩ trivial ⟨c0, ng_iy c1 rfl, ng_iy c2 rfl, trivial⟩ ⟨by show x.toInt = sx_ev _ (0, []); rw [ng_ek, x2], trivial⟩ trivial t2 sx_ctn (fun _ _ _ => trivial) ⟨fun y w3 t3 f3 a => ?_, trivial⟩ trivial
        have f3 : sx_Fr [(97, 0, 5)] w2 w3 := f3
        obtain ⟨z, z1, z2⟩ := sh_ans a.1
        exact ⟨⟨z, z1, by rw [z2]; rfl⟩, Or.inl ⟨fun h => absurd h.2.1 (by decide), sx_Fr_sub (by decide +kernel) (fr_cat f12 f3)⟩⟩
    obtain ⟨res, k1, k2⟩ := key
    exact ⟨res, go_cl (j := 209) (n := 3) (as := [.ref 94, .int xs, .int (nI 0 - 1)]) (r := some (.int x)) (st' := [.int x]) (cs' := 0) (ss' := 0) (k1 := 30) rfl rfl rfl rfl rfl rfl rfl g2 k1, k2⟩
