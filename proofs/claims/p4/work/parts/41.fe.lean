/-! findFees, by hand over the checks -/
noncomputable def ff_FA : sx_A := [(105, 0, 100000), (106, 0, 63), (107, 0, 63), (108, 0, 7)]
noncomputable def ff_P (w0 : pq_W) (res : pq_R) : Prop := sx_Ty sx_T0 res.2 ∧ sx_Fr ff_FA w0 res.2 ∧ (∃ x : Int32, res.1 = some (.int x) ∧ 0 ≤ x.toInt ∧ x.toInt ≤ 1) ∧ ∀ l : Nat, l < 8 → 0 ≤ sy_r res.2 108 l ∧ sy_r res.2 108 l ≤ 1099690
noncomputable def ff_W (w : pq_W) (f : Nat) : Prop := mWay w 95 (307 + 34 * f) ∧ ∀ t : Nat, (t : Int) < sy_r w 95 6 → mWay w 95 (1324 + 15 * t)
noncomputable def ffB (ls : pq_L) (f th ba p g : Int) : Prop := pq_lk ls 0 = some (.ref 94) ∧ ng_i ls 1 f ∧ ng_i ls 2 th ∧ ng_i ls 3 ba ∧ ng_i ls 4 p ∧ ng_i ls 5 g
theorem ng_g1 {p : Nat → Int} {w : pq_W} {r : Nat} {e : sx_F} {b : Bool} {lo hi : Int} {rest : sx_Gh} (h : ng_gs p w ((r, e, b, lo, hi) :: rest)) : lo ≤ sy_r w r (sx_ev p e).toNat ∧ sy_r w r (sx_ev p e).toNat ≤ hi := h.1
theorem ff_Al {l : Nat} {w w1 : pq_W} (hl : l < 8) (f : sx_Fr (ff_A l) w w1) : sx_Fr ff_FA w w1 := fun r i h => f r i (fun ⟨q, hq, e1, e2, e3⟩ => by
  rcases List.mem_cons.mp hq with rfl | hq
  · exact h ⟨_, List.mem_cons_self, e1, e2, e3⟩
  · cases List.mem_singleton.mp hq
    exact h ⟨(108, 0, 7), by decide, e1, by show (0 : Int) ≤ i; omega, by have e3 : (i : Int) ≤ l := e3; show (i : Int) ≤ 7; omega⟩)
theorem ff_gA {w w1 : pq_W} (f : sx_Fr gA w w1) : sx_Fr ff_FA w w1 := sx_Fr_sub (by decide +kernel) f
theorem ff_95 {w w1 : pq_W} (f : sx_Fr ff_FA w w1) (i : Nat) : sy_r w1 95 i = sy_r w 95 i := sy_r_fr f (fun ⟨q, hq, e, _⟩ => by
  have hq : q ∈ [(105, 0, 100000), (106, 0, 63), (107, 0, 63), ((108 : Nat), (0 : Int), (7 : Int))] := hq
  simp only [List.mem_cons, List.not_mem_nil, or_false] at hq
  rcases hq with rfl | rfl | rfl | rfl <;> cases e)
theorem ff_du {l l' : Nat} {w w1 : pq_W} (f : sx_Fr (ff_A l) w w1) (h : l' ≠ l) : sy_r w1 108 l' = sy_r w 108 l' := sy_r_fr f (fun ⟨q, hq, e1, e2, e3⟩ => by
  rcases List.mem_cons.mp hq with rfl | hq
  · cases e1
  · cases List.mem_singleton.mp hq
    have e2 : (l : Int) ≤ l' := e2
    have e3 : (l' : Int) ≤ l := e3
    omega)
theorem ff_dA {l' : Nat} {w w1 : pq_W} (f : sx_Fr gA w w1) : sy_r w1 108 l' = sy_r w 108 l' := sy_r_fr f (fun ⟨q, hq, e1, _⟩ => by
  rcases List.mem_cons.mp hq with rfl | hq
  · cases e1
  · cases List.mem_singleton.mp hq
    cases e1)
theorem ff_ct : ∀ q ∈ ff_CT, sx_Kok sx_T0 sy_J0 q.1 q.2 := sx_ctc (kt_ruled sy_J0I kt_RH.1) (sx_ctc (kt_factor sy_J0I kt_RH.1) sx_ctn)
theorem ff_so {p : Nat → Int} {ls : pq_L} {g : sx_V} {f th ba pl : Int} {rest : List (Nat × sx_V)} {rs : ng_Sl} (h : ng_sl p ls (ng_L (ff_b g ++ rest) ++ rs)) (e0 : p 0 = f) (e1 : p 1 = th) (e2 : p 2 = ba) (e3 : p 3 = pl) : (pq_lk ls 0 = some (.ref 94) ∧ ng_i ls 1 f ∧ ng_i ls 2 th ∧ ng_i ls 3 ba ∧ ng_i ls 4 pl) ∧ ng_d p ls 5 g ∧ ng_sl p ls (ng_L rest ++ rs) :=
  ⟨⟨h.1, ng_yi h.2.1 e0, ng_yi h.2.2.1 e1, ng_yi h.2.2.2.1 e2, ng_yi h.2.2.2.2.1 e3⟩, h.2.2.2.2.2.1, h.2.2.2.2.2.2⟩
theorem ff_so0 {p : Nat → Int} {ls : pq_L} {g : sx_V} {f th ba pl : Int} {rest : List (Nat × sx_V)} (h : ng_sl p ls (ng_L (ff_b g ++ rest))) (e0 : p 0 = f) (e1 : p 1 = th) (e2 : p 2 = ba) (e3 : p 3 = pl) : (pq_lk ls 0 = some (.ref 94) ∧ ng_i ls 1 f ∧ ng_i ls 2 th ∧ ng_i ls 3 ba ∧ ng_i ls 4 pl) ∧ ng_d p ls 5 g ∧ ng_sl p ls (ng_L rest) :=
  ⟨⟨h.1, ng_yi h.2.1 e0, ng_yi h.2.2.1 e1, ng_yi h.2.2.2.1 e2, ng_yi h.2.2.2.2.1 e3⟩, h.2.2.2.2.2.1, h.2.2.2.2.2.2⟩
theorem ff_st {p : Nat → Int} {ls : pq_L} {f th ba pl g : Int} {rest : List (Nat × sx_V)} (h : ffB ls f th ba pl g) (e0 : p 0 = f) (e1 : p 1 = th) (e2 : p 2 = ba) (e3 : p 3 = pl) (e4 : p 4 = g) (hr : ng_sl0 p ls rest) : ng_sl0 p ls (ff_b (fx_i 4) ++ rest) :=
  ⟨h.1, ng_iy h.2.1 e0, ng_iy h.2.2.1 e1, ng_iy h.2.2.2.1 e2, ng_iy h.2.2.2.2.1 e3, ng_iy h.2.2.2.2.2 e4, hr⟩
theorem ff_loop {w0 : pq_W} {f : Nat} {th ba pl : Int} (hj : sy_J0 w0) (hf30 : f < 30) (hW : ff_W w0 f) (h1 : 0 ≤ th ∧ th ≤ 1) (h2 : -1 ≤ ba ∧ ba ≤ 1) (h3 : 0 ≤ pl ∧ pl ≤ 11) : ∀ (m l : Nat), l + m = 8 → ∀ (ls : pq_L) (w : pq_W) (g : Int), ffB ls f th ba pl g → ng_i ls 6 l → (0 ≤ g ∧ g ≤ 1) → sx_Ty sx_T0 w → sx_Fr ff_FA w0 w → (∀ l' : Nat, l' < l → 0 ≤ sy_r w 108 l' ∧ sy_r w 108 l' ≤ 1099690) → ∃ res, pq_Go 99 pm_223 18 ls [] w 0 0 res ∧ ff_P w0 res := by
  have iv : ∀ (p : Nat → Int) (g : Int) (rest : List (Int × Int)), (0 ≤ g ∧ g ≤ 1) → p 0 = f → p 1 = th → p 2 = ba → p 3 = pl → p 4 = g → sx_ivs p 5 rest → sx_ivs p 0 (ff_iv ++ rest) := by
    intro p g rest hg e0 e1 e2 e3 e4 hr
    exact ⟨by show (0 : Int) ≤ p 0; omega, by show p 0 ≤ 29; omega, by show (0 : Int) ≤ p 1; omega, by show p 1 ≤ 1; omega, by show (-1 : Int) ≤ p 2; omega, by show p 2 ≤ 1; omega, by show (0 : Int) ≤ p 3; omega, by show p 3 ≤ 11; omega, by show (0 : Int) ≤ p 4; omega, by show p 4 ≤ 1; omega, hr⟩
  have fJ : ∀ w', sx_Ty sx_T0 w' → sx_Fr ff_FA w0 w' → sy_J0 w' := fun w' t' f' => sy_J0I w0 w' hj t' (sx_Fr_sub (by decide +kernel) f')
  intro m
  induction m with
  | zero =>
    intro l hl ls w g hb h6 hg ht hf hd
    have hl : l = 8 := by omega
    subst hl
    refine ng_go (J := sx_tt) (Post := ff_P w0) (fx_p [f, th, ba, pl, g]) ff_9 rfl (iv _ g [] hg rfl rfl rfl rfl rfl trivial) trivial (ff_st hb rfl rfl rfl rfl rfl ⟨ng_ik h6 rfl, trivial⟩) trivial trivial ht sx_ctn (fun _ _ _ => trivial) ⟨fun x w2 t2 f2 a => ?_, trivial⟩ trivial
    obtain ⟨⟨y, y1, y2⟩, _⟩ := a
    rw [sx_y_ev] at y2
    have y2 : y.toInt = g := y2
    have f2 : sx_Fr [] w w2 := f2
    exact ⟨t2, sx_Fr_trans hf (ng_n2 f2), ⟨y, y1, by rw [y2]; exact hg⟩, fun l hl => by rw [ng_nil f2]; exact hd l hl⟩
  | succ m ih =>
    intro l hl ls w g hb h6 hg ht hf hd
    have hl8 : l < 8 := by omega
    have c1 := List.all_eq_true.mp ff_1 l (List.mem_range.mpr hl8)
    have c2 := List.all_eq_true.mp ff_2 l (List.mem_range.mpr hl8)
    have c3 := List.all_eq_true.mp ff_3 l (List.mem_range.mpr hl8)
    rw [Bool.and_eq_true] at c2 c3
    obtain ⟨c2a, c2b⟩ := c2
    obtain ⟨c3a, c3b⟩ := c3
    unfold ff_ck at c1 c2a c2b c3a c3b
    -- on to the next land
    have next : ∀ ls2 w2 g2, ffB ls2 f th ba pl g2 → ng_i ls2 6 ((l + 1 : Nat) : Int) → (0 ≤ g2 ∧ g2 ≤ 1) → sx_Ty sx_T0 w2 → sx_Fr ff_FA w0 w2 → (∀ l' : Nat, l' < l → sy_r w2 108 l' = sy_r w 108 l') → (0 ≤ sy_r w2 108 l ∧ sy_r w2 108 l ≤ 1099690) → ∃ res, pq_Go 99 pm_223 18 ls2 [] w2 0 0 res ∧ ff_P w0 res := by
      intro ls2 w2 g2 k0 k6 kg t2 f2 ho hn
      refine ih (l + 1) (by omega) ls2 w2 g2 k0 k6 kg t2 f2 (fun l' hl' => ?_)
      by_cases e : l' = l
      · rw [e]; exact hn
      · rw [ho l' (by omega)]; exact hd l' (by omega)
    -- from the row on
    have row : ∀ (ls2 : pq_L) (w2 : pq_W) (st2 : List Value) (b : Nat) (xl xz xr : Int32), ffB ls2 f th ba pl g → ng_i ls2 6 l → ng_b ls2 9 (-2147483648) 2147483647 → sx_Ty sx_T0 w2 → sx_Fr ff_FA w0 w2 → (∀ l' : Nat, l' < l → sy_r w2 108 l' = sy_r w 108 l') → st2 = [.int xl, .int xz, .int xr, .ref 94] → xl.toInt = l → xz.toInt = sy_r w0 95 b → xr.toInt = (b : Int) + 1 → ((307 ≤ b ∧ b ≤ 1293 ∧ (b - 307) % 34 = 0) ∨ (1324 ≤ b ∧ b ≤ 1909 ∧ (b - 1324) % 15 = 0)) → mWay w0 95 b → ∃ res, pq_Go 99 pm_223 146 ls2 st2 w2 0 0 res ∧ ff_P w0 res := by
      intro ls2 w2 st2 b xl xz xr k0 k6 k9 t2 f2 ho hst el ez er hbb hm
      subst hst
      obtain ⟨xg, g1, g2, g3⟩ := k9
      have hmz : 2 ≤ sy_r w0 95 b ∧ sy_r w0 95 b ≤ 12 := ⟨hm.1, hm.2.1⟩
      refine ng_go (J := sy_J0) (Post := ff_P w0) (fx_p [f, th, ba, pl, g, xz.toInt, (b : Int) + 1, xg.toInt]) c3a rfl (iv _ g _ hg rfl rfl rfl rfl rfl ⟨(by show (0 : Int) ≤ xz.toInt; omega), (by show xz.toInt ≤ 12; omega), (by show (0 : Int) ≤ (b : Int) + 1; omega), (by show (b : Int) + 1 ≤ 2000; omega), g2, g3, trivial⟩) trivial (ff_st k0 rfl rfl rfl rfl rfl ⟨ng_ik k6 rfl, ng_iy ⟨xg, g1, rfl⟩ rfl, trivial⟩) ⟨?_, ?_, ?_, rfl, trivial⟩ trivial t2 ff_ct (fun w' t' f' => fJ w' t' (sx_Fr_trans f2 (ff_Al hl8 f'))) trivial ⟨fun ls3 st3 w3 t3 f3 a => ?_, trivial⟩
      · show xl.toInt = sx_ev _ ((l : Int), [])
        rw [ng_ek, el]
      · show xz.toInt = sx_ev _ (sx_y 5)
        rw [sx_y_ev]
        rfl
      · show xr.toInt = sx_ev _ (sx_y 6)
        rw [sx_y_ev, er]
        rfl
      · obtain ⟨a1, a2, _⟩ := a
        obtain ⟨q0, q5, q6, _⟩ := ff_so0 (f := (f : Int)) (th := th) (ba := ba) (pl := pl) a1 rfl rfl rfl rfl
        match st3, a2 with
        | [.int y1, .int y2, .int y3, .int y4, .ref y5], a2 =>
          obtain ⟨z1, z2, z3, z4, z5, _⟩ := a2
          have z3 : y3.toInt = sx_ev _ (sx_y 5) := z3
          have z4 : y4.toInt = sx_ev _ (sx_y 6) := z4
          have z5 : y5 = 94 := z5
          subst z5
          rw [sx_y_ev] at z3 z4
          have z3 : y3.toInt = xz.toInt := z3
          have z4 : y4.toInt = (b : Int) + 1 := z4
          have f3 : sx_Fr (ff_A l) w2 w3 := f3
          have hf3 : sx_Fr ff_FA w0 w3 := sx_Fr_trans f2 (ff_Al hl8 f3)
          obtain ⟨⟨r4, w4⟩, e1, t4, f4, xm, rfl, m1, m2⟩ := kx_miles (w := w3) (b := b) (xf := y4) (xz := y3) (xl := y2) (xw := y1) t3 hbb (mWay_congr hm (fun i _ => ff_95 hf3 _)) z4 (by rw [z3, ez, ff_95 hf3])
          have t4 : sx_Ty sx_T0 w4 := t4
          have f4 : sx_Fr gA w3 w4 := f4
          have hf4 : sx_Fr ff_FA w0 w4 := sx_Fr_trans hf3 (ff_gA f4)
          have bB3 : ffB ls3 f th ba pl g := ⟨q0.1, q0.2.1, q0.2.2.1, q0.2.2.2.1, q0.2.2.2.2, ng_yi q5 rfl⟩
          have b63 : ng_i ls3 6 (l : Int) := ng_ki q6 rfl
          have back : ∃ res, pq_Go 99 pm_223 151 ls3 [.int xm] w4 0 0 res ∧ ff_P w0 res := by
            refine ng_go (J := sy_J0) (Post := ff_P w0) (fx_p [f, th, ba, pl, g, xm.toInt]) c3b rfl (iv _ g _ hg rfl rfl rfl rfl rfl ⟨m1, m2, trivial⟩) trivial (ff_st bB3 rfl rfl rfl rfl rfl ⟨ng_ik b63 rfl, trivial⟩) ⟨by show xm.toInt = sx_ev _ (sx_y 5); rw [sx_y_ev]; rfl, trivial⟩ trivial t4 ff_ct (fun w' t' f' => fJ w' t' (sx_Fr_trans hf4 (ff_Al hl8 f'))) trivial ⟨fun ls5 st5 w5 t5 f5 a => ?_, trivial⟩
            obtain ⟨a1, a2, _, _, a5⟩ := a
            cases ng_st0 a2
            obtain ⟨q0, q5, q6, _⟩ := ff_so0 (f := (f : Int)) (th := th) (ba := ba) (pl := pl) a1 rfl rfl rfl rfl
            have a5 := ng_g1 (r := 108) (e := ((l : Int), [])) (lo := 0) (hi := 1099690) (rest := []) a5
            rw [ng_ek, Int.toNat_natCast] at a5
            have f5 : sx_Fr (ff_A l) w4 w5 := f5
            refine next ls5 w5 g ⟨q0.1, q0.2.1, q0.2.2.1, q0.2.2.2.1, q0.2.2.2.2, ng_yi q5 rfl⟩ (ng_ki q6 (by omega)) hg t5 (sx_Fr_trans hf4 (ff_Al hl8 f5)) (fun l' hl' => ?_) a5
            rw [ff_du f5 (by omega), ff_dA f4, ff_du f3 (by omega), ho l' hl']
          obtain ⟨res, e3, e4⟩ := back
          exact ⟨res, go_cl (j := 220) (n := 5) (as := [.ref 94, .int y4, .int y3, .int y2, .int y1]) (k1 := 30) rfl rfl rfl rfl rfl rfl rfl e1 e3, e4⟩
    have hmz := hW.1
    have h95 : ∀ i, sy_r w 95 i = sy_r w0 95 i := fun i => ff_95 hf i
    refine ng_go (J := sy_J0) (Post := ff_P w0) (fx_p [f, th, ba, pl, g, sy_r w0 95 (307 + 34 * f)]) c1 rfl (iv _ g _ hg rfl rfl rfl rfl rfl ⟨(by have := hmz.1; show (0 : Int) ≤ sy_r w0 95 (307 + 34 * f); omega), hmz.2.1, trivial⟩) trivial (ff_st hb rfl rfl rfl rfl rfl ⟨ng_ik h6 rfl, trivial⟩) trivial ⟨?_, trivial⟩ ht ff_ct (fun w' t' f' => fJ w' t' (sx_Fr_trans hf (ff_Al hl8 f'))) trivial ⟨fun ls2 st2 w2 t2 f2 a => ?_, fun ls2 st2 w2 t2 f2 a => ?_, fun ls2 st2 w2 t2 f2 a => ?_, trivial⟩
    · show sy_r w 95 (307 + (34 * (f : Int) + 0)).toNat = sx_ev _ (sx_y 5)
      rw [sx_y_ev, show (307 + (34 * (f : Int) + 0)).toNat = 307 + 34 * f by omega, h95]
      rfl
    · obtain ⟨a1, a2, a3, _⟩ := a
      cases ng_st0 a2
      obtain ⟨q0, q5, q6, _⟩ := ff_so0 (f := (f : Int)) (th := th) (ba := ba) (pl := pl) a1 rfl rfl rfl rfl
      have a3 := a3.1
      rw [ng_ek, Int.toNat_natCast] at a3
      have a3 : sy_r w2 108 l = 0 + 0 := a3
      have f2 : sx_Fr (ff_A l) w w2 := f2
      exact next ls2 w2 g ⟨q0.1, q0.2.1, q0.2.2.1, q0.2.2.2.1, q0.2.2.2.2, ng_yi q5 rfl⟩ (ng_ki q6 (by omega)) hg t2 (sx_Fr_trans hf (ff_Al hl8 f2)) (fun l' hl' => ff_du f2 (by omega)) (by omega)
    · obtain ⟨a1, a2, a3, _⟩ := a
      obtain ⟨q0, q5, q6, _⟩ := ff_so0 (f := (f : Int)) (th := th) (ba := ba) (pl := pl) a1 rfl rfl rfl rfl
      have a3 := a3.1
      rw [ng_ek, Int.toNat_natCast] at a3
      have a3 : sy_r w2 108 l = 0 + 0 := a3
      have f2 : sx_Fr (ff_A l) w w2 := f2
      have hf2 := sx_Fr_trans hf (ff_Al hl8 f2)
      match st2, a2 with
      | [.int y1, .int y2, .ref y3], a2 =>
        have y3e : y3 = 94 := a2.2.2.1
        subst y3e
        obtain ⟨⟨r3, w3⟩, e1, t3, f3, x, rfl, hx⟩ := kx_known (w := w2) (xf := y2) (xd := y1) t2
        have t3 : sx_Ty sx_T0 w3 := t3
        have f3 : sx_Fr [] w2 w3 := f3
        have hf3 : sx_Fr ff_FA w0 w3 := sx_Fr_trans hf2 (ng_n2 f3)
        have bB : ffB ls2 f th ba pl g := ⟨q0.1, q0.2.1, q0.2.2.1, q0.2.2.2.1, q0.2.2.2.2, ng_yi q5 rfl⟩
        have b6 : ng_i ls2 6 (l : Int) := ng_ki q6 rfl
        have back : ∃ res, pq_Go 99 pm_223 99 ls2 [.int x] w3 0 0 res ∧ ff_P w0 res := by
          rcases hx with hx | ⟨t, ht6, hx⟩
          · refine ng_go (J := sy_J0) (Post := ff_P w0) (fx_p [f, th, ba, pl, g]) c2a rfl (iv _ g [] hg rfl rfl rfl rfl rfl trivial) trivial (ff_st bB rfl rfl rfl rfl rfl ⟨ng_ik b6 rfl, trivial⟩) ⟨by show x.toInt = sx_ev _ (-1, []); rw [ng_ek, hx], trivial⟩ ⟨?_, trivial⟩ t3 ff_ct (fun w' t' f' => fJ w' t' (sx_Fr_trans hf3 (ff_Al hl8 f'))) trivial ⟨fun ls4 st4 w4 t4 f4 a => ?_, trivial⟩
            · show sy_r w3 108 (sx_ev _ ((l : Int), [])).toNat = sx_ev _ (0, [])
              rw [ng_ek, ng_ek, Int.toNat_natCast, ng_nil f3]
              omega
            · obtain ⟨a1, a2, a3, _⟩ := a
              cases ng_st0 a2
              obtain ⟨q0, q5, q6, _⟩ := ff_so0 (f := (f : Int)) (th := th) (ba := ba) (pl := pl) a1 rfl rfl rfl rfl
              have a3 := a3.1
              rw [ng_ek, Int.toNat_natCast] at a3
              have a3 : sy_r w4 108 l = 0 + 0 := a3
              have f4 : sx_Fr (ff_A l) w3 w4 := f4
              refine next ls4 w4 0 ⟨q0.1, q0.2.1, q0.2.2.1, q0.2.2.2.1, q0.2.2.2.2, ng_ki q5 rfl⟩ (ng_ki q6 (by omega)) (by omega) t4 (sx_Fr_trans hf3 (ff_Al hl8 f4)) (fun l' hl' => ?_) (by omega)
              rw [ff_du f4 (by omega), ng_nil f3, ff_du f2 (by omega)]
          · rw [ff_95 hf2] at ht6
            have n40 := kq_n t3
            rw [ff_95 hf3] at n40
            have hm := hW.2 t ht6
            refine ng_go (J := sy_J0) (Post := ff_P w0) (fx_p [f, th, ba, pl, g, sy_r w0 95 (1324 + 15 * t), t]) c2b rfl (iv _ g _ hg rfl rfl rfl rfl rfl ⟨(by have := hm.1; show (0 : Int) ≤ sy_r w0 95 (1324 + 15 * t); omega), hm.2.1, (by show (0 : Int) ≤ t; omega), (by show (t : Int) ≤ 39; omega), trivial⟩) trivial (ff_st bB rfl rfl rfl rfl rfl ⟨ng_ik b6 rfl, trivial⟩) ⟨by show x.toInt = 1324 + (15 * (t : Int) + 0); omega, trivial⟩ ⟨?_, trivial⟩ t3 ff_ct (fun w' t' f' => fJ w' t' (sx_Fr_trans hf3 (ff_Al hl8 f'))) trivial ⟨fun ls4 st4 w4 t4 f4 a => ?_, trivial⟩
            · show sy_r w3 95 (1324 + (15 * (t : Int) + 0)).toNat = sx_ev _ (sx_y 5)
              rw [sx_y_ev, show (1324 + (15 * (t : Int) + 0)).toNat = 1324 + 15 * t by omega, ff_95 hf3]
              rfl
            · obtain ⟨a1, a2, _⟩ := a
              obtain ⟨q0, q5, q6, q9, _⟩ := ff_so (f := (f : Int)) (th := th) (ba := ba) (pl := pl) a1 rfl rfl rfl rfl
              match st4, a2 with
              | [.int z1, .int z2, .int z3, .ref z4], a2 =>
                obtain ⟨k1, k2, k3, k4, _⟩ := a2
                have k1 : z1.toInt = sx_ev _ ((l : Int), []) := k1
                have k2 : z2.toInt = sx_ev _ (sx_y 5) := k2
                have k3 : z3.toInt = 1325 + (15 * (t : Int) + 0) := k3
                have k4 : z4 = 94 := k4
                subst k4
                rw [ng_ek] at k1
                rw [sx_y_ev] at k2
                have f4 : sx_Fr (ff_A l) w3 w4 := f4
                refine row ls4 w4 _ (1324 + 15 * t) z1 z2 z3 ⟨q0.1, q0.2.1, q0.2.2.1, q0.2.2.2.1, q0.2.2.2.2, ng_yi q5 rfl⟩ (ng_ki q6 rfl) q9 t4 (sx_Fr_trans hf3 (ff_Al hl8 f4)) (fun l' hl' => ?_) rfl k1 k2 (by omega) (Or.inr (by omega)) hm
                rw [ff_du f4 (by omega), ng_nil f3, ff_du f2 (by omega)]
        obtain ⟨res, e3, e4⟩ := back
        exact ⟨res, go_cl (j := 218) (n := 3) (as := [.ref 94, .int y2, .int y1]) (k1 := 10) rfl rfl rfl rfl rfl rfl rfl e1 e3, e4⟩
    · obtain ⟨a1, a2, _⟩ := a
      obtain ⟨q0, q5, q6, q9, _⟩ := ff_so (f := (f : Int)) (th := th) (ba := ba) (pl := pl) a1 rfl rfl rfl rfl
      match st2, a2 with
      | [.int z1, .int z2, .int z3, .ref z4], a2 =>
        obtain ⟨k1, k2, k3, k4, _⟩ := a2
        have k1 : z1.toInt = sx_ev _ ((l : Int), []) := k1
        have k2 : z2.toInt = sx_ev _ (sx_y 5) := k2
        have k3 : z3.toInt = 308 + (34 * (f : Int) + 0) := k3
        have k4 : z4 = 94 := k4
        subst k4
        rw [ng_ek] at k1
        rw [sx_y_ev] at k2
        have f2 : sx_Fr (ff_A l) w w2 := f2
        exact row ls2 w2 _ (307 + 34 * f) z1 z2 z3 ⟨q0.1, q0.2.1, q0.2.2.1, q0.2.2.2.1, q0.2.2.2.2, ng_yi q5 rfl⟩ (ng_ki q6 rfl) q9 t2 (sx_Fr_trans hf (ff_Al hl8 f2)) (fun l' hl' => ff_du f2 (by omega)) rfl k1 k2 (by omega) (Or.inl (by omega)) hmz
theorem kx_fees {w : pq_W} {f : Nat} {xf xt xb : Int32} (ht : sx_Ty sx_T0 w) (hj : sy_J0 w) (hf : f < 30) (hW : ff_W w f) (ef : xf.toInt = f) (h1 : 0 ≤ xt.toInt ∧ xt.toInt ≤ 1) (h2 : -1 ≤ xb.toInt ∧ xb.toInt ≤ 1) : ∃ res, pq_Ru 100 223 [.ref 94, .int xf, .int xt, .int xb] w res ∧ ff_P w res := by
  have hp := sy_rg (r := 95) ht rfl (g := (302, 34, 30, 0, 0, 0, 11)) (by decide) (k := f) (j := 0) hf (Nat.le_refl _) (Nat.le_refl _) (by show 302 + 34 * f + 0 < 2858; omega)
  have hp : 0 ≤ sy_r w 95 (302 + 34 * f) ∧ sy_r w 95 (302 + 34 * f) ≤ 11 := hp
  have main : ∃ res, pq_Go 99 pm_223 0 (lv_args 0 [.ref 94, .int xf, .int xt, .int xb]) [] w 0 0 res ∧ ff_P w res := by
    refine ng_go (J := sx_tt) (Post := ff_P w) (fx_p [f, xt.toInt, xb.toInt, sy_r w 95 (302 + 34 * f)]) ff_0 rfl ⟨(by show (0 : Int) ≤ f; omega), (by show (f : Int) ≤ 29; omega), h1.1, h1.2, h2.1, h2.2, hp.1, hp.2, trivial⟩ trivial ⟨rfl, ng_iy ⟨xf, rfl, ef⟩ rfl, ng_iy ⟨xt, rfl, rfl⟩ rfl, ng_iy ⟨xb, rfl, rfl⟩ rfl, trivial⟩ trivial ⟨?_, trivial⟩ ht sx_ctn (fun _ _ _ => trivial) trivial ⟨fun ls2 st2 w2 t2 f2 a => ?_, trivial⟩
    · show sy_r w 95 (302 + (34 * (f : Int) + 0)).toNat = sx_ev _ (sx_y 3)
      rw [sx_y_ev, show (302 + (34 * (f : Int) + 0)).toNat = 302 + 34 * f by omega]
      rfl
    · obtain ⟨a1, a2, _⟩ := a
      cases ng_st0 a2
      obtain ⟨q0, q5, q6, _⟩ := ff_so0 (f := (f : Int)) (th := xt.toInt) (ba := xb.toInt) (pl := sy_r w 95 (302 + 34 * f)) a1 rfl rfl rfl rfl
      exact ff_loop hj hf hW h1 h2 hp 8 0 rfl ls2 w2 1 ⟨q0.1, q0.2.1, q0.2.2.1, q0.2.2.2.1, q0.2.2.2.2, ng_ki q5 rfl⟩ (ng_ki q6 rfl) (by omega) t2 (ng_n2 f2) (fun l' hl' => by omega)
  obtain ⟨res, g1, g2⟩ := main
  refine ⟨res, ru_of (k := 99) (M := pm_223) rfl ?_ g1, g2⟩
  rw [Bool.and_eq_true]
  exact ⟨rfl, sq_rcv ht rfl rfl rfl⟩
