/-! findWay, by hand over the checks -/
noncomputable def fx_p (l : List Int) : Nat → Int := fun s => l.getD s 0
noncomputable def fx_nx (c d : Nat) : Prop := sq_nx (Int32.ofInt c) (Int32.ofInt d) = 1
noncomputable def fx_Iv (w : pq_W) : Prop := fw_Iv (sy_r w 111) (sy_r w 95 1) fx_nx (fun c => sy_r w 95 (74 + c)) (sy_r w 109) (sy_r w 110)
noncomputable def fx_R (w : pq_W) : Prop := (∀ c, c < 64 → 0 ≤ sy_r w 111 c ∧ sy_r w 111 c ≤ 49990) ∧ fx_Iv w
noncomputable def fx_cand (w : pq_W) (c d : Nat) : Int := sy_r w 109 d + sy_r w 95 1 + sy_r w 111 c + sy_r w 111 d
noncomputable def fx_rel (w : pq_W) (c d : Nat) : Prop := fx_nx c d ∧ sy_r w 95 (74 + c) = 0 ∧ sy_r w 109 d < fw_far ∧ (fx_cand w c d < sy_r w 109 c ∨ (fx_cand w c d = sy_r w 109 c ∧ sy_r w 110 d + 1 < sy_r w 110 c))
theorem fx_back {n : Nat} {p p0 : Nat → Int} {l : List (Nat × sx_V)} {ls : pq_L} (e : ∀ s, s < n → p s = p0 s) (hb : (l.all fun q => sx_vltb n q.2) = true) (h : sx_lm p l ls) : sx_lm p0 l ls := sx_lm_agree (n := n) (fun s hs => (e s hs).symm) (fun q hq => sx_vltb_ok (List.all_eq_true.mp hb q hq)) h
theorem fx_nx01 (a b : Int32) : sq_nx a b = 1 ∨ sq_nx a b = 0 := by
  unfold sq_nx
  split
  · exact Or.inl rfl
  · exact Or.inr rfl
theorem fx_fuel {w : pq_W} (ht : sx_Ty sx_T0 w) : 0 ≤ sy_r w 95 1 ∧ sy_r w 95 1 ≤ 999 := sy_rg (r := 95) ht rfl (g := (1, 1, 1, 0, 0, 0, 999)) (by decide) (k := 0) (j := 0) (by decide) (Nat.le_refl _) (Nat.le_refl _) (by decide)
theorem fx_shut {w : pq_W} (ht : sx_Ty sx_T0 w) {c : Nat} (hc : c < 64) : 0 ≤ sy_r w 95 (74 + c) ∧ sy_r w 95 (74 + c) ≤ 1 := by
  have := sy_rg (r := 95) ht rfl (g := (74, 1, 64, 0, 0, 0, 1)) (by decide) (k := c) (j := 0) hc (Nat.le_refl _) (Nat.le_refl _) (by show 74 + 1 * c + 0 < 2858; omega)
  rw [show 74 + c = 74 + 1 * c + 0 by omega]
  exact this
theorem fx_look {Post : pq_R → Prop} {w : pq_W} {c d : Nat} {fr m : Int} {ls : pq_L} (hc : c < 64) (hd : d < 64) (ht : sx_Ty sx_T0 w) (hR : fx_R w) (hfr : 0 ≤ fr ∧ fr ≤ 63) (hm : 0 ≤ m ∧ m ≤ 1) (hl : sx_lm (fx_p [fr, m, c, d]) (fx_l4 (fx_i 1) (fx_i 2) (fx_i 3)) ls)
    (no : ∀ ls2 w2, sx_lm (fx_p [fr, m, c, d + 1]) (fx_l4 (fx_i 1) (fx_i 2) (fx_i 3)) ls2 → sx_Ty sx_T0 w2 → sx_Fr (fx_P2 c).A w w2 → sy_r w2 109 c = sy_r w 109 c → sy_r w2 110 c = sy_r w 110 c → ¬ fx_rel w c d → ∃ res, pq_Go 119 pm_232 138 ls2 [] w2 0 0 res ∧ Post res)
    (yes : ∀ ls2 w2, sx_lm (fx_p [fr, 1, c, d + 1]) (fx_l4 (fx_i 1) (fx_i 2) (fx_i 3)) ls2 → sx_Ty sx_T0 w2 → sx_Fr (fx_P2 c).A w w2 → sy_r w2 109 c = fx_cand w c d → sy_r w2 110 c = sy_r w 110 d + 1 → fx_rel w c d → ∃ res, pq_Go 119 pm_232 138 ls2 [] w2 0 0 res ∧ Post res) : ∃ res, pq_Go 119 pm_232 138 ls [] w 0 0 res ∧ Post res := by
  refine sq_sg (P := fx_P) (S := sq_s0 119 232 pm_232 138 [(0, 63), (0, 1), (0, 63), (0, 63)] [] (fx_l4 (fx_i 1) (fx_i 2) (fx_i 3)) [] [] []) (J := sx_tt) (w0 := w) (p0 := fx_p [fr, m, c, d]) (Post := Post) fx_k8 (sq_s0_ok rfl ⟨hfr.1, hfr.2, hm.1, hm.2, (show (0 : Int) ≤ c by omega), (show (c : Int) ≤ 63 by omega), (show (0 : Int) ≤ d by omega), (show (d : Int) ≤ 63 by omega), trivial⟩ sy_F0 hl trivial sy_O0 ht (sx_Fr_refl _ _) rfl) sx_ctn (fun _ _ _ => trivial)
    (fun p r w2 e t f a => by
      obtain ⟨x, hx, _⟩ := a
      cases hx)
    (fun h hh a ha p ls2 st w2 e t f hq => ?_)
  cases List.mem_singleton.mp hh
  cases List.mem_singleton.mp ha
  obtain ⟨q1, q2, _, _, _⟩ := hq
  have q1 := fx_back (n := 4) e rfl q1
  match st, q2 with
  | [.int xd, .int xc], q2 =>
    have ed : xd.toInt = d := by
      have h1 : xd.toInt = sx_ev p (sx_y 3) := q2.1
      rw [h1, sx_y_ev, e 3 (by show 3 < 4; decide)]
      rfl
    have ec : xc.toInt = c := by
      have h1 : xc.toInt = sx_ev p (sx_y 2) := q2.2.1
      rw [h1, sx_y_ev, e 2 (by show 2 < 4; decide)]
      rfl
    have exd : Int32.ofInt d = xd := by rw [← ed]; exact Int32.ofInt_toInt xd
    have exc : Int32.ofInt c = xc := by rw [← ec]; exact Int32.ofInt_toInt xc
    have t : sx_Ty sx_T0 w2 := t
    have f : sx_Fr [] w w2 := f
    have same : ∀ r i, sy_r w2 r i = sy_r w r i := fun r i => sy_r_fr f (fun ⟨q, hq, _⟩ => by cases hq)
    have hfu := fx_fuel t
    have hsh := fx_shut t hc
    have hE : ∀ x, x < 64 → 0 ≤ sy_r w2 111 x ∧ sy_r w2 111 x ≤ 49990 := fun x hx => by rw [same]; exact hR.1 x hx
    have hS : ∀ x, x < 64 → 0 ≤ sy_r w2 110 x ∧ sy_r w2 110 x ≤ 63 ∧ 0 ≤ sy_r w2 109 x ∧ sy_r w2 109 x ≤ 100000000 := fun x hx => by rw [same, same]; exact fw_steps hR.2 hx
    have Sc := hS c hc
    have Sd := hS d hd
    -- behind the call
    have behind : ∃ res, pq_Go 119 pm_232 152 ls2 [.int (sq_nx xc xd)] w2 0 0 res ∧ Post res := by
      have run : ∀ (nx cd sh : Int × Int) (C : List sx_F) (cc sc : sx_F) (mm : sx_V) (cc2 sc2 : sx_F) (vn : Int), (sq_nx xc xd).toInt = vn → ((List.range 64).all fun c => fx_Q c nx cd sh C cc sc mm cc2 sc2) = true → sq_s0b 12 C (fx_l4 (fx_i 1) (fx_k c) (fx_i 2)) [fx_i 3] (fx_O c cc sc) = true → nx.1 ≤ vn ∧ vn ≤ nx.2 → cd.1 ≤ sy_r w2 109 d ∧ sy_r w2 109 d ≤ cd.2 → sh.1 ≤ sy_r w2 95 (74 + c) ∧ sy_r w2 95 (74 + c) ≤ sh.2 →
          let p0 := fx_p [fr, m, d, vn, sy_r w2 109 d, sy_r w2 109 c, sy_r w2 110 d, sy_r w2 110 c, sy_r w2 111 c, sy_r w2 111 d, sy_r w2 95 1, sy_r w2 95 (74 + c)]
          sx_Fok p0 C → sy_r w2 109 c = sx_ev p0 cc → sy_r w2 110 c = sx_ev p0 sc → (∀ p3 ls3 w3, (∀ s, s < 12 → p3 s = p0 s) → sx_Ty sx_T0 w3 → sx_Fr (fx_P2 c).A w2 w3 → sx_lm p3 (fx_l4 mm (fx_k c) (.inl (.inl (1, [(2, 1)])))) ls3 → sy_r w3 109 c = sx_ev p3 cc2 → sy_r w3 110 c = sx_ev p3 sc2 → ∃ res, pq_Go 119 pm_232 138 ls3 [] w3 0 0 res ∧ Post res) → ∃ res, pq_Go 119 pm_232 152 ls2 [.int (sq_nx xc xd)] w2 0 0 res ∧ Post res := by
        intro nx cd sh C cc sc mm cc2 sc2 vn hvn hq hb hnx hcd hshh p0 hC hcc hsc cont
        have hq := List.all_eq_true.mp hq c (List.mem_range.mpr hc)
        refine sq_sg (P := fx_P2 c) (S := fx_S c nx cd sh C cc sc) (J := sx_tt) (w0 := w2) (p0 := p0) (Post := Post) hq (sq_s0_ok rfl ⟨hfr.1, hfr.2, hm.1, hm.2, (show (0 : Int) ≤ d by omega), (show (d : Int) ≤ 63 by omega), hnx.1, hnx.2, hcd.1, hcd.2, Sc.2.2.1, Sc.2.2.2, Sd.1, Sd.2.1, Sc.1, Sc.2.1, (hE c hc).1, (hE c hc).2, (hE d hd).1, (hE d hd).2, hfu.1, hfu.2, hshh.1, hshh.2, trivial⟩ hC ?_ ⟨?_, trivial⟩ ?_ t (sx_Fr_refl _ _) hb) sx_ctn (fun _ _ _ => trivial)
          (fun p r w3 e t f a => by
            obtain ⟨x, hx, _⟩ := a
            cases hx)
          (fun h hh a ha p3 ls3 st3 w3 e3 t3 f3 hq3 => ?_)
        · exact sy_lmt q1 ⟨rfl, rfl, rfl, rfl, rfl, rfl, rfl, (by show 0 + (1 * (c : Int) + 0) = (c : Int) + 0; omega), rfl, rfl, trivial⟩
        · show (sq_nx xc xd).toInt = 0 + (1 * vn + 0)
          omega
        · refine sy_O1 (sy_Oat (i := d) t rfl hd ?_ ?_) (sy_O1 (sy_Oat (i := c) t rfl hc ?_ hcc) (sy_O1 (sy_Oat (i := d) t rfl hd ?_ ?_) (sy_O1 (sy_Oat (i := c) t rfl hc ?_ hsc) (sy_O1 (sy_Oat (i := c) t rfl hc ?_ ?_) (sy_O1 (sy_Oat (i := d) t rfl hd ?_ ?_) (sy_O1 (sy_Oat (i := 1) t rfl (by decide) rfl ?_) (sy_O1 (sy_Oat (i := 74 + c) t rfl (by omega) ?_ ?_) sy_O0)))))))
          · show (d : Int) = 0 + (1 * (d : Int) + 0); omega
          · show sy_r w2 109 d = 0 + (1 * sy_r w2 109 d + 0); omega
          · show (c : Int) = (c : Int) + 0; omega
          · show (d : Int) = 0 + (1 * (d : Int) + 0); omega
          · show sy_r w2 110 d = 0 + (1 * sy_r w2 110 d + 0); omega
          · show (c : Int) = (c : Int) + 0; omega
          · show (c : Int) = (c : Int) + 0; omega
          · show sy_r w2 111 c = 0 + (1 * sy_r w2 111 c + 0); omega
          · show (d : Int) = 0 + (1 * (d : Int) + 0); omega
          · show sy_r w2 111 d = 0 + (1 * sy_r w2 111 d + 0); omega
          · show sy_r w2 95 1 = 0 + (1 * sy_r w2 95 1 + 0); omega
          · show ((74 + c : Nat) : Int) = (74 + (c : Int)) + 0; omega
          · show sy_r w2 95 (74 + c) = 0 + (1 * sy_r w2 95 (74 + c) + 0); omega
        · cases List.mem_singleton.mp hh
          cases List.mem_singleton.mp ha
          obtain ⟨z1, z2, z3, _, _⟩ := hq3
          match st3, z2 with
          | [], _ =>
            obtain ⟨i, i1, x, i2, i3⟩ := z3 _ List.mem_cons_self
            obtain ⟨i', i1', x', i2', i3'⟩ := z3 _ (List.mem_cons_of_mem _ List.mem_cons_self)
            have ei : i = c := by
              have i1 : (i : Int) = (c : Int) + 0 := i1
              omega
            have ei' : i' = c := by
              have i1' : (i' : Int) = (c : Int) + 0 := i1'
              omega
            subst ei
            match x, i2, i3, x', i2', i3' with
            | .int x, i2, i3, .int x', i2', i3' =>
              rw [ei'] at i2'
              exact cont p3 ls3 w3 e3 t3 f3 z1 ((sy_r_of i2).trans i3) ((sy_r_of i2').trans i3')
      have rel2 : fx_rel w c d ↔ (sq_nx xc xd = 1 ∧ sy_r w2 95 (74 + c) = 0 ∧ sy_r w2 109 d < 100000000 ∧ (sy_r w2 109 d + sy_r w2 95 1 + sy_r w2 111 c + sy_r w2 111 d < sy_r w2 109 c ∨ (sy_r w2 109 d + sy_r w2 95 1 + sy_r w2 111 c + sy_r w2 111 d = sy_r w2 109 c ∧ sy_r w2 110 d + 1 < sy_r w2 110 c))) := by
        unfold fx_rel fx_nx fx_cand
        rw [exc, exd]
        simp only [same]
        exact Iff.rfl
      have frc : ∀ {w3}, sx_Fr (fx_P2 c).A w2 w3 → sx_Fr (fx_P2 c).A w w3 := fun f3 => sx_Fr_trans (sx_Fr_sub rfl f) f3
      -- nothing changed
      have noc : ∀ (vn : Int) (cc2 sc2 : sx_F), ¬ fx_rel w c d → let p0 := fx_p [fr, m, d, vn, sy_r w2 109 d, sy_r w2 109 c, sy_r w2 110 d, sy_r w2 110 c, sy_r w2 111 c, sy_r w2 111 d, sy_r w2 95 1, sy_r w2 95 (74 + c)]
          (∀ p3 : Nat → Int, (∀ s, s < 12 → p3 s = p0 s) → sx_ev p3 cc2 = sy_r w2 109 c ∧ sx_ev p3 sc2 = sy_r w2 110 c) → ∀ p3 ls3 w3, (∀ s, s < 12 → p3 s = p0 s) → sx_Ty sx_T0 w3 → sx_Fr (fx_P2 c).A w2 w3 → sx_lm p3 (fx_l4 (fx_i 1) (fx_k c) (.inl (.inl (1, [(2, 1)])))) ls3 → sy_r w3 109 c = sx_ev p3 cc2 → sy_r w3 110 c = sx_ev p3 sc2 → ∃ res, pq_Go 119 pm_232 138 ls3 [] w3 0 0 res ∧ Post res := by
        intro vn cc2 sc2 hn p0 he p3 ls3 w3 e3 t3 f3 hl3 h1 h2
        have e0 : p3 0 = fr := e3 0 (by decide)
        have e1 : p3 1 = m := e3 1 (by decide)
        have e2 : p3 2 = d := e3 2 (by decide)
        obtain ⟨a1, a2⟩ := he p3 e3
        refine no ls3 w3 (sy_lmt hl3 ⟨rfl, rfl, rfl, sy_svy (by rw [sx_y_ev]; exact e0), rfl, sy_svy (by rw [sx_y_ev]; exact e1), rfl, sy_svy (by show (c : Int) + 0 = c; omega), rfl, sy_svy (by show 1 + (1 * p3 2 + 0) = (d : Int) + 1; omega), trivial⟩) t3 (frc f3) ?_ ?_ hn
        · rw [h1, a1, same]
        · rw [h2, a2, same]
      -- better
      have yec : ∀ (vn : Int), fx_rel w c d → let p0 := fx_p [fr, m, d, vn, sy_r w2 109 d, sy_r w2 109 c, sy_r w2 110 d, sy_r w2 110 c, sy_r w2 111 c, sy_r w2 111 d, sy_r w2 95 1, sy_r w2 95 (74 + c)]
          ∀ p3 ls3 w3, (∀ s, s < 12 → p3 s = p0 s) → sx_Ty sx_T0 w3 → sx_Fr (fx_P2 c).A w2 w3 → sx_lm p3 (fx_l4 (fx_k 1) (fx_k c) (.inl (.inl (1, [(2, 1)])))) ls3 → sy_r w3 109 c = sx_ev p3 fx_cd → sy_r w3 110 c = sx_ev p3 (1, [(6, 1)]) → ∃ res, pq_Go 119 pm_232 138 ls3 [] w3 0 0 res ∧ Post res := by
        intro vn hn p0 p3 ls3 w3 e3 t3 f3 hl3 h1 h2
        have e0 : p3 0 = fr := e3 0 (by decide)
        have e2 : p3 2 = d := e3 2 (by decide)
        have e4 : p3 4 = sy_r w2 109 d := e3 4 (by decide)
        have e6 : p3 6 = sy_r w2 110 d := e3 6 (by decide)
        have e8 : p3 8 = sy_r w2 111 c := e3 8 (by decide)
        have e9 : p3 9 = sy_r w2 111 d := e3 9 (by decide)
        have e10 : p3 10 = sy_r w2 95 1 := e3 10 (by decide)
        refine yes ls3 w3 (sy_lmt hl3 ⟨rfl, rfl, rfl, sy_svy (by rw [sx_y_ev]; exact e0), rfl, sy_svy (by show (1 : Int) + 0 = 1; omega), rfl, sy_svy (by show (c : Int) + 0 = c; omega), rfl, sy_svy (by show 1 + (1 * p3 2 + 0) = (d : Int) + 1; omega), trivial⟩) t3 (frc f3) ?_ ?_ hn
        · rw [h1]
          unfold fx_cand
          rw [← same, ← same 95, ← same 111 c, ← same 111 d]
          show 0 + (1 * p3 4 + (1 * p3 8 + (1 * p3 9 + (1 * p3 10 + 0)))) = _
          omega
        · rw [h2, ← same]
          show 1 + (1 * p3 6 + 0) = _
          omega
      have y5 : ∀ (vn : Int) (p3 : Nat → Int), (∀ s, s < 12 → p3 s = fx_p [fr, m, d, vn, sy_r w2 109 d, sy_r w2 109 c, sy_r w2 110 d, sy_r w2 110 c, sy_r w2 111 c, sy_r w2 111 d, sy_r w2 95 1, sy_r w2 95 (74 + c)] s) → sx_ev p3 (sx_y 5) = sy_r w2 109 c ∧ sx_ev p3 (sx_y 7) = sy_r w2 110 c := fun vn p3 e3 => by
        rw [sx_y_ev, sx_y_ev]
        exact ⟨e3 5 (by decide), e3 7 (by decide)⟩
      have z0 : ∀ x : Int, x = 0 + (1 * x + 0) := fun x => by omega
      rcases fx_nx01 xc xd with hn | hn
      · by_cases h1 : sy_r w2 95 (74 + c) = 0
        · by_cases h2 : sy_r w2 109 d < 100000000
          · by_cases h3 : sy_r w2 109 d + sy_r w2 95 1 + sy_r w2 111 c + sy_r w2 111 d < sy_r w2 109 c
            · refine run (1, 1) (0, 99999999) (0, 0) fx_c6 (sx_y 5) (sx_y 7) (fx_k 1) fx_cd (1, [(6, 1)]) 1 (by rw [hn]; rfl) fx_r6 rfl ⟨by decide, by decide⟩ ⟨Sd.2.2.1, by show _ ≤ (99999999 : Int); omega⟩ ⟨by omega, by omega⟩ (fun q hq => ?_) (z0 _) (z0 _) (yec 1 (rel2.mpr ⟨hn, h1, h2, Or.inl h3⟩))
              cases List.mem_singleton.mp hq
              show 1 + (1 * sy_r w2 109 d + (-1 * sy_r w2 109 c + (1 * sy_r w2 111 c + (1 * sy_r w2 111 d + (1 * sy_r w2 95 1 + 0))))) ≤ 0
              omega
            · by_cases h4 : sy_r w2 109 d + sy_r w2 95 1 + sy_r w2 111 c + sy_r w2 111 d = sy_r w2 109 c
              · have ecd : sy_r w2 109 c = 0 + (1 * sy_r w2 109 d + (1 * sy_r w2 111 c + (1 * sy_r w2 111 d + (1 * sy_r w2 95 1 + 0)))) := by omega
                by_cases h5 : sy_r w2 110 d + 1 < sy_r w2 110 c
                · refine run (1, 1) (0, 99999999) (0, 0) fx_c7 fx_cd (sx_y 7) (fx_k 1) fx_cd (1, [(6, 1)]) 1 (by rw [hn]; rfl) fx_r7 rfl ⟨by decide, by decide⟩ ⟨Sd.2.2.1, by show _ ≤ (99999999 : Int); omega⟩ ⟨by omega, by omega⟩ (fun q hq => ?_) ecd (z0 _) (yec 1 (rel2.mpr ⟨hn, h1, h2, Or.inr ⟨h4, h5⟩⟩))
                  cases List.mem_singleton.mp hq
                  show 2 + (1 * sy_r w2 110 d + (-1 * sy_r w2 110 c + 0)) ≤ 0
                  omega
                · refine run (1, 1) (0, 99999999) (0, 0) fx_c5 fx_cd (sx_y 7) (fx_i 1) fx_cd (sx_y 7) 1 (by rw [hn]; rfl) fx_r5 rfl ⟨by decide, by decide⟩ ⟨Sd.2.2.1, by show _ ≤ (99999999 : Int); omega⟩ ⟨by omega, by omega⟩ (fun q hq => ?_) ecd (z0 _) (noc 1 fx_cd (sx_y 7) (fun h => by have := rel2.mp h; omega) (fun p3 e3 => ⟨?_, (y5 1 p3 e3).2⟩))
                  · cases List.mem_singleton.mp hq
                    show -1 + (-1 * sy_r w2 110 d + (1 * sy_r w2 110 c + 0)) ≤ 0
                    omega
                  · have e4 : p3 4 = sy_r w2 109 d := e3 4 (by decide)
                    have e8 : p3 8 = sy_r w2 111 c := e3 8 (by decide)
                    have e9 : p3 9 = sy_r w2 111 d := e3 9 (by decide)
                    have e10 : p3 10 = sy_r w2 95 1 := e3 10 (by decide)
                    show 0 + (1 * p3 4 + (1 * p3 8 + (1 * p3 9 + (1 * p3 10 + 0)))) = _
                    omega
              · refine run (1, 1) (0, 99999999) (0, 0) fx_c4 (sx_y 5) (sx_y 7) (fx_i 1) (sx_y 5) (sx_y 7) 1 (by rw [hn]; rfl) fx_r4 rfl ⟨by decide, by decide⟩ ⟨Sd.2.2.1, by show _ ≤ (99999999 : Int); omega⟩ ⟨by omega, by omega⟩ (fun q hq => ?_) (z0 _) (z0 _) (noc 1 (sx_y 5) (sx_y 7) (fun h => by have := rel2.mp h; omega) (y5 1))
                cases List.mem_singleton.mp hq
                show 1 + (-1 * sy_r w2 109 d + (1 * sy_r w2 109 c + (-1 * sy_r w2 111 c + (-1 * sy_r w2 111 d + (-1 * sy_r w2 95 1 + 0))))) ≤ 0
                omega
          · exact run (1, 1) (100000000, 100000000) (0, 0) [] (sx_y 5) (sx_y 7) (fx_i 1) (sx_y 5) (sx_y 7) 1 (by rw [hn]; rfl) fx_r3 rfl ⟨by decide, by decide⟩ ⟨by show (100000000 : Int) ≤ _; omega, by show _ ≤ (100000000 : Int); omega⟩ ⟨by omega, by omega⟩ sy_F0 (z0 _) (z0 _) (noc 1 (sx_y 5) (sx_y 7) (fun h => by have := rel2.mp h; omega) (y5 1))
        · exact run (1, 1) fx_0f (1, 1) [] (sx_y 5) (sx_y 7) (fx_i 1) (sx_y 5) (sx_y 7) 1 (by rw [hn]; rfl) fx_r2 rfl ⟨by decide, by decide⟩ ⟨Sd.2.2.1, Sd.2.2.2⟩ ⟨by omega, by omega⟩ sy_F0 (z0 _) (z0 _) (noc 1 (sx_y 5) (sx_y 7) (fun h => by have := rel2.mp h; omega) (y5 1))
      · exact run (0, 0) fx_0f fx_01 [] (sx_y 5) (sx_y 7) (fx_i 1) (sx_y 5) (sx_y 7) 0 (by rw [hn]; rfl) fx_r1 rfl ⟨by decide, by decide⟩ ⟨Sd.2.2.1, Sd.2.2.2⟩ hsh sy_F0 (z0 _) (z0 _) (noc 0 (sx_y 5) (sx_y 7) (fun h => by have := (rel2.mp h).1; rw [hn] at this; exact absurd this (by decide)) (y5 0))
    obtain ⟨res, g1, g2⟩ := behind
    exact ⟨res, go_cl (j := 211) (n := 2) (as := [.int xc, .int xd]) (k1 := 1) rfl rfl rfl rfl rfl rfl rfl (sq_ru_nx xc xd w2) g1, g2⟩
