/-! move, where it isn't done -/
noncomputable def mn_z (s : Nat) : List ((Int × Int) × (Int × Int) × (Int × Int) × List sx_F) := [(sy_full, sy_full, sh_lo, []), (sh_lo, sy_full, sy_full, []), (sy_full, sh_lo, sy_full, []), (sy_full, sy_full, sy_full, [(1, [(0, -1), (2, -1), (3, 1)])]), (sy_full, sy_full, sy_full, [(1, [(1, -1), (2, -1), (s, 1)])])]
noncomputable def mn_f (AN : sh_AN) (j : Nat) (M : pq_M) (r0 cw cs ce : Nat) : Bool := (List.range 4).all fun a => (List.range 4).all fun o => (mn_z (mn_s a o)).all fun z => ng_chk (mv_A ce ce ce) [] AN 299 j M 0 [z.1, z.2.1, z.2.2.1, (0, 24), (0, 24), (1, 32)] z.2.2.2 (mv_sl r0 (fx_k a) (fx_i 0) (fx_k o) (fx_i 1) (fx_i 2)) [] (mn_O cw cs a o) [(sh_x (-1000001), [], [], [])] [] 6000
theorem mfc_1 : mv_k1 [] 145 pm_145 5 93 93 93 = true := by decide +kernel
theorem mfc_2 : mv_k2 [] 145 pm_145 5 93 93 93 = true := by decide +kernel
theorem mfc_3 : mv_k3 [] 145 pm_145 5 90 93 93 93 = true := by decide +kernel
theorem mfc_4 : mv_k4 [] 145 pm_145 5 90 93 93 93 = true := by decide +kernel
theorem mfc_5_8_16 : mv_k5 [] 145 pm_145 5 90 93 93 93 8 16 = true := by decide +kernel
theorem mfc_5_8_32 : mv_k5 [] 145 pm_145 5 90 93 93 93 8 32 = true := by decide +kernel
theorem mfc_5_16_8 : mv_k5 [] 145 pm_145 5 90 93 93 93 16 8 = true := by decide +kernel
theorem mfc_5_16_32 : mv_k5 [] 145 pm_145 5 90 93 93 93 16 32 = true := by decide +kernel
theorem mfc_5_32_8 : mv_k5 [] 145 pm_145 5 90 93 93 93 32 8 = true := by decide +kernel
theorem mfc_5_32_16 : mv_k5 [] 145 pm_145 5 90 93 93 93 32 16 = true := by decide +kernel
theorem mfc_5 {b1 b2 : Int} (h1 : b1 = 8 ∨ b1 = 16 ∨ b1 = 32) (h2 : b2 = 8 ∨ b2 = 16 ∨ b2 = 32) (h : b1 ≠ b2) : mv_k5 [] 145 pm_145 5 90 93 93 93 b1 b2 = true := by
  rcases h1 with rfl | rfl | rfl <;> rcases h2 with rfl | rfl | rfl
  · exact absurd rfl h
  · exact mfc_5_8_16
  · exact mfc_5_8_32
  · exact mfc_5_16_8
  · exact absurd rfl h
  · exact mfc_5_16_32
  · exact mfc_5_32_8
  · exact mfc_5_32_16
  · exact absurd rfl h
theorem mfc_f : mn_f [] 145 pm_145 5 90 92 93 = true := by decide +kernel
theorem mfm_1 : mv_k1 sh_Nv 244 pm_244 94 97 97 97 = true := by decide +kernel
theorem mfm_2 : mv_k2 sh_Nv 244 pm_244 94 97 97 97 = true := by decide +kernel
theorem mfm_3 : mv_k3 sh_Nv 244 pm_244 94 98 97 97 97 = true := by decide +kernel
theorem mfm_4 : mv_k4 sh_Nv 244 pm_244 94 98 97 97 97 = true := by decide +kernel
theorem mfm_5_8_16 : mv_k5 sh_Nv 244 pm_244 94 98 97 97 97 8 16 = true := by decide +kernel
theorem mfm_5_8_32 : mv_k5 sh_Nv 244 pm_244 94 98 97 97 97 8 32 = true := by decide +kernel
theorem mfm_5_16_8 : mv_k5 sh_Nv 244 pm_244 94 98 97 97 97 16 8 = true := by decide +kernel
theorem mfm_5_16_32 : mv_k5 sh_Nv 244 pm_244 94 98 97 97 97 16 32 = true := by decide +kernel
theorem mfm_5_32_8 : mv_k5 sh_Nv 244 pm_244 94 98 97 97 97 32 8 = true := by decide +kernel
theorem mfm_5_32_16 : mv_k5 sh_Nv 244 pm_244 94 98 97 97 97 32 16 = true := by decide +kernel
theorem mfm_5 {b1 b2 : Int} (h1 : b1 = 8 ∨ b1 = 16 ∨ b1 = 32) (h2 : b2 = 8 ∨ b2 = 16 ∨ b2 = 32) (h : b1 ≠ b2) : mv_k5 sh_Nv 244 pm_244 94 98 97 97 97 b1 b2 = true := by
  rcases h1 with rfl | rfl | rfl <;> rcases h2 with rfl | rfl | rfl
  · exact absurd rfl h
  · exact mfm_5_8_16
  · exact mfm_5_8_32
  · exact mfm_5_16_8
  · exact absurd rfl h
  · exact mfm_5_16_32
  · exact mfm_5_32_8
  · exact mfm_5_32_16
  · exact absurd rfl h
theorem mfm_f : mn_f sh_Nv 244 pm_244 94 98 99 97 = true := by decide +kernel
noncomputable def mv_OK (a o i j n W1 W2 S1 S2 : Int) : Prop := ¬ ((a < 0 ∨ 3 < a) ∨ (o < 0 ∨ 3 < o)) ∧ ¬ (W1 = 0 ∨ W2 = 0) ∧ W1 = W2 ∧ ¬ (n < 0 ∨ i < 0 ∨ j < 0 ∨ S1 < i + n ∨ S2 < j + n)
theorem mvf_gen {AN : sh_AN} {j : Nat} {M : pq_M} {r0 cw cs ce : Nat} (k1 : mv_k1 AN j M r0 ce ce ce = true) (k2 : mv_k2 AN j M r0 ce ce ce = true) (k3 : mv_k3 AN j M r0 cw ce ce ce = true) (k4 : mv_k4 AN j M r0 cw ce ce ce = true) (k5 : ∀ {b1 b2 : Int}, (b1 = 8 ∨ b1 = 16 ∨ b1 = 32) → (b2 = 8 ∨ b2 = 16 ∨ b2 = 32) → b1 ≠ b2 → mv_k5 AN j M r0 cw ce ce ce b1 b2 = true) (kf : mn_f AN j M r0 cw cs ce = true) (hM : pq_tab[j]? = some M) (xa xi xo xj xn : Int32) {w : pq_W} (ht : sx_Ty sx_T0 w) (hw : ∀ s, s < 4 → sh_wd (sy_r w cw s)) (hs : ∀ s, s < 4 → 0 ≤ sy_r w cs s ∧ sy_r w cs s ≤ 24) (hb : ¬ mv_OK xa.toInt xo.toInt xi.toInt xj.toInt xn.toInt (sy_r w cw xa.toInt.toNat) (sy_r w cw xo.toInt.toNat) (sy_r w cs xa.toInt.toNat) (sy_r w cs xo.toInt.toNat)) : ∃ res, pq_Go 299 M 0 (lv_args 0 [.ref r0, .int xa, .int xi, .int xo, .int xj, .int xn]) [] w 0 0 res ∧ sx_Fr (mv_A ce ce ce) w res.2 := by
  have ra := sh_i32 xa
  have ri := sh_i32 xi
  have ro := sh_i32 xo
  have rj := sh_i32 xj
  have rn := sh_i32 xn
  by_cases hA : xa.toInt < 0 ∨ 3 < xa.toInt
  · obtain ⟨i, m, l1, l2⟩ := sh_outm ra hA
    obtain ⟨res, g, t, f, _⟩ := sh_one (ls := lv_args 0 [.ref r0, .int xa, .int xi, .int xo, .int xj, .int xn]) (fx_p [xa.toInt, xi.toInt, xo.toInt, xj.toInt, xn.toInt]) (List.all_eq_true.mp k1 i m) hM ⟨l1, l2, ri.1, ri.2, ro.1, ro.2, rj.1, rj.2, rn.1, rn.2, trivial⟩ ⟨rfl, ng_iy ⟨xa, rfl, rfl⟩ rfl, ng_iy ⟨xi, rfl, rfl⟩ rfl, ng_iy ⟨xo, rfl, rfl⟩ rfl, ng_iy ⟨xj, rfl, rfl⟩ rfl, ng_iy ⟨xn, rfl, rfl⟩ rfl, trivial⟩ trivial ht
    exact ⟨res, g, f⟩
  obtain ⟨a, ea⟩ : ∃ a : Nat, (a : Int) = xa.toInt := ⟨xa.toInt.toNat, by omega⟩
  have ha : a < 4 := by omega
  have eat : xa.toInt.toNat = a := by omega
  have ma : a ∈ List.range 4 := List.mem_range.mpr ha
  by_cases hO : xo.toInt < 0 ∨ 3 < xo.toInt
  · obtain ⟨i, m, l1, l2⟩ := sh_outm ro hO
    obtain ⟨res, g, t, f, _⟩ := sh_one (ls := lv_args 0 [.ref r0, .int xa, .int xi, .int xo, .int xj, .int xn]) (fx_p [xo.toInt, xi.toInt, xj.toInt, xn.toInt]) (List.all_eq_true.mp (List.all_eq_true.mp k2 a ma) i m) hM ⟨l1, l2, ri.1, ri.2, rj.1, rj.2, rn.1, rn.2, trivial⟩ ⟨rfl, ng_ik ⟨xa, rfl, rfl⟩ ea.symm, ng_iy ⟨xi, rfl, rfl⟩ rfl, ng_iy ⟨xo, rfl, rfl⟩ rfl, ng_iy ⟨xj, rfl, rfl⟩ rfl, ng_iy ⟨xn, rfl, rfl⟩ rfl, trivial⟩ trivial ht
    exact ⟨res, g, f⟩
  obtain ⟨o, eo⟩ : ∃ o : Nat, (o : Int) = xo.toInt := ⟨xo.toInt.toNat, by omega⟩
  have ho : o < 4 := by omega
  have eot : xo.toInt.toNat = o := by omega
  have mo : o ∈ List.range 4 := List.mem_range.mpr ho
  rw [eat, eot] at hb
  have sl : ∀ p : Nat → Int, p 0 = xi.toInt → p 1 = xj.toInt → p 2 = xn.toInt → ng_sl0 p (lv_args 0 [.ref r0, .int xa, .int xi, .int xo, .int xj, .int xn]) (mv_sl r0 (fx_k a) (fx_i 0) (fx_k o) (fx_i 1) (fx_i 2)) := fun p p0 p1 p2 => ⟨rfl, ng_ik ⟨xa, rfl, rfl⟩ ea.symm, ng_iy ⟨xi, rfl, rfl⟩ p0, ng_ik ⟨xo, rfl, rfl⟩ eo.symm, ng_iy ⟨xj, rfl, rfl⟩ p1, ng_iy ⟨xn, rfl, rfl⟩ p2, trivial⟩
  by_cases h0 : sy_r w cw a = 0
  · obtain ⟨res, g, t, f, _⟩ := sh_one (ls := lv_args 0 [.ref r0, .int xa, .int xi, .int xo, .int xj, .int xn]) (fx_p [xi.toInt, xj.toInt, xn.toInt]) (List.all_eq_true.mp (List.all_eq_true.mp k3 a ma) o mo) hM ⟨ri.1, ri.2, rj.1, rj.2, rn.1, rn.2, trivial⟩ (sl _ rfl rfl rfl) (sh_eo (n := a) (by rw [ng_ek]; exact h0) rfl trivial) ht
    exact ⟨res, g, f⟩
  have hwa := (hw a ha).resolve_left h0
  have hw1 : 1 ≤ sy_r w cw a ∧ sy_r w cw a ≤ 32 := by
    rcases hwa with h | h | h <;> omega
  have en : a ≠ o → Nat.beq a o = false := fun hne => by
    cases hb : Nat.beq a o with
    | false => rfl
    | true => exact absurd (Nat.eq_of_beq_eq_true hb) hne
  by_cases h1 : sy_r w cw o = 0
  · have hne : a ≠ o := fun e => h0 (by rw [e]; exact h1)
    have ck := List.all_eq_true.mp (List.all_eq_true.mp k4 a ma) o mo
    rw [en hne, Bool.false_or] at ck
    obtain ⟨res, g, t, f, _⟩ := sh_one (ls := lv_args 0 [.ref r0, .int xa, .int xi, .int xo, .int xj, .int xn]) (fx_p [xi.toInt, xj.toInt, xn.toInt, sy_r w cw a]) ck hM ⟨ri.1, ri.2, rj.1, rj.2, rn.1, rn.2, hw1.1, hw1.2, trivial⟩ (sl _ rfl rfl rfl) (sh_eo (n := a) (by rw [sx_y_ev]; rfl) rfl (sh_eo (n := o) (by rw [ng_ek]; exact h1) rfl trivial)) ht
    exact ⟨res, g, f⟩
  have hwo := (hw o ho).resolve_left h1
  by_cases h2 : sy_r w cw a = sy_r w cw o
  · have hs1 := hs a ha
    have hs2 := hs o ho
    have bad : ∀ z ∈ mn_z (mn_s a o), (z.1.1 ≤ xi.toInt ∧ xi.toInt ≤ z.1.2) → (z.2.1.1 ≤ xj.toInt ∧ xj.toInt ≤ z.2.1.2) → (z.2.2.1.1 ≤ xn.toInt ∧ xn.toInt ≤ z.2.2.1.2) → ng_fs (fx_p [xi.toInt, xj.toInt, xn.toInt, sy_r w cs a, sy_r w cs o, sy_r w cw a]) z.2.2.2 → ∃ res, pq_Go 299 M 0 (lv_args 0 [.ref r0, .int xa, .int xi, .int xo, .int xj, .int xn]) [] w 0 0 res ∧ sx_Fr (mv_A ce ce ce) w res.2 := by
      intro z hz b1 b2 b3 b4
      have hE : ng_eqs (fx_p [xi.toInt, xj.toInt, xn.toInt, sy_r w cs a, sy_r w cs o, sy_r w cw a]) w (mn_O cw cs a o) := by
        cases hb : Nat.beq a o with
        | true =>
          have e := Nat.eq_of_beq_eq_true hb
          subst e
          unfold mn_O
          rw [hb]
          exact sh_eo (n := a) (by rw [sx_y_ev]; rfl) rfl (sh_eo (n := a) (by rw [sx_y_ev]; rfl) rfl trivial)
        | false =>
          unfold mn_O
          rw [hb]
          exact sh_eo (n := a) (by rw [sx_y_ev]; rfl) rfl (sh_eo (n := o) (by rw [sx_y_ev]; exact h2.symm) rfl (sh_eo (n := a) (by rw [sx_y_ev]; rfl) rfl (sh_eo (n := o) (by rw [sx_y_ev]; rfl) rfl trivial)))
      obtain ⟨res, g, t, f, _⟩ := sh_onc (ls := lv_args 0 [.ref r0, .int xa, .int xi, .int xo, .int xj, .int xn]) (fx_p [xi.toInt, xj.toInt, xn.toInt, sy_r w cs a, sy_r w cs o, sy_r w cw a]) (List.all_eq_true.mp (List.all_eq_true.mp (List.all_eq_true.mp kf a ma) o mo) z hz) hM ⟨b1.1, b1.2, b2.1, b2.2, b3.1, b3.2, hs1.1, hs1.2, hs2.1, hs2.2, hw1.1, hw1.2, trivial⟩ b4 (sl _ rfl rfl rfl) hE ht
      exact ⟨res, g, f⟩
    by_cases c1 : xn.toInt < 0
    · exact bad _ List.mem_cons_self ri rj ⟨rn.1, by show xn.toInt ≤ -1; omega⟩ trivial
    by_cases c2 : xi.toInt < 0
    · exact bad _ (List.mem_cons_of_mem _ List.mem_cons_self) ⟨ri.1, by show xi.toInt ≤ -1; omega⟩ rj rn trivial
    by_cases c3 : xj.toInt < 0
    · exact bad _ (List.mem_cons_of_mem _ (List.mem_cons_of_mem _ List.mem_cons_self)) ri ⟨rj.1, by show xj.toInt ≤ -1; omega⟩ rn trivial
    by_cases c4 : sy_r w cs a < xi.toInt + xn.toInt
    · exact bad _ (List.mem_cons_of_mem _ (List.mem_cons_of_mem _ (List.mem_cons_of_mem _ List.mem_cons_self))) ri rj rn ⟨by show 1 + (-1 * xi.toInt + (-1 * xn.toInt + (1 * sy_r w cs a + 0))) ≤ 0; omega, trivial⟩
    by_cases c5 : sy_r w cs o < xj.toInt + xn.toInt
    · refine bad _ (List.mem_cons_of_mem _ (List.mem_cons_of_mem _ (List.mem_cons_of_mem _ (List.mem_cons_of_mem _ List.mem_cons_self)))) ri rj rn ⟨?_, trivial⟩
      cases hb : Nat.beq a o with
      | true =>
        have e := Nat.eq_of_beq_eq_true hb
        subst e
        unfold mn_s
        rw [hb]
        show 1 + (-1 * xj.toInt + (-1 * xn.toInt + (1 * sy_r w cs a + 0))) ≤ 0
        omega
      | false =>
        unfold mn_s
        rw [hb]
        show 1 + (-1 * xj.toInt + (-1 * xn.toInt + (1 * sy_r w cs o + 0))) ≤ 0
        omega
    exact absurd ⟨by omega, fun h => h.elim h0 h1, h2, by omega⟩ hb
  · have hne : a ≠ o := fun e => h2 (by rw [e])
    have ck := List.all_eq_true.mp (List.all_eq_true.mp (k5 hwa hwo h2) a ma) o mo
    rw [en hne, Bool.false_or] at ck
    obtain ⟨res, g, t, f, _⟩ := sh_one (ls := lv_args 0 [.ref r0, .int xa, .int xi, .int xo, .int xj, .int xn]) (fx_p [xi.toInt, xj.toInt, xn.toInt]) ck hM ⟨ri.1, ri.2, rj.1, rj.2, rn.1, rn.2, trivial⟩ (sl _ rfl rfl rfl) (sh_eo (n := a) (by rw [ng_ek]) rfl (sh_eo (n := o) (by rw [ng_ek]) rfl trivial)) ht
    exact ⟨res, g, f⟩
