/-! image and restore of the reference -/
theorem rs_loop (w : pq_W) (fs : List Value) (f g : Nat → Int32) (h90 : w[94]? = some (.inr (11, fs))) (k0 : fs[0]? = some (.ref 95)) (k1 : fs[1]? = some (.ref 96)) (h92 : w[96]? = some (.inl (.int, 2858, .inl f))) (hl : 95 < w.length) {res : pq_R}
    (e : pq_Go 0 pm_246 41 [(1, .int (nI 2858)), (0, .ref 94)] [] (w.set 95 (.inl (.int, 2858, .inl (ct_c f g 2858)))) 0 0 res) : ∀ (m i : Nat), i + m = 2858 → pq_Go 0 pm_246 16 [(1, .int (nI i)), (0, .ref 94)] [] (w.set 95 (.inl (.int, 2858, .inl (ct_c f g i)))) 0 0 res := by
  intro m
  induction m with
  | zero =>
    intro i hi
    have hi : i = 2858 := by omega
    subst hi
    refine go_seg 2 (pc' := 20) (ls' := [(1, .int (nI 2858)), (0, .ref 94)]) (st' := [.int 2858, .int (nI 2858)]) (w' := w.set 95 (.inl (.int, 2858, .inl (ct_c f g 2858)))) (cs' := 0) (ss' := 0) ?_ (fun _ _ => rfl)
    exact go_cmp true rfl (by decide +kernel) e
  | succ m ih =>
    intro i hi
    refine go_seg 2 (pc' := 20) (ls' := [(1, .int (nI i)), (0, .ref 94)]) (st' := [.int 2858, .int (nI i)]) (w' := w.set 95 (.inl (.int, 2858, .inl (ct_c f g i)))) (cs' := 0) (ss' := 0) ?_ (fun _ _ => rfl)
    refine go_cmp false rfl (br_ge_f (b := 2858) rfl (by rw [nI_toInt (by omega)]; omega)) ?_
    refine go_seg 1 (pc' := 24) (ls' := [(1, .int (nI i)), (0, .ref 94)]) (st' := [.ref 94]) (w' := w.set 95 (.inl (.int, 2858, .inl (ct_c f g i)))) (cs' := 0) (ss' := 0) ?_ (fun _ _ => rfl)
    refine go_get (z := .ref 95) rfl (by rw [List.getElem?_set_ne (by decide)]; exact h90) rfl k0 ?_
    refine go_seg 2 (pc' := 29) (ls' := [(1, .int (nI i)), (0, .ref 94)]) (st' := [.ref 94, .int (nI i), .ref 95]) (w' := w.set 95 (.inl (.int, 2858, .inl (ct_c f g i)))) (cs' := 0) (ss' := 0) ?_ (fun _ _ => rfl)
    refine go_get (z := .ref 96) rfl (by rw [List.getElem?_set_ne (by decide)]; exact h90) rfl k1 ?_
    refine go_seg 1 (pc' := 33) (ls' := [(1, .int (nI i)), (0, .ref 94)]) (st' := [.int (nI i), .ref 96, .int (nI i), .ref 95]) (w' := w.set 95 (.inl (.int, 2858, .inl (ct_c f g i)))) (cs' := 0) (ss' := 0) ?_ (fun _ _ => rfl)
    refine go_ald (z := .int (f i)) rfl (by rw [List.getElem?_set_ne (by decide)]; exact h92) (pa_i (by omega) (by omega)) ?_
    refine go_ast (c1 := .inl (.int, 2858, .inl (ct_c f g (i + 1)))) rfl (List.getElem?_set_self hl) (by rw [← ct_s]; exact ps_i (by omega) (by omega)) rfl ?_
    rw [pq_set_set]
    refine go_seg 2 (pc' := 16) (ls' := [(1, .int (nI (i + 1))), (0, .ref 94)]) (st' := []) (w' := w.set 95 (.inl (.int, 2858, .inl (ct_c f g (i + 1))))) (cs' := 0) (ss' := 0) ?_ (fun _ _ => by rw [nI_succ]; rfl)
    exact ih (i + 1) (by omega)
theorem rs_ru (w : pq_W) (fs : List Value) (f g : Nat → Int32) (x : Int32) (h90 : w[94]? = some (.inr (11, fs))) (k0 : fs[0]? = some (.ref 95)) (k1 : fs[1]? = some (.ref 96)) (h91 : w[95]? = some (.inl (.int, 2858, .inl g))) (h92 : w[96]? = some (.inl (.int, 2858, .inl f))) (kI : fs[2]? = some (.int x)) (hx : ¬ x = 0) : pq_Ru 1 246 [.ref 94] w (some (.int (f 0)), w.set 95 (.inl (.int, 2858, .inl (ct_c f g 2858)))) := by
  have hl : 95 < w.length := (List.getElem?_eq_some_iff.mp h91).1
  have e0 : w.set 95 (.inl (.int, 2858, .inl (ct_c f g 0))) = w := by
    rw [ct_0]
    obtain ⟨h1, h2⟩ := List.getElem?_eq_some_iff.mp h91
    rw [← h2, List.set_getElem_self]
  refine ru_of (k := 0) (M := pm_246) rfl (by rw [pq_rcv1 rfl rfl h90]; rfl) ?_
  refine go_seg 1 (pc' := 1) (ls' := [(0, .ref 94)]) (st' := [.ref 94]) (w' := w) (cs' := 0) (ss' := 0) ?_ (fun _ _ => rfl)
  refine go_get (z := .int x) rfl h90 rfl kI ?_
  refine go_if true rfl (decide_eq_true hx) ?_
  refine go_seg 2 (pc' := 16) (ls' := [(1, .int (nI 0)), (0, .ref 94)]) (st' := []) (w' := w) (cs' := 0) (ss' := 0) ?_ (fun _ _ => rfl)
  have h := rs_loop w fs f g h90 k0 k1 h92 hl (res := (some (.int (f 0)), w.set 95 (.inl (.int, 2858, .inl (ct_c f g 2858))))) ?_ 2858 0 (by omega)
  · rw [e0] at h
    exact h
  · refine go_seg 1 (pc' := 42) (ls' := [(1, .int (nI 2858)), (0, .ref 94)]) (st' := [.ref 94]) (w' := w.set 95 (.inl (.int, 2858, .inl (ct_c f g 2858)))) (cs' := 0) (ss' := 0) ?_ (fun _ _ => rfl)
    refine go_get (z := .ref 95) rfl (by rw [List.getElem?_set_ne (by decide)]; exact h90) rfl k0 ?_
    refine go_seg 1 (pc' := 46) (ls' := [(1, .int (nI 2858)), (0, .ref 94)]) (st' := [.int (nI 0), .ref 95]) (w' := w.set 95 (.inl (.int, 2858, .inl (ct_c f g 2858)))) (cs' := 0) (ss' := 0) ?_ (fun _ _ => rfl)
    refine go_ald (z := .int (f 0)) rfl (List.getElem?_set_self hl) (pa_i (j := 0) (by omega) (by omega)) ?_
    exact go_end 1 (fun _ _ => rfl)
/-- rates of the kept ones: at least 1, once an image is kept -/
noncomputable def kg (w : pq_W) : Prop := ∀ k : Nat, k < 8 → 1 ≤ sy_r w 96 (138 + 6 * k + 1) ∧ sy_r w 96 (138 + 6 * k + 1) ≤ 9999
noncomputable def kg_1 : sx_G := (138, 6, 8, 1, 1, 1, 9999)
noncomputable def kg_0 : sx_G := (138, 6, 8, 1, 1, 0, 9999)
theorem kg_mv {w w1 : pq_W} (h : ∀ i, i < 2858 → sy_r w1 96 i = sy_r w 96 i) (k : kg w) : kg w1 := fun j hj => by
  rw [h _ (by omega)]
  exact k j hj
noncomputable def kg_e (a b : sx_G) : Bool := Nat.beq a.1 b.1 && Nat.beq a.2.1 b.2.1 && Nat.beq a.2.2.1 b.2.2.1 && Nat.beq a.2.2.2.1 b.2.2.2.1 && Nat.beq a.2.2.2.2.1 b.2.2.2.2.1 && decide (a.2.2.2.2.2.1 = b.2.2.2.2.2.1) && decide (a.2.2.2.2.2.2 = b.2.2.2.2.2.2)
theorem kg_eq {a b : sx_G} (h : kg_e a b = true) : a = b := by
  unfold kg_e at h
  simp only [Bool.and_eq_true, decide_eq_true_eq] at h
  obtain ⟨⟨⟨⟨⟨⟨h1, h2⟩, h3⟩, h4⟩, h5⟩, h6⟩, h7⟩ := h
  obtain ⟨a1, a2, a3, a4, a5, a6, a7⟩ := a
  obtain ⟨b1, b2, b3, b4, b5, b6, b7⟩ := b
  have h1 : a1 = b1 := Nat.eq_of_beq_eq_true h1
  have h2 : a2 = b2 := Nat.eq_of_beq_eq_true h2
  have h3 : a3 = b3 := Nat.eq_of_beq_eq_true h3
  have h4 : a4 = b4 := Nat.eq_of_beq_eq_true h4
  have h5 : a5 = b5 := Nat.eq_of_beq_eq_true h5
  have h6 : a6 = b6 := h6
  have h7 : a7 = b7 := h7
  rw [h1, h2, h3, h4, h5, h6, h7]
theorem kg_in {l m : List sx_G} {x : sx_G} (h : (l.all fun g => m.any (fun q => kg_e g q) || kg_e g x) = true) : ∀ g ∈ l, g ∈ m ∨ g = x := fun g hg => by
  have h1 := List.all_eq_true.mp h g hg
  rcases Bool.or_eq_true_iff.mp h1 with q | q
  · obtain ⟨y, hy, e⟩ := List.any_eq_true.mp q
    rw [kg_eq e]
    exact Or.inl hy
  · exact Or.inr (kg_eq q)
theorem im_gs : ∃ gs gk : List sx_G, sx_T0[95]? = some (.inr (.inl (.int, 2858, gs))) ∧ sx_T0[96]? = some (.inr (.inl (.int, 2858, gk))) ∧ (∀ g ∈ gs, g.2.2.1 ≤ 3000 ∧ g.1 + g.2.1 * (g.2.2.1 - 1) + g.2.2.2.2.1 < 2858) ∧ (∀ g ∈ gk, g.2.2.1 ≤ 3000 ∧ g.1 + g.2.1 * (g.2.2.1 - 1) + g.2.2.2.2.1 < 2858) ∧ kg_1 ∈ gs ∧ (∀ g ∈ gk, g ∈ gs ∨ g = kg_0) ∧ ∀ g ∈ gs, g ∈ gk ∨ g = kg_1 := ⟨_, _, rfl, rfl, by decide +kernel, by decide +kernel, List.mem_of_getElem? (i := 10) rfl, kg_in (by decide +kernel), kg_in (by decide +kernel)⟩
theorem im_k {gs gk : List sx_G} (h1 : kg_1 ∈ gs) (h : ∀ g ∈ gk, g ∈ gs ∨ g = kg_0) {f : Nat → Int32} (hf : ∀ g ∈ gs, sx_gok g f) : ∀ g ∈ gk, sx_gok g f := fun g hg => by
  rcases h g hg with q | q
  · exact hf g q
  · subst q
    intro k hk j a b
    have := hf kg_1 h1 k hk j a b
    exact ⟨Int.le_trans (by decide) this.1, this.2⟩
theorem im_ok {gs : List sx_G} (hg : ∀ g ∈ gs, g.2.2.1 ≤ 3000 ∧ g.1 + g.2.1 * (g.2.2.1 - 1) + g.2.2.2.2.1 < 2858) {f h : Nat → Int32} (hf : ∀ g ∈ gs, sx_gok g f) : ∀ g ∈ gs, sx_gok g (ct_c f h 2858) := fun g hgm k hk j h1 h2 => by
  have hb := (hg g hgm).2
  have hm : g.2.1 * k ≤ g.2.1 * (g.2.2.1 - 1) := Nat.mul_le_mul_left _ (by omega)
  have e : ct_c f h 2858 (g.1 + g.2.1 * k + j) = f (g.1 + g.2.1 * k + j) := if_pos (by omega)
  rw [e]
  exact hf g hgm k hk j h1 h2
/-- the reference's object -/
theorem im_obj {w : pq_W} (ht : sx_Ty sx_T0 w) : ∃ (fs : List Value) (x : Int32), w[94]? = some (.inr (11, fs)) ∧ fs[0]? = some (.ref 95) ∧ fs[1]? = some (.ref 96) ∧ fs[2]? = some (.int x) ∧ Nat.blt 2 fs.length = true ∧ x.toInt = sy_r w 94 2 := by
  obtain ⟨c, h1, h2⟩ := sx_Ty_get (r := 94) ht rfl
  match c, h1, h2 with
  | .inr (ci, vs), h1, h2 =>
    obtain ⟨e1, e2, h3⟩ := h2
    subst e1
    have hl : vs.length = 26 := e2
    have g0 := h3 0 _ vs[0] rfl (List.getElem?_eq_getElem (by omega))
    have g1 := h3 1 _ vs[1] rfl (List.getElem?_eq_getElem (by omega))
    have g2 := h3 2 _ vs[2] rfl (List.getElem?_eq_getElem (by omega))
    have k0 : vs[0]? = some vs[0] := List.getElem?_eq_getElem (by omega)
    have k1 : vs[1]? = some vs[1] := List.getElem?_eq_getElem (by omega)
    have k2 : vs[2]? = some vs[2] := List.getElem?_eq_getElem (by omega)
    generalize vs[0] = a at g0 k0
    generalize vs[1] = b at g1 k1
    generalize vs[2] = d at g2 k2
    match a, g0, k0, b, g1, k1, d, g2, k2 with
    | .ref a, g0, k0, .ref b, g1, k1, .int x, g2, k2 =>
      have g0 : a = 95 := g0
      have g1 : b = 96 := g1
      subst g0
      subst g1
      exact ⟨vs, x, h1, k0, k1, k2, by rw [hl]; rfl, (sy_r_of (by rw [sx_wg_of h1]; exact k2)).symm⟩
/-- where all that counts is the same -/
theorem JJ_of {w w1 : pq_W} {a b : Nat} (hz : sy_Z w a) (hz2 : sy_Z w b) (ja : sy_JT w a ∧ sy_JL w a ∧ Mo (sy_r w a)) (jb : sy_JT w b ∧ sy_JL w b ∧ Mo (sy_r w b)) (ht : sx_Ty sx_T0 w1) (h95 : ∀ i, i < 2858 → sy_r w1 95 i = sy_r w a i) (h96 : ∀ i, i < 2858 → sy_r w1 96 i = sy_r w b i) : JJ w1 := by
  refine ⟨⟨⟨sy_JT_congr hz (fun i h1 h2 => h95 i (by omega)) ja.1, sy_JL_congr hz (fun i h1 h2 => h95 i (by omega)) ja.2.1⟩, sy_JT_congr hz2 (fun i h1 h2 => h96 i (by omega)) jb.1, sy_JL_congr hz2 (fun i h1 h2 => h96 i (by omega)) jb.2.1⟩, ?_, ?_⟩
  · exact Mo_fr ja.2.2 (h95 0 (by omega)) (mo_yT ht (Or.inl rfl)).1 (h95 3 (by omega)) (h95 5 (by omega)) (h95 6 (by omega)) (fun i h1 h2 => h95 i (by omega))
  · exact Mo_fr jb.2.2 (h96 0 (by omega)) (mo_yT ht (Or.inr rfl)).1 (h96 3 (by omega)) (h96 5 (by omega)) (h96 6 (by omega)) (fun i h1 h2 => h96 i (by omega))
theorem JJ_a {w : pq_W} (h : JJ w) : sy_JT w 95 ∧ sy_JL w 95 ∧ Mo (sy_r w 95) := ⟨h.1.1.1, h.1.1.2, h.2.1⟩
theorem JJ_b {w : pq_W} (h : JJ w) : sy_JT w 96 ∧ sy_JL w 96 ∧ Mo (sy_r w 96) := ⟨h.1.2.1, h.1.2.2, h.2.2⟩
theorem im_arr {w : pq_W} {r : Nat} {n : Nat} {f : Nat → Int32} {ty : FieldType} (h : w[r]? = some (.inl (ty, n, .inl f))) {i : Nat} (hi : i < n) : sy_r w r i = (f i).toInt := by
  refine sy_r_of ?_
  rw [sx_wg_of h]
  show (if i < n then some (Value.int (f i)) else none) = _
  rw [if_pos hi]
theorem kx_image {w : pq_W} (ht : sx_Ty sx_T0 w) (hJ : JJ w) : ∃ (x : Int32) (w1 : pq_W), pq_Ru 1 245 [.ref 94] w (some (.int x), w1) ∧ sx_Ty sx_T0 w1 ∧ JJ w1 ∧ x.toInt = (sy_r w 94 2 + 1).bmod (2 ^ 32) ∧ sy_r w1 94 2 = x.toInt ∧ (∀ i, i < 2858 → sy_r w1 96 i = sy_r w 95 i) ∧ kg w1 ∧ sx_Fr [(94, 2, 2), (96, 0, 2857)] w w1 := by
  obtain ⟨fs, x, h94, k0, k1, k2, hlen, ex⟩ := im_obj ht
  obtain ⟨gs, gk, T95, T96, hg, hgk, m1, mk, ms⟩ := im_gs
  obtain ⟨f, h95, hf, _⟩ := sy_arr ht T95
  obtain ⟨g, h96, hgg, _⟩ := sy_arr ht T96
  have hru := im_ru w fs f g x h94 k0 k1 h95 h96 k2 hlen
  have h94l : 94 < w.length := (List.getElem?_eq_some_iff.mp h94).1
  have h96l : 96 < w.length := (List.getElem?_eq_some_iff.mp h96).1
  have t1 : sx_Ty sx_T0 (w.set 96 (.inl (.int, 2858, .inl (ct_c f g 2858)))) := sx_Ty_set ht T96 ⟨rfl, rfl, im_ok hgk (im_k m1 mk hf)⟩
  have h94' : (w.set 96 (.inl (.int, 2858, .inl (ct_c f g 2858))))[94]? = some (.inr (11, fs)) := by rw [List.getElem?_set_ne (by decide)]; exact h94
  have t2 : sx_Ty sx_T0 ((w.set 96 (.inl (.int, 2858, .inl (ct_c f g 2858)))).set 94 (.inr (11, fs.set 2 (.int (x + 1))))) := by
    obtain ⟨c, q1, q2⟩ := sx_Ty_get (r := 94) t1 rfl
    rw [h94'] at q1
    cases q1
    obtain ⟨e1, e2, h3⟩ := q2
    refine sx_Ty_set t1 (r := 94) rfl ⟨e1, by rw [List.length_set]; exact e2, fun i t v hi hv => ?_⟩
    by_cases e : i = 2
    · subst e
      rw [List.getElem?_set_self (by exact Nat.le_of_ble_eq_true hlen)] at hv
      cases hv
      have hi : some ((.inl ((-2147483648), 2147483647)) : sx_ft) = some t := hi
      cases hi
      exact ⟨(x + 1).minValue_le_toInt, (x + 1).toInt_le⟩
    · rw [List.getElem?_set_ne (fun q => e q.symm)] at hv
      exact h3 i t v hi hv
  have fr : sx_Fr [(94, 2, 2), (96, 0, 2857)] w ((w.set 96 (.inl (.int, 2858, .inl (ct_c f g 2858)))).set 94 (.inr (11, fs.set 2 (.int (x + 1))))) := fun r i hn => by
    rw [sx_wg_set (by rw [List.length_set]; exact h94l)]
    by_cases e : 94 = r
    · subst e
      rw [if_pos rfl]
      show (fs.set 2 (.int (x + 1)))[i]? = _
      have hi : i ≠ 2 := fun q => hn ⟨(94, 2, 2), List.mem_cons_self, rfl, by show (2 : Int) ≤ (i : Int); omega, by show (i : Int) ≤ 2; omega⟩
      rw [List.getElem?_set_ne (fun q => hi q.symm), sx_wg_of h94]
      rfl
    · rw [if_neg e, sx_wg_set h96l]
      by_cases e2 : 96 = r
      · subst e2
        have hi : ¬ i < 2858 := fun q => hn ⟨(96, 0, 2857), List.mem_cons_of_mem _ List.mem_cons_self, rfl, by show (0 : Int) ≤ (i : Int); omega, by show (i : Int) ≤ 2857; omega⟩
        rw [if_pos rfl, sx_wg_of h96]
        show (if i < 2858 then _ else none) = (if i < 2858 then _ else none)
        rw [if_neg hi, if_neg hi]
      · rw [if_neg e2]
  have a96 : ∀ i, i < 2858 → sy_r ((w.set 96 (.inl (.int, 2858, .inl (ct_c f g 2858)))).set 94 (.inr (11, fs.set 2 (.int (x + 1))))) 96 i = sy_r w 95 i := fun i hi => by
    rw [im_arr (f := ct_c f g 2858) (n := 2858) (ty := .int) (by rw [List.getElem?_set_ne (by decide)]; exact List.getElem?_set_self h96l) hi, im_arr h95 hi]
    show (if i < 2858 then f i else g i).toInt = _
    rw [if_pos hi]
  have a95 : ∀ i, i < 2858 → sy_r ((w.set 96 (.inl (.int, 2858, .inl (ct_c f g 2858)))).set 94 (.inr (11, fs.set 2 (.int (x + 1))))) 95 i = sy_r w 95 i := fun i _ => fr_no fr ⟨Or.inl (by decide), Or.inl (by decide), trivial⟩
  refine ⟨x + 1, _, hru, t2, JJ_of (sy_z95 ht) (sy_z95 ht) (JJ_a hJ) (JJ_a hJ) t2 a95 a96, ?_, ?_, a96, fun k hk => ?_, fr⟩
  · rw [Int32.toInt_add, ex]
    rfl
  · refine sy_r_of ?_
    rw [sx_wg_set (by rw [List.length_set]; exact h94l), if_pos rfl]
    show (fs.set 2 (.int (x + 1)))[2]? = _
    exact List.getElem?_set_self (Nat.le_of_ble_eq_true hlen)
  · rw [a96 _ (by omega), im_arr h95 (by omega)]
    exact hf kg_1 m1 k hk 1 (Nat.le_refl _) (Nat.le_refl _)
theorem rs_0 : ng_chk [(97, 0, 5)] [] [] 299 246 pm_246 0 [] [] [(0, fx_r)] [] [(94, (2, []), fx_k 0)] [(.inl (.inl (fx_k (-1000002))), [], [], [])] [] 60 = true := by decide +kernel
theorem kx_restore {w : pq_W} (ht : sx_Ty sx_T0 w) (hJ : JJ w) (hkg : sy_r w 94 2 ≠ 0 → kg w) : ∃ (x : Int32) (w1 : pq_W), pq_Ru 300 246 [.ref 94] w (some (.int x), w1) ∧ sx_Ty sx_T0 w1 ∧ JJ w1 ∧ ((sy_r w 94 2 = 0 ∧ x.toInt = -1000002 ∧ sx_Fr [(97, 0, 5)] w w1) ∨ (sy_r w 94 2 ≠ 0 ∧ x.toInt = sy_r w 96 0 ∧ (∀ i, i < 2858 → sy_r w1 95 i = sy_r w 96 i) ∧ sx_Fr [(95, 0, 2857)] w w1)) := by
  by_cases e0 : sy_r w 94 2 = 0
  · have main : ∃ res, pq_Go 299 pm_246 0 (lv_args 0 [.ref 94]) [] w 0 0 res ∧ ((∃ x : Int32, res.1 = some (.int x) ∧ x.toInt = -1000002) ∧ sx_Ty sx_T0 res.2 ∧ sx_Fr [(97, 0, 5)] w res.2) := by
      refine ng_go (J := sx_tt) (Post := fun res => (∃ x : Int32, res.1 = some (.int x) ∧ x.toInt = -1000002) ∧ sx_Ty sx_T0 res.2 ∧ sx_Fr [(97, 0, 5)] w res.2) (fx_p []) rs_0 rfl trivial trivial ⟨rfl, trivial⟩ trivial ⟨?_, trivial⟩ ht sx_ctn (fun _ _ _ => trivial) ⟨fun x w2 t2 f2 q => ⟨by obtain ⟨y, y1, y2⟩ := q.1; exact ⟨y, y1, by rw [y2]; exact ng_ek _ _⟩, t2, f2⟩, trivial⟩ trivial
      show sy_r w 94 (sx_ev _ (2, [])).toNat = sx_ev _ (0, [])
      rw [ng_ek, ng_ek]
      exact e0
    obtain ⟨⟨r, w1⟩, g1, ⟨x, rfl, xv⟩, t1, f1⟩ := main
    have f1 : sx_Fr [(97, 0, 5)] w w1 := f1
    refine ⟨x, w1, ru_of (k := 299) (M := pm_246) rfl ?_ g1, t1, JJ_of (sy_z95 ht) (sy_z96 ht) (JJ_a hJ) (JJ_b hJ) t1 (fun i _ => fr_no f1 ⟨Or.inl (by decide), trivial⟩) (fun i _ => fr_no f1 ⟨Or.inl (by decide), trivial⟩), Or.inl ⟨e0, xv, f1⟩⟩
    rw [Bool.and_eq_true]
    exact ⟨rfl, sq_rcv ht rfl rfl rfl⟩
  · obtain ⟨fs, x, h94, k0, k1, k2, hlen, ex⟩ := im_obj ht
    obtain ⟨gs, gk, T95, T96, hg, hgk, m1, mk, ms⟩ := im_gs
    obtain ⟨g, h95, hgg, _⟩ := sy_arr ht T95
    obtain ⟨f, h96, hf, _⟩ := sy_arr ht T96
    have hx : ¬ x = 0 := fun q => e0 (by rw [← ex, q]; rfl)
    have hru := rs_ru w fs f g x h94 k0 k1 h95 h96 k2 hx
    have h95l : 95 < w.length := (List.getElem?_eq_some_iff.mp h95).1
    have hfs : ∀ g ∈ gs, sx_gok g f := fun g hg => by
      rcases ms g hg with q | q
      · exact hf g q
      · subst q
        intro k hk j a b
        have hk : k < 8 := hk
        have a : 1 ≤ j := a
        have b : j ≤ 1 := b
        have hj : j = 1 := by omega
        subst hj
        have h := hkg e0 k hk
        rw [im_arr h96 (by omega)] at h
        exact h
    have t1 : sx_Ty sx_T0 (w.set 95 (.inl (.int, 2858, .inl (ct_c f g 2858)))) := sx_Ty_set ht T95 ⟨rfl, rfl, im_ok hg hfs⟩
    have fr : sx_Fr [(95, 0, 2857)] w (w.set 95 (.inl (.int, 2858, .inl (ct_c f g 2858)))) := fun r i hn => by
      rw [sx_wg_set h95l]
      by_cases e2 : 95 = r
      · subst e2
        have hi : ¬ i < 2858 := fun q => hn ⟨(95, 0, 2857), List.mem_cons_self, rfl, by show (0 : Int) ≤ (i : Int); omega, by show (i : Int) ≤ 2857; omega⟩
        rw [if_pos rfl, sx_wg_of h95]
        show (if i < 2858 then _ else none) = (if i < 2858 then _ else none)
        rw [if_neg hi, if_neg hi]
      · rw [if_neg e2]
    have a95 : ∀ i, i < 2858 → sy_r (w.set 95 (.inl (.int, 2858, .inl (ct_c f g 2858)))) 95 i = sy_r w 96 i := fun i hi => by
      rw [im_arr (f := ct_c f g 2858) (n := 2858) (ty := .int) (List.getElem?_set_self h95l) hi, im_arr h96 hi]
      show (if i < 2858 then f i else g i).toInt = _
      rw [if_pos hi]
    have a96 : ∀ i, i < 2858 → sy_r (w.set 95 (.inl (.int, 2858, .inl (ct_c f g 2858)))) 96 i = sy_r w 96 i := fun i _ => fr_no fr ⟨Or.inl (by decide), trivial⟩
    exact ⟨f 0, _, ru_mono hru (by decide), t1, JJ_of (sy_z96 ht) (sy_z96 ht) (JJ_b hJ) (JJ_b hJ) t1 a95 a96, Or.inr ⟨e0, (im_arr h96 (by omega)).symm, a95, fr⟩⟩
