/-! a text's fault; feed and law as wholes -/
section XSU
variable {k k1 : Nat} {M : pq_M} {pc cs ss pc0 nx t r : Nat} {ls : pq_L} {st : List Value} {w : pq_W} {i : Instr} {a : List Nat} {v : Value} {Q : pq_R → Prop}
theorem xs_pr {ci j m : Nat} {fs : List sx_ft} (hq : pq_look (pq_cd M) pc = some (pc0, 20, nx, i, [ci, j, 3], v, t)) (ht : sx_Ty sx_T0 w) (hT : sx_T0[r]? = some (.inl (ci, fs))) (hj : fs[j]? = some (.inr (.inr (.inr ())))) (hE : Nat.ble pq_E r = true) (hl : Nat.blt j fs.length = true) (g : ∀ w2, sx_Ty sx_T0 w2 → sx_Fr [(r, (j : Int), (j : Int))] w w2 → sx_wg w2 r j = some (.ref m) → ∃ res, pq_Go k M nx ls st w2 cs ss res ∧ Q res) : ∃ res, pq_Go k M pc ls (.ref m :: .ref r :: st) w cs ss res ∧ Q res := by
  obtain ⟨c, h1, h2⟩ := sx_Ty_get ht hT
  match c, h1, h2 with
  | .inr (c0, vs), h1, h2 =>
    obtain ⟨e, hlen, hv⟩ := h2
    subst e
    have hr : r < w.length := (List.getElem?_eq_some_iff.mp h1).1
    have hjl : j < vs.length := by rw [hlen]; exact Nat.le_of_ble_eq_true hl
    have hty : sx_Ty sx_T0 (w.set r (.inr (c0, vs.set j (.ref m)))) := by
      refine sx_Ty_set ht hT ⟨rfl, by rw [List.length_set]; exact hlen, fun i2 t2 v2 a1 a2 => ?_⟩
      by_cases e : j = i2
      · subst e
        rw [hj] at a1
        cases a1
        cases v2 <;> trivial
      · rw [List.getElem?_set_ne e] at a2
        exact hv i2 t2 v2 a1 a2
    have hfr : sx_Fr [(r, (j : Int), (j : Int))] w (w.set r (.inr (c0, vs.set j (.ref m)))) := fun r2 i2 hn => by
      rw [sx_wg_set hr]
      by_cases e : r = r2
      · subst e
        rw [if_pos rfl, sx_wg_of h1]
        show (vs.set j (.ref m))[i2]? = vs[i2]?
        exact List.getElem?_set_ne (fun e => hn ⟨_, List.mem_cons_self, rfl, by show (j : Int) ≤ i2; omega, by show (i2 : Int) ≤ j; omega⟩)
      · rw [if_neg e]
    have hwg : sx_wg (w.set r (.inr (c0, vs.set j (.ref m)))) r j = some (.ref m) := by
      rw [sx_wg_set hr, if_pos rfl]
      show (vs.set j (.ref m))[j]? = _
      exact List.getElem?_set_self hjl
    obtain ⟨res, g, q⟩ := g _ hty hfr hwg
    refine ⟨res, go_put hq h1 ?_ g, q⟩
    show (Nat.beq c0 c0 && Nat.ble pq_E r && Nat.blt j vs.length && true) = true
    rw [Nat.beq_refl, hE, show Nat.blt j vs.length = true from Nat.ble_eq_true_of_le hjl]
    rfl
theorem xs_mn {x y z : Int32} (hq : pq_look (pq_cd M) pc = some (pc0, 29, nx, i, [1], v, t)) (hz : (if y < x then y else x) = z) (hc : (Nat.ble (pq_sum (.int z :: st)) 8 && Nat.ble cs (pq_lm M).1 && Nat.ble ss (pq_lm M).2) = true) (g : ∃ res, pq_Go k M nx ls (.int z :: st) w cs ss res ∧ Q res) : ∃ res, pq_Go k M pc ls (.int y :: .int x :: st) w cs ss res ∧ Q res := by
  obtain ⟨res, g, q⟩ := g
  refine ⟨res, go_seg 1 g (fun call f => ?_), q⟩
  rw [pq_exec_s, hq]
  subst hz
  show (bif Nat.ble (pq_sum (.int (if y < x then y else x) :: st)) 8 && Nat.ble cs (pq_lm M).1 && Nat.ble ss (pq_lm M).2 then _ else none) = _
  rw [hc]
  rfl
theorem xs_cp {r0 r1 n0 n1 d q : Nat} {gs0 : List sx_G} (hq : pq_look (pq_cd M) pc = some (pc0, 27, nx, i, a, v, t)) (ht : sx_Ty sx_T0 w) (hT0 : sx_T0[r0]? = some (.inr (.inl (FieldType.int, n0, gs0)))) (hT1 : sx_T0[r1]? = some (.inr (.inl (FieldType.int, n1, [])))) (hE : (Nat.ble pq_E r0 && Nat.ble pq_E r1 && Nat.ble (pq_sum st) 8) = true) {x y : Int32} (hx : x = nI d) (hy : y = nI q) (h0 : q ≤ n0) (h1 : d + q ≤ n1) (hn : n0 < 2 ^ 31 ∧ n1 < 2 ^ 31) (ne : r0 ≠ r1) (g : ∀ w2, sx_Ty sx_T0 w2 → sx_Fr [(r1, (d : Int), ((d + q : Nat) : Int) - 1)] w w2 → (∀ j, j < q → sy_r w2 r1 (d + j) = sy_r w r0 j) → ∃ res, pq_Go k M nx ls st w2 cs ss res ∧ Q res) : ∃ res, pq_Go k M pc ls (.int y :: .int x :: .ref r1 :: .int 0 :: .ref r0 :: st) w cs ss res ∧ Q res := by
  obtain ⟨f0, a1, _, a3⟩ := sy_arr ht hT0
  obtain ⟨f1, b1, _, b3⟩ := sy_arr ht hT1
  have hr : r1 < w.length := (List.getElem?_eq_some_iff.mp b1).1
  subst hx
  subst hy
  have e0 : (0 : Int32).toNatClampNeg = 0 := by decide
  have ed : (nI d).toNatClampNeg = d := nI_clamp (by omega)
  have eq : (nI q).toNatClampNeg = q := nI_clamp (by omega)
  have k0 : ∀ m : Nat, m < 2 ^ 31 → ¬ nI m < 0 := fun m hm h => by
    have := Int32.lt_iff_toInt_lt.mp h
    rw [nI_toInt hm] at this
    have : (m : Int) < 0 := this
    omega
  have hcp : ∃ f2 : Nat → Int32, pq_cp (.inl (FieldType.int, n0, .inl f0)) (.inl (FieldType.int, n1, .inl f1)) 0 (nI d) (nI q) = some (.inl (FieldType.int, n1, .inl f2)) ∧ ∀ j, f2 j = if d ≤ j ∧ j < d + q then f0 (j - d) else f1 j := by
    unfold pq_cp
    dsimp only
    rw [if_pos ⟨Or.inl rfl, rfl, by decide, k0 d (by omega), k0 q (by omega), by rw [e0, eq]; omega, by rw [ed, eq]; omega⟩]
    refine ⟨_, rfl, fun j => ?_⟩
    unfold va_cpy
    simp only [e0, ed, eq, Nat.zero_add]
  obtain ⟨f2, hcp, hf2⟩ := hcp
  obtain ⟨res, g, z⟩ := g (w.set r1 (.inl (FieldType.int, n1, .inl f2))) (sx_Ty_set ht hT1 ⟨rfl, rfl, fun g hg => by cases hg⟩) (fun r2 i2 hn2 => by
    rw [sx_wg_set hr]
    by_cases e : r1 = r2
    · subst e
      rw [if_pos rfl, sx_wg_of b1]
      show (if i2 < n1 then some (Value.int (f2 i2)) else none) = if i2 < n1 then some (Value.int (f1 i2)) else none
      have c : ¬ (d ≤ i2 ∧ i2 < d + q) := fun c => hn2 ⟨_, List.mem_cons_self, rfl, by show (d : Int) ≤ i2; omega, by show (i2 : Int) ≤ ((d + q : Nat) : Int) - 1; omega⟩
      rw [hf2, if_neg c]
    · rw [if_neg e]) (fun j hj => by
    rw [sy_r_of (x := f0 j) (by rw [sx_wg_set hr, if_pos rfl]; show (if d + j < n1 then some (Value.int (f2 (d + j))) else none) = _; rw [if_pos (by omega), hf2, if_pos (by omega), show d + j - d = j by omega]), sy_r_of (a3 j (by omega))])
  exact ⟨res, go_cp hq a1 b1 hcp hE g, z⟩
end XSU
theorem wg_int {w : pq_W} {r ci i : Nat} {fs : List sx_ft} {lo hi : Int} (ht : sx_Ty sx_T0 w) (hT : sx_T0[r]? = some (.inl (ci, fs))) (hf : fs[i]? = some (.inl (lo, hi))) : ∃ z : Int32, sx_wg w r i = some (.int z) ∧ lo ≤ z.toInt ∧ z.toInt ≤ hi := by
  obtain ⟨c, h1, h2⟩ := sx_Ty_get ht hT
  match c, h1, h2 with
  | .inr (c0, vs), h1, h2 =>
    obtain ⟨_, hlen, hv⟩ := h2
    rw [sx_wg_of h1]
    show ∃ z : Int32, vs[i]? = some (.int z) ∧ lo ≤ z.toInt ∧ z.toInt ≤ hi
    have hl : i < vs.length := by rw [hlen]; exact (List.getElem?_eq_some_iff.mp hf).1
    have h3 := hv i _ _ hf (List.getElem?_eq_getElem hl)
    rw [List.getElem?_eq_getElem hl]
    match vs[i], h3 with
    | .int z, h3 => exact ⟨z, rfl, h3⟩
/-- what is said of a call that can't be done -/
noncomputable def sy_15 (c : Int) : Bool := ng_chk [(93, 0, 5)] [] [] 9 15 pm_15 0 [] [] [(0, .inr (.inr 5)), (1, fx_k c)] [] [] [(sh_x (-1000000 - c), [], [], [])] [] 600
noncomputable def sy_62 (c : Int) : Bool := ng_chk [(97, 0, 5)] [] [] 9 162 pm_162 0 [] [] [(0, .inr (.inr 94)), (1, fx_k c)] [] [] [(sh_x c, [], [], [])] [] 600
theorem sy_15_1 : sy_15 1 = true := by decide +kernel
theorem sy_15_4 : sy_15 4 = true := by decide +kernel
theorem sy_62_1 : sy_62 (-1000001) = true := by decide +kernel
theorem sy_62_4 : sy_62 (-1000004) = true := by decide +kernel
theorem sy_c {w : pq_W} {y : Int32} {c : Int} (ck : sy_15 c = true) (hy : y.toInt = c) (ht : sx_Ty sx_T0 w) : ∃ (x : Int32) (w1 : pq_W), pq_Ru 10 15 [.ref 5, .int y] w (some (.int x), w1) ∧ x.toInt = -1000000 - c ∧ sx_Ty sx_T0 w1 ∧ sx_Fr [(93, 0, 5)] w w1 := by
  obtain ⟨⟨r, w1⟩, g, t, f, z, hz, e⟩ := vo_one (ls := lv_args 0 [.ref 5, .int y]) (fx_p []) ck (M := pm_15) rfl trivial trivial ⟨rfl, ng_ik ⟨y, rfl, rfl⟩ hy, trivial⟩ trivial ht
  cases List.mem_singleton.mp hz
  obtain ⟨u, u1, u2⟩ := sh_ans e.1
  have u1 : r = some (.int u) := u1
  subst u1
  exact ⟨u, w1, ru_of (k := 9) (M := pm_15) rfl (by rw [Bool.and_eq_true]; exact ⟨rfl, sq_rcv ht rfl rfl rfl⟩) g, u2, t, f⟩
theorem sy_m {w : pq_W} {y : Int32} {c : Int} (ck : sy_62 c = true) (hy : y.toInt = c) (ht : sx_Ty sx_T0 w) : ∃ (x : Int32) (w1 : pq_W), pq_Ru 10 162 [.ref 94, .int y] w (some (.int x), w1) ∧ x.toInt = c ∧ sx_Ty sx_T0 w1 ∧ sx_Fr [(97, 0, 5)] w w1 := by
  obtain ⟨⟨r, w1⟩, g, t, f, z, hz, e⟩ := vo_one (ls := lv_args 0 [.ref 94, .int y]) (fx_p []) ck (M := pm_162) rfl trivial trivial ⟨rfl, ng_ik ⟨y, rfl, rfl⟩ hy, trivial⟩ trivial ht
  cases List.mem_singleton.mp hz
  obtain ⟨u, u1, u2⟩ := sh_ans e.1
  have u1 : r = some (.int u) := u1
  subst u1
  exact ⟨u, w1, ru_of (k := 9) (M := pm_162) rfl (by rw [Bool.and_eq_true]; exact ⟨rfl, sq_rcv ht rfl rfl rfl⟩) g, u2, t, f⟩
theorem cw_f (w : pq_W) {x lo hi : Int32} {l h : Int} (hl : lo.toInt = l) (hh : hi.toInt = h) (hp : ¬ (l ≤ x.toInt ∧ x.toInt ≤ h)) : pq_Ru 1 16 [.int x, .int lo, .int hi] w (some (.int 0), w) := by
  refine ru_of (k := 0) (M := pm_16) rfl rfl (go_seg 2 (pc' := 2) (ls' := [(0, .int x), (1, .int lo), (2, .int hi)]) (st' := [.int lo, .int x]) (w' := w) (cs' := 0) (ss' := 0) ?_ (fun _ _ => rfl))
  by_cases c : x.toInt < l
  · exact go_cmp true rfl (br_lt_t hl c) (go_end 2 (fun _ _ => rfl))
  · refine go_cmp false rfl (br_lt_f hl c) ?_
    refine go_seg 2 (pc' := 7) (ls' := [(0, .int x), (1, .int lo), (2, .int hi)]) (st' := [.int hi, .int x]) (w' := w) (cs' := 0) (ss' := 0) ?_ (fun _ _ => rfl)
    exact go_cmp true rfl (br_gt_t hh (by omega)) (go_end 2 (fun _ _ => rfl))
noncomputable def fd_in (y : Int32) : Prop := 1 ≤ y.toInt ∧ y.toInt ≤ 8
theorem fd_c {x : Int64} {y : Int32} {s : Nat} {w : pq_W} (ht : sx_Ty sx_T0 w) (h1 : sx_wg w 23 1 = some (.int (nI s))) (s60 : s ≤ 60) : ∃ (z : Int32) (w1 : pq_W), pq_Ru 13 63 [.ref 5, .long x, .int y] w (some (.int z), w1) ∧ ((¬ fd_in y ∧ z.toInt = -1000001 ∧ sx_Ty sx_T0 w1 ∧ sx_Fr [(93, 0, 5)] w w1) ∨ (fd_in y ∧ 60 < s + y.toInt ∧ z.toInt = -1000004 ∧ sx_Ty sx_T0 w1 ∧ sx_Fr [(93, 0, 5)] w w1) ∨ (fd_in y ∧ s + y.toInt ≤ 60 ∧ z.toInt = s + y.toInt ∧ fe_C x 0 s y.toInt.toNat w w1)) := by
  have key : ∃ res, pq_Go 12 pm_63 0 (lv_args 0 [.ref 5, .long x, .int y]) [] w 0 0 res ∧ ∃ z : Int32, res.1 = some (.int z) ∧ ((¬ fd_in y ∧ z.toInt = -1000001 ∧ sx_Ty sx_T0 res.2 ∧ sx_Fr [(93, 0, 5)] w res.2) ∨ (fd_in y ∧ 60 < s + y.toInt ∧ z.toInt = -1000004 ∧ sx_Ty sx_T0 res.2 ∧ sx_Fr [(93, 0, 5)] w res.2) ∨ (fd_in y ∧ s + y.toInt ≤ 60 ∧ z.toInt = s + y.toInt ∧ fe_C x 0 s y.toInt.toNat w res.2)) := by
    by_cases c : 1 ≤ y.toInt ∧ y.toInt ≤ 8
    · obtain ⟨n, en⟩ : ∃ n : Nat, y.toInt = (n : Int) := ⟨y.toInt.toNat, by omega⟩
      have ey : y = nI n := Int32.toInt_inj.mp (by rw [nI_toInt (by omega), en])
      have add : (nI s + y).toInt = s + y.toInt := by
        rw [Int32.toInt_add, nI_toInt (by omega)]
        exact Int.bmod_eq_of_le (by omega) (by omega)
      by_cases d : 60 < (s : Int) + y.toInt
      · obtain ⟨z, w1, r1, z1, t1, f1⟩ := sy_c (y := 4) sy_15_4 rfl ht
        refine xs_seg 3 (pc' := 4) (ls' := [(0, .ref 5), (1, .long x), (3, .int y)]) (st' := [.int 8, .int 1, .int y]) (w' := w) (cs' := 0) (ss' := 0) ?_ (fun _ _ => rfl)
        refine xs_cl (as := [.int y, .int 1, .int 8]) (rv := some (.int 1)) (st' := [.int 1]) (cs' := 0) (ss' := 0) (k1 := 1) rfl rfl rfl rfl rfl rfl rfl (cw_t w (l := 1) (h := 8) rfl rfl c) ?_
        refine xs_if true rfl rfl ?_
        refine xs_seg 1 (pc' := 17) (ls' := [(0, .ref 5), (1, .long x), (3, .int y)]) (st' := [.ref 5]) (w' := w) (cs' := 0) (ss' := 0) ?_ (fun _ _ => rfl)
        refine xs_gf (z := .ref 23) rfl ht rfl rfl (wg_ref ht rfl rfl) ?_
        refine xs_gf (z := .int (nI s)) rfl ht rfl rfl h1 ?_
        refine xs_seg 3 (pc' := 27) (ls' := [(0, .ref 5), (1, .long x), (3, .int y)]) (st' := [.int 60, .int ((nI s) + y)]) (w' := w) (cs' := 0) (ss' := 0) ?_ (fun _ _ => rfl)
        refine xs_cmp false rfl (br_le_f (b := 60) rfl (by rw [add]; omega)) ?_
        refine xs_seg 2 (pc' := 32) (ls' := [(0, .ref 5), (1, .long x), (3, .int y)]) (st' := [.int 4, .ref 5]) (w' := w) (cs' := 0) (ss' := 0) ?_ (fun _ _ => rfl)
        refine xs_cl (as := [.ref 5, .int 4]) (rv := some (.int z)) (st' := [.int z]) (cs' := 0) (ss' := 0) (k1 := 10) rfl rfl rfl rfl rfl rfl rfl r1 ?_
        exact ⟨_, go_end 1 (fun _ _ => rfl), z, rfl, Or.inr (Or.inl ⟨c, d, z1, t1, f1⟩)⟩
      · obtain ⟨⟨r2, w2⟩, g2, e2, h2⟩ := fe_lc (x := x) (N := n) (K := 0) (by omega) n 0 s w (by omega) (by omega) ht h1
        have e2 : r2 = some (.int (nI (s + n))) := e2
        subst e2
        have r2 : pq_Ru 1 64 [.ref 23, .long x, .int y] w (some (.int (nI (s + n))), w2) := by
          subst ey
          refine ru_of (k := 0) (M := pm_64) rfl (by rw [Bool.and_eq_true]; exact ⟨rfl, sq_rcv ht rfl rfl rfl⟩) ?_
          exact go_seg 2 (pc' := 3) (ls' := [(4, .int 0), (0, .ref 23), (1, .long x), (3, .int (nI n))]) (st' := []) (w' := w) (cs' := 0) (ss' := 0) g2 (fun _ _ => rfl)
        refine xs_seg 3 (pc' := 4) (ls' := [(0, .ref 5), (1, .long x), (3, .int y)]) (st' := [.int 8, .int 1, .int y]) (w' := w) (cs' := 0) (ss' := 0) ?_ (fun _ _ => rfl)
        refine xs_cl (as := [.int y, .int 1, .int 8]) (rv := some (.int 1)) (st' := [.int 1]) (cs' := 0) (ss' := 0) (k1 := 1) rfl rfl rfl rfl rfl rfl rfl (cw_t w (l := 1) (h := 8) rfl rfl c) ?_
        refine xs_if true rfl rfl ?_
        refine xs_seg 1 (pc' := 17) (ls' := [(0, .ref 5), (1, .long x), (3, .int y)]) (st' := [.ref 5]) (w' := w) (cs' := 0) (ss' := 0) ?_ (fun _ _ => rfl)
        refine xs_gf (z := .ref 23) rfl ht rfl rfl (wg_ref ht rfl rfl) ?_
        refine xs_gf (z := .int (nI s)) rfl ht rfl rfl h1 ?_
        refine xs_seg 3 (pc' := 27) (ls' := [(0, .ref 5), (1, .long x), (3, .int y)]) (st' := [.int 60, .int ((nI s) + y)]) (w' := w) (cs' := 0) (ss' := 0) ?_ (fun _ _ => rfl)
        refine xs_cmp true rfl (br_le_t (b := 60) rfl (by rw [add]; omega)) ?_
        refine xs_seg 1 (pc' := 37) (ls' := [(0, .ref 5), (1, .long x), (3, .int y)]) (st' := [.ref 5]) (w' := w) (cs' := 0) (ss' := 0) ?_ (fun _ _ => rfl)
        refine xs_gf (z := .ref 23) rfl ht rfl rfl (wg_ref ht rfl rfl) ?_
        refine xs_seg 2 (pc' := 42) (ls' := [(0, .ref 5), (1, .long x), (3, .int y)]) (st' := [.int y, .long x, .ref 23]) (w' := w) (cs' := 0) (ss' := 0) ?_ (fun _ _ => rfl)
        refine xs_cl (as := [.ref 23, .long x, .int y]) (rv := some (.int (nI (s + n)))) (st' := [.int (nI (s + n))]) (cs' := 0) (ss' := 0) (k1 := 1) rfl rfl rfl rfl rfl rfl rfl r2 ?_
        exact ⟨_, go_end 1 (fun _ _ => rfl), nI (s + n), rfl, Or.inr (Or.inr ⟨c, by omega, by rw [nI_toInt (by omega), en]; omega, by rw [en, Int.toNat_natCast]; exact h2⟩)⟩
    · obtain ⟨z, w1, r1, z1, t1, f1⟩ := sy_c (y := 1) sy_15_1 rfl ht
      refine xs_seg 3 (pc' := 4) (ls' := [(0, .ref 5), (1, .long x), (3, .int y)]) (st' := [.int 8, .int 1, .int y]) (w' := w) (cs' := 0) (ss' := 0) ?_ (fun _ _ => rfl)
      refine xs_cl (as := [.int y, .int 1, .int 8]) (rv := some (.int 0)) (st' := [.int 0]) (cs' := 0) (ss' := 0) (k1 := 1) rfl rfl rfl rfl rfl rfl rfl (cw_f w (l := 1) (h := 8) rfl rfl c) ?_
      refine xs_if false rfl rfl ?_
      refine xs_seg 2 (pc' := 12) (ls' := [(0, .ref 5), (1, .long x), (3, .int y)]) (st' := [.int 1, .ref 5]) (w' := w) (cs' := 0) (ss' := 0) ?_ (fun _ _ => rfl)
      refine xs_cl (as := [.ref 5, .int 1]) (rv := some (.int z)) (st' := [.int z]) (cs' := 0) (ss' := 0) (k1 := 10) rfl rfl rfl rfl rfl rfl rfl r1 ?_
      exact ⟨_, go_end 1 (fun _ _ => rfl), z, rfl, Or.inl ⟨c, z1, t1, f1⟩⟩
  obtain ⟨⟨r, w1⟩, g, x, e, h1⟩ := key
  have e : r = some (.int x) := e
  subst e
  exact ⟨x, w1, ru_of (k := 12) (M := pm_63) rfl (by rw [Bool.and_eq_true]; exact ⟨rfl, sq_rcv ht rfl rfl rfl⟩) g, h1⟩
theorem fd_m {x : Int64} {y : Int32} {s : Nat} {w : pq_W} (ht : sx_Ty sx_T0 w) (h1 : sy_r w 95 7 = (s : Int)) (s60 : s ≤ 60) : ∃ (z : Int32) (w1 : pq_W), pq_Ru 13 195 [.ref 94, .long x, .int y] w (some (.int z), w1) ∧ ((¬ fd_in y ∧ z.toInt = -1000001 ∧ sx_Ty sx_T0 w1 ∧ sx_Fr [(97, 0, 5)] w w1) ∨ (fd_in y ∧ 60 < s + y.toInt ∧ z.toInt = -1000004 ∧ sx_Ty sx_T0 w1 ∧ sx_Fr [(97, 0, 5)] w w1) ∨ (fd_in y ∧ s + y.toInt ≤ 60 ∧ z.toInt = s + y.toInt ∧ fe_R x 0 s y.toInt.toNat w w1)) := by
  have key : ∃ res, pq_Go 12 pm_195 0 (lv_args 0 [.ref 94, .long x, .int y]) [] w 0 0 res ∧ ∃ z : Int32, res.1 = some (.int z) ∧ ((¬ fd_in y ∧ z.toInt = -1000001 ∧ sx_Ty sx_T0 res.2 ∧ sx_Fr [(97, 0, 5)] w res.2) ∨ (fd_in y ∧ 60 < s + y.toInt ∧ z.toInt = -1000004 ∧ sx_Ty sx_T0 res.2 ∧ sx_Fr [(97, 0, 5)] w res.2) ∨ (fd_in y ∧ s + y.toInt ≤ 60 ∧ z.toInt = s + y.toInt ∧ fe_R x 0 s y.toInt.toNat w res.2)) := by
    by_cases c : 1 ≤ y.toInt ∧ y.toInt ≤ 8
    · obtain ⟨n, en⟩ : ∃ n : Nat, y.toInt = (n : Int) := ⟨y.toInt.toNat, by omega⟩
      have ey : y = nI n := Int32.toInt_inj.mp (by rw [nI_toInt (by omega), en])
      have add : (nI s + y).toInt = s + y.toInt := by
        rw [Int32.toInt_add, nI_toInt (by omega)]
        exact Int.bmod_eq_of_le (by omega) (by omega)
      by_cases d : 60 < (s : Int) + y.toInt
      · obtain ⟨z, w1, r1, z1, t1, f1⟩ := sy_m (y := -1000004) sy_62_4 rfl ht
        refine xs_seg 4 (pc' := 6) (ls' := [(0, .ref 94), (1, .long x), (3, .int y)]) (st' := [.long 8, .long 1, .long (y).toInt64]) (w' := w) (cs' := 0) (ss' := 0) ?_ (fun _ _ => rfl)
        refine xs_cl (as := [.long (y).toInt64, .long 1, .long 8]) (rv := some (.int 1)) (st' := [.int 1]) (cs' := 0) (ss' := 0) (k1 := 1) rfl rfl rfl rfl rfl rfl rfl (wi_t w y 1 8 1 8 rfl rfl c) ?_
        refine xs_if true rfl rfl ?_
        refine xs_seg 1 (pc' := 20) (ls' := [(0, .ref 94), (1, .long x), (3, .int y)]) (st' := [.ref 94]) (w' := w) (cs' := 0) (ss' := 0) ?_ (fun _ _ => rfl)
        refine xs_gf (z := .ref 95) rfl ht rfl rfl (rq_ge ht) ?_
        refine xs_seg 1 (pc' := 25) (ls' := [(0, .ref 94), (1, .long x), (3, .int y)]) (st' := [.int 7, .ref 95]) (w' := w) (cs' := 0) (ss' := 0) ?_ (fun _ _ => rfl)
        refine xs_gl (q := 7) (y := (nI s)) rfl ht rfl (by decide) (by decide) rfl (by rw [nI_toInt (by omega)]; exact h1) ?_
        refine xs_seg 3 (pc' := 30) (ls' := [(0, .ref 94), (1, .long x), (3, .int y)]) (st' := [.int 60, .int ((nI s) + y)]) (w' := w) (cs' := 0) (ss' := 0) ?_ (fun _ _ => rfl)
        refine xs_cmp false rfl (br_le_f (b := 60) rfl (by rw [add]; omega)) ?_
        refine xs_seg 2 (pc' := 36) (ls' := [(0, .ref 94), (1, .long x), (3, .int y)]) (st' := [.int (-1000004), .ref 94]) (w' := w) (cs' := 0) (ss' := 0) ?_ (fun _ _ => rfl)
        refine xs_cl (as := [.ref 94, .int (-1000004)]) (rv := some (.int z)) (st' := [.int z]) (cs' := 0) (ss' := 0) (k1 := 10) rfl rfl rfl rfl rfl rfl rfl r1 ?_
        exact ⟨_, go_end 1 (fun _ _ => rfl), z, rfl, Or.inr (Or.inl ⟨c, d, z1, t1, f1⟩)⟩
      · obtain ⟨⟨r2, w2⟩, g2, e2, h2⟩ := fe_lr (x := x) (N := n) (K := 12) (by omega) n 0 s w (by omega) (by omega) ht h1
        have e2 : r2 = some (.int (nI (s + n))) := e2
        subst e2
        refine xs_seg 4 (pc' := 6) (ls' := [(0, .ref 94), (1, .long x), (3, .int y)]) (st' := [.long 8, .long 1, .long (y).toInt64]) (w' := w) (cs' := 0) (ss' := 0) ?_ (fun _ _ => rfl)
        refine xs_cl (as := [.long (y).toInt64, .long 1, .long 8]) (rv := some (.int 1)) (st' := [.int 1]) (cs' := 0) (ss' := 0) (k1 := 1) rfl rfl rfl rfl rfl rfl rfl (wi_t w y 1 8 1 8 rfl rfl c) ?_
        refine xs_if true rfl rfl ?_
        refine xs_seg 1 (pc' := 20) (ls' := [(0, .ref 94), (1, .long x), (3, .int y)]) (st' := [.ref 94]) (w' := w) (cs' := 0) (ss' := 0) ?_ (fun _ _ => rfl)
        refine xs_gf (z := .ref 95) rfl ht rfl rfl (rq_ge ht) ?_
        refine xs_seg 1 (pc' := 25) (ls' := [(0, .ref 94), (1, .long x), (3, .int y)]) (st' := [.int 7, .ref 95]) (w' := w) (cs' := 0) (ss' := 0) ?_ (fun _ _ => rfl)
        refine xs_gl (q := 7) (y := (nI s)) rfl ht rfl (by decide) (by decide) rfl (by rw [nI_toInt (by omega)]; exact h1) ?_
        refine xs_seg 3 (pc' := 30) (ls' := [(0, .ref 94), (1, .long x), (3, .int y)]) (st' := [.int 60, .int ((nI s) + y)]) (w' := w) (cs' := 0) (ss' := 0) ?_ (fun _ _ => rfl)
        refine xs_cmp true rfl (br_le_t (b := 60) rfl (by rw [add]; omega)) ?_
        refine xs_seg 2 (pc' := 43) (ls' := [(4, .int 0), (0, .ref 94), (1, .long x), (3, .int y)]) (st' := []) (w' := w) (cs' := 0) (ss' := 0) ?_ (fun _ _ => rfl)
        subst ey
        exact ⟨_, g2, nI (s + n), rfl, Or.inr (Or.inr ⟨c, by omega, by rw [nI_toInt (by omega), en]; omega, by rw [en, Int.toNat_natCast]; exact h2⟩)⟩
    · obtain ⟨z, w1, r1, z1, t1, f1⟩ := sy_m (y := -1000001) sy_62_1 rfl ht
      refine xs_seg 4 (pc' := 6) (ls' := [(0, .ref 94), (1, .long x), (3, .int y)]) (st' := [.long 8, .long 1, .long (y).toInt64]) (w' := w) (cs' := 0) (ss' := 0) ?_ (fun _ _ => rfl)
      refine xs_cl (as := [.long (y).toInt64, .long 1, .long 8]) (rv := some (.int 0)) (st' := [.int 0]) (cs' := 0) (ss' := 0) (k1 := 1) rfl rfl rfl rfl rfl rfl rfl (wi_f w y 1 8 1 8 rfl rfl c) ?_
      refine xs_if false rfl rfl ?_
      refine xs_seg 2 (pc' := 15) (ls' := [(0, .ref 94), (1, .long x), (3, .int y)]) (st' := [.int (-1000001), .ref 94]) (w' := w) (cs' := 0) (ss' := 0) ?_ (fun _ _ => rfl)
      refine xs_cl (as := [.ref 94, .int (-1000001)]) (rv := some (.int z)) (st' := [.int z]) (cs' := 0) (ss' := 0) (k1 := 10) rfl rfl rfl rfl rfl rfl rfl r1 ?_
      exact ⟨_, go_end 1 (fun _ _ => rfl), z, rfl, Or.inl ⟨c, z1, t1, f1⟩⟩
  obtain ⟨⟨r, w1⟩, g, x, e, h1⟩ := key
  have e : r = some (.int x) := e
  subst e
  exact ⟨x, w1, ru_of (k := 12) (M := pm_195) rfl (by rw [Bool.and_eq_true]; exact ⟨rfl, sq_rcv ht rfl rfl rfl⟩) g, h1⟩
