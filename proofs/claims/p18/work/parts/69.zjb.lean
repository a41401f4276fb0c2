/-! row rules, with what is wanted of the result -/
section XSR
variable {k k1 : Nat} {M : pq_M} {pc pc' cs ss cs' ss' pc0 nx t r : Nat} {ls ls' : pq_L} {st st' : List Value} {w w' : pq_W} {i : Instr} {a : List Nat} {v z : Value} {Q : pq_R → Prop}
theorem xs_seg (n : Nat) (g : ∃ res, pq_Go k M pc' ls' st' w' cs' ss' res ∧ Q res) (h : ∀ (call : Nat → List Value → pq_W → Option pq_R) (f : Nat), pq_exec call (pq_lim pq_tab) (pq_lm M) (pq_rt M) (pq_cd M) (f + n) pc ls st w cs ss = pq_exec call (pq_lim pq_tab) (pq_lm M) (pq_rt M) (pq_cd M) f pc' ls' st' w' cs' ss') : ∃ res, pq_Go k M pc ls st w cs ss res ∧ Q res := by
  obtain ⟨res, g, q⟩ := g
  exact ⟨res, go_seg n g h, q⟩
theorem xs_cl {j n : Nat} {as : List Value} {w1 : pq_W} {rv : Option Value} (hq : pq_look (pq_cd M) pc = some (pc0, 28, nx, i, [j, n], v, t)) (hc : (Nat.ble n st.length && Nat.ble (pq_sum (st.drop n)) 8 && Nat.ble (cs + (pq_lim pq_tab j).1) (pq_lm M).1 && Nat.ble (ss + (pq_lim pq_tab j).2) (pq_lm M).2) = true) (has : (st.take n).reverse = as) (h1 : rv.toList ++ st.drop n = st') (h2 : cs + (pq_lim pq_tab j).1 = cs') (h3 : ss + (pq_lim pq_tab j).2 = ss') (hk : Nat.ble k1 k = true) (hr : pq_Ru k1 j as w (rv, w1)) (g : ∃ res, pq_Go k M nx ls st' w1 cs' ss' res ∧ Q res) : ∃ res, pq_Go k M pc ls st w cs ss res ∧ Q res := by
  obtain ⟨res, g, q⟩ := g
  exact ⟨res, go_cl hq hc has h1 h2 h3 hk hr g, q⟩
theorem xs_if {tgt : Nat} {c : Jvm.ClassFile.Cond} {off : Int} {x : Int32} (b : Bool) (hq : pq_look (pq_cd M) pc = some (pc0, 12, nx, .ifCond c off, tgt :: a, v, t)) (hb : pq_br c x 0 = b) (g : ∃ res, pq_Go k M (bif b then tgt else nx) ls st w cs ss res ∧ Q res) : ∃ res, pq_Go k M pc ls (.int x :: st) w cs ss res ∧ Q res := by
  obtain ⟨res, g, q⟩ := g
  exact ⟨res, go_if b hq hb g, q⟩
theorem xs_cmp {tgt : Nat} {c : Jvm.ClassFile.Cond} {off : Int} {x y : Int32} (b : Bool) (hq : pq_look (pq_cd M) pc = some (pc0, 13, nx, .if_icmp c off, tgt :: a, v, t)) (hb : pq_br c x y = b) (g : ∃ res, pq_Go k M (bif b then tgt else nx) ls st w cs ss res ∧ Q res) : ∃ res, pq_Go k M pc ls (.int y :: .int x :: st) w cs ss res ∧ Q res := by
  obtain ⟨res, g, q⟩ := g
  exact ⟨res, go_cmp b hq hb g, q⟩
theorem xs_sw {tgt : Nat} {x : Int32} (hq : pq_look (pq_cd M) pc = some (pc0, 15, nx, i, a, v, t)) (hs : pq_sw i a x = some tgt) (g : ∃ res, pq_Go k M tgt ls st w cs ss res ∧ Q res) : ∃ res, pq_Go k M pc ls (.int x :: st) w cs ss res ∧ Q res := by
  obtain ⟨res, g, q⟩ := g
  exact ⟨res, go_sw hq hs g, q⟩
theorem xs_gf {ci : Nat} {fs : List sx_ft} (hq : pq_look (pq_cd M) pc = some (pc0, 19, nx, i, a, v, t)) (ht : sx_Ty sx_T0 w) (hT : sx_T0[r]? = some (.inl (ci, fs))) (hc : Nat.beq ci (a.headD 0) = true) (hz : sx_wg w r (a.getD 1 0) = some z) (g : ∃ res, pq_Go k M nx ls (z :: st) w cs ss res ∧ Q res) : ∃ res, pq_Go k M pc ls (.ref r :: st) w cs ss res ∧ Q res := by
  obtain ⟨res, g, q⟩ := g
  exact ⟨res, go_gf hq ht hT hc hz g, q⟩
theorem xs_pf {ci j : Nat} {fs : List sx_ft} {lo hi : Int} {y : Int32} (hq : pq_look (pq_cd M) pc = some (pc0, 20, nx, i, [ci, j, 0], v, t)) (ht : sx_Ty sx_T0 w) (hT : sx_T0[r]? = some (.inl (ci, fs))) (hj : fs[j]? = some (.inl (lo, hi))) (hE : Nat.ble pq_E r = true) (hl : Nat.blt j fs.length = true) (hy : lo ≤ y.toInt ∧ y.toInt ≤ hi) (g : ∀ w2, sx_Ty sx_T0 w2 → sx_Fr [(r, (j : Int), (j : Int))] w w2 → sx_wg w2 r j = some (.int y) → ∃ res, pq_Go k M nx ls st w2 cs ss res ∧ Q res) : ∃ res, pq_Go k M pc ls (.int y :: .ref r :: st) w cs ss res ∧ Q res := by
  obtain ⟨c, h1, h2⟩ := sx_Ty_get ht hT
  match c, h1, h2 with
  | .inr (c0, vs), h1, h2 =>
    obtain ⟨e, hlen, hv⟩ := h2
    subst e
    have hr : r < w.length := (List.getElem?_eq_some_iff.mp h1).1
    have hjl : j < vs.length := by rw [hlen]; exact Nat.le_of_ble_eq_true hl
    have hty : sx_Ty sx_T0 (w.set r (.inr (c0, vs.set j (.int y)))) := by
      refine sx_Ty_set ht hT ⟨rfl, by rw [List.length_set]; exact hlen, fun i2 t2 v2 a1 a2 => ?_⟩
      by_cases e : j = i2
      · subst e
        rw [hj] at a1
        cases a1
        rw [List.getElem?_set_self hjl] at a2
        cases a2
        exact hy
      · rw [List.getElem?_set_ne e] at a2
        exact hv i2 t2 v2 a1 a2
    have hfr : sx_Fr [(r, (j : Int), (j : Int))] w (w.set r (.inr (c0, vs.set j (.int y)))) := fun r2 i2 hn => by
      rw [sx_wg_set hr]
      by_cases e : r = r2
      · subst e
        rw [if_pos rfl, sx_wg_of h1]
        show (vs.set j (.int y))[i2]? = vs[i2]?
        exact List.getElem?_set_ne (fun e => hn ⟨_, List.mem_cons_self, rfl, by show (j : Int) ≤ i2; omega, by show (i2 : Int) ≤ j; omega⟩)
      · rw [if_neg e]
    have hwg : sx_wg (w.set r (.inr (c0, vs.set j (.int y)))) r j = some (.int y) := by
      rw [sx_wg_set hr, if_pos rfl]
      show (vs.set j (.int y))[j]? = _
      exact List.getElem?_set_self hjl
    obtain ⟨res, g, q⟩ := g _ hty hfr hwg
    refine ⟨res, go_put hq h1 ?_ g, q⟩
    show (Nat.beq c0 c0 && Nat.ble pq_E r && Nat.blt j vs.length && true) = true
    rw [Nat.beq_refl, hE, show Nat.blt j vs.length = true from Nat.ble_eq_true_of_le hjl]
    rfl
theorem xs_ald {x : Int32} {c0 : pq_C} (hq : pq_look (pq_cd M) pc = some (pc0, 21, nx, i, a, v, t)) (hr : w[r]? = some c0) (hz : pq_ald c0 x (a.headD 9) = some z) (g : ∃ res, pq_Go k M nx ls (z :: st) w cs ss res ∧ Q res) : ∃ res, pq_Go k M pc ls (.int x :: .ref r :: st) w cs ss res ∧ Q res := by
  obtain ⟨res, g, q⟩ := g
  exact ⟨res, go_ald hq hr hz g, q⟩
theorem xs_alen {n : Nat} {c0 : pq_C} (hq : pq_look (pq_cd M) pc = some (pc0, 23, nx, i, a, v, t)) (hr : w[r]? = some c0) (hz : pq_alen c0 = some n) (g : ∃ res, pq_Go k M nx ls (.int (nI n) :: st) w cs ss res ∧ Q res) : ∃ res, pq_Go k M pc ls (.ref r :: st) w cs ss res ∧ Q res := by
  obtain ⟨res, g, q⟩ := g
  exact ⟨res, go_alen hq hr hz g, q⟩
end XSR
theorem lsw_d : ∀ (ps : List (Int × Int)) (ts : List Nat) (d : Nat) (x : Int32), ps.length ≤ ts.length → (∀ q ∈ ps, x.toInt ≠ q.1) → pq_lsw ps ts d x = some d
  | [], _, _, _, _, _ => rfl
  | _ :: _, [], _, _, h, _ => absurd h (Nat.not_succ_le_zero _)
  | q :: r, t :: ts, d, x, h, hn => by
    show (if x.toInt = q.1 then some t else pq_lsw r ts d x) = some d
    rw [if_neg (hn q List.mem_cons_self)]
    exact lsw_d r ts d x (Nat.le_of_succ_le_succ h) (fun q hq => hn q (List.mem_cons_of_mem _ hq))
theorem sm_and {x : Int32} (h : -128 ≤ x.toInt ∧ x.toInt ≤ 127) : (x &&& 255).toInt = x.toInt % 256 := by
  have all : ∀ k : Nat, k < 256 → (Int32.ofInt ((k : Int) - 128) &&& 255).toInt = ((k : Int) - 128) % 256 := by decide +kernel
  have e := all (x.toInt + 128).toNat (by omega)
  rw [show (((x.toInt + 128).toNat : Nat) : Int) - 128 = x.toInt by omega, Int32.ofInt_toInt] at e
  exact e
/-! the class's reader of laws -/
noncomputable def rp_A : sx_A := [(74, 1, 1), (74, 4, 5), (75, 0, 59)]
noncomputable def rp_X (B : Nat → Int) (n : Nat) (w : pq_W) : Prop := sx_Ty sx_T0 w ∧ sx_wg w 74 2 = some (.ref 24) ∧ sx_wg w 74 3 = some (.int (nI n)) ∧ n ≤ 60 ∧ ∀ i, i < n → sy_r w 24 i % 256 = B i
noncomputable def rp_C (a : List Int) (w : pq_W) : Prop := sx_wg w 74 1 = some (.int (nI a.length)) ∧ ∀ t, t < a.length → sy_r w 75 t = a.getD t 0
noncomputable def rp_S (B : Nat → Int) (n q : Nat) (a : List Int) (w : pq_W) : Prop := rp_X B n w ∧ sx_wg w 74 4 = some (.int (nI q)) ∧ sx_wg w 74 5 = some (.int (-1)) ∧ rp_C a w
noncomputable def rp_F (B : Nat → Int) (n p : Nat) (w : pq_W) : Prop := rp_X B n w ∧ sx_wg w 74 5 = some (.int (nI p))
noncomputable def rp_Q (B : Nat → Int) (n : Nat) (ok : Bool) (q : Nat) (a : List Int) (w w1 : pq_W) : Prop := sx_Fr rp_A w w1 ∧ (if ok = true then rp_S B n q a w1 else rp_F B n q w1)
theorem rp_Xm {B : Nat → Int} {n : Nat} {w w1 : pq_W} (h : rp_X B n w) (ht : sx_Ty sx_T0 w1) (f : sx_Fr rp_A w w1) : rp_X B n w1 := by
  refine ⟨ht, ?_, ?_, h.2.2.2.1, fun i hi => ?_⟩
  · rw [f 74 2 (sy_nin (lo := 2) (hi := 3) rfl (by decide) (by decide))]
    exact h.2.1
  · rw [f 74 3 (sy_nin (lo := 2) (hi := 3) rfl (by decide) (by decide))]
    exact h.2.2.1
  · rw [fr_no f ⟨Or.inl (by decide), Or.inl (by decide), Or.inl (by decide), trivial⟩]
    exact h.2.2.2.2 i hi
theorem rp_Cm {a : List Int} {w w1 : pq_W} {A : sx_A} (h : rp_C a w) (f : sx_Fr A w w1) (h1 : sy_ninb A 74 1 1 = true) (h2 : sy_ninb A 75 0 59 = true) (hl : a.length ≤ 60) : rp_C a w1 := by
  refine ⟨?_, fun t ht => ?_⟩
  · rw [f 74 1 (sy_nin h1 (by decide) (by decide))]
    exact h.1
  · rw [sy_r_fr f (sy_nin h2 (by omega) (by omega))]
    exact h.2 t ht
theorem rp_fa {A : sx_A} {w w1 : pq_W} (h : sx_sub_A A rp_A = true) (f : sx_Fr A w w1) : sx_Fr rp_A w w1 := sx_Fr_sub h f
theorem rp_pl {B : Nat → Int} {n q : Nat} {a : List Int} {w w1 : pq_W} (h : rp_S B n q a w) (hl : a.length ≤ 60) (ht : sx_Ty sx_T0 w1) (f : sx_Fr [(74, ((4 : Nat) : Int), ((4 : Nat) : Int))] w w1) (e : sx_wg w1 74 4 = some (.int (nI q + 1))) : rp_S B n (q + 1) a w1 ∧ sx_Fr rp_A w w1 := by
  have fa : sx_Fr rp_A w w1 := rp_fa (by decide +kernel) f
  exact ⟨⟨rp_Xm h.1 ht fa, by rw [nI_succ]; exact e, by rw [f 74 5 (sy_nin (lo := 5) (hi := 5) rfl (by decide) (by decide))]; exact h.2.2.1, rp_Cm h.2.2.2 f rfl rfl hl⟩, fa⟩
theorem pa_b {n j : Nat} {f : Nat → Int32} (h : j < n) (hn : n < 2 ^ 31) : pq_ald (.inl (.byte, n, .inl f)) (nI j) 2 = some (.int (f j)) := by
  show (if (FieldType.byte = .byte ∨ FieldType.byte = .boolean) ∧ pq_in (nI j) n = true then (some (Value.int (f (nI j).toNatClampNeg)) : Option Value) else none) = _
  rw [if_pos ⟨Or.inl rfl, decide_eq_true (vp_in_nI h hn)⟩, nI_clamp (by omega)]
theorem rp_sg {B : Nat → Int} {n q : Nat} {w : pq_W} (hX : rp_X B n w) (hq : sx_wg w 74 4 = some (.int (nI q))) (hqn : q ≤ n) : ∃ y : Int32, pq_Ru 2 71 [.ref 74] w (some (.int y), w) ∧ y.toInt = rd_s B n q := by
  have hn := hX.2.2.2.1
  have key : ∃ res, pq_Go 1 pm_71 0 (lv_args 0 [.ref 74]) [] w 0 0 res ∧ ∃ y : Int32, res = (some (.int y), w) ∧ y.toInt = rd_s B n q := by
    refine xs_seg 1 (pc' := 1) (ls' := [(0, .ref 74)]) (st' := [.ref 74]) (w' := w) (cs' := 0) (ss' := 0) ?_ (fun _ _ => rfl)
    refine xs_gf (z := .int (nI q)) rfl hX.1 rfl rfl hq ?_
    refine xs_if false rfl (br_lt_f (b := 0) rfl (by rw [nI_toInt (by omega)]; omega)) ?_
    refine xs_seg 1 (pc' := 8) (ls' := [(0, .ref 74)]) (st' := [.ref 74]) (w' := w) (cs' := 0) (ss' := 0) ?_ (fun _ _ => rfl)
    refine xs_gf (z := .int (nI q)) rfl hX.1 rfl rfl hq ?_
    refine xs_seg 1 (pc' := 12) (ls' := [(0, .ref 74)]) (st' := [.ref 74, .int (nI q)]) (w' := w) (cs' := 0) (ss' := 0) ?_ (fun _ _ => rfl)
    refine xs_gf (z := .int (nI n)) rfl hX.1 rfl rfl hX.2.2.1 ?_
    by_cases c : q < n
    · obtain ⟨f, h24, hg, hwg⟩ := sy_arr (r := 24) hX.1 rfl
      have b := sy_rg (r := 24) hX.1 rfl (g := (0, 1, 60, 0, 0, -128, 127)) (by decide) (k := q) (j := 0) (by show q < 60; omega) (Nat.le_refl _) (Nat.le_refl _) (by show 0 + 1 * q + 0 < 60; omega)
      have b : -128 ≤ sy_r w 24 (0 + 1 * q + 0) ∧ sy_r w 24 (0 + 1 * q + 0) ≤ 127 := b
      rw [show 0 + 1 * q + 0 = q by omega, sy_r_of (hwg q (by omega))] at b
      have v := hX.2.2.2.2 q c
      rw [sy_r_of (hwg q (by omega))] at v
      refine xs_cmp false rfl (br_ge_f (b := n) (nI_toInt (by omega)) (by rw [nI_toInt (by omega)]; omega)) ?_
      refine xs_seg 1 (pc' := 19) (ls' := [(0, .ref 74)]) (st' := [.ref 74]) (w' := w) (cs' := 0) (ss' := 0) ?_ (fun _ _ => rfl)
      refine xs_gf (z := .int (nI q)) rfl hX.1 rfl rfl hq ?_
      refine xs_seg 1 (pc' := 23) (ls' := [(0, .ref 74)]) (st' := [.ref 74, .int (nI q)]) (w' := w) (cs' := 0) (ss' := 0) ?_ (fun _ _ => rfl)
      refine xs_gf (z := .ref 24) rfl hX.1 rfl rfl hX.2.1 ?_
      refine xs_alen (n := 60) rfl h24 rfl ?_
      refine xs_cmp false rfl (br_ge_f (b := 60) rfl (by rw [nI_toInt (by omega)]; omega)) ?_
      refine xs_seg 1 (pc' := 31) (ls' := [(0, .ref 74)]) (st' := [.ref 74]) (w' := w) (cs' := 0) (ss' := 0) ?_ (fun _ _ => rfl)
      refine xs_gf (z := .ref 24) rfl hX.1 rfl rfl hX.2.1 ?_
      refine xs_seg 1 (pc' := 35) (ls' := [(0, .ref 74)]) (st' := [.ref 74, .ref 24]) (w' := w) (cs' := 0) (ss' := 0) ?_ (fun _ _ => rfl)
      refine xs_gf (z := .int (nI q)) rfl hX.1 rfl rfl hq ?_
      refine xs_ald (z := .int (f q)) rfl h24 (pa_b (by omega) (by decide)) ?_
      exact ⟨_, go_end 4 (fun _ _ => rfl), f q &&& 255, rfl, by rw [sm_and b, v]; exact (if_pos c).symm⟩
    · refine xs_cmp true rfl (br_ge_t (b := n) (nI_toInt (by omega)) (by rw [nI_toInt (by omega)]; omega)) ?_
      exact ⟨_, go_end 2 (fun _ _ => rfl), -1, rfl, by exact (if_neg c).symm⟩
  obtain ⟨res, g, y, rfl, e⟩ := key
  exact ⟨y, ru_of (k := 1) (M := pm_71) rfl (by rw [Bool.and_eq_true]; exact ⟨rfl, sq_rcv hX.1 rfl rfl rfl⟩) g, e⟩
theorem rp_lv (c : Int32) (w : pq_W) : ∃ y : Int32, pq_Ru 1 78 [.int c] w (some (.int y), w) ∧ y.toInt = rd_lv c.toInt := by
  by_cases h38 : c.toInt = 38
  · have e : c = 38 := Int32.toInt_inj.mp h38
    subst e
    exact ⟨1, ru_of (k := 0) (M := pm_78) rfl rfl (go_seg 1 (pc' := 1) (ls' := [(0, .int 38)]) (st' := [.int 38]) (w' := w) (cs' := 0) (ss' := 0) (go_sw (tgt := 86) rfl (by decide +kernel) (go_end 2 (fun _ _ => rfl))) (fun _ _ => rfl)), by decide⟩
  by_cases h42 : c.toInt = 42
  · have e : c = 42 := Int32.toInt_inj.mp h42
    subst e
    exact ⟨4, ru_of (k := 0) (M := pm_78) rfl rfl (go_seg 1 (pc' := 1) (ls' := [(0, .int 42)]) (st' := [.int 42]) (w' := w) (cs' := 0) (ss' := 0) (go_sw (tgt := 92) rfl (by decide +kernel) (go_end 2 (fun _ _ => rfl))) (fun _ _ => rfl)), by decide⟩
  by_cases h43 : c.toInt = 43
  · have e : c = 43 := Int32.toInt_inj.mp h43
    subst e
    exact ⟨3, ru_of (k := 0) (M := pm_78) rfl rfl (go_seg 1 (pc' := 1) (ls' := [(0, .int 43)]) (st' := [.int 43]) (w' := w) (cs' := 0) (ss' := 0) (go_sw (tgt := 90) rfl (by decide +kernel) (go_end 2 (fun _ _ => rfl))) (fun _ _ => rfl)), by decide⟩
  by_cases h45 : c.toInt = 45
  · have e : c = 45 := Int32.toInt_inj.mp h45
    subst e
    exact ⟨3, ru_of (k := 0) (M := pm_78) rfl rfl (go_seg 1 (pc' := 1) (ls' := [(0, .int 45)]) (st' := [.int 45]) (w' := w) (cs' := 0) (ss' := 0) (go_sw (tgt := 90) rfl (by decide +kernel) (go_end 2 (fun _ _ => rfl))) (fun _ _ => rfl)), by decide⟩
  by_cases h47 : c.toInt = 47
  · have e : c = 47 := Int32.toInt_inj.mp h47
    subst e
    exact ⟨4, ru_of (k := 0) (M := pm_78) rfl rfl (go_seg 1 (pc' := 1) (ls' := [(0, .int 47)]) (st' := [.int 47]) (w' := w) (cs' := 0) (ss' := 0) (go_sw (tgt := 92) rfl (by decide +kernel) (go_end 2 (fun _ _ => rfl))) (fun _ _ => rfl)), by decide⟩
  by_cases h60 : c.toInt = 60
  · have e : c = 60 := Int32.toInt_inj.mp h60
    subst e
    exact ⟨2, ru_of (k := 0) (M := pm_78) rfl rfl (go_seg 1 (pc' := 1) (ls' := [(0, .int 60)]) (st' := [.int 60]) (w' := w) (cs' := 0) (ss' := 0) (go_sw (tgt := 88) rfl (by decide +kernel) (go_end 2 (fun _ _ => rfl))) (fun _ _ => rfl)), by decide⟩
  by_cases h61 : c.toInt = 61
  · have e : c = 61 := Int32.toInt_inj.mp h61
    subst e
    exact ⟨2, ru_of (k := 0) (M := pm_78) rfl rfl (go_seg 1 (pc' := 1) (ls' := [(0, .int 61)]) (st' := [.int 61]) (w' := w) (cs' := 0) (ss' := 0) (go_sw (tgt := 88) rfl (by decide +kernel) (go_end 2 (fun _ _ => rfl))) (fun _ _ => rfl)), by decide⟩
  by_cases h62 : c.toInt = 62
  · have e : c = 62 := Int32.toInt_inj.mp h62
    subst e
    exact ⟨2, ru_of (k := 0) (M := pm_78) rfl rfl (go_seg 1 (pc' := 1) (ls' := [(0, .int 62)]) (st' := [.int 62]) (w' := w) (cs' := 0) (ss' := 0) (go_sw (tgt := 88) rfl (by decide +kernel) (go_end 2 (fun _ _ => rfl))) (fun _ _ => rfl)), by decide⟩
  by_cases h124 : c.toInt = 124
  · have e : c = 124 := Int32.toInt_inj.mp h124
    subst e
    exact ⟨0, ru_of (k := 0) (M := pm_78) rfl rfl (go_seg 1 (pc' := 1) (ls' := [(0, .int 124)]) (st' := [.int 124]) (w' := w) (cs' := 0) (ss' := 0) (go_sw (tgt := 84) rfl (by decide +kernel) (go_end 2 (fun _ _ => rfl))) (fun _ _ => rfl)), by decide⟩
  refine ⟨-1, ru_of (k := 0) (M := pm_78) rfl rfl (go_seg 1 (pc' := 1) (ls' := [(0, .int c)]) (st' := [.int c]) (w' := w) (cs' := 0) (ss' := 0) (go_sw (tgt := 94) rfl (lsw_d _ _ _ _ (by decide) (fun q hq => ?_)) (go_end 2 (fun _ _ => rfl))) (fun _ _ => rfl)), ?_⟩
  · simp only [List.mem_cons, List.not_mem_nil, or_false] at hq
    rcases hq with rfl | rfl | rfl | rfl | rfl | rfl | rfl | rfl | rfl <;> assumption
  · unfold rd_lv
    rw [if_neg (by omega), if_neg (by omega), if_neg (by omega), if_neg (by omega), if_neg (by omega)]
    rfl
theorem rp_nm (c : Int32) (w : pq_W) : ∃ y : Int32, pq_Ru 1 72 [.int c] w (some (.int y), w) ∧ y.toInt = rd_nm c.toInt := by
  by_cases h97 : c.toInt = 97
  · have e : c = 97 := Int32.toInt_inj.mp h97
    subst e
    exact ⟨2, ru_of (k := 0) (M := pm_72) rfl rfl (go_seg 1 (pc' := 1) (ls' := [(0, .int 97)]) (st' := [.int 97]) (w' := w) (cs' := 0) (ss' := 0) (go_sw (tgt := 64) rfl (by decide +kernel) (go_end 2 (fun _ _ => rfl))) (fun _ _ => rfl)), by decide⟩
  by_cases h100 : c.toInt = 100
  · have e : c = 100 := Int32.toInt_inj.mp h100
    subst e
    exact ⟨4, ru_of (k := 0) (M := pm_72) rfl rfl (go_seg 1 (pc' := 1) (ls' := [(0, .int 100)]) (st' := [.int 100]) (w' := w) (cs' := 0) (ss' := 0) (go_sw (tgt := 68) rfl (by decide +kernel) (go_end 2 (fun _ _ => rfl))) (fun _ _ => rfl)), by decide⟩
  by_cases h107 : c.toInt = 107
  · have e : c = 107 := Int32.toInt_inj.mp h107
    subst e
    exact ⟨1, ru_of (k := 0) (M := pm_72) rfl rfl (go_seg 1 (pc' := 1) (ls' := [(0, .int 107)]) (st' := [.int 107]) (w' := w) (cs' := 0) (ss' := 0) (go_sw (tgt := 62) rfl (by decide +kernel) (go_end 2 (fun _ _ => rfl))) (fun _ _ => rfl)), by decide⟩
  by_cases h108 : c.toInt = 108
  · have e : c = 108 := Int32.toInt_inj.mp h108
    subst e
    exact ⟨5, ru_of (k := 0) (M := pm_72) rfl rfl (go_seg 1 (pc' := 1) (ls' := [(0, .int 108)]) (st' := [.int 108]) (w' := w) (cs' := 0) (ss' := 0) (go_sw (tgt := 70) rfl (by decide +kernel) (go_end 2 (fun _ _ => rfl))) (fun _ _ => rfl)), by decide⟩
  by_cases h109 : c.toInt = 109
  · have e : c = 109 := Int32.toInt_inj.mp h109
    subst e
    exact ⟨3, ru_of (k := 0) (M := pm_72) rfl rfl (go_seg 1 (pc' := 1) (ls' := [(0, .int 109)]) (st' := [.int 109]) (w' := w) (cs' := 0) (ss' := 0) (go_sw (tgt := 66) rfl (by decide +kernel) (go_end 2 (fun _ _ => rfl))) (fun _ _ => rfl)), by decide⟩
  by_cases h119 : c.toInt = 119
  · have e : c = 119 := Int32.toInt_inj.mp h119
    subst e
    exact ⟨0, ru_of (k := 0) (M := pm_72) rfl rfl (go_seg 1 (pc' := 1) (ls' := [(0, .int 119)]) (st' := [.int 119]) (w' := w) (cs' := 0) (ss' := 0) (go_sw (tgt := 60) rfl (by decide +kernel) (go_end 2 (fun _ _ => rfl))) (fun _ _ => rfl)), by decide⟩
  refine ⟨-1, ru_of (k := 0) (M := pm_72) rfl rfl (go_seg 1 (pc' := 1) (ls' := [(0, .int c)]) (st' := [.int c]) (w' := w) (cs' := 0) (ss' := 0) (go_sw (tgt := 72) rfl (lsw_d _ _ _ _ (by decide) (fun q hq => ?_)) (go_end 2 (fun _ _ => rfl))) (fun _ _ => rfl)), ?_⟩
  · simp only [List.mem_cons, List.not_mem_nil, or_false] at hq
    rcases hq with rfl | rfl | rfl | rfl | rfl | rfl <;> assumption
  · unfold rd_nm
    rw [if_neg (by omega), if_neg (by omega), if_neg (by omega), if_neg (by omega), if_neg (by omega), if_neg (by omega)]
    rfl
theorem rp_dg (c : Int32) (w : pq_W) : ∃ y : Int32, pq_Ru 1 73 [.int c] w (some (.int y), w) ∧ ((y = 1 ∧ 48 ≤ c.toInt ∧ c.toInt ≤ 57) ∨ (y = 0 ∧ ¬ (48 ≤ c.toInt ∧ c.toInt ≤ 57))) := by
  have key : ∃ res, pq_Go 0 pm_73 0 (lv_args 0 [.int c]) [] w 0 0 res ∧ ∃ y : Int32, res = (some (.int y), w) ∧ ((y = 1 ∧ 48 ≤ c.toInt ∧ c.toInt ≤ 57) ∨ (y = 0 ∧ ¬ (48 ≤ c.toInt ∧ c.toInt ≤ 57))) := by
    refine xs_seg 2 (pc' := 3) (ls' := [(0, .int c)]) (st' := [.int 48, .int c]) (w' := w) (cs' := 0) (ss' := 0) ?_ (fun _ _ => rfl)
    by_cases h1 : c.toInt < 48
    · refine xs_cmp true rfl (br_lt_t (b := 48) rfl h1) ?_
      exact ⟨_, go_end 2 (fun _ _ => rfl), 0, rfl, Or.inr ⟨rfl, by omega⟩⟩
    · refine xs_cmp false rfl (br_lt_f (b := 48) rfl h1) ?_
      refine xs_seg 2 (pc' := 9) (ls' := [(0, .int c)]) (st' := [.int 57, .int c]) (w' := w) (cs' := 0) (ss' := 0) ?_ (fun _ _ => rfl)
      by_cases h2 : 57 < c.toInt
      · refine xs_cmp true rfl (br_gt_t (b := 57) rfl h2) ?_
        exact ⟨_, go_end 2 (fun _ _ => rfl), 0, rfl, Or.inr ⟨rfl, by omega⟩⟩
      · refine xs_cmp false rfl (br_gt_f (b := 57) rfl h2) ?_
        exact ⟨_, go_end 3 (fun _ _ => rfl), 1, rfl, Or.inl ⟨rfl, by omega, by omega⟩⟩
  obtain ⟨res, g, y, rfl, e⟩ := key
  exact ⟨y, ru_of (k := 0) (M := pm_73) rfl rfl g, e⟩
noncomputable def rp_ke : Bool := (List.range 60).all fun l => ng_chk [(74, 1, 1), (75, (l : Int), (l : Int))] [] [] 5 75 pm_75 0 [sy_full] [] [(0, .inr (.inr 74)), (1, fx_i 0)] [] [sh_o 74 1 (fx_k l)] [(.inr (), [sh_o 74 1 (fx_k (l + 1)), sh_o 75 l (fx_i 0)], [], [])] [] 6000
theorem rp_ke_ok : rp_ke = true := by decide +kernel
theorem rp_kf_ok : ng_chk [(74, 1, 1), (75, 0, 59)] [] [] 5 75 pm_75 0 [sy_full] [] [(0, .inr (.inr 74)), (1, fx_i 0)] [] [] [(.inr (), [], [], [])] [] 6000 = true := by decide +kernel
theorem ri_gl : ∀ (l : List Int) (x : Int) (t : Nat), t < l.length → (l ++ [x]).getD t 0 = l.getD t 0
  | [], _, _, h => absurd h (Nat.not_lt_zero _)
  | _ :: _, _, 0, _ => rfl
  | _ :: l, x, t + 1, h => ri_gl l x t (Nat.lt_of_succ_lt_succ h)
theorem ri_ge : ∀ (l : List Int) (x : Int), (l ++ [x]).getD l.length 0 = x
  | [], _ => rfl
  | _ :: l, x => ri_ge l x
theorem rp_em {B : Nat → Int} {n q : Nat} {a : List Int} {x : Int32} {w : pq_W} (h : rp_S B n q a w) (hl : a.length < 60) : ∃ w1, pq_Ru 6 75 [.ref 74, .int x] w (none, w1) ∧ rp_S B n q (a ++ [x.toInt]) w1 ∧ sx_Fr rp_A w w1 := by
  have rx := sh_i32 x
  obtain ⟨⟨r, w1⟩, g, t, f, z, hz, e⟩ := vo_one (ls := lv_args 0 [.ref 74, .int x]) (fx_p [x.toInt]) (List.all_eq_true.mp rp_ke_ok a.length (List.mem_range.mpr hl)) (M := pm_75) rfl ⟨rx.1, rx.2, trivial⟩ trivial ⟨rfl, ng_iy ⟨x, rfl, rfl⟩ rfl, trivial⟩ (sh_eo (n := 1) (by rw [ng_ek, sy_r_of h.2.2.2.1, nI_toInt (by omega)]) rfl trivial) h.1.1
  cases List.mem_singleton.mp hz
  have y1 : r = none := e.1
  subst y1
  obtain ⟨o1, o⟩ := sh_oe (n := 1) e.2.1 rfl
  obtain ⟨o2, _⟩ := sh_oe (n := a.length) o rfl
  rw [ng_ek] at o1
  have o1 : sy_r w1 74 1 = ((a.length : Nat) : Int) + 1 := o1
  have o2 : sy_r w1 75 a.length = x.toInt := o2.trans (sx_y_ev _ _)
  have f : sx_Fr [(74, 1, 1), (75, ((a.length : Nat) : Int), ((a.length : Nat) : Int))] w w1 := f
  have t : sx_Ty sx_T0 w1 := t
  have fa : sx_Fr rp_A w w1 := fun r i hn => f r i (fun ⟨q, hq, e, l1, l2⟩ => hn (by
    cases List.mem_cons.mp hq with
    | inl hq => subst hq; exact ⟨_, List.mem_cons_self, e, l1, l2⟩
    | inr hq =>
      cases List.mem_singleton.mp hq
      have l1 : ((a.length : Nat) : Int) ≤ i := l1
      have l2 : (i : Int) ≤ ((a.length : Nat) : Int) := l2
      exact ⟨_, List.mem_cons_of_mem _ (List.mem_cons_of_mem _ List.mem_cons_self), e, by show (0 : Int) ≤ i; omega, by show (i : Int) ≤ 59; omega⟩))
  refine ⟨w1, ru_of (k := 5) (M := pm_75) rfl (by rw [Bool.and_eq_true]; exact ⟨rfl, sq_rcv h.1.1 rfl rfl rfl⟩) g, ⟨rp_Xm h.1 t fa, ?_, ?_, ?_, fun s hs => ?_⟩, fa⟩
  · rw [f 74 4 (sy_nin (lo := 4) (hi := 5) (by unfold sy_ninb; simp only [List.all_cons, List.all_nil, Bool.and_true]; rfl) (by decide) (by decide))]
    exact h.2.1
  · rw [f 74 5 (sy_nin (lo := 4) (hi := 5) (by unfold sy_ninb; simp only [List.all_cons, List.all_nil, Bool.and_true]; rfl) (by decide) (by decide))]
    exact h.2.2.1
  · refine vo_int t rfl rfl ?_
    rw [o1, List.length_append, nI_toInt (by show a.length + 1 < 2 ^ 31; omega)]
    rfl
  · rw [List.length_append] at hs
    have hs : s < a.length + 1 := hs
    by_cases c : s < a.length
    · rw [fr_no f ⟨Or.inl (by decide), Or.inr (by omega), trivial⟩, ri_gl a _ s c]
      exact h.2.2.2.2 s c
    · have e : s = a.length := by omega
      rw [e, o2, ri_ge]
theorem rp_ef {B : Nat → Int} {n p : Nat} {x : Int32} {w : pq_W} (h : rp_F B n p w) : ∃ w1, pq_Ru 6 75 [.ref 74, .int x] w (none, w1) ∧ rp_F B n p w1 ∧ sx_Fr rp_A w w1 := by
  have rx := sh_i32 x
  obtain ⟨⟨r, w1⟩, g, t, f, z, hz, e⟩ := vo_one (ls := lv_args 0 [.ref 74, .int x]) (fx_p [x.toInt]) rp_kf_ok (M := pm_75) rfl ⟨rx.1, rx.2, trivial⟩ trivial ⟨rfl, ng_iy ⟨x, rfl, rfl⟩ rfl, trivial⟩ trivial h.1.1
  cases List.mem_singleton.mp hz
  have y1 : r = none := e.1
  subst y1
  have f : sx_Fr [(74, 1, 1), (75, 0, 59)] w w1 := f
  have fa : sx_Fr rp_A w w1 := rp_fa (by decide +kernel) f
  exact ⟨w1, ru_of (k := 5) (M := pm_75) rfl (by rw [Bool.and_eq_true]; exact ⟨rfl, sq_rcv h.1.1 rfl rfl rfl⟩) g, ⟨rp_Xm h.1 t fa, by rw [f 74 5 (sy_nin (lo := 4) (hi := 5) rfl (by decide) (by decide))]; exact h.2⟩, fa⟩
theorem rp_nf {B : Nat → Int} {n q : Nat} {a : List Int} {w : pq_W} (h : rp_S B n q a w) : ∃ w1, pq_Ru 3 77 [.ref 74] w (none, w1) ∧ rp_F B n q w1 ∧ sx_Fr rp_A w w1 := by
  have key : ∃ res, pq_Go 2 pm_77 0 (lv_args 0 [.ref 74]) [] w 0 0 res ∧ (res.1 = none ∧ rp_F B n q res.2 ∧ sx_Fr rp_A w res.2) := by
    refine xs_seg 1 (pc' := 1) (ls' := [(0, .ref 74)]) (st' := [.ref 74]) (w' := w) (cs' := 0) (ss' := 0) ?_ (fun _ _ => rfl)
    refine xs_gf (z := .int (-1)) rfl h.1.1 rfl rfl h.2.2.1 ?_
    refine xs_if false rfl rfl ?_
    refine xs_seg 2 (pc' := 9) (ls' := [(0, .ref 74)]) (st' := [.ref 74, .ref 74]) (w' := w) (cs' := 0) (ss' := 0) ?_ (fun _ _ => rfl)
    refine xs_gf (z := .int (nI q)) rfl h.1.1 rfl rfl h.2.1 ?_
    refine xs_pf rfl h.1.1 rfl rfl rfl rfl (sh_i32 _) (fun w2 t2 f2 e2 => ?_)
    have fa : sx_Fr rp_A w w2 := rp_fa (by decide +kernel) f2
    exact ⟨_, go_end 1 (fun _ _ => rfl), rfl, ⟨rp_Xm h.1 t2 fa, e2⟩, fa⟩
  obtain ⟨⟨r, w1⟩, g, e, h1, h2⟩ := key
  have e : r = none := e
  subst e
  exact ⟨w1, ru_of (k := 2) (M := pm_77) rfl (by rw [Bool.and_eq_true]; exact ⟨rfl, sq_rcv h.1.1 rfl rfl rfl⟩) g, h1, h2⟩
theorem rp_ng {B : Nat → Int} {n p : Nat} {w : pq_W} (h : rp_F B n p w) (hp : p ≤ 60) : pq_Ru 3 77 [.ref 74] w (none, w) := by
  have key : ∃ res, pq_Go 2 pm_77 0 (lv_args 0 [.ref 74]) [] w 0 0 res ∧ res = (none, w) := by
    refine xs_seg 1 (pc' := 1) (ls' := [(0, .ref 74)]) (st' := [.ref 74]) (w' := w) (cs' := 0) (ss' := 0) ?_ (fun _ _ => rfl)
    refine xs_gf (z := .int (nI p)) rfl h.1.1 rfl rfl h.2 ?_
    refine xs_if true rfl (br_ge_t (b := 0) rfl (by rw [nI_toInt (by omega)]; omega)) ?_
    exact ⟨_, go_end 1 (fun _ _ => rfl), rfl⟩
  obtain ⟨res, g, rfl⟩ := key
  exact ru_of (k := 2) (M := pm_77) rfl (by rw [Bool.and_eq_true]; exact ⟨rfl, sq_rcv h.1.1 rfl rfl rfl⟩) g
theorem rp_cl {B : Nat → Int} {n q : Nat} {a : List Int} {w : pq_W} (h : rp_S B n q a w) (hq : q ≤ n) (hl : a.length ≤ 60) : ∃ w1, pq_Ru 6 76 [.ref 74] w (none, w1) ∧ (if rd_s B n q = 41 then rp_S B n (q + 1) a w1 else rp_F B n q w1) ∧ sx_Fr rp_A w w1 := by
  obtain ⟨y, ry, ey⟩ := rp_sg h.1 h.2.1 hq
  have key : ∃ res, pq_Go 5 pm_76 0 (lv_args 0 [.ref 74]) [] w 0 0 res ∧ (res.1 = none ∧ (if rd_s B n q = 41 then rp_S B n (q + 1) a res.2 else rp_F B n q res.2) ∧ sx_Fr rp_A w res.2) := by
    refine xs_seg 1 (pc' := 1) (ls' := [(0, .ref 74)]) (st' := [.ref 74]) (w' := w) (cs' := 0) (ss' := 0) ?_ (fun _ _ => rfl)
    refine xs_gf (z := .int (-1)) rfl h.1.1 rfl rfl h.2.2.1 ?_
    refine xs_if false rfl rfl ?_
    refine xs_seg 1 (pc' := 8) (ls' := [(0, .ref 74)]) (st' := [.ref 74]) (w' := w) (cs' := 0) (ss' := 0) ?_ (fun _ _ => rfl)
    refine xs_cl (as := [.ref 74]) (rv := some (.int y)) (st' := [.int y]) (cs' := 0) (ss' := 0) (k1 := 2) rfl rfl rfl rfl rfl rfl rfl ry ?_
    refine xs_seg 1 (pc' := 13) (ls' := [(0, .ref 74)]) (st' := [.int 41, .int y]) (w' := w) (cs' := 0) (ss' := 0) ?_ (fun _ _ => rfl)
    by_cases c : rd_s B n q = 41
    · refine xs_cmp false rfl (decide_eq_false (fun z => z (Int32.toInt_inj.mp (by rw [ey, c]; rfl)))) ?_
      refine xs_seg 2 (pc' := 18) (ls' := [(0, .ref 74)]) (st' := [.ref 74, .ref 74]) (w' := w) (cs' := 0) (ss' := 0) ?_ (fun _ _ => rfl)
      refine xs_gf (z := .int (nI q)) rfl h.1.1 rfl rfl h.2.1 ?_
      refine xs_seg 2 (pc' := 23) (ls' := [(0, .ref 74)]) (st' := [.int ((nI q) + 1), .ref 74]) (w' := w) (cs' := 0) (ss' := 0) ?_ (fun _ _ => rfl)
      refine xs_pf rfl h.1.1 rfl rfl rfl rfl (sh_i32 _) (fun w2 t2 f2 e2 => ?_)
      obtain ⟨s2, fa⟩ := rp_pl h hl t2 f2 e2
      exact ⟨_, go_end 2 (fun _ _ => rfl), rfl, by rw [if_pos c]; exact s2, fa⟩
    · refine xs_cmp true rfl (br_ne_t (b := 41) rfl (by rw [ey]; exact c)) ?_
      obtain ⟨w2, r2, s2, fa⟩ := rp_nf h
      refine xs_seg 1 (pc' := 30) (ls' := [(0, .ref 74)]) (st' := [.ref 74]) (w' := w) (cs' := 0) (ss' := 0) ?_ (fun _ _ => rfl)
      refine xs_cl (as := [.ref 74]) (rv := none) (st' := []) (cs' := 0) (ss' := 0) (k1 := 3) rfl rfl rfl rfl rfl rfl rfl r2 ?_
      exact ⟨_, go_end 1 (fun _ _ => rfl), rfl, by rw [if_neg c]; exact s2, fa⟩
  obtain ⟨⟨r, w1⟩, g, e, h1, h2⟩ := key
  have e : r = none := e
  subst e
  exact ⟨w1, ru_of (k := 5) (M := pm_76) rfl (by rw [Bool.and_eq_true]; exact ⟨rfl, sq_rcv h.1.1 rfl rfl rfl⟩) g, h1, h2⟩
theorem rp_cf {B : Nat → Int} {n p : Nat} {w : pq_W} (h : rp_F B n p w) (hp : p ≤ 60) : pq_Ru 6 76 [.ref 74] w (none, w) := by
  have key : ∃ res, pq_Go 5 pm_76 0 (lv_args 0 [.ref 74]) [] w 0 0 res ∧ res = (none, w) := by
    refine xs_seg 1 (pc' := 1) (ls' := [(0, .ref 74)]) (st' := [.ref 74]) (w' := w) (cs' := 0) (ss' := 0) ?_ (fun _ _ => rfl)
    refine xs_gf (z := .int (nI p)) rfl h.1.1 rfl rfl h.2 ?_
    refine xs_if true rfl (br_ge_t (b := 0) rfl (by rw [nI_toInt (by omega)]; omega)) ?_
    refine xs_seg 1 (pc' := 30) (ls' := [(0, .ref 74)]) (st' := [.ref 74]) (w' := w) (cs' := 0) (ss' := 0) ?_ (fun _ _ => rfl)
    refine xs_cl (as := [.ref 74]) (rv := none) (st' := []) (cs' := 0) (ss' := 0) (k1 := 3) rfl rfl rfl rfl rfl rfl rfl (rp_ng h hp) ?_
    exact ⟨_, go_end 1 (fun _ _ => rfl), rfl⟩
  obtain ⟨res, g, rfl⟩ := key
  exact ru_of (k := 5) (M := pm_76) rfl (by rw [Bool.and_eq_true]; exact ⟨rfl, sq_rcv h.1.1 rfl rfl rfl⟩) g
noncomputable def rp_vb (k : Nat) : Int := if k = 0 then 9999 else if k = 1 then 999 else if k = 2 then 99 else if k = 3 then 9 else 0
theorem rp_vs {k : Nat} {v c : Int} (hk : k < 4) (h : 0 ≤ v ∧ v ≤ rp_vb (k + 1)) (hc : 48 ≤ c ∧ c ≤ 57) : 0 ≤ v * 10 + c - 48 ∧ v * 10 + c - 48 ≤ rp_vb k ∧ v ≤ 999 := by
  have : k = 0 ∨ k = 1 ∨ k = 2 ∨ k = 3 := by omega
  rcases this with rfl | rfl | rfl | rfl
  · have h : 0 ≤ v ∧ v ≤ 999 := h
    refine ⟨by omega, ?_, by omega⟩
    show v * 10 + c - 48 ≤ 9999
    omega
  · have h : 0 ≤ v ∧ v ≤ 99 := h
    refine ⟨by omega, ?_, by omega⟩
    show v * 10 + c - 48 ≤ 999
    omega
  · have h : 0 ≤ v ∧ v ≤ 9 := h
    refine ⟨by omega, ?_, by omega⟩
    show v * 10 + c - 48 ≤ 99
    omega
  · have h : 0 ≤ v ∧ v ≤ 0 := h
    refine ⟨by omega, ?_, by omega⟩
    show v * 10 + c - 48 ≤ 9
    omega
theorem sm_mul10 {x y : Int32} {v c : Int} (hx : x.toInt = v) (hy : y.toInt = c) (hv : 0 ≤ v ∧ v ≤ 999) (hc : 48 ≤ c ∧ c ≤ 57) : (x * 10 + y - 48).toInt = v * 10 + c - 48 := by
  have e1 : (x * 10).toInt = v * 10 := by
    rw [Int32.toInt_mul, hx, show (10 : Int32).toInt = 10 from rfl]
    exact Int.bmod_eq_of_le (by omega) (by omega)
  have e2 : (x * 10 + y).toInt = v * 10 + c := by
    rw [Int32.toInt_add, e1, hy]
    exact Int.bmod_eq_of_le (by omega) (by omega)
  rw [Int32.toInt_sub, e2, show (48 : Int32).toInt = 48 from rfl]
  exact Int.bmod_eq_of_le (by omega) (by omega)
theorem rp_nu {B : Nat → Int} {n : Nat} {a : List Int} (hl : a.length < 60) : ∀ (k i q : Nat) (v : Int) (x : Int32) (w : pq_W), k + i = 4 → q ≤ n → x.toInt = v → 0 ≤ v ∧ v ≤ rp_vb k → rp_S B n q a w → ∃ res, pq_Go 8 pm_74 4 [(2, .int (nI i)), (1, .int x), (0, .ref 74)] [] w 0 0 res ∧ (res.1 = none ∧ rp_S B n (rd_nu B n k q v).1 (a ++ [(rd_nu B n k q v).2]) res.2 ∧ sx_Fr rp_A w res.2) := by
  intro k
  induction k with
  | zero =>
    intro i q v x w hi hq hx hv h
    have e : i = 4 := by omega
    subst e
    obtain ⟨w2, r2, s2, f2⟩ := rp_em (x := x) h hl
    rw [hx] at s2
    refine xs_seg 2 (pc' := 6) (ls' := [(2, .int (nI 4)), (1, .int x), (0, .ref 74)]) (st' := [.int 4, .int (nI 4)]) (w' := w) (cs' := 0) (ss' := 0) ?_ (fun _ _ => rfl)
    refine xs_cmp true rfl (by decide) ?_
    refine xs_seg 2 (pc' := 50) (ls' := [(2, .int (nI 4)), (1, .int x), (0, .ref 74)]) (st' := [.int x, .ref 74]) (w' := w) (cs' := 0) (ss' := 0) ?_ (fun _ _ => rfl)
    refine xs_cl (as := [.ref 74, .int x]) (rv := none) (st' := []) (cs' := 0) (ss' := 0) (k1 := 6) rfl rfl rfl rfl rfl rfl rfl r2 ?_
    exact ⟨_, go_end 1 (fun _ _ => rfl), rfl, s2, f2⟩
  | succ k ih =>
    intro i q v x w hi hq hx hv h
    obtain ⟨y, ry, ey⟩ := rp_sg h.1 h.2.1 hq
    obtain ⟨z, rz, ez⟩ := rp_dg y w
    rw [ey] at ez
    refine xs_seg 2 (pc' := 6) (ls' := [(2, .int (nI i)), (1, .int x), (0, .ref 74)]) (st' := [.int 4, .int (nI i)]) (w' := w) (cs' := 0) (ss' := 0) ?_ (fun _ _ => rfl)
    refine xs_cmp false rfl (br_ge_f (b := 4) rfl (by rw [nI_toInt (by omega)]; omega)) ?_
    refine xs_seg 1 (pc' := 10) (ls' := [(2, .int (nI i)), (1, .int x), (0, .ref 74)]) (st' := [.ref 74]) (w' := w) (cs' := 0) (ss' := 0) ?_ (fun _ _ => rfl)
    refine xs_cl (as := [.ref 74]) (rv := some (.int y)) (st' := [.int y]) (cs' := 0) (ss' := 0) (k1 := 2) rfl rfl rfl rfl rfl rfl rfl ry ?_
    refine xs_cl (as := [.int y]) (rv := some (.int z)) (st' := [.int z]) (cs' := 0) (ss' := 0) (k1 := 1) rfl rfl rfl rfl rfl rfl rfl rz ?_
    by_cases c : 48 ≤ rd_s B n q ∧ rd_s B n q ≤ 57
    · have z1 : z = 1 := (ez.resolve_right (fun e => e.2 c)).1
      subst z1
      refine xs_if false rfl rfl ?_
      refine xs_seg 4 (pc' := 24) (ls' := [(2, .int (nI i)), (1, .int x), (0, .ref 74)]) (st' := [.ref 74, .int (x * 10)]) (w' := w) (cs' := 0) (ss' := 0) ?_ (fun _ _ => rfl)
      refine xs_cl (as := [.ref 74]) (rv := some (.int y)) (st' := [.int y, .int (x * 10)]) (cs' := 0) (ss' := 0) (k1 := 2) rfl rfl rfl rfl rfl rfl rfl ry ?_
      refine xs_seg 6 (pc' := 34) (ls' := [(1, .int (((x * 10) + y) - 48)), (2, .int (nI i)), (0, .ref 74)]) (st' := [.ref 74, .ref 74]) (w' := w) (cs' := 0) (ss' := 0) ?_ (fun _ _ => rfl)
      refine xs_gf (z := .int (nI q)) rfl h.1.1 rfl rfl h.2.1 ?_
      refine xs_seg 2 (pc' := 39) (ls' := [(1, .int (((x * 10) + y) - 48)), (2, .int (nI i)), (0, .ref 74)]) (st' := [.int ((nI q) + 1), .ref 74]) (w' := w) (cs' := 0) (ss' := 0) ?_ (fun _ _ => rfl)
      refine xs_pf rfl h.1.1 rfl rfl rfl rfl (sh_i32 _) (fun w2 t2 f2 e2 => ?_)
      obtain ⟨s2, fa⟩ := rp_pl h (by omega) t2 f2 e2
      obtain ⟨b1, b2, b3⟩ := rp_vs (by omega) hv c
      have en : rd_nu B n (k + 1) q v = rd_nu B n k (q + 1) (v * 10 + rd_s B n q - 48) := if_pos c
      rw [en]
      refine xs_seg 2 (pc' := 4) (ls' := [(2, .int (nI (i + 1))), (1, .int (((x * 10) + y) - 48)), (0, .ref 74)]) (st' := []) (w' := w2) (cs' := 0) (ss' := 0) ?_ (fun _ _ => by rw [nI_succ]; rfl)
      obtain ⟨res, g, e1, e2, e3⟩ := ih (i + 1) (q + 1) _ _ w2 (by omega) (rd_sl (by decide) c.1) (sm_mul10 hx ey ⟨hv.1, b3⟩ c) ⟨b1, b2⟩ s2
      exact ⟨res, g, e1, e2, sx_Fr_trans fa e3⟩
    · have z1 : z = 0 := (ez.resolve_left (fun e => c e.2)).1
      subst z1
      have en : rd_nu B n (k + 1) q v = (q, v) := if_neg c
      rw [en]
      obtain ⟨w2, r2, s2, f2⟩ := rp_em (x := x) h hl
      rw [hx] at s2
      refine xs_if true rfl rfl ?_
      refine xs_seg 2 (pc' := 50) (ls' := [(2, .int (nI i)), (1, .int x), (0, .ref 74)]) (st' := [.int x, .ref 74]) (w' := w) (cs' := 0) (ss' := 0) ?_ (fun _ _ => rfl)
      refine xs_cl (as := [.ref 74, .int x]) (rv := none) (st' := []) (cs' := 0) (ss' := 0) (k1 := 6) rfl rfl rfl rfl rfl rfl rfl r2 ?_
      exact ⟨_, go_end 1 (fun _ _ => rfl), rfl, s2, f2⟩
theorem rp_rn {B : Nat → Int} {n q : Nat} {a : List Int} {w : pq_W} (h : rp_S B n q a w) (hq : q ≤ n) (hl : a.length < 60) : ∃ w1, pq_Ru 9 74 [.ref 74] w (none, w1) ∧ rp_S B n (rd_nu B n 4 q 0).1 (a ++ [(rd_nu B n 4 q 0).2]) w1 ∧ sx_Fr rp_A w w1 := by
  have key : ∃ res, pq_Go 8 pm_74 0 (lv_args 0 [.ref 74]) [] w 0 0 res ∧ (res.1 = none ∧ rp_S B n (rd_nu B n 4 q 0).1 (a ++ [(rd_nu B n 4 q 0).2]) res.2 ∧ sx_Fr rp_A w res.2) := by
    refine xs_seg 4 (pc' := 4) (ls' := [(2, .int 0), (1, .int 0), (0, .ref 74)]) (st' := []) (w' := w) (cs' := 0) (ss' := 0) ?_ (fun _ _ => rfl)
    exact rp_nu hl 4 0 q 0 0 w rfl hq rfl ⟨by decide, by decide⟩ h
  obtain ⟨⟨r, w1⟩, g, e, h1, h2⟩ := key
  have e : r = none := e
  subst e
  exact ⟨w1, ru_of (k := 8) (M := pm_74) rfl (by rw [Bool.and_eq_true]; exact ⟨rfl, sq_rcv h.1.1 rfl rfl rfl⟩) g, h1, h2⟩
