/-! the reference's reader of laws -/
section XSQ
variable {k k1 : Nat} {M : pq_M} {pc pc' cs ss cs' ss' pc0 nx t r : Nat} {ls ls' : pq_L} {st st' : List Value} {w w' : pq_W} {i : Instr} {a : List Nat} {v z : Value} {Q : pq_R → Prop}
theorem xs_gl {n q : Nat} {gs : List sx_G} {x y : Int32} (hq : pq_look (pq_cd M) pc = some (pc0, 21, nx, i, 0 :: a, v, t)) (ht : sx_Ty sx_T0 w) (hT : sx_T0[r]? = some (.inr (.inl (FieldType.int, n, gs)))) (hi : q < n) (hn : n < 2 ^ 31) (hx : x = nI q) (hz : sy_r w r q = y.toInt) (g : ∃ res, pq_Go k M nx ls (.int y :: st) w cs ss res ∧ Q res) : ∃ res, pq_Go k M pc ls (.int x :: .ref r :: st) w cs ss res ∧ Q res := by
  obtain ⟨res, g, q⟩ := g
  exact ⟨res, go_gl hq ht hT hi hn hx hz g, q⟩
theorem xs_pb {ci j : Nat} {fs : List sx_ft} {lo hi : Int} {y : Int32} (hq : pq_look (pq_cd M) pc = some (pc0, 20, nx, i, [ci, j, 2], v, t)) (ht : sx_Ty sx_T0 w) (hT : sx_T0[r]? = some (.inl (ci, fs))) (hj : fs[j]? = some (.inl (lo, hi))) (hE : Nat.ble pq_E r = true) (hl : Nat.blt j fs.length = true) (hy : (lo ≤ y.toInt ∧ y.toInt ≤ hi) ∧ (y = 0 ∨ y = 1)) (g : ∀ w2, sx_Ty sx_T0 w2 → sx_Fr [(r, (j : Int), (j : Int))] w w2 → sx_wg w2 r j = some (.int y) → ∃ res, pq_Go k M nx ls st w2 cs ss res ∧ Q res) : ∃ res, pq_Go k M pc ls (.int y :: .ref r :: st) w cs ss res ∧ Q res := by
  obtain ⟨c, h1, h2⟩ := sx_Ty_get ht hT
  match c, h1, h2 with
  | .inr (c0, vs), h1, h2 =>
    obtain ⟨e, hlen, hv⟩ := h2
    subst e
    have hr : r < w.length := (List.getElem?_eq_some_iff.mp h1).1
    have hjl : j < vs.length := by rw [hlen]; exact Nat.le_of_ble_eq_true hl
    have hty : sx_Ty sx_T0 (w.set r (.inr (c0, vs.set j (.int y)))) := by
      refine sx_Ty_set ht hT ⟨rfl, by rw [List.length_set]; exact hlen, fun i2 t2 v2 a1 a2 => ?_⟩
      by_cases e : j = i2
      · subst e
        rw [hj] at a1
        cases a1
        rw [List.getElem?_set_self hjl] at a2
        cases a2
        exact hy.1
      · rw [List.getElem?_set_ne e] at a2
        exact hv i2 t2 v2 a1 a2
    have hfr : sx_Fr [(r, (j : Int), (j : Int))] w (w.set r (.inr (c0, vs.set j (.int y)))) := fun r2 i2 hn => by
      rw [sx_wg_set hr]
      by_cases e : r = r2
      · subst e
        rw [if_pos rfl, sx_wg_of h1]
        show (vs.set j (.int y))[i2]? = vs[i2]?
        exact List.getElem?_set_ne (fun e => hn ⟨_, List.mem_cons_self, rfl, by show (j : Int) ≤ i2; omega, by show (i2 : Int) ≤ j; omega⟩)
      · rw [if_neg e]
    have hwg : sx_wg (w.set r (.inr (c0, vs.set j (.int y)))) r j = some (.int y) := by
      rw [sx_wg_set hr, if_pos rfl]
      show (vs.set j (.int y))[j]? = _
      exact List.getElem?_set_self hjl
    obtain ⟨res, g, q⟩ := g _ hty hfr hwg
    refine ⟨res, go_put hq h1 ?_ g, q⟩
    show (Nat.beq c0 c0 && Nat.ble pq_E r && Nat.blt j vs.length && decide (y = 0 ∨ y = 1)) = true
    rw [Nat.beq_refl, hE, show Nat.blt j vs.length = true from Nat.ble_eq_true_of_le hjl, decide_eq_true hy.2]
    rfl
end XSQ
/-- the reference's number for a sign or a name -/
noncomputable def rq_m (t : Int) : Int := if 0 ≤ t then t else if -100 < t then 9999 - t else if t = -224 then 20000 else if t = -138 then 20001 else if t = -160 then 20002 else if t = -161 then 20003 else if t = -162 then 20004 else if t = -143 then 20005 else if t = -145 then 20006 else if t = -142 then 20007 else if t = -147 then 20008 else 20009
noncomputable def rq_A : sx_A := [(94, 11, 13), (94, 15, 15), (104, 0, 69)]
noncomputable def NB (w : pq_W) : Prop := sy_r w 4 0 = 119 ∧ sy_r w 4 1 = 107 ∧ sy_r w 4 2 = 97 ∧ sy_r w 4 3 = 109 ∧ sy_r w 4 4 = 100 ∧ sy_r w 4 5 = 108
noncomputable def rq_X (B : Nat → Int) (n : Nat) (w : pq_W) : Prop := sx_Ty sx_T0 w ∧ sy_r w 95 7 = (n : Int) ∧ n ≤ 60 ∧ (∀ i, i < n → sy_r w 95 (2798 + i) = B i) ∧ NB w
noncomputable def rq_C (a : List Int) (w : pq_W) : Prop := sx_wg w 94 15 = some (.int (nI a.length)) ∧ ∀ t, t < a.length → sy_r w 104 t = rq_m (a.getD t 0)
noncomputable def rq_S (B : Nat → Int) (n o q : Nat) (a : List Int) (w : pq_W) : Prop := rq_X B n w ∧ sx_wg w 94 11 = some (.int (nI q)) ∧ sx_wg w 94 12 = some (.int (nI o)) ∧ sx_wg w 94 13 = some (.int 0) ∧ rq_C a w
noncomputable def rq_F (B : Nat → Int) (n p : Nat) (w : pq_W) : Prop := rq_X B n w ∧ sx_wg w 94 11 = some (.int (nI p)) ∧ sx_wg w 94 13 = some (.int 1)
noncomputable def rq_Q (B : Nat → Int) (n o : Nat) (ok : Bool) (q : Nat) (a : List Int) (w w1 : pq_W) : Prop := sx_Fr rq_A w w1 ∧ (if ok = true then rq_S B n o q a w1 else rq_F B n q w1)
theorem rq_Xm {B : Nat → Int} {n : Nat} {w w1 : pq_W} (h : rq_X B n w) (ht : sx_Ty sx_T0 w1) (f : sx_Fr rq_A w w1) : rq_X B n w1 := by
  have n95 : ∀ i, sy_r w1 95 i = sy_r w 95 i := fun i => fr_no f ⟨Or.inl (by decide), Or.inl (by decide), Or.inl (by decide), trivial⟩
  have n4 : ∀ i, sy_r w1 4 i = sy_r w 4 i := fun i => fr_no f ⟨Or.inl (by decide), Or.inl (by decide), Or.inl (by decide), trivial⟩
  refine ⟨ht, by rw [n95]; exact h.2.1, h.2.2.1, fun i hi => by rw [n95]; exact h.2.2.2.1 i hi, ?_⟩
  have := h.2.2.2.2
  unfold NB at this ⊢
  rw [n4, n4, n4, n4, n4, n4]
  exact this
theorem rq_Cm {a : List Int} {w w1 : pq_W} {A : sx_A} (h : rq_C a w) (f : sx_Fr A w w1) (h1 : sy_ninb A 94 15 15 = true) (h2 : sy_ninb A 104 0 69 = true) (hl : a.length ≤ 60) : rq_C a w1 := by
  refine ⟨?_, fun t ht => ?_⟩
  · rw [f 94 15 (sy_nin h1 (by decide) (by decide))]
    exact h.1
  · rw [sy_r_fr f (sy_nin h2 (by omega) (by omega))]
    exact h.2 t ht
theorem rq_S0 {B : Nat → Int} {n o q : Nat} {a : List Int} {w w1 : pq_W} (h : rq_S B n o q a w) (hl : a.length ≤ 60) (ht : sx_Ty sx_T0 w1) (f : sx_Fr [] w w1) : rq_S B n o q a w1 := by
  have no : ∀ r i, ¬ sx_InA [] r i := fun r i ⟨z, hz, _⟩ => by cases hz
  refine ⟨rq_Xm h.1 ht (sx_Fr_sub rfl f), by rw [f _ _ (no _ _)]; exact h.2.1, by rw [f _ _ (no _ _)]; exact h.2.2.1, by rw [f _ _ (no _ _)]; exact h.2.2.2.1, rq_Cm h.2.2.2.2 f rfl rfl hl⟩
theorem rq_pl {B : Nat → Int} {n o q : Nat} {a : List Int} {w w1 : pq_W} (h : rq_S B n o q a w) (hl : a.length ≤ 60) (ht : sx_Ty sx_T0 w1) (f : sx_Fr [(94, ((11 : Nat) : Int), ((11 : Nat) : Int))] w w1) (e : sx_wg w1 94 11 = some (.int (nI q + 1))) : rq_S B n o (q + 1) a w1 ∧ sx_Fr rq_A w w1 := by
  have fa : sx_Fr rq_A w w1 := sx_Fr_sub (by decide +kernel) f
  exact ⟨⟨rq_Xm h.1 ht fa, by rw [nI_succ]; exact e, by rw [f 94 12 (sy_nin (lo := 12) (hi := 15) rfl (by decide) (by decide))]; exact h.2.2.1, by rw [f 94 13 (sy_nin (lo := 12) (hi := 15) rfl (by decide) (by decide))]; exact h.2.2.2.1, rq_Cm h.2.2.2.2 f rfl rfl hl⟩, fa⟩
theorem rq_op {B : Nat → Int} {n o o2 q : Nat} {a : List Int} {w w1 : pq_W} {x : Int32} (h : rq_S B n o q a w) (hl : a.length ≤ 60) (ht : sx_Ty sx_T0 w1) (f : sx_Fr [(94, ((12 : Nat) : Int), ((12 : Nat) : Int))] w w1) (e : sx_wg w1 94 12 = some (.int x)) (ex : x = nI o2) : rq_S B n o2 q a w1 ∧ sx_Fr rq_A w w1 := by
  have fa : sx_Fr rq_A w w1 := sx_Fr_sub (by decide +kernel) f
  subst ex
  exact ⟨⟨rq_Xm h.1 ht fa, by rw [f 94 11 (sy_nin (lo := 11) (hi := 11) rfl (by decide) (by decide))]; exact h.2.1, e, by rw [f 94 13 (sy_nin (lo := 13) (hi := 15) rfl (by decide) (by decide))]; exact h.2.2.2.1, rq_Cm h.2.2.2.2 f rfl rfl hl⟩, fa⟩
theorem rq_oF {B : Nat → Int} {n p : Nat} {w w1 : pq_W} (h : rq_F B n p w) (ht : sx_Ty sx_T0 w1) (f : sx_Fr [(94, ((12 : Nat) : Int), ((12 : Nat) : Int))] w w1) : rq_F B n p w1 ∧ sx_Fr rq_A w w1 := by
  have fa : sx_Fr rq_A w w1 := sx_Fr_sub (by decide +kernel) f
  exact ⟨⟨rq_Xm h.1 ht fa, by rw [f 94 11 (sy_nin (lo := 11) (hi := 11) rfl (by decide) (by decide))]; exact h.2.1, by rw [f 94 13 (sy_nin (lo := 13) (hi := 15) rfl (by decide) (by decide))]; exact h.2.2⟩, fa⟩
theorem rq_f1 {B : Nat → Int} {n o q : Nat} {a : List Int} {w w1 : pq_W} (h : rq_S B n o q a w) (ht : sx_Ty sx_T0 w1) (f : sx_Fr [(94, ((13 : Nat) : Int), ((13 : Nat) : Int))] w w1) (e : sx_wg w1 94 13 = some (.int 1)) : rq_F B n q w1 ∧ sx_Fr rq_A w w1 := by
  have fa : sx_Fr rq_A w w1 := sx_Fr_sub (by decide +kernel) f
  exact ⟨⟨rq_Xm h.1 ht fa, by rw [f 94 11 (sy_nin (lo := 11) (hi := 12) rfl (by decide) (by decide))]; exact h.2.1, e⟩, fa⟩
theorem rq_f0 {B : Nat → Int} {n o q : Nat} {a : List Int} {w w1 : pq_W} (h : rq_S B n o q a w) (hl : a.length ≤ 60) (ht : sx_Ty sx_T0 w1) (f : sx_Fr [(94, ((13 : Nat) : Int), ((13 : Nat) : Int))] w w1) (e : sx_wg w1 94 13 = some (.int 0)) : rq_S B n o q a w1 ∧ sx_Fr rq_A w w1 := by
  have fa : sx_Fr rq_A w w1 := sx_Fr_sub (by decide +kernel) f
  exact ⟨⟨rq_Xm h.1 ht fa, by rw [f 94 11 (sy_nin (lo := 11) (hi := 12) rfl (by decide) (by decide))]; exact h.2.1, by rw [f 94 12 (sy_nin (lo := 11) (hi := 12) rfl (by decide) (by decide))]; exact h.2.2.1, e, rq_Cm h.2.2.2.2 f rfl rfl hl⟩, fa⟩
theorem rq_fF {B : Nat → Int} {n p : Nat} {w w1 : pq_W} (h : rq_F B n p w) (ht : sx_Ty sx_T0 w1) (f : sx_Fr [(94, ((13 : Nat) : Int), ((13 : Nat) : Int))] w w1) (e : sx_wg w1 94 13 = some (.int 1)) : rq_F B n p w1 ∧ sx_Fr rq_A w w1 := by
  have fa : sx_Fr rq_A w w1 := sx_Fr_sub (by decide +kernel) f
  exact ⟨⟨rq_Xm h.1 ht fa, by rw [f 94 11 (sy_nin (lo := 11) (hi := 12) rfl (by decide) (by decide))]; exact h.2.1, e⟩, fa⟩
theorem rq_pF {B : Nat → Int} {n p : Nat} {w w1 : pq_W} (h : rq_F B n p w) (ht : sx_Ty sx_T0 w1) (f : sx_Fr [(94, ((11 : Nat) : Int), ((11 : Nat) : Int))] w w1) (e : sx_wg w1 94 11 = some (.int (nI p + 0))) : rq_F B n p w1 ∧ sx_Fr rq_A w w1 := by
  have fa : sx_Fr rq_A w w1 := sx_Fr_sub (by decide +kernel) f
  exact ⟨⟨rq_Xm h.1 ht fa, by rw [e, Int32.add_zero], by rw [f 94 13 (sy_nin (lo := 12) (hi := 15) rfl (by decide) (by decide))]; exact h.2.2⟩, fa⟩
theorem rq_ge {w : pq_W} (ht : sx_Ty sx_T0 w) : sx_wg w 94 0 = some (.ref 95) := by
  obtain ⟨c, h1, h2⟩ := sx_Ty_get ht (r := 94) rfl
  match c, h1, h2 with
  | .inr (c0, vs), h1, h2 =>
    obtain ⟨_, hlen, hv⟩ := h2
    rw [sx_wg_of h1]
    show vs[0]? = some (.ref 95)
    have hl : 0 < vs.length := by rw [hlen]; decide
    have h3 := hv 0 _ _ rfl (List.getElem?_eq_getElem hl)
    rw [List.getElem?_eq_getElem hl]
    match vs[0], h3 with
    | .ref m, h3 =>
      have h3 : m = 95 := h3
      rw [h3]
theorem rq_he {B : Nat → Int} {n o q : Nat} {a : List Int} {w : pq_W} (h : rq_S B n o q a w) (hq : q ≤ n) : ∃ y : Int32, pq_Ru 2 203 [.ref 94] w (some (.int y), w) ∧ y.toInt = rd_s B n q := by
  have hn := h.1.2.2.1
  have key : ∃ res, pq_Go 1 pm_203 0 (lv_args 0 [.ref 94]) [] w 0 0 res ∧ ∃ y : Int32, res = (some (.int y), w) ∧ y.toInt = rd_s B n q := by
    refine xs_seg 1 (pc' := 1) (ls' := [(0, .ref 94)]) (st' := [.ref 94]) (w' := w) (cs' := 0) (ss' := 0) ?_ (fun _ _ => rfl)
    refine xs_gf (z := .int 0) rfl h.1.1 rfl rfl h.2.2.2.1 ?_
    refine xs_if false rfl rfl ?_
    refine xs_seg 1 (pc' := 8) (ls' := [(0, .ref 94)]) (st' := [.ref 94]) (w' := w) (cs' := 0) (ss' := 0) ?_ (fun _ _ => rfl)
    refine xs_gf (z := .int (nI q)) rfl h.1.1 rfl rfl h.2.1 ?_
    refine xs_seg 1 (pc' := 12) (ls' := [(0, .ref 94)]) (st' := [.ref 94, .int (nI q)]) (w' := w) (cs' := 0) (ss' := 0) ?_ (fun _ _ => rfl)
    refine xs_gf (z := .ref 95) rfl h.1.1 rfl rfl (rq_ge h.1.1) ?_
    refine xs_seg 1 (pc' := 17) (ls' := [(0, .ref 94)]) (st' := [.int 7, .ref 95, .int (nI q)]) (w' := w) (cs' := 0) (ss' := 0) ?_ (fun _ _ => rfl)
    refine xs_gl (q := 7) (y := nI n) rfl h.1.1 rfl (by decide) (by decide) rfl (by rw [nI_toInt (by omega)]; exact h.1.2.1) ?_
    by_cases c : q < n
    · refine xs_cmp false rfl (br_ge_f (b := n) (nI_toInt (by omega)) (by rw [nI_toInt (by omega)]; omega)) ?_
      obtain ⟨v, hv1, hv2⟩ := sy_at (r := 95) (i := 2798 + q) h.1.1 rfl (by omega)
      refine xs_seg 1 (pc' := 22) (ls' := [(0, .ref 94)]) (st' := [.ref 94]) (w' := w) (cs' := 0) (ss' := 0) ?_ (fun _ _ => rfl)
      refine xs_gf (z := .ref 95) rfl h.1.1 rfl rfl (rq_ge h.1.1) ?_
      refine xs_seg 2 (pc' := 29) (ls' := [(0, .ref 94)]) (st' := [.ref 94, .int 2798, .ref 95]) (w' := w) (cs' := 0) (ss' := 0) ?_ (fun _ _ => rfl)
      refine xs_gf (z := .int (nI q)) rfl h.1.1 rfl rfl h.2.1 ?_
      refine xs_seg 1 (pc' := 33) (ls' := [(0, .ref 94)]) (st' := [.int (2798 + (nI q)), .ref 95]) (w' := w) (cs' := 0) (ss' := 0) ?_ (fun _ _ => rfl)
      refine xs_gl (q := (2798 + q)) (y := v) rfl h.1.1 rfl (by omega) (by decide) (by apply Int32.toInt_inj.mp; rw [Int32.toInt_add, show (2798 : Int32).toInt = 2798 from rfl, nI_toInt (by omega), nI_toInt (by omega)]; exact Int.bmod_eq_of_le (by omega) (by omega)) hv2.symm ?_
      exact ⟨_, go_end 2 (fun _ _ => rfl), v, rfl, by rw [hv2, h.1.2.2.2.1 q c]; exact (if_pos c).symm⟩
    · refine xs_cmp true rfl (br_ge_t (b := n) (nI_toInt (by omega)) (by rw [nI_toInt (by omega)]; omega)) ?_
      exact ⟨_, go_end 2 (fun _ _ => rfl), -1, rfl, (if_neg c).symm⟩
  obtain ⟨res, g, y, rfl, e⟩ := key
  exact ⟨y, ru_of (k := 1) (M := pm_203) rfl (by rw [Bool.and_eq_true]; exact ⟨rfl, sq_rcv h.1.1 rfl rfl rfl⟩) g, e⟩
theorem rq_hF {B : Nat → Int} {n p : Nat} {w : pq_W} (h : rq_F B n p w) : pq_Ru 2 203 [.ref 94] w (some (.int (-1)), w) := by
  have key : ∃ res, pq_Go 1 pm_203 0 (lv_args 0 [.ref 94]) [] w 0 0 res ∧ res = (some (.int (-1)), w) := by
    refine xs_seg 1 (pc' := 1) (ls' := [(0, .ref 94)]) (st' := [.ref 94]) (w' := w) (cs' := 0) (ss' := 0) ?_ (fun _ _ => rfl)
    refine xs_gf (z := .int 1) rfl h.1.1 rfl rfl h.2.2 ?_
    refine xs_if true rfl rfl ?_
    exact ⟨_, go_end 2 (fun _ _ => rfl), rfl⟩
  obtain ⟨res, g, rfl⟩ := key
  exact ru_of (k := 1) (M := pm_203) rfl (by rw [Bool.and_eq_true]; exact ⟨rfl, sq_rcv h.1.1 rfl rfl rfl⟩) g
noncomputable def rq_kp : Bool := (List.range 70).all fun l => ng_chk [(94, 15, 15), (104, (l : Int), (l : Int))] [] [] 5 205 pm_205 0 [sy_full] [] [(0, .inr (.inr 94)), (1, fx_i 0)] [] [sh_o 94 15 (fx_k l), sh_o 94 13 (fx_k 0)] [(.inr (), [sh_o 94 15 (fx_k (l + 1)), sh_o 104 l (fx_i 0)], [], [])] [] 6000
theorem rq_kp_ok : rq_kp = true := by decide +kernel
theorem rq_pu {B : Nat → Int} {n o q : Nat} {a : List Int} {x : Int32} {v : Int} {w : pq_W} (h : rq_S B n o q a w) (hl : a.length < 60) (hx : x.toInt = rq_m v) : ∃ w1, pq_Ru 6 205 [.ref 94, .int x] w (none, w1) ∧ rq_S B n o q (a ++ [v]) w1 ∧ sx_Fr rq_A w w1 := by
  have rx := sh_i32 x
  obtain ⟨⟨r, w1⟩, g, t, f, z, hz, e⟩ := vo_one (ls := lv_args 0 [.ref 94, .int x]) (fx_p [x.toInt]) (List.all_eq_true.mp rq_kp_ok a.length (List.mem_range.mpr (by omega))) (M := pm_205) rfl ⟨rx.1, rx.2, trivial⟩ trivial ⟨rfl, ng_iy ⟨x, rfl, rfl⟩ rfl, trivial⟩ (sh_eo (n := 15) (by rw [ng_ek, sy_r_of h.2.2.2.2.1, nI_toInt (by omega)]) rfl (sh_eo (n := 13) (by rw [ng_ek, sy_r_of h.2.2.2.1]; rfl) rfl trivial)) h.1.1
  cases List.mem_singleton.mp hz
  have y1 : r = none := e.1
  subst y1
  obtain ⟨o1, oo⟩ := sh_oe (n := 15) e.2.1 rfl
  obtain ⟨o2, _⟩ := sh_oe (n := a.length) oo rfl
  rw [ng_ek] at o1
  have o1 : sy_r w1 94 15 = ((a.length : Nat) : Int) + 1 := o1
  have o2 : sy_r w1 104 a.length = x.toInt := o2.trans (sx_y_ev _ _)
  have f : sx_Fr [(94, 15, 15), (104, ((a.length : Nat) : Int), ((a.length : Nat) : Int))] w w1 := f
  have t : sx_Ty sx_T0 w1 := t
  have fa : sx_Fr rq_A w w1 := fun r i hn => f r i (fun ⟨q, hq, e, l1, l2⟩ => hn (by
    cases List.mem_cons.mp hq with
    | inl hq => subst hq; exact ⟨_, List.mem_cons_of_mem _ List.mem_cons_self, e, l1, l2⟩
    | inr hq =>
      cases List.mem_singleton.mp hq
      have l1 : ((a.length : Nat) : Int) ≤ i := l1
      have l2 : (i : Int) ≤ ((a.length : Nat) : Int) := l2
      exact ⟨_, List.mem_cons_of_mem _ (List.mem_cons_of_mem _ List.mem_cons_self), e, by show (0 : Int) ≤ i; omega, by show (i : Int) ≤ 69; omega⟩))
  have nb : ∀ i : Nat, 11 ≤ i → i ≤ 13 → sx_wg w1 94 i = sx_wg w 94 i := fun i h1 h2 => f 94 i (sy_nin (lo := 11) (hi := 13) (by unfold sy_ninb; simp only [List.all_cons, List.all_nil, Bool.and_true]; rfl) (by omega) (by omega))
  refine ⟨w1, ru_of (k := 5) (M := pm_205) rfl (by rw [Bool.and_eq_true]; exact ⟨rfl, sq_rcv h.1.1 rfl rfl rfl⟩) g, ⟨rq_Xm h.1 t fa, ?_, ?_, ?_, ?_, fun s hs => ?_⟩, fa⟩
  · rw [nb 11 (by decide) (by decide)]
    exact h.2.1
  · rw [nb 12 (by decide) (by decide)]
    exact h.2.2.1
  · rw [nb 13 (by decide) (by decide)]
    exact h.2.2.2.1
  · refine vo_int t rfl rfl ?_
    rw [o1, List.length_append, nI_toInt (by show a.length + 1 < 2 ^ 31; omega)]
    rfl
  · rw [List.length_append] at hs
    have hs : s < a.length + 1 := hs
    by_cases c : s < a.length
    · rw [fr_no f ⟨Or.inl (by decide), Or.inr (by omega), trivial⟩, ri_gl a _ s c]
      exact h.2.2.2.2.2 s c
    · have e : s = a.length := by omega
      rw [e, o2, ri_ge, hx]
theorem rq_pG {B : Nat → Int} {n p : Nat} {x : Int32} {w : pq_W} (h : rq_F B n p w) : pq_Ru 6 205 [.ref 94, .int x] w (none, w) := by
  have key : ∃ res, pq_Go 5 pm_205 0 (lv_args 0 [.ref 94, .int x]) [] w 0 0 res ∧ res = (none, w) := by
    refine xs_seg 1 (pc' := 1) (ls' := [(0, .ref 94), (1, .int x)]) (st' := [.ref 94]) (w' := w) (cs' := 0) (ss' := 0) ?_ (fun _ _ => rfl)
    refine xs_gf (z := .int 1) rfl h.1.1 rfl rfl h.2.2 ?_
    refine xs_if true rfl rfl ?_
    exact ⟨_, go_end 1 (fun _ _ => rfl), rfl⟩
  obtain ⟨res, g, rfl⟩ := key
  exact ru_of (k := 5) (M := pm_205) rfl (by rw [Bool.and_eq_true]; exact ⟨rfl, sq_rcv h.1.1 rfl rfl rfl⟩) g
theorem rq_on {B : Nat → Int} {n o q : Nat} {a : List Int} {w : pq_W} (h : rq_S B n o q a w) (ho : o < 5) (hl : a.length ≤ 60) : ∃ w1, pq_Ru 3 204 [.ref 94] w (some (.int 1), w1) ∧ rq_S B n (o + 1) (q + 1) a w1 ∧ sx_Fr rq_A w w1 := by
  have key : ∃ res, pq_Go 2 pm_204 0 (lv_args 0 [.ref 94]) [] w 0 0 res ∧ (res.1 = some (.int 1) ∧ rq_S B n (o + 1) (q + 1) a res.2 ∧ sx_Fr rq_A w res.2) := by
    refine xs_seg 2 (pc' := 2) (ls' := [(0, .ref 94)]) (st' := [.ref 94, .ref 94]) (w' := w) (cs' := 0) (ss' := 0) ?_ (fun _ _ => rfl)
    refine xs_gf (z := .int 0) rfl h.1.1 rfl rfl h.2.2.2.1 ?_
    refine xs_if false rfl rfl ?_
    refine xs_seg 1 (pc' := 9) (ls' := [(0, .ref 94)]) (st' := [.ref 94, .ref 94]) (w' := w) (cs' := 0) (ss' := 0) ?_ (fun _ _ => rfl)
    refine xs_gf (z := .int (nI o)) rfl h.1.1 rfl rfl h.2.2.1 ?_
    refine xs_seg 1 (pc' := 13) (ls' := [(0, .ref 94)]) (st' := [.int 5, .int (nI o), .ref 94]) (w' := w) (cs' := 0) (ss' := 0) ?_ (fun _ _ => rfl)
    refine xs_cmp true rfl (br_ne_t (b := 5) rfl (by rw [nI_toInt (by omega)]; omega)) ?_
    refine xs_seg 1 (pc' := 21) (ls' := [(0, .ref 94)]) (st' := [.int 0, .ref 94]) (w' := w) (cs' := 0) (ss' := 0) ?_ (fun _ _ => rfl)
    refine xs_pb rfl h.1.1 rfl rfl rfl rfl ⟨⟨by decide, by decide⟩, Or.inl rfl⟩ (fun w2 t2 f2 e2 => ?_)
    obtain ⟨s2, a2⟩ := rq_f0 h hl t2 f2 e2
    refine xs_seg 1 (pc' := 25) (ls' := [(0, .ref 94)]) (st' := [.ref 94]) (w' := w2) (cs' := 0) (ss' := 0) ?_ (fun _ _ => rfl)
    refine xs_gf (z := .int 0) rfl s2.1.1 rfl rfl s2.2.2.2.1 ?_
    refine xs_if false rfl rfl ?_
    refine xs_seg 2 (pc' := 33) (ls' := [(0, .ref 94)]) (st' := [.ref 94, .ref 94]) (w' := w2) (cs' := 0) (ss' := 0) ?_ (fun _ _ => rfl)
    refine xs_gf (z := .int (nI o)) rfl s2.1.1 rfl rfl s2.2.2.1 ?_
    refine xs_seg 2 (pc' := 38) (ls' := [(0, .ref 94)]) (st' := [.int ((nI o) + 1), .ref 94]) (w' := w2) (cs' := 0) (ss' := 0) ?_ (fun _ _ => rfl)
    refine xs_pf rfl s2.1.1 rfl rfl rfl rfl (sh_i32 _) (fun w3 t3 f3 e3 => ?_)
    obtain ⟨s3, a3⟩ := rq_op (o2 := o + 1) s2 hl t3 f3 e3 (nI_succ o).symm
    refine xs_seg 2 (pc' := 43) (ls' := [(0, .ref 94)]) (st' := [.ref 94, .ref 94]) (w' := w3) (cs' := 0) (ss' := 0) ?_ (fun _ _ => rfl)
    refine xs_gf (z := .int (nI q)) rfl s3.1.1 rfl rfl s3.2.1 ?_
    refine xs_seg 2 (pc' := 48) (ls' := [(0, .ref 94)]) (st' := [.int ((nI q) + 1), .ref 94]) (w' := w3) (cs' := 0) (ss' := 0) ?_ (fun _ _ => rfl)
    refine xs_pf rfl s3.1.1 rfl rfl rfl rfl (sh_i32 _) (fun w4 t4 f4 e4 => ?_)
    obtain ⟨s4, a4⟩ := rq_pl s3 hl t4 f4 e4
    refine xs_seg 1 (pc' := 52) (ls' := [(0, .ref 94)]) (st' := [.ref 94]) (w' := w4) (cs' := 0) (ss' := 0) ?_ (fun _ _ => rfl)
    refine xs_gf (z := .int 0) rfl s4.1.1 rfl rfl s4.2.2.2.1 ?_
    refine xs_if false rfl rfl ?_
    exact ⟨_, go_end 3 (fun _ _ => rfl), rfl, s4, sx_Fr_trans a2 (sx_Fr_trans a3 a4)⟩
  obtain ⟨⟨r, w1⟩, g, e, h1, h2⟩ := key
  have e : r = some (.int 1) := e
  subst e
  exact ⟨w1, ru_of (k := 2) (M := pm_204) rfl (by rw [Bool.and_eq_true]; exact ⟨rfl, sq_rcv h.1.1 rfl rfl rfl⟩) g, h1, h2⟩
theorem rq_o5 {B : Nat → Int} {n q : Nat} {a : List Int} {w : pq_W} (h : rq_S B n 5 q a w) : ∃ w1, pq_Ru 3 204 [.ref 94] w (some (.int 0), w1) ∧ rq_F B n q w1 ∧ sx_Fr rq_A w w1 := by
  have key : ∃ res, pq_Go 2 pm_204 0 (lv_args 0 [.ref 94]) [] w 0 0 res ∧ (res.1 = some (.int 0) ∧ rq_F B n q res.2 ∧ sx_Fr rq_A w res.2) := by
    refine xs_seg 2 (pc' := 2) (ls' := [(0, .ref 94)]) (st' := [.ref 94, .ref 94]) (w' := w) (cs' := 0) (ss' := 0) ?_ (fun _ _ => rfl)
    refine xs_gf (z := .int 0) rfl h.1.1 rfl rfl h.2.2.2.1 ?_
    refine xs_if false rfl rfl ?_
    refine xs_seg 1 (pc' := 9) (ls' := [(0, .ref 94)]) (st' := [.ref 94, .ref 94]) (w' := w) (cs' := 0) (ss' := 0) ?_ (fun _ _ => rfl)
    refine xs_gf (z := .int (nI 5)) rfl h.1.1 rfl rfl h.2.2.1 ?_
    refine xs_seg 1 (pc' := 13) (ls' := [(0, .ref 94)]) (st' := [.int 5, .int (nI 5), .ref 94]) (w' := w) (cs' := 0) (ss' := 0) ?_ (fun _ _ => rfl)
    refine xs_cmp false rfl (by decide) ?_
    refine xs_seg 2 (pc' := 21) (ls' := [(0, .ref 94)]) (st' := [.int 1, .ref 94]) (w' := w) (cs' := 0) (ss' := 0) ?_ (fun _ _ => rfl)
    refine xs_pb rfl h.1.1 rfl rfl rfl rfl ⟨⟨by decide, by decide⟩, Or.inr rfl⟩ (fun w2 t2 f2 e2 => ?_)
    obtain ⟨s2, a2⟩ := rq_f1 h t2 f2 e2
    refine xs_seg 1 (pc' := 25) (ls' := [(0, .ref 94)]) (st' := [.ref 94]) (w' := w2) (cs' := 0) (ss' := 0) ?_ (fun _ _ => rfl)
    refine xs_gf (z := .int 1) rfl s2.1.1 rfl rfl s2.2.2 ?_
    refine xs_if true rfl rfl ?_
    refine xs_seg 1 (pc' := 52) (ls' := [(0, .ref 94)]) (st' := [.ref 94]) (w' := w2) (cs' := 0) (ss' := 0) ?_ (fun _ _ => rfl)
    refine xs_gf (z := .int 1) rfl s2.1.1 rfl rfl s2.2.2 ?_
    refine xs_if true rfl rfl ?_
    exact ⟨_, go_end 2 (fun _ _ => rfl), rfl, s2, a2⟩
  obtain ⟨⟨r, w1⟩, g, e, h1, h2⟩ := key
  have e : r = some (.int 0) := e
  subst e
  exact ⟨w1, ru_of (k := 2) (M := pm_204) rfl (by rw [Bool.and_eq_true]; exact ⟨rfl, sq_rcv h.1.1 rfl rfl rfl⟩) g, h1, h2⟩
-- which name
noncomputable def ix_O : sx_O := [sh_o 4 0 (fx_k 119), sh_o 4 1 (fx_k 107), sh_o 4 2 (fx_k 97), sh_o 4 3 (fx_k 109), sh_o 4 4 (fx_k 100), sh_o 4 5 (fx_k 108)]
noncomputable def ix_k (c : Int × Int) (v : Int) : Bool := ng_chk [] [] [] 9 249 pm_249 0 [c] [] [(0, .inr (.inr 3)), (1, fx_i 0)] [] ix_O [(sh_x v, [], [], [])] [] 6000
noncomputable def ix_c (c v : Int) : Bool := ng_chk [] [] [] 9 249 pm_249 0 [] [] [(0, .inr (.inr 3)), (1, fx_k c)] [] ix_O [(sh_x v, [], [], [])] [] 6000
theorem ix_no : ([(0, 96), (98, 99), (101, 106), (110, 118), (120, 127)] : List (Int × Int)).all (fun c => ix_k c (-1)) = true := by decide +kernel
theorem ix_hi : ng_chk [] [] [] 9 249 pm_249 0 [(-128, -1), (1, 2)] [] [(0, .inr (.inr 3)), (1, .inl (.inl (0, [(0, 1), (1, 256)])))] [] ix_O [(sh_x (-1), [], [], [])] [] 6000 = true := by decide +kernel
theorem ix_119 : ix_c 119 0 = true := by decide +kernel
theorem ix_107 : ix_c 107 1 = true := by decide +kernel
theorem ix_97 : ix_c 97 2 = true := by decide +kernel
theorem ix_109 : ix_c 109 3 = true := by decide +kernel
theorem ix_100 : ix_c 100 4 = true := by decide +kernel
theorem ix_108 : ix_c 108 5 = true := by decide +kernel
theorem ix_e {p : Nat → Int} {w : pq_W} (h : NB w) : ng_eqs p w ix_O := by
  obtain ⟨h0, h1, h2, h3, h4, h5⟩ := h
  exact sh_eo (n := 0) (by rw [ng_ek]; exact h0) rfl (sh_eo (n := 1) (by rw [ng_ek]; exact h1) rfl (sh_eo (n := 2) (by rw [ng_ek]; exact h2) rfl (sh_eo (n := 3) (by rw [ng_ek]; exact h3) rfl (sh_eo (n := 4) (by rw [ng_ek]; exact h4) rfl (sh_eo (n := 5) (by rw [ng_ek]; exact h5) rfl trivial)))))
theorem rq_ix {y : Int32} {w : pq_W} (ht : sx_Ty sx_T0 w) (hN : NB w) (hy : 0 ≤ y.toInt ∧ y.toInt ≤ 255) : ∃ (u : Int32) (w1 : pq_W), pq_Ru 10 249 [.ref 3, .int y] w (some (.int u), w1) ∧ u.toInt = rd_nm y.toInt ∧ sx_Ty sx_T0 w1 ∧ sx_Fr [] w w1 := by
  have main : ∃ res, pq_Go 9 pm_249 0 (lv_args 0 [.ref 3, .int y]) [] w 0 0 res ∧ (∃ u : Int32, res.1 = some (.int u) ∧ u.toInt = rd_nm y.toInt) ∧ sx_Ty sx_T0 res.2 ∧ sx_Fr [] w res.2 := by
    have con : ∀ c v : Int, ix_c c v = true → y.toInt = c → rd_nm c = v → ∃ res, pq_Go 9 pm_249 0 (lv_args 0 [.ref 3, .int y]) [] w 0 0 res ∧ (∃ u : Int32, res.1 = some (.int u) ∧ u.toInt = rd_nm y.toInt) ∧ sx_Ty sx_T0 res.2 ∧ sx_Fr [] w res.2 := fun c v ck e1 e2 => by
      obtain ⟨res, g, t, f, z, hz, e⟩ := vo_one (ls := lv_args 0 [.ref 3, .int y]) (fx_p []) ck (M := pm_249) rfl trivial trivial ⟨rfl, ng_ik ⟨y, rfl, rfl⟩ e1, trivial⟩ (ix_e hN) ht
      cases List.mem_singleton.mp hz
      obtain ⟨u, u1, u2⟩ := sh_ans e.1
      exact ⟨res, g, ⟨u, u1, by rw [u2, e1, e2]⟩, t, f⟩
    have int : ∀ c ∈ ([(0, 96), (98, 99), (101, 106), (110, 118), (120, 127)] : List (Int × Int)), c.1 ≤ y.toInt → y.toInt ≤ c.2 → rd_nm y.toInt = -1 → ∃ res, pq_Go 9 pm_249 0 (lv_args 0 [.ref 3, .int y]) [] w 0 0 res ∧ (∃ u : Int32, res.1 = some (.int u) ∧ u.toInt = rd_nm y.toInt) ∧ sx_Ty sx_T0 res.2 ∧ sx_Fr [] w res.2 := fun c hc l1 l2 e2 => by
      obtain ⟨res, g, t, f, z, hz, e⟩ := vo_one (ls := lv_args 0 [.ref 3, .int y]) (fx_p [y.toInt]) (List.all_eq_true.mp ix_no c hc) (M := pm_249) rfl ⟨l1, l2, trivial⟩ trivial ⟨rfl, ng_iy ⟨y, rfl, rfl⟩ rfl, trivial⟩ (ix_e hN) ht
      cases List.mem_singleton.mp hz
      obtain ⟨u, u1, u2⟩ := sh_ans e.1
      exact ⟨res, g, ⟨u, u1, by rw [u2, e2]⟩, t, f⟩
    by_cases c1 : y.toInt = 119
    · exact con 119 0 ix_119 c1 (by decide)
    by_cases c2 : y.toInt = 107
    · exact con 107 1 ix_107 c2 (by decide)
    by_cases c3 : y.toInt = 97
    · exact con 97 2 ix_97 c3 (by decide)
    by_cases c4 : y.toInt = 109
    · exact con 109 3 ix_109 c4 (by decide)
    by_cases c5 : y.toInt = 100
    · exact con 100 4 ix_100 c5 (by decide)
    by_cases c6 : y.toInt = 108
    · exact con 108 5 ix_108 c6 (by decide)
    have e2 : rd_nm y.toInt = -1 := by
      unfold rd_nm
      rw [if_neg c1, if_neg c2, if_neg c3, if_neg c4, if_neg c5, if_neg c6]
    by_cases d1 : y.toInt ≤ 96
    · exact int (0, 96) (by decide) hy.1 d1 e2
    by_cases d2 : y.toInt ≤ 99
    · exact int (98, 99) (by decide) (by show 98 ≤ y.toInt; omega) d2 e2
    by_cases d3 : y.toInt ≤ 106
    · exact int (101, 106) (by decide) (by show 101 ≤ y.toInt; omega) d3 e2
    by_cases d4 : y.toInt ≤ 118
    · exact int (110, 118) (by decide) (by show 110 ≤ y.toInt; omega) d4 e2
    by_cases d5 : y.toInt ≤ 127
    · exact int (120, 127) (by decide) (by show 120 ≤ y.toInt; omega) d5 e2
    obtain ⟨res, g, t, f, z, hz, e⟩ := vo_one (ls := lv_args 0 [.ref 3, .int y]) (fx_p [y.toInt - 256, 1]) ix_hi (M := pm_249) rfl ⟨by show -128 ≤ y.toInt - 256; omega, by show y.toInt - 256 ≤ -1; omega, by show (1 : Int) ≤ 1; decide, by show (1 : Int) ≤ 2; decide, trivial⟩ trivial ⟨rfl, ng_if ⟨y, rfl, rfl⟩ (by show 0 + (1 * (y.toInt - 256) + (256 * 1 + 0)) = y.toInt; omega), trivial⟩ (ix_e hN) ht
    cases List.mem_singleton.mp hz
    obtain ⟨u, u1, u2⟩ := sh_ans e.1
    exact ⟨res, g, ⟨u, u1, by rw [u2, e2]⟩, t, f⟩
  obtain ⟨⟨r, w1⟩, g, ⟨u, u1, u2⟩, t1, f1⟩ := main
  have u1 : r = some (.int u) := u1
  subst u1
  exact ⟨u, w1, ru_of (k := 9) (M := pm_249) rfl (by rw [Bool.and_eq_true]; exact ⟨rfl, sq_rcv ht rfl rfl rfl⟩) g, u2, t1, f1⟩
