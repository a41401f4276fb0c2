/-! voice and trace, whole -/
theorem vo_si {p : Nat → Int} {n : Nat} {a : List sx_V} {st : List Value} (h : sx_sm p (fx_i n :: a) st) : ∃ (x : Int32) (s : List Value), st = .int x :: s ∧ x.toInt = p n ∧ sx_sm p a s := by
  match st, h with
  | .int x :: s, h =>
    have h1 : x.toInt = sx_ev p (sx_y n) := h.1
    exact ⟨x, s, rfl, by rw [h1, sx_y_ev], h.2⟩
  | .long x :: s, h => exact h.1.elim
  | .ref x :: s, h => exact h.1.elim
  | .null :: s, h => exact h.1.elim
  | [], h => exact h.elim
theorem vo_sk {p : Nat → Int} {c : Int} {a : List sx_V} {st : List Value} (h : sx_sm p (fx_k c :: a) st) : ∃ (x : Int32) (s : List Value), st = .int x :: s ∧ x.toInt = c ∧ sx_sm p a s := by
  match st, h with
  | .int x :: s, h =>
    have h1 : x.toInt = sx_ev p (c, []) := h.1
    exact ⟨x, s, rfl, by rw [h1, ng_ek], h.2⟩
  | .long x :: s, h => exact h.1.elim
  | .ref x :: s, h => exact h.1.elim
  | .null :: s, h => exact h.1.elim
  | [], h => exact h.elim
theorem vo_sr {p : Nat → Int} {r : Nat} {a : List sx_V} {st : List Value} (h : sx_sm p (.inr (.inr r) :: a) st) : ∃ (s : List Value), st = .ref r :: s ∧ sx_sm p a s := by
  match st, h with
  | .ref x :: s, h =>
    have h1 : x = r := h.1
    subst h1
    exact ⟨s, rfl, h.2⟩
  | .int x :: s, h => exact h.1.elim
  | .long x :: s, h => exact h.1.elim
  | .null :: s, h => exact h.1.elim
  | [], h => exact h.elim
theorem vo_s0 {p : Nat → Int} {st : List Value} (h : sx_sm p [] st) : st = [] := by
  match st, h with
  | [], _ => rfl
  | _ :: _, h => exact h.elim
noncomputable def vt_ok (a b n : Int) : Prop := 0 ≤ a ∧ a < n ∧ 0 ≤ b ∧ b ≤ 3
noncomputable def vt_f1 (j : Nat) (M : pq_M) (r0 ce : Nat) : Bool := ng_chk [(ce, 0, 100000)] [] [] 299 j M 0 [sh_lo, sy_full, sy_full] [] (sh_sl r0 (fx_i 0) (fx_i 1) (fx_i 2)) [] [] [(sh_x (-1000001), [], [], [])] [] 6000
noncomputable def vt_f2 (j : Nat) (M : pq_M) (r0 cn pn ce : Nat) : Bool := ng_chk [(ce, 0, 100000)] [] [] 299 j M 0 [sy_full, sy_full, sy_full, (0, 12)] [(0, [(0, -1), (3, 1)])] (sh_sl r0 (fx_i 0) (fx_i 1) (fx_i 2)) [] [sh_o cn pn (fx_i 3)] [(sh_x (-1000001), [], [], [])] [] 6000
noncomputable def vt_f3 (j : Nat) (M : pq_M) (r0 cn pn ce : Nat) : Bool := (List.range 12).all fun p => sh_out.all fun io => ng_chk [(ce, 0, 100000)] [] [] 299 j M 0 [((p : Int) + 1, 12), io, sy_full] [] (sh_sl r0 (fx_k p) (fx_i 1) (fx_i 2)) [] [sh_o cn pn (fx_i 0)] [(sh_x (-1000001), [], [], [])] [] 6000
theorem vtc_f1 : vt_f1 133 pm_133 5 93 = true := by decide +kernel
theorem vtc_f2 : vt_f2 133 pm_133 5 15 4 93 = true := by decide +kernel
theorem vtc_f3 : vt_f3 133 pm_133 5 15 4 93 = true := by decide +kernel
theorem vtm_f1 : vt_f1 234 pm_234 94 97 = true := by decide +kernel
theorem vtm_f2 : vt_f2 234 pm_234 94 95 3 97 = true := by decide +kernel
theorem vtm_f3 : vt_f3 234 pm_234 94 95 3 97 = true := by decide +kernel
theorem vt_no {j : Nat} {M : pq_M} {r0 cn pn ce : Nat} (k1 : vt_f1 j M r0 ce = true) (k2 : vt_f2 j M r0 cn pn ce = true) (k3 : vt_f3 j M r0 cn pn ce = true) (hM : pq_tab[j]? = some M) (a b c : Int32) {w : pq_W} (ht : sx_Ty sx_T0 w) (hn : 0 ≤ sy_r w cn pn ∧ sy_r w cn pn ≤ 12) (h : ¬ vt_ok a.toInt b.toInt (sy_r w cn pn)) : ∃ res, pq_Go 299 M 0 (lv_args 0 [.ref r0, .int a, .int b, .int c]) [] w 0 0 res ∧ (∃ y : Int32, res.1 = some (.int y) ∧ y.toInt = -1000001) ∧ sx_Fr [(ce, 0, 100000)] w res.2 := by
  have ra := sh_i32 a
  have rb := sh_i32 b
  have rc := sh_i32 c
  by_cases h1 : a.toInt < 0
  · obtain ⟨res, g, t, f, q, hq, e⟩ := vo_one (ls := lv_args 0 [.ref r0, .int a, .int b, .int c]) (fx_p [a.toInt, b.toInt, c.toInt]) k1 hM ⟨ra.1, by show a.toInt ≤ -1; omega, rb.1, rb.2, rc.1, rc.2, trivial⟩ trivial ⟨rfl, ng_iy ⟨a, rfl, rfl⟩ rfl, ng_iy ⟨b, rfl, rfl⟩ rfl, ng_iy ⟨c, rfl, rfl⟩ rfl, trivial⟩ trivial ht
    cases List.mem_singleton.mp hq
    exact ⟨res, g, sh_ans e.1, f⟩
  by_cases h2 : sy_r w cn pn ≤ a.toInt
  · obtain ⟨res, g, t, f, q, hq, e⟩ := vo_one (ls := lv_args 0 [.ref r0, .int a, .int b, .int c]) (fx_p [a.toInt, b.toInt, c.toInt, sy_r w cn pn]) k2 hM ⟨ra.1, ra.2, rb.1, rb.2, rc.1, rc.2, hn.1, hn.2, trivial⟩ ⟨by show 0 + (-1 * a.toInt + (1 * sy_r w cn pn + 0)) ≤ 0; omega, trivial⟩ ⟨rfl, ng_iy ⟨a, rfl, rfl⟩ rfl, ng_iy ⟨b, rfl, rfl⟩ rfl, ng_iy ⟨c, rfl, rfl⟩ rfl, trivial⟩ (sh_eo (n := pn) (by rw [sx_y_ev]; rfl) rfl trivial) ht
    cases List.mem_singleton.mp hq
    exact ⟨res, g, sh_ans e.1, f⟩
  have h3 : b.toInt < 0 ∨ 3 < b.toInt := by
    unfold vt_ok at h
    omega
  obtain ⟨io, m, l1, l2⟩ := sh_outm rb h3
  obtain ⟨p, ep⟩ : ∃ p : Nat, (p : Int) = a.toInt := ⟨a.toInt.toNat, by omega⟩
  obtain ⟨res, g, t, f, q, hq, e⟩ := vo_one (ls := lv_args 0 [.ref r0, .int a, .int b, .int c]) (fx_p [sy_r w cn pn, b.toInt, c.toInt]) (List.all_eq_true.mp (List.all_eq_true.mp k3 p (List.mem_range.mpr (by omega))) io m) hM ⟨by show (p : Int) + 1 ≤ sy_r w cn pn; omega, hn.2, l1, l2, rc.1, rc.2, trivial⟩ trivial ⟨rfl, ng_ik ⟨a, rfl, rfl⟩ ep.symm, ng_iy ⟨b, rfl, rfl⟩ rfl, ng_iy ⟨c, rfl, rfl⟩ rfl, trivial⟩ (sh_eo (n := pn) (by rw [sx_y_ev]; rfl) rfl trivial) ht
  cases List.mem_singleton.mp hq
  exact ⟨res, g, sh_ans e.1, f⟩
-- the class
noncomputable def vt_kb : Bool := (List.range 12).all fun p => ng_chk [(87, 1, 4)] [] [] 60 134 pm_134 0 [((p : Int) + 1, 12), (0, 3), sy_full, (0, 5), (0, 600)] [] [(0, .inr (.inr 87)), (1, fx_k p), (2, .inr (.inr 15)), (3, fx_i 1), (4, fx_i 2)] [] [sh_o 15 4 (fx_i 0), sh_o 19 p (fx_i 3), sh_o 21 p (fx_i 4)] [] [(49, ([], [fx_k 0, fx_i 2, fx_i 1, fx_i 3, .inr (.inr 87)], [sh_o 87 1 (fx_k 0), sh_o 87 2 (fx_k p), sh_o 87 3 (fx_i 4), sh_o 87 4 (fx_i 3)], [], []))] 6000
theorem vt_kb_ok : vt_kb = true := by decide +kernel
noncomputable def vt_kc : Bool := (List.range 12).all fun p => ng_chk [] [] [] 299 133 pm_133 0 [((p : Int) + 1, 12), (0, 3), sy_full] [] (sh_sl 5 (fx_k p) (fx_i 1) (fx_i 2)) [] [sh_o 15 4 (fx_i 0)] [] [(37, ([], [fx_i 2, fx_i 1, .inr (.inr 15), fx_k p, .inr (.inr 87)], [], [], []))] 6000
theorem vt_kc_ok : vt_kc = true := by decide +kernel
noncomputable def vt_kr : Bool := (List.range 12).all fun p => ng_chk [(94, 8, 8), (94, 24, 24)] [] [] 299 234 pm_234 0 [((p : Int) + 1, 12), (0, 3), sy_full] [] (sh_sl 94 (fx_k p) (fx_i 1) (fx_i 2)) [] [sh_o 95 3 (fx_i 0)] [] [(41, ([], [fx_i 2, fx_i 1, .inr (.inr 94)], [sh_o 94 8 (fx_k 0), sh_o 94 24 (fx_k p)], [], []))] 6000
theorem vt_kr_ok : vt_kr = true := by decide +kernel
theorem vo_int {w : pq_W} {r ci i : Nat} {fs : List sx_ft} {lo hi : Int} {x : Int32} (ht : sx_Ty sx_T0 w) (hT : sx_T0[r]? = some (.inl (ci, fs))) (hf : fs[i]? = some (.inl (lo, hi))) (h : sy_r w r i = x.toInt) : sx_wg w r i = some (.int x) := by
  obtain ⟨y, y1, y2, _⟩ := sq_fat ht hT hf
  rw [y1, Int32.toInt_inj.mp (y2.trans h)]
noncomputable def vt_Q (cc pc ce : Nat) (v : Int32) (l : List Nat) (res : pq_R) : Prop := res.1 = some (.int v) ∧ sy_r res.2 cc pc = (l.length : Int) ∧ ∀ t, t < l.length → sy_r res.2 ce t = ((l.getD t 0 : Nat) : Int)
theorem vcb_ok {p k q : Nat} {a b c W v : Int32} {l : List Nat} {w : pq_W} (hp : p < 12) (ha : a.toInt = (p : Int)) (hn : (p : Int) < sy_r w 15 4) (hn2 : sy_r w 15 4 ≤ 12) (hb : b.toInt = (q : Int)) (hq : q < 4) (hk : sy_r w 19 p = (k : Int)) (hk6 : k < 6) (hW : sy_r w 21 p = W.toInt) (hW2 : 0 ≤ W.toInt ∧ W.toInt ≤ 600) (he : vo_e a W k 8 k q c = some (v, l)) (hl : l.length ≤ 40) (ht : sx_Ty sx_T0 w) : ∃ res, pq_Ru 61 134 [.ref 87, .int a, .ref 15, .int b, .int c] w res ∧ vt_Q 87 1 88 v l res := by
  have rc := sh_i32 c
  have key : ∃ res, pq_Go 60 pm_134 0 (lv_args 0 [.ref 87, .int a, .ref 15, .int b, .int c]) [] w 0 0 res ∧ vt_Q 87 1 88 v l res := by
    refine ng_go (J := sx_tt) (fx_p [sy_r w 15 4, b.toInt, c.toInt, (k : Int), W.toInt]) (List.all_eq_true.mp vt_kb_ok p (List.mem_range.mpr hp)) rfl ⟨by show (p : Int) + 1 ≤ sy_r w 15 4; omega, hn2, by show (0 : Int) ≤ b.toInt; omega, by show b.toInt ≤ 3; omega, rc.1, rc.2, by show (0 : Int) ≤ (k : Int); omega, by show (k : Int) ≤ 5; omega, hW2.1, hW2.2, trivial⟩ trivial ⟨rfl, ng_ik ⟨a, rfl, rfl⟩ ha, rfl, ng_iy ⟨b, rfl, rfl⟩ rfl, ng_iy ⟨c, rfl, rfl⟩ rfl, trivial⟩ trivial (sh_eo (n := 4) (by rw [sx_y_ev]; rfl) rfl (sh_eo (n := p) (by rw [sx_y_ev]; exact hk) rfl (sh_eo (n := p) (by rw [sx_y_ev]; exact hW) rfl trivial))) ht sx_ctn (fun _ _ _ => trivial) trivial ⟨fun ls st w1 t1 f1 al => ?_, trivial⟩
    obtain ⟨_, s, o, _⟩ := al
    obtain ⟨x0, s0, rfl, e0, qs1⟩ := vo_sk s
    obtain ⟨x1, s1, rfl, e1, qs2⟩ := vo_si qs1
    obtain ⟨x2, s2, rfl, e2, qs3⟩ := vo_si qs2
    obtain ⟨x3, s3, rfl, e3, qs4⟩ := vo_si qs3
    obtain ⟨s4, rfl, qs5⟩ := vo_sr qs4
    cases vo_s0 qs5
    have kx0 : x0 = nI 0 := Int32.toInt_inj.mp e0
    have kx1 : x1 = c := Int32.toInt_inj.mp e1
    have kx2 : x2 = nI q := Int32.toInt_inj.mp (e2.trans (hb.trans (nI_toInt (by omega)).symm))
    have kx3 : x3 = nI k := Int32.toInt_inj.mp (e3.trans (nI_toInt (by omega)).symm)
    subst kx0
    subst kx1
    subst kx2
    subst kx3
    obtain ⟨o1, o⟩ := sh_oe (n := 1) o rfl
    obtain ⟨o2, o⟩ := sh_oe (n := 2) o rfl
    obtain ⟨o3, o⟩ := sh_oe (n := 3) o rfl
    obtain ⟨o4, o⟩ := sh_oe (n := 4) o rfl
    rw [ng_ek] at o1 o2
    have o3 : sy_r w1 87 3 = W.toInt := o3.trans (sx_y_ev _ _)
    have o4 : sy_r w1 87 4 = (k : Int) := o4.trans (sx_y_ev _ _)
    have C1 : vc_C a W k 0 w1 := ⟨t1, vo_int t1 rfl rfl (o2.trans ha.symm), vo_int t1 rfl rfl o3, vo_int t1 rfl rfl (o4.trans (nI_toInt (by omega)).symm), o1⟩
    obtain ⟨w2, r2, C2, P2⟩ := vc_all hk6 8 k q 0 0 x1 v l w1 hk6 hq he C1 (by omega) (by omega)
    refine ⟨(some (.int v), w2), go_cl (as := [.ref 87, .int (nI k), .int (nI q), .int x1, .int (nI 0)]) (r := some (.int v)) (st' := [.int v]) (cs' := 0) (ss' := 0) (k1 := 18) rfl rfl rfl rfl rfl rfl rfl r2 (go_end 1 (fun _ _ => rfl)), rfl, ?_, fun t h => ?_⟩
    · have := C2.2.2.2.2
      rw [Nat.zero_add] at this
      exact this
    · have := P2.2.2 t h
      rw [Nat.zero_add] at this
      exact this
  obtain ⟨res, g, h⟩ := key
  exact ⟨res, ru_of (k := 60) (M := pm_134) rfl (by rw [Bool.and_eq_true]; exact ⟨rfl, sq_rcv ht rfl rfl rfl⟩) g, h⟩
theorem vct_ok {p k q : Nat} {a b c W v : Int32} {l : List Nat} {w : pq_W} (hp : p < 12) (ha : a.toInt = (p : Int)) (hn : (p : Int) < sy_r w 15 4) (hn2 : sy_r w 15 4 ≤ 12) (hb : b.toInt = (q : Int)) (hq : q < 4) (hk : sy_r w 19 p = (k : Int)) (hk6 : k < 6) (hW : sy_r w 21 p = W.toInt) (hW2 : 0 ≤ W.toInt ∧ W.toInt ≤ 600) (he : vo_e a W k 8 k q c = some (v, l)) (hl : l.length ≤ 40) (ht : sx_Ty sx_T0 w) : ∃ res, pq_Go 299 pm_133 0 (lv_args 0 [.ref 5, .int a, .int b, .int c]) [] w 0 0 res ∧ vt_Q 87 1 88 v l res := by
  have rc := sh_i32 c
  refine ng_go (J := sx_tt) (fx_p [sy_r w 15 4, b.toInt, c.toInt]) (List.all_eq_true.mp vt_kc_ok p (List.mem_range.mpr hp)) rfl ⟨by show (p : Int) + 1 ≤ sy_r w 15 4; omega, hn2, by show (0 : Int) ≤ b.toInt; omega, by show b.toInt ≤ 3; omega, rc.1, rc.2, trivial⟩ trivial ⟨rfl, ng_ik ⟨a, rfl, rfl⟩ ha, ng_iy ⟨b, rfl, rfl⟩ rfl, ng_iy ⟨c, rfl, rfl⟩ rfl, trivial⟩ trivial (sh_eo (n := 4) (by rw [sx_y_ev]; rfl) rfl trivial) ht sx_ctn (fun _ _ _ => trivial) trivial ⟨fun ls st w1 t1 f1 al => ?_, trivial⟩
  obtain ⟨_, s, o, _⟩ := al
  obtain ⟨x1, s1, rfl, e1, qs6⟩ := vo_si s
  obtain ⟨x2, s2, rfl, e2, qs7⟩ := vo_si qs6
  obtain ⟨s3, rfl, qs8⟩ := vo_sr qs7
  obtain ⟨x3, s3, rfl, e3, qs9⟩ := vo_sk qs8
  obtain ⟨s4, rfl, qs10⟩ := vo_sr qs9
  cases vo_s0 qs10
  have kx1 : x1 = c := Int32.toInt_inj.mp e1
  have kx2 : x2 = b := Int32.toInt_inj.mp e2
  have kx3 : x3 = a := Int32.toInt_inj.mp (e3.trans ha.symm)
  subst kx1
  subst kx2
  subst kx3
  have same : ∀ r i, sy_r w1 r i = sy_r w r i := fun r i => sy_r_fr f1 (fun ⟨q, hq, _⟩ => by cases hq)
  obtain ⟨⟨y, w2⟩, r2, q1, q2⟩ := vcb_ok (w := w1) hp ha (by rw [same]; exact hn) (by rw [same]; exact hn2) hb hq (by rw [same]; exact hk) hk6 (by rw [same]; exact hW) hW2 he hl t1
  have q1 : y = some (.int v) := q1
  subst q1
  exact ⟨(some (.int v), w2), go_cl (as := [.ref 87, .int x3, .ref 15, .int x2, .int x1]) (r := some (.int v)) (st' := [.int v]) (cs' := 0) (ss' := 0) (k1 := 61) rfl rfl rfl rfl rfl rfl rfl r2 (go_end 1 (fun _ _ => rfl)), rfl, q2⟩
theorem vmt_ok {p k q : Nat} {a b c W v : Int32} {l : List Nat} {w : pq_W} (hp : p < 12) (ha : a.toInt = (p : Int)) (hn : (p : Int) < sy_r w 95 3) (hn2 : sy_r w 95 3 ≤ 12) (hb : b.toInt = (q : Int)) (hq : q < 4) (hk : sy_r w 95 (266 + 3 * p) = (k : Int)) (hk6 : k < 6) (hW : sy_r w 95 (268 + 3 * p) = W.toInt) (he : vo_e a W k 8 k q c = some (v, l)) (hl : l.length ≤ 40) (ht : sx_Ty sx_T0 w) : ∃ res, pq_Go 299 pm_234 0 (lv_args 0 [.ref 94, .int a, .int b, .int c]) [] w 0 0 res ∧ vt_Q 94 8 101 v l res := by
  have rc := sh_i32 c
  refine ng_go (J := sx_tt) (fx_p [sy_r w 95 3, b.toInt, c.toInt]) (List.all_eq_true.mp vt_kr_ok p (List.mem_range.mpr hp)) rfl ⟨by show (p : Int) + 1 ≤ sy_r w 95 3; omega, hn2, by show (0 : Int) ≤ b.toInt; omega, by show b.toInt ≤ 3; omega, rc.1, rc.2, trivial⟩ trivial ⟨rfl, ng_ik ⟨a, rfl, rfl⟩ ha, ng_iy ⟨b, rfl, rfl⟩ rfl, ng_iy ⟨c, rfl, rfl⟩ rfl, trivial⟩ trivial (sh_eo (n := 3) (by rw [sx_y_ev]; rfl) rfl trivial) ht sx_ctn (fun _ _ _ => trivial) trivial ⟨fun ls st w1 t1 f1 al => ?_, trivial⟩
  obtain ⟨_, s, o, _⟩ := al
  obtain ⟨x1, s1, rfl, e1, qs11⟩ := vo_si s
  obtain ⟨x2, s2, rfl, e2, qs12⟩ := vo_si qs11
  obtain ⟨s4, rfl, qs13⟩ := vo_sr qs12
  cases vo_s0 qs13
  have kx1 : x1 = c := Int32.toInt_inj.mp e1
  have kx2 : x2 = nI q := Int32.toInt_inj.mp (e2.trans (hb.trans (nI_toInt (by omega)).symm))
  subst kx1
  subst kx2
  have ea : a = nI p := Int32.toInt_inj.mp (ha.trans (nI_toInt (by omega)).symm)
  subst ea
  obtain ⟨o1, o⟩ := sh_oe (n := 8) o rfl
  obtain ⟨o2, o⟩ := sh_oe (n := 24) o rfl
  rw [ng_ek] at o1 o2
  have n95 : ∀ i, sy_r w1 95 i = sy_r w 95 i := fun i => fr_no f1 ⟨Or.inl (by decide), Or.inl (by decide), trivial⟩
  have C1 : vm_C p W k 0 w1 := ⟨t1, vo_int t1 rfl rfl (o2.trans ha.symm), by rw [n95]; exact hk, by rw [n95]; exact hW, o1⟩
  obtain ⟨w2, r2, C2, P2⟩ := vm_vc hp hk6 (vm_all hp hk6 8) q 0 x1 v l w1 hq he C1 (by omega)
  refine ⟨(some (.int v), w2), go_cl (as := [.ref 94, .int (nI q), .int x1]) (r := some (.int v)) (st' := [.int v]) (cs' := 0) (ss' := 0) (k1 := 35) rfl rfl rfl rfl rfl rfl rfl r2 (go_end 1 (fun _ _ => rfl)), rfl, ?_, fun t h => ?_⟩
  · have := C2.2.2.2.2
    rw [Nat.zero_add] at this
    exact this
  · have := P2.2.2 t h
    rw [Nat.zero_add] at this
    exact this
-- trace
noncomputable def tr_X (i n e : Int) : Int := if i < 0 ∨ n ≤ i then -1000002 else e
noncomputable def tr_s1 (r0 : Nat) (a : sx_V) : List (Nat × sx_V) := [(0, .inr (.inr r0)), (1, a)]
noncomputable def tr_f1 (j : Nat) (M : pq_M) (r0 ce : Nat) : Bool := ng_chk [(ce, 0, 100000)] [] [] 299 j M 0 [sh_lo] [] (tr_s1 r0 (fx_i 0)) [] [] [(sh_x (-1000002), [], [], [])] [] 6000
noncomputable def tr_f2 (j : Nat) (M : pq_M) (r0 cn pn ce : Nat) : Bool := ng_chk [(ce, 0, 100000)] [] [] 299 j M 0 [sy_full, (0, 40)] [(0, [(0, -1), (1, 1)])] (tr_s1 r0 (fx_i 0)) [] [sh_o cn pn (fx_i 1)] [(sh_x (-1000002), [], [], [])] [] 6000
noncomputable def tr_f3 (j : Nat) (M : pq_M) (r0 cn pn ce ca : Nat) : Bool := (List.range 40).all fun p => ng_chk [(ce, 0, 100000)] [] [] 299 j M 0 [((p : Int) + 1, 40), sy_full] [] (tr_s1 r0 (fx_k p)) [] [sh_o cn pn (fx_i 0), sh_o ca p (fx_i 1)] [(.inl (.inl (fx_i 1)), [], [], [])] [] 6000
theorem trc_f1 : tr_f1 138 pm_138 5 93 = true := by decide +kernel
theorem trc_f2 : tr_f2 138 pm_138 5 87 1 93 = true := by decide +kernel
theorem trc_f3 : tr_f3 138 pm_138 5 87 1 93 88 = true := by decide +kernel
theorem trm_f1 : tr_f1 240 pm_240 94 97 = true := by decide +kernel
theorem trm_f2 : tr_f2 240 pm_240 94 94 8 97 = true := by decide +kernel
theorem trm_f3 : tr_f3 240 pm_240 94 94 8 97 101 = true := by decide +kernel
theorem tr_gen {j : Nat} {M : pq_M} {r0 cn pn ce ca : Nat} (k1 : tr_f1 j M r0 ce = true) (k2 : tr_f2 j M r0 cn pn ce = true) (k3 : tr_f3 j M r0 cn pn ce ca = true) (hM : pq_tab[j]? = some M) (a : Int32) {w : pq_W} (ht : sx_Ty sx_T0 w) (hn : 0 ≤ sy_r w cn pn ∧ sy_r w cn pn ≤ 40) : ∃ res, pq_Go 299 M 0 (lv_args 0 [.ref r0, .int a]) [] w 0 0 res ∧ (∃ y : Int32, res.1 = some (.int y) ∧ y.toInt = tr_X a.toInt (sy_r w cn pn) (sy_r w ca a.toInt.toNat)) ∧ sx_Fr [(ce, 0, 100000)] w res.2 := by
  have ra := sh_i32 a
  by_cases h1 : a.toInt < 0
  · obtain ⟨res, g, t, f, q, hq, e⟩ := vo_one (ls := lv_args 0 [.ref r0, .int a]) (fx_p [a.toInt]) k1 hM ⟨ra.1, by show a.toInt ≤ -1; omega, trivial⟩ trivial ⟨rfl, ng_iy ⟨a, rfl, rfl⟩ rfl, trivial⟩ trivial ht
    cases List.mem_singleton.mp hq
    obtain ⟨y, y1, y2⟩ := sh_ans e.1
    exact ⟨res, g, ⟨y, y1, by rw [y2]; exact (if_pos (Or.inl h1)).symm⟩, f⟩
  by_cases h2 : sy_r w cn pn ≤ a.toInt
  · obtain ⟨res, g, t, f, q, hq, e⟩ := vo_one (ls := lv_args 0 [.ref r0, .int a]) (fx_p [a.toInt, sy_r w cn pn]) k2 hM ⟨ra.1, ra.2, hn.1, hn.2, trivial⟩ ⟨by show 0 + (-1 * a.toInt + (1 * sy_r w cn pn + 0)) ≤ 0; omega, trivial⟩ ⟨rfl, ng_iy ⟨a, rfl, rfl⟩ rfl, trivial⟩ (sh_eo (n := pn) (by rw [sx_y_ev]; rfl) rfl trivial) ht
    cases List.mem_singleton.mp hq
    obtain ⟨y, y1, y2⟩ := sh_ans e.1
    exact ⟨res, g, ⟨y, y1, by rw [y2]; exact (if_pos (Or.inr h2)).symm⟩, f⟩
  obtain ⟨p, ep⟩ : ∃ p : Nat, (p : Int) = a.toInt := ⟨a.toInt.toNat, by omega⟩
  have rv := sy_rb w ca p
  obtain ⟨res, g, t, f, q, hq, e⟩ := vo_one (ls := lv_args 0 [.ref r0, .int a]) (fx_p [sy_r w cn pn, sy_r w ca p]) (List.all_eq_true.mp k3 p (List.mem_range.mpr (by omega))) hM ⟨by show (p : Int) + 1 ≤ sy_r w cn pn; omega, hn.2, rv.1, rv.2, trivial⟩ trivial ⟨rfl, ng_ik ⟨a, rfl, rfl⟩ ep.symm, trivial⟩ (sh_eo (n := pn) (by rw [sx_y_ev]; rfl) rfl (sh_eo (n := p) (by rw [sx_y_ev]; rfl) rfl trivial)) ht
  cases List.mem_singleton.mp hq
  obtain ⟨y, y1, y2⟩ := e.1
  have y2 : y.toInt = sy_r w ca p := y2.trans (sx_y_ev _ _)
  have ep2 : a.toInt.toNat = p := by omega
  exact ⟨res, g, ⟨y, y1, by rw [y2, ep2]; exact (if_neg (by omega)).symm⟩, f⟩
