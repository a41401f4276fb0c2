/-! voices: the reference -/
noncomputable def vm_A : sx_A := [(94, 8, 8), (101, 0, 39)]
noncomputable def vm_C (P : Nat) (W : Int32) (K b : Nat) (w : pq_W) : Prop := sx_Ty sx_T0 w ∧ sx_wg w 94 24 = some (.int (nI P)) ∧ sy_r w 95 (266 + 3 * P) = (K : Int) ∧ sy_r w 95 (268 + 3 * P) = W.toInt ∧ sy_r w 94 8 = (b : Int)
theorem vm_Cm {P : Nat} {W : Int32} {K b b2 : Nat} {w w1 : pq_W} (h : vm_C P W K b w) (ht : sx_Ty sx_T0 w1) (f : sx_Fr vm_A w w1) (e : sy_r w1 94 8 = (b2 : Int)) : vm_C P W K b2 w1 := by
  have n : ∀ i, sy_r w1 95 i = sy_r w 95 i := fun i => fr_no f ⟨Or.inl (by decide), Or.inl (by decide), trivial⟩
  exact ⟨ht, by rw [f 94 24 (sy_nin (lo := 24) (hi := 24) rfl (by decide) (by decide))]; exact h.2.1, by rw [n]; exact h.2.2.1, by rw [n]; exact h.2.2.2.1, e⟩
theorem vm_Ce {P : Nat} {W : Int32} {K b b2 : Nat} {w : pq_W} (h : vm_C P W K b w) (e : b = b2) : vm_C P W K b2 w := e ▸ h
theorem vm_C0 {P : Nat} {W : Int32} {K b : Nat} {w w1 : pq_W} (h : vm_C P W K b w) (ht : sx_Ty sx_T0 w1) (f : sx_Fr [] w w1) : vm_C P W K b w1 := vm_Cm h ht (vo_P0 (A := vm_A) (c := 101) (b := 0) f).1 (by rw [(sy_r_fr f (fun ⟨q, hq, _⟩ => by cases hq) : sy_r w1 94 8 = sy_r w 94 8)]; exact h.2.2.2.2)
noncomputable def vo_has (k a : Nat) : Nat := if vo_at k a = k then 1 else 0
noncomputable def vo_ab (k : Nat) : Nat := [0, 0, 1, 0, 0, 3].getD k 0
theorem vo_dn : ∀ k, k < 6 → ∀ a, a < 4 → ¬ vo_at k a = k → vo_at (vo_ab k) a = vo_at k a ∧ vo_ab k < k := by decide
theorem vo_a6 : ∀ k, k < 6 → vo_ab k < 6 := by decide
noncomputable def vm_kh : Bool := (List.range 6).all fun k => (List.range 4).all fun a => ng_chk [] [] [] 5 237 pm_237 0 [] [] [(0, fx_k k), (1, fx_k a)] [] [] [(sh_x (vo_has k a), [], [], [])] [] 6000
theorem vm_kh_ok : vm_kh = true := by decide +kernel
theorem vm_hs {k a : Nat} {w : pq_W} (hk : k < 6) (ha : a < 4) (ht : sx_Ty sx_T0 w) : ∃ w1, pq_Ru 6 237 [.int (nI k), .int (nI a)] w (some (.int (nI (vo_has k a))), w1) ∧ sx_Ty sx_T0 w1 ∧ sx_Fr [] w w1 := by
  obtain ⟨⟨x, w1⟩, g, t, f, q, hq, h1⟩ := vo_one (ls := lv_args 0 [.int (nI k), .int (nI a)]) (fx_p []) (List.all_eq_true.mp (List.all_eq_true.mp vm_kh_ok k (List.mem_range.mpr hk)) a (List.mem_range.mpr ha)) (M := pm_237) rfl trivial trivial ⟨ng_ik ⟨nI k, rfl, rfl⟩ (nI_toInt (by omega)), ng_ik ⟨nI a, rfl, rfl⟩ (nI_toInt (by omega)), trivial⟩ trivial ht
  cases List.mem_singleton.mp hq
  obtain ⟨y, y1, y2⟩ := sh_ans h1.1
  have l : vo_has k a < 2 := by
    unfold vo_has
    split <;> decide
  have e : y = nI (vo_has k a) := Int32.toInt_inj.mp (by rw [y2, nI_toInt (by omega)])
  have y1 : x = some (.int y) := y1
  subst y1
  subst e
  exact ⟨w1, ru_of (k := 5) (M := pm_237) rfl rfl g, t, f⟩
noncomputable def vm_ka : Bool := [1, 2, 3, 4, 5].all fun (k : Nat) => ng_chk [] [] [] 5 178 pm_178 0 [] [] [(0, fx_k k)] [] [] [(sh_x (vo_ab k), [], [], [])] [] 6000
theorem vm_ka_ok : vm_ka = true := by decide +kernel
theorem vm_ab {k : Nat} {w : pq_W} (h1 : 1 ≤ k) (hk : k < 6) (ht : sx_Ty sx_T0 w) : ∃ w1, pq_Ru 6 178 [.int (nI k)] w (some (.int (nI (vo_ab k))), w1) ∧ sx_Ty sx_T0 w1 ∧ sx_Fr [] w w1 := by
  have hm : k ∈ [1, 2, 3, 4, 5] := by
    have : k = 1 ∨ k = 2 ∨ k = 3 ∨ k = 4 ∨ k = 5 := by omega
    rcases this with rfl | rfl | rfl | rfl | rfl <;> decide
  obtain ⟨⟨x, w1⟩, g, t, f, q, hq, h1⟩ := vo_one (ls := lv_args 0 [.int (nI k)]) (fx_p []) (List.all_eq_true.mp vm_ka_ok k hm) (M := pm_178) rfl trivial trivial ⟨ng_ik ⟨nI k, rfl, rfl⟩ (nI_toInt (by omega)), trivial⟩ trivial ht
  cases List.mem_singleton.mp hq
  obtain ⟨y, y1, y2⟩ := sh_ans h1.1
  have l := vo_a6 k hk
  have e : y = nI (vo_ab k) := Int32.toInt_inj.mp (by rw [y2, nI_toInt (by omega)])
  have y1 : x = some (.int y) := y1
  subst y1
  subst e
  exact ⟨w1, ru_of (k := 5) (M := pm_178) rfl rfl g, t, f⟩
noncomputable def vm_kp : Bool := (List.range 12).all fun p => [0, 2].all fun (f : Nat) => ng_chk [] [] [] 5 177 pm_177 0 [sy_full] [] [(0, .inr (.inr 94)), (1, fx_k p), (2, fx_k f)] [] [sh_o 95 (266 + 3 * p + f) (fx_i 0)] [(.inl (.inl (fx_i 0)), [], [], [])] [] 6000
theorem vm_kp_ok : vm_kp = true := by decide +kernel
theorem vm_pl {p f : Nat} {F y : Int32} {w : pq_W} (hp : p < 12) (hf : f ∈ [0, 2]) (hF : F.toInt = (f : Int)) (hy : sy_r w 95 (266 + 3 * p + f) = y.toInt) (ht : sx_Ty sx_T0 w) : ∃ w1, pq_Ru 6 177 [.ref 94, .int (nI p), .int F] w (some (.int y), w1) ∧ sx_Ty sx_T0 w1 ∧ sx_Fr [] w w1 := by
  obtain ⟨⟨x, w1⟩, g, t, fr, q, hq, h1⟩ := vo_one (ls := lv_args 0 [.ref 94, .int (nI p), .int F]) (fx_p [y.toInt]) (List.all_eq_true.mp (List.all_eq_true.mp vm_kp_ok p (List.mem_range.mpr hp)) f hf) (M := pm_177) rfl ⟨y.minValue_le_toInt, y.toInt_le, trivial⟩ trivial ⟨rfl, ng_ik ⟨nI p, rfl, rfl⟩ (nI_toInt (by omega)), ng_ik ⟨F, rfl, rfl⟩ hF, trivial⟩ (sh_eo (n := 266 + 3 * p + f) (by rw [hy, sx_y_ev]; rfl) (by omega) trivial) ht
  cases List.mem_singleton.mp hq
  obtain ⟨z, z1, z2⟩ := h1.1
  have z2 : z.toInt = y.toInt := z2.trans (sx_y_ev _ _)
  have e := Int32.toInt_inj.mp z2
  have z1 : x = some (.int z) := z1
  subst z1
  subst e
  exact ⟨w1, ru_of (k := 5) (M := pm_177) rfl (by rw [Bool.and_eq_true]; exact ⟨rfl, sq_rcv ht rfl rfl rfl⟩) g, t, fr⟩
noncomputable def vm_kn : Bool := (List.range 40).all fun b => ng_chk [(94, 8, 8), (101, (b : Int), (b : Int))] [] [] 5 239 pm_239 0 [(0, 99)] [] [(0, .inr (.inr 94)), (1, fx_i 0)] [] [sh_o 94 8 (fx_k b)] [(.inr (), [sh_o 94 8 (fx_k (b + 1)), sh_o 101 b (fx_i 0)], [], [])] [] 6000
theorem vm_kn_ok : vm_kn = true := by decide +kernel
theorem vm_nt {P : Nat} {W F : Int32} {K b B : Nat} {w : pq_W} (hb : b < 40) (hB : B < 100) (hF : F.toInt = (B : Int)) (hC : vm_C P W K b w) : ∃ w1, pq_Ru 6 239 [.ref 94, .int F] w (none, w1) ∧ vm_C P W K (b + 1) w1 ∧ vo_P vm_A 101 b [B] w w1 := by
  obtain ⟨⟨x, w1⟩, g, t, f, q, hq, h1⟩ := vo_one (ls := lv_args 0 [.ref 94, .int F]) (fx_p [(B : Int)]) (List.all_eq_true.mp vm_kn_ok b (List.mem_range.mpr hb)) (M := pm_239) rfl ⟨by show (0 : Int) ≤ (B : Int); omega, by show (B : Int) ≤ 99; omega, trivial⟩ trivial ⟨rfl, ng_iy ⟨F, rfl, rfl⟩ (by rw [hF]; rfl), trivial⟩ (sh_eo (n := 8) (by rw [ng_ek]; exact hC.2.2.2.2) rfl trivial) hC.1
  cases List.mem_singleton.mp hq
  have y1 : x = none := h1.1
  subst y1
  obtain ⟨e1, h2⟩ := sh_oe (n := 8) h1.2.1 rfl
  obtain ⟨e2, _⟩ := sh_oe (n := b) h2 rfl
  rw [ng_ek] at e1
  have e2 : sy_r w1 101 b = (B : Int) := e2.trans (sx_y_ev _ _)
  have f1 : sx_Fr vm_A w w1 := fun r i h => f r i (fun ⟨q, hq, e, l1, l2⟩ => h (by
    cases List.mem_cons.mp hq with
    | inl hq => subst hq; exact ⟨_, List.mem_cons_self, e, l1, l2⟩
    | inr hq =>
      cases List.mem_singleton.mp hq
      have l1 : (b : Int) ≤ i := l1
      have l2 : (i : Int) ≤ b := l2
      exact ⟨_, List.mem_cons_of_mem _ List.mem_cons_self, e, by show (0 : Int) ≤ i; omega, by show (i : Int) ≤ 39; omega⟩))
  refine ⟨w1, ru_of (k := 5) (M := pm_239) rfl (by rw [Bool.and_eq_true]; exact ⟨rfl, sq_rcv hC.1 rfl rfl rfl⟩) g, vm_Cm hC t f1 (by rw [show w1 = (none, w1).2 from rfl, e1]; omega), f1, fun i hi => ?_, fun s hs => ?_⟩
  · exact fr_no f ⟨Or.inl (by decide), Or.inr (by omega), trivial⟩
  · have hs : s < 1 := hs
    have : s = 0 := by omega
    subst this
    exact e2
theorem vm_lp {P : Nat} {W x : Int32} {K b a kk k0 : Nat} {w : pq_W} {Q : pq_R → Prop} (ha : a < 4) (h6 : Nat.ble 6 kk = true) (p : Nat) (h : ∀ w1, vm_C P W K b w1 → sx_Fr [] w w1 → ∃ res, pq_Go kk pm_236 22 [(4, .int (nI p)), (0, .ref 94), (1, .int (nI k0)), (2, .int (nI a)), (3, .int x)] [] w1 0 0 res ∧ Q res) : ∀ (n k : Nat) (w0 : pq_W), k ≤ n → k < 6 → vo_at k a = p → vm_C P W K b w0 → sx_Fr [] w w0 → ∃ res, pq_Go kk pm_236 3 [(4, .int (nI k)), (0, .ref 94), (1, .int (nI k0)), (2, .int (nI a)), (3, .int x)] [] w0 0 0 res ∧ Q res := by
  intro n
  induction n with
  | zero =>
    intro k w0 h0 hk hp hC hf
    have e : k = 0 := by omega
    subst e
    obtain ⟨w1, r1, t1, f1⟩ := vm_hs hk ha hC.1
    have hh : vo_at 0 a = 0 := by
      have h : ∀ a, a < 4 → vo_at 0 a = 0 := by decide
      exact h a ha
    have hp0 : p = 0 := by rw [← hp, hh]
    subst hp0
    have e1 : vo_has 0 a = 1 := if_pos hh
    rw [e1] at r1
    obtain ⟨res, hg, hQ⟩ := h w1 (vm_C0 hC t1 f1) (sx_Fr_trans hf f1)
    refine ⟨res, ?_, hQ⟩
    refine go_seg 2 (pc' := 6) (ls' := [(4, .int (nI 0)), (0, .ref 94), (1, .int (nI k0)), (2, .int (nI a)), (3, .int x)]) (st' := [.int (nI a), .int (nI 0)]) (w' := w0) (cs' := 0) (ss' := 0) ?_ (fun _ _ => rfl)
    refine go_cl (as := [.int (nI 0), .int (nI a)]) (r := some (.int (nI 1))) (st' := [.int (nI 1)]) (cs' := 0) (ss' := 0) (k1 := 6) rfl rfl rfl rfl rfl rfl h6 r1 ?_
    refine go_if true rfl (by decide +kernel) ?_
    exact hg
  | succ n ih =>
    intro k w0 h0 hk hp hC hf
    obtain ⟨w1, r1, t1, f1⟩ := vm_hs hk ha hC.1
    have C1 := vm_C0 hC t1 f1
    by_cases hh : vo_at k a = k
    · have hp0 : k = p := by rw [← hp, hh]
      subst hp0
      have e1 : vo_has k a = 1 := if_pos hh
      rw [e1] at r1
      obtain ⟨res, hg, hQ⟩ := h w1 C1 (sx_Fr_trans hf f1)
      refine ⟨res, ?_, hQ⟩
      refine go_seg 2 (pc' := 6) (ls' := [(4, .int (nI k)), (0, .ref 94), (1, .int (nI k0)), (2, .int (nI a)), (3, .int x)]) (st' := [.int (nI a), .int (nI k)]) (w' := w0) (cs' := 0) (ss' := 0) ?_ (fun _ _ => rfl)
      refine go_cl (as := [.int (nI k), .int (nI a)]) (r := some (.int (nI 1))) (st' := [.int (nI 1)]) (cs' := 0) (ss' := 0) (k1 := 6) rfl rfl rfl rfl rfl rfl h6 r1 ?_
      refine go_if true rfl (by decide +kernel) ?_
      exact hg
    · have e1 : vo_has k a = 0 := if_neg hh
      rw [e1] at r1
      obtain ⟨d1, d2⟩ := vo_dn k hk a ha hh
      obtain ⟨w2, r2, t2, f2⟩ := vm_ab (by omega) hk t1
      obtain ⟨res, hg, hQ⟩ := ih (vo_ab k) w2 (by omega) (vo_a6 k hk) (by rw [d1, hp]) (vm_C0 C1 t2 f2) (sx_Fr_trans hf (sx_Fr_trans f1 f2))
      refine ⟨res, ?_, hQ⟩
      refine go_seg 2 (pc' := 6) (ls' := [(4, .int (nI k)), (0, .ref 94), (1, .int (nI k0)), (2, .int (nI a)), (3, .int x)]) (st' := [.int (nI a), .int (nI k)]) (w' := w0) (cs' := 0) (ss' := 0) ?_ (fun _ _ => rfl)
      refine go_cl (as := [.int (nI k), .int (nI a)]) (r := some (.int (nI 0))) (st' := [.int (nI 0)]) (cs' := 0) (ss' := 0) (k1 := 6) rfl rfl rfl rfl rfl rfl h6 r1 ?_
      refine go_if false rfl (by decide +kernel) ?_
      refine go_seg 1 (pc' := 14) (ls' := [(4, .int (nI k)), (0, .ref 94), (1, .int (nI k0)), (2, .int (nI a)), (3, .int x)]) (st' := [.int (nI k)]) (w' := w1) (cs' := 0) (ss' := 0) ?_ (fun _ _ => rfl)
      refine go_cl (as := [.int (nI k)]) (r := some (.int (nI (vo_ab k)))) (st' := [.int (nI (vo_ab k))]) (cs' := 0) (ss' := 0) (k1 := 6) rfl rfl rfl rfl rfl rfl h6 r2 ?_
      refine go_seg 2 (pc' := 3) (ls' := [(4, .int (nI (vo_ab k))), (0, .ref 94), (1, .int (nI k0)), (2, .int (nI a)), (3, .int x)]) (st' := []) (w' := w2) (cs' := 0) (ss' := 0) ?_ (fun _ _ => rfl)
      exact hg
noncomputable def vm_bok (P : Nat) (W : Int32) (K : Nat) (f : Nat) : Prop := ∀ (k a b : Nat) (x v : Int32) (l : List Nat) (w : pq_W), k < 6 → a < 4 → vo_e (nI P) W K f k a x = some (v, l) → vm_C P W K b w → b + l.length ≤ 40 → ∃ w1, pq_Ru (10 + 3 * f) 236 [.ref 94, .int (nI k), .int (nI a), .int x] w (some (.int v), w1) ∧ vm_C P W K (b + l.length) w1 ∧ vo_P vm_A 101 b l w w1
theorem vm_vc {P : Nat} {W : Int32} {K f : Nat} (hP : P < 12) (hK : K < 6) (ih : vm_bok P W K f) (a b : Nat) (x v : Int32) (l : List Nat) (w : pq_W) (ha : a < 4) (he : vo_e (nI P) W K f K a x = some (v, l)) (hC : vm_C P W K b w) (hb : b + l.length ≤ 40) : ∃ w1, pq_Ru (10 + 3 * f + 1) 235 [.ref 94, .int (nI a), .int x] w (some (.int v), w1) ∧ vm_C P W K (b + l.length) w1 ∧ vo_P vm_A 101 b l w w1 := by
  obtain ⟨w1, r1, t1, f1⟩ := vm_pl (p := P) (f := 0) (F := 0) (y := nI K) hP (by decide) rfl (by rw [nI_toInt (by omega)]; exact hC.2.2.1) hC.1
  have C1 := vm_C0 hC t1 f1
  obtain ⟨w2, r2, C2, P2⟩ := ih K a b x v l w1 hK ha he C1 hb
  refine ⟨w2, ru_of (k := 10 + 3 * f) (M := pm_235) rfl (by rw [Bool.and_eq_true]; exact ⟨rfl, sq_rcv hC.1 rfl rfl rfl⟩) ?_, C2, vo_Pt (vo_P0 f1) rfl P2⟩
  refine go_seg 3 (pc' := 3) (ls' := [(0, .ref 94), (1, .int (nI a)), (2, .int x)]) (st' := [.ref 94, .ref 94, .ref 94]) (w' := w) (cs' := 0) (ss' := 0) ?_ (fun _ _ => rfl)
  refine go_gf (z := .int (nI P)) rfl hC.1 rfl rfl hC.2.1 ?_
  refine go_seg 1 (pc' := 7) (ls' := [(0, .ref 94), (1, .int (nI a)), (2, .int x)]) (st' := [.int 0, .int (nI P), .ref 94, .ref 94]) (w' := w) (cs' := 0) (ss' := 0) ?_ (fun _ _ => rfl)
  refine go_cl (as := [.ref 94, .int (nI P), .int 0]) (r := some (.int (nI K))) (st' := [.int (nI K), .ref 94]) (cs' := 0) (ss' := 0) (k1 := 6) rfl rfl rfl rfl rfl rfl (Nat.ble_eq_true_of_le (by omega)) r1 ?_
  refine go_seg 2 (pc' := 12) (ls' := [(0, .ref 94), (1, .int (nI a)), (2, .int x)]) (st' := [.int x, .int (nI a), .int (nI K), .ref 94]) (w' := w1) (cs' := 0) (ss' := 0) ?_ (fun _ _ => rfl)
  refine go_cl (as := [.ref 94, .int (nI K), .int (nI a), .int x]) (r := some (.int v)) (st' := [.int v]) (cs' := 0) (ss' := 0) (k1 := (10 + 3 * f)) rfl rfl rfl rfl rfl rfl (Nat.ble_eq_true_of_le (by omega)) r2 ?_
  exact go_end 1 (fun _ _ => rfl)
theorem vm_pre {P : Nat} {W x : Int32} {K b p a kk : Nat} {w : pq_W} {Q : pq_R → Prop} (hP : P < 12) (hC : vm_C P W K b w) (h6 : Nat.ble 6 kk = true) (h : ∀ w1, vm_C P W K b w1 → sx_Fr [] w w1 → ∃ res, pq_Go kk pm_238 16 [(4, .int W), (0, .ref 94), (1, .int (nI p)), (2, .int (nI a)), (3, .int x)] [.int ((4 * (nI p)) + (nI a))] w1 0 0 res ∧ Q res) : ∃ res, pq_Go kk pm_238 0 (lv_args 0 [.ref 94, .int (nI p), .int (nI a), .int x]) [] w 0 0 res ∧ Q res := by
  obtain ⟨w1, r1, t1, f1⟩ := vm_pl (p := P) (f := 2) (F := 2) (y := W) hP (by decide) rfl (by rw [show 266 + 3 * P + 2 = 268 + 3 * P by omega]; exact hC.2.2.2.1) hC.1
  obtain ⟨res, hg, hQ⟩ := h w1 (vm_C0 hC t1 f1) f1
  refine ⟨res, ?_, hQ⟩
  refine go_seg 2 (pc' := 2) (ls' := [(0, .ref 94), (1, .int (nI p)), (2, .int (nI a)), (3, .int x)]) (st' := [.ref 94, .ref 94]) (w' := w) (cs' := 0) (ss' := 0) ?_ (fun _ _ => rfl)
  refine go_gf (z := .int (nI P)) rfl hC.1 rfl rfl hC.2.1 ?_
  refine go_seg 1 (pc' := 6) (ls' := [(0, .ref 94), (1, .int (nI p)), (2, .int (nI a)), (3, .int x)]) (st' := [.int 2, .int (nI P), .ref 94]) (w' := w) (cs' := 0) (ss' := 0) ?_ (fun _ _ => rfl)
  refine go_cl (as := [.ref 94, .int (nI P), .int 2]) (r := some (.int W)) (st' := [.int W]) (cs' := 0) (ss' := 0) (k1 := 6) rfl rfl rfl rfl rfl rfl h6 r1 ?_
  refine go_seg 6 (pc' := 16) (ls' := [(4, .int W), (0, .ref 94), (1, .int (nI p)), (2, .int (nI a)), (3, .int x)]) (st' := [.int ((4 * (nI p)) + (nI a))]) (w' := w1) (cs' := 0) (ss' := 0) ?_ (fun _ _ => rfl)
  exact hg
theorem vm_0 {P : Nat} {W : Int32} {K f : Nat} (hP : P < 12) (hK : K < 6) (ih : vm_bok P W K f) {b : Nat} {x v : Int32} {l : List Nat} {w : pq_W} (he : vo_S (nI P) W K (vo_e (nI P) W K f) x 0 = some (v, l)) (hC : vm_C P W K b w) (hb : b + l.length ≤ 40) : ∃ w1, pq_Ru (12 + 3 * f) 238 [.ref 94, .int (nI 0), .int (nI 0), .int x] w (some (.int v), w1) ∧ vm_C P W K (b + l.length) w1 ∧ vo_P vm_A 101 b l w w1 := by
  have he : some (x + W, [10]) = some (v, l) := he
  cases he
  have key : ∃ res, pq_Go (11 + 3 * f) pm_238 0 (lv_args 0 [.ref 94, .int (nI 0), .int (nI 0), .int x]) [] w 0 0 res ∧ (res.1 = some (.int (x + W)) ∧ vm_C P W K (b + 1) res.2 ∧ vo_P vm_A 101 b [10] w res.2) := by
    refine vm_pre hP hC (Nat.ble_eq_true_of_le (by omega)) (fun w1 C1 f1 => ?_)
    obtain ⟨w2, r2, C2, P2⟩ := vm_nt (F := 10) (B := 10) (by simp only [List.length_cons, List.length_append, List.length_nil] at * <;> omega) (by decide) rfl C1
    refine ⟨(some (.int (x + W)), w2), ?_, rfl, C2, vo_Pt (vo_P0 f1) rfl P2⟩
    refine go_sw (tgt := 124) rfl (by decide +kernel) ?_
    refine go_seg 2 (pc' := 127) (ls' := [(4, .int W), (0, .ref 94), (1, .int (nI 0)), (2, .int (nI 0)), (3, .int x)]) (st' := [.int 10, .ref 94]) (w' := w1) (cs' := 0) (ss' := 0) ?_ (fun _ _ => rfl)
    refine go_cl (as := [.ref 94, .int 10]) (r := none) (st' := []) (cs' := 0) (ss' := 0) (k1 := 6) rfl rfl rfl rfl rfl rfl (Nat.ble_eq_true_of_le (by omega)) r2 ?_
    exact go_end 4 (fun _ _ => rfl)
  obtain ⟨⟨y, w1⟩, hg, h1, h2, h3⟩ := key
  have h1 : y = some (.int (x + W)) := h1
  subst h1
  exact ⟨w1, ru_mono (ru_of (k := 11 + 3 * f) (M := pm_238) rfl (by rw [Bool.and_eq_true]; exact ⟨rfl, sq_rcv hC.1 rfl rfl rfl⟩) hg) (by omega), vm_Ce h2 (by simp only [List.length_cons, List.length_append, List.length_nil] at * <;> omega), h3⟩
theorem vm_1 {P : Nat} {W : Int32} {K f : Nat} (hP : P < 12) (hK : K < 6) (ih : vm_bok P W K f) {b : Nat} {x v : Int32} {l : List Nat} {w : pq_W} (he : vo_S (nI P) W K (vo_e (nI P) W K f) x 1 = some (v, l)) (hC : vm_C P W K b w) (hb : b + l.length ≤ 40) : ∃ w1, pq_Ru (12 + 3 * f) 238 [.ref 94, .int (nI 0), .int (nI 1), .int x] w (some (.int v), w1) ∧ vm_C P W K (b + l.length) w1 ∧ vo_P vm_A 101 b l w w1 := by
  obtain ⟨v1, l1, e1, hv, rfl⟩ := vo_1_of he
  have hv : (v1 * 2) = v := hv.symm
  subst hv
  have key : ∃ res, pq_Go (11 + 3 * f) pm_238 0 (lv_args 0 [.ref 94, .int (nI 0), .int (nI 1), .int x]) [] w 0 0 res ∧ (res.1 = some (.int (v1 * 2)) ∧ vm_C P W K (b + (1 + l1.length)) res.2 ∧ vo_P vm_A 101 b (11 :: l1) w res.2) := by
    refine vm_pre hP hC (Nat.ble_eq_true_of_le (by omega)) (fun w1 C1 f1 => ?_)
    obtain ⟨w2, r2, C2, P2⟩ := vm_nt (F := 11) (B := 11) (by simp only [List.length_cons, List.length_append, List.length_nil] at * <;> omega) (by decide) rfl C1
    obtain ⟨w3, r3, C3, P3⟩ := vm_vc hP hK ih 0 (b + 1) (x) v1 l1 w2 (by decide) e1 C2 (by simp only [List.length_cons, List.length_append, List.length_nil] at * <;> omega)
    refine ⟨(some (.int (v1 * 2)), w3), ?_, rfl, vm_Ce C3 (by simp only [List.length_cons, List.length_append, List.length_nil] at * <;> omega), vo_Pt (vo_P0 f1) rfl (vo_Pt P2 rfl P3)⟩
    refine go_sw (tgt := 135) rfl (by decide +kernel) ?_
    refine go_seg 2 (pc' := 138) (ls' := [(4, .int W), (0, .ref 94), (1, .int (nI 0)), (2, .int (nI 1)), (3, .int x)]) (st' := [.int 11, .ref 94]) (w' := w1) (cs' := 0) (ss' := 0) ?_ (fun _ _ => rfl)
    refine go_cl (as := [.ref 94, .int 11]) (r := none) (st' := []) (cs' := 0) (ss' := 0) (k1 := 6) rfl rfl rfl rfl rfl rfl (Nat.ble_eq_true_of_le (by omega)) r2 ?_
    refine go_seg 3 (pc' := 144) (ls' := [(4, .int W), (0, .ref 94), (1, .int (nI 0)), (2, .int (nI 1)), (3, .int x)]) (st' := [.int x, .int 0, .ref 94]) (w' := w2) (cs' := 0) (ss' := 0) ?_ (fun _ _ => rfl)
    refine go_cl (as := [.ref 94, .int 0, .int x]) (r := some (.int v1)) (st' := [.int v1]) (cs' := 0) (ss' := 0) (k1 := (10 + 3 * f + 1)) rfl rfl rfl rfl rfl rfl (Nat.ble_eq_true_of_le (by omega)) r3 ?_
    exact go_end 3 (fun _ _ => rfl)
  obtain ⟨⟨y, w1⟩, hg, h1, h2, h3⟩ := key
  have h1 : y = some (.int (v1 * 2)) := h1
  subst h1
  exact ⟨w1, ru_mono (ru_of (k := 11 + 3 * f) (M := pm_238) rfl (by rw [Bool.and_eq_true]; exact ⟨rfl, sq_rcv hC.1 rfl rfl rfl⟩) hg) (by omega), vm_Ce h2 (by simp only [List.length_cons, List.length_append, List.length_nil] at * <;> omega), h3⟩
theorem vm_2 {P : Nat} {W : Int32} {K f : Nat} (hP : P < 12) (hK : K < 6) (ih : vm_bok P W K f) {b : Nat} {x v : Int32} {l : List Nat} {w : pq_W} (he : vo_S (nI P) W K (vo_e (nI P) W K f) x 2 = some (v, l)) (hC : vm_C P W K b w) (hb : b + l.length ≤ 40) : ∃ w1, pq_Ru (12 + 3 * f) 238 [.ref 94, .int (nI 0), .int (nI 2), .int x] w (some (.int v), w1) ∧ vm_C P W K (b + l.length) w1 ∧ vo_P vm_A 101 b l w w1 := by
  have he : some (x - nI P, [12]) = some (v, l) := he
  cases he
  have key : ∃ res, pq_Go (11 + 3 * f) pm_238 0 (lv_args 0 [.ref 94, .int (nI 0), .int (nI 2), .int x]) [] w 0 0 res ∧ (res.1 = some (.int (x - nI P)) ∧ vm_C P W K (b + 1) res.2 ∧ vo_P vm_A 101 b [12] w res.2) := by
    refine vm_pre hP hC (Nat.ble_eq_true_of_le (by omega)) (fun w1 C1 f1 => ?_)
    obtain ⟨w2, r2, C2, P2⟩ := vm_nt (F := 12) (B := 12) (by simp only [List.length_cons, List.length_append, List.length_nil] at * <;> omega) (by decide) rfl C1
    refine ⟨(some (.int (x - nI P)), w2), ?_, rfl, C2, vo_Pt (vo_P0 f1) rfl P2⟩
    refine go_sw (tgt := 150) rfl (by decide +kernel) ?_
    refine go_seg 2 (pc' := 153) (ls' := [(4, .int W), (0, .ref 94), (1, .int (nI 0)), (2, .int (nI 2)), (3, .int x)]) (st' := [.int 12, .ref 94]) (w' := w1) (cs' := 0) (ss' := 0) ?_ (fun _ _ => rfl)
    refine go_cl (as := [.ref 94, .int 12]) (r := none) (st' := []) (cs' := 0) (ss' := 0) (k1 := 6) rfl rfl rfl rfl rfl rfl (Nat.ble_eq_true_of_le (by omega)) r2 ?_
    refine go_seg 2 (pc' := 158) (ls' := [(4, .int W), (0, .ref 94), (1, .int (nI 0)), (2, .int (nI 2)), (3, .int x)]) (st' := [.ref 94, .int x]) (w' := w2) (cs' := 0) (ss' := 0) ?_ (fun _ _ => rfl)
    refine go_gf (z := .int (nI P)) rfl C2.1 rfl rfl C2.2.1 ?_
    exact go_end 2 (fun _ _ => rfl)
  obtain ⟨⟨y, w1⟩, hg, h1, h2, h3⟩ := key
  have h1 : y = some (.int (x - nI P)) := h1
  subst h1
  exact ⟨w1, ru_mono (ru_of (k := 11 + 3 * f) (M := pm_238) rfl (by rw [Bool.and_eq_true]; exact ⟨rfl, sq_rcv hC.1 rfl rfl rfl⟩) hg) (by omega), vm_Ce h2 (by simp only [List.length_cons, List.length_append, List.length_nil] at * <;> omega), h3⟩
theorem vm_3 {P : Nat} {W : Int32} {K f : Nat} (hP : P < 12) (hK : K < 6) (ih : vm_bok P W K f) {b : Nat} {x v : Int32} {l : List Nat} {w : pq_W} (he : vo_S (nI P) W K (vo_e (nI P) W K f) x 3 = some (v, l)) (hC : vm_C P W K b w) (hb : b + l.length ≤ 40) : ∃ w1, pq_Ru (12 + 3 * f) 238 [.ref 94, .int (nI 0), .int (nI 3), .int x] w (some (.int v), w1) ∧ vm_C P W K (b + l.length) w1 ∧ vo_P vm_A 101 b l w w1 := by
  obtain ⟨v1, l1, v2, l2, e1, e2, hv, rfl⟩ := vo_2_of he
  have hv : (v1 ^^^ v2) = v := hv.symm
  subst hv
  have key : ∃ res, pq_Go (11 + 3 * f) pm_238 0 (lv_args 0 [.ref 94, .int (nI 0), .int (nI 3), .int x]) [] w 0 0 res ∧ (res.1 = some (.int (v1 ^^^ v2)) ∧ vm_C P W K (b + (1 + (l1.length + l2.length))) res.2 ∧ vo_P vm_A 101 b (13 :: (l1 ++ l2)) w res.2) := by
    refine vm_pre hP hC (Nat.ble_eq_true_of_le (by omega)) (fun w1 C1 f1 => ?_)
    obtain ⟨w2, r2, C2, P2⟩ := vm_nt (F := 13) (B := 13) (by simp only [List.length_cons, List.length_append, List.length_nil] at * <;> omega) (by decide) rfl C1
    obtain ⟨w3, r3, C3, P3⟩ := vm_vc hP hK ih 1 (b + 1) (x) v1 l1 w2 (by decide) e1 C2 (by simp only [List.length_cons, List.length_append, List.length_nil] at * <;> omega)
    obtain ⟨w4, r4, C4, P4⟩ := vm_vc hP hK ih 2 (b + 1 + l1.length) (x) v2 l2 w3 (by decide) e2 C3 (by simp only [List.length_cons, List.length_append, List.length_nil] at * <;> omega)
    refine ⟨(some (.int (v1 ^^^ v2)), w4), ?_, rfl, vm_Ce C4 (by simp only [List.length_cons, List.length_append, List.length_nil] at * <;> omega), vo_Pt (vo_P0 f1) rfl (vo_Pt P2 rfl (vo_Pt P3 rfl P4))⟩
    refine go_sw (tgt := 163) rfl (by decide +kernel) ?_
    refine go_seg 2 (pc' := 166) (ls' := [(4, .int W), (0, .ref 94), (1, .int (nI 0)), (2, .int (nI 3)), (3, .int x)]) (st' := [.int 13, .ref 94]) (w' := w1) (cs' := 0) (ss' := 0) ?_ (fun _ _ => rfl)
    refine go_cl (as := [.ref 94, .int 13]) (r := none) (st' := []) (cs' := 0) (ss' := 0) (k1 := 6) rfl rfl rfl rfl rfl rfl (Nat.ble_eq_true_of_le (by omega)) r2 ?_
    refine go_seg 3 (pc' := 172) (ls' := [(4, .int W), (0, .ref 94), (1, .int (nI 0)), (2, .int (nI 3)), (3, .int x)]) (st' := [.int x, .int 1, .ref 94]) (w' := w2) (cs' := 0) (ss' := 0) ?_ (fun _ _ => rfl)
    refine go_cl (as := [.ref 94, .int 1, .int x]) (r := some (.int v1)) (st' := [.int v1]) (cs' := 0) (ss' := 0) (k1 := (10 + 3 * f + 1)) rfl rfl rfl rfl rfl rfl (Nat.ble_eq_true_of_le (by omega)) r3 ?_
    refine go_seg 5 (pc' := 182) (ls' := [(5, .int v1), (4, .int W), (0, .ref 94), (1, .int (nI 0)), (2, .int (nI 3)), (3, .int x)]) (st' := [.int x, .int 2, .ref 94, .int v1]) (w' := w3) (cs' := 0) (ss' := 0) ?_ (fun _ _ => rfl)
    refine go_cl (as := [.ref 94, .int 2, .int x]) (r := some (.int v2)) (st' := [.int v2, .int v1]) (cs' := 0) (ss' := 0) (k1 := (10 + 3 * f + 1)) rfl rfl rfl rfl rfl rfl (Nat.ble_eq_true_of_le (by omega)) r4 ?_
    exact go_end 2 (fun _ _ => rfl)
  obtain ⟨⟨y, w1⟩, hg, h1, h2, h3⟩ := key
  have h1 : y = some (.int (v1 ^^^ v2)) := h1
  subst h1
  exact ⟨w1, ru_mono (ru_of (k := 11 + 3 * f) (M := pm_238) rfl (by rw [Bool.and_eq_true]; exact ⟨rfl, sq_rcv hC.1 rfl rfl rfl⟩) hg) (by omega), vm_Ce h2 (by simp only [List.length_cons, List.length_append, List.length_nil] at * <;> omega), h3⟩
theorem vm_4 {P : Nat} {W : Int32} {K f : Nat} (hP : P < 12) (hK : K < 6) (ih : vm_bok P W K f) {b : Nat} {x v : Int32} {l : List Nat} {w : pq_W} (he : vo_S (nI P) W K (vo_e (nI P) W K f) x 4 = some (v, l)) (hC : vm_C P W K b w) (hb : b + l.length ≤ 40) : ∃ w1, pq_Ru (12 + 3 * f) 238 [.ref 94, .int (nI 1), .int (nI 0), .int x] w (some (.int v), w1) ∧ vm_C P W K (b + l.length) w1 ∧ vo_P vm_A 101 b l w w1 := by
  obtain ⟨v1, l1, e1, hv, rfl⟩ := vo_1_of he
  have hv : (v1 + nI P) = v := hv.symm
  subst hv
  have key : ∃ res, pq_Go (11 + 3 * f) pm_238 0 (lv_args 0 [.ref 94, .int (nI 1), .int (nI 0), .int x]) [] w 0 0 res ∧ (res.1 = some (.int (v1 + nI P)) ∧ vm_C P W K (b + (1 + l1.length)) res.2 ∧ vo_P vm_A 101 b (20 :: l1) w res.2) := by
    refine vm_pre hP hC (Nat.ble_eq_true_of_le (by omega)) (fun w1 C1 f1 => ?_)
    obtain ⟨w2, r2, C2, P2⟩ := vm_nt (F := 20) (B := 20) (by simp only [List.length_cons, List.length_append, List.length_nil] at * <;> omega) (by decide) rfl C1
    obtain ⟨w3, r3, C3, P3⟩ := ih 0 0 (b + 1) (x) v1 l1 w2 (by decide) (by decide) e1 C2 (by simp only [List.length_cons, List.length_append, List.length_nil] at * <;> omega)
    refine ⟨(some (.int (v1 + nI P)), w3), ?_, rfl, vm_Ce C3 (by simp only [List.length_cons, List.length_append, List.length_nil] at * <;> omega), vo_Pt (vo_P0 f1) rfl (vo_Pt P2 rfl P3)⟩
    refine go_sw (tgt := 187) rfl (by decide +kernel) ?_
    refine go_seg 2 (pc' := 190) (ls' := [(4, .int W), (0, .ref 94), (1, .int (nI 1)), (2, .int (nI 0)), (3, .int x)]) (st' := [.int 20, .ref 94]) (w' := w1) (cs' := 0) (ss' := 0) ?_ (fun _ _ => rfl)
    refine go_cl (as := [.ref 94, .int 20]) (r := none) (st' := []) (cs' := 0) (ss' := 0) (k1 := 6) rfl rfl rfl rfl rfl rfl (Nat.ble_eq_true_of_le (by omega)) r2 ?_
    refine go_seg 4 (pc' := 197) (ls' := [(4, .int W), (0, .ref 94), (1, .int (nI 1)), (2, .int (nI 0)), (3, .int x)]) (st' := [.int x, .int 0, .int 0, .ref 94]) (w' := w2) (cs' := 0) (ss' := 0) ?_ (fun _ _ => rfl)
    refine go_cl (as := [.ref 94, .int 0, .int 0, .int x]) (r := some (.int v1)) (st' := [.int v1]) (cs' := 0) (ss' := 0) (k1 := (10 + 3 * f)) rfl rfl rfl rfl rfl rfl (Nat.ble_eq_true_of_le (by omega)) r3 ?_
    refine go_seg 1 (pc' := 201) (ls' := [(4, .int W), (0, .ref 94), (1, .int (nI 1)), (2, .int (nI 0)), (3, .int x)]) (st' := [.ref 94, .int v1]) (w' := w3) (cs' := 0) (ss' := 0) ?_ (fun _ _ => rfl)
    refine go_gf (z := .int (nI P)) rfl C3.1 rfl rfl C3.2.1 ?_
    exact go_end 2 (fun _ _ => rfl)
  obtain ⟨⟨y, w1⟩, hg, h1, h2, h3⟩ := key
  have h1 : y = some (.int (v1 + nI P)) := h1
  subst h1
  exact ⟨w1, ru_mono (ru_of (k := 11 + 3 * f) (M := pm_238) rfl (by rw [Bool.and_eq_true]; exact ⟨rfl, sq_rcv hC.1 rfl rfl rfl⟩) hg) (by omega), vm_Ce h2 (by simp only [List.length_cons, List.length_append, List.length_nil] at * <;> omega), h3⟩
theorem vm_7 {P : Nat} {W : Int32} {K f : Nat} (hP : P < 12) (hK : K < 6) (ih : vm_bok P W K f) {b : Nat} {x v : Int32} {l : List Nat} {w : pq_W} (he : vo_S (nI P) W K (vo_e (nI P) W K f) x 7 = some (v, l)) (hC : vm_C P W K b w) (hb : b + l.length ≤ 40) : ∃ w1, pq_Ru (12 + 3 * f) 238 [.ref 94, .int (nI 1), .int (nI 3), .int x] w (some (.int v), w1) ∧ vm_C P W K (b + l.length) w1 ∧ vo_P vm_A 101 b l w w1 := by
  obtain ⟨v1, l1, e1, hv, rfl⟩ := vo_1_of he
  have hv : (v1) = v := hv.symm
  subst hv
  have key : ∃ res, pq_Go (11 + 3 * f) pm_238 0 (lv_args 0 [.ref 94, .int (nI 1), .int (nI 3), .int x]) [] w 0 0 res ∧ (res.1 = some (.int (v1)) ∧ vm_C P W K (b + (1 + l1.length)) res.2 ∧ vo_P vm_A 101 b (21 :: l1) w res.2) := by
    refine vm_pre hP hC (Nat.ble_eq_true_of_le (by omega)) (fun w1 C1 f1 => ?_)
    obtain ⟨w2, r2, C2, P2⟩ := vm_nt (F := 21) (B := 21) (by simp only [List.length_cons, List.length_append, List.length_nil] at * <;> omega) (by decide) rfl C1
    obtain ⟨w3, r3, C3, P3⟩ := ih 0 3 (b + 1) (x - 1) v1 l1 w2 (by decide) (by decide) e1 C2 (by simp only [List.length_cons, List.length_append, List.length_nil] at * <;> omega)
    refine ⟨(some (.int (v1)), w3), ?_, rfl, vm_Ce C3 (by simp only [List.length_cons, List.length_append, List.length_nil] at * <;> omega), vo_Pt (vo_P0 f1) rfl (vo_Pt P2 rfl P3)⟩
    refine go_sw (tgt := 206) rfl (by decide +kernel) ?_
    refine go_seg 2 (pc' := 209) (ls' := [(4, .int W), (0, .ref 94), (1, .int (nI 1)), (2, .int (nI 3)), (3, .int x)]) (st' := [.int 21, .ref 94]) (w' := w1) (cs' := 0) (ss' := 0) ?_ (fun _ _ => rfl)
    refine go_cl (as := [.ref 94, .int 21]) (r := none) (st' := []) (cs' := 0) (ss' := 0) (k1 := 6) rfl rfl rfl rfl rfl rfl (Nat.ble_eq_true_of_le (by omega)) r2 ?_
    refine go_seg 6 (pc' := 218) (ls' := [(4, .int W), (0, .ref 94), (1, .int (nI 1)), (2, .int (nI 3)), (3, .int x)]) (st' := [.int (x - 1), .int 3, .int 0, .ref 94]) (w' := w2) (cs' := 0) (ss' := 0) ?_ (fun _ _ => rfl)
    refine go_cl (as := [.ref 94, .int 0, .int 3, .int (x - 1)]) (r := some (.int v1)) (st' := [.int v1]) (cs' := 0) (ss' := 0) (k1 := (10 + 3 * f)) rfl rfl rfl rfl rfl rfl (Nat.ble_eq_true_of_le (by omega)) r3 ?_
    exact go_end 1 (fun _ _ => rfl)
  obtain ⟨⟨y, w1⟩, hg, h1, h2, h3⟩ := key
  have h1 : y = some (.int (v1)) := h1
  subst h1
  exact ⟨w1, ru_mono (ru_of (k := 11 + 3 * f) (M := pm_238) rfl (by rw [Bool.and_eq_true]; exact ⟨rfl, sq_rcv hC.1 rfl rfl rfl⟩) hg) (by omega), vm_Ce h2 (by simp only [List.length_cons, List.length_append, List.length_nil] at * <;> omega), h3⟩
theorem vm_8 {P : Nat} {W : Int32} {K f : Nat} (hP : P < 12) (hK : K < 6) (ih : vm_bok P W K f) {b : Nat} {x v : Int32} {l : List Nat} {w : pq_W} (he : vo_S (nI P) W K (vo_e (nI P) W K f) x 8 = some (v, l)) (hC : vm_C P W K b w) (hb : b + l.length ≤ 40) : ∃ w1, pq_Ru (12 + 3 * f) 238 [.ref 94, .int (nI 2), .int (nI 0), .int x] w (some (.int v), w1) ∧ vm_C P W K (b + l.length) w1 ∧ vo_P vm_A 101 b l w w1 := by
  obtain ⟨v1, l1, e1, hv, rfl⟩ := vo_1_of he
  have hv : (v1) = v := hv.symm
  subst hv
  have key : ∃ res, pq_Go (11 + 3 * f) pm_238 0 (lv_args 0 [.ref 94, .int (nI 2), .int (nI 0), .int x]) [] w 0 0 res ∧ (res.1 = some (.int (v1)) ∧ vm_C P W K (b + (1 + l1.length)) res.2 ∧ vo_P vm_A 101 b (31 :: l1) w res.2) := by
    refine vm_pre hP hC (Nat.ble_eq_true_of_le (by omega)) (fun w1 C1 f1 => ?_)
    obtain ⟨w2, r2, C2, P2⟩ := vm_nt (F := 31) (B := 31) (by simp only [List.length_cons, List.length_append, List.length_nil] at * <;> omega) (by decide) rfl C1
    obtain ⟨w3, r3, C3, P3⟩ := ih 1 0 (b + 1) (x + W) v1 l1 w2 (by decide) (by decide) e1 C2 (by simp only [List.length_cons, List.length_append, List.length_nil] at * <;> omega)
    refine ⟨(some (.int (v1)), w3), ?_, rfl, vm_Ce C3 (by simp only [List.length_cons, List.length_append, List.length_nil] at * <;> omega), vo_Pt (vo_P0 f1) rfl (vo_Pt P2 rfl P3)⟩
    refine go_sw (tgt := 238) rfl (by decide +kernel) ?_
    refine go_seg 2 (pc' := 241) (ls' := [(4, .int W), (0, .ref 94), (1, .int (nI 2)), (2, .int (nI 0)), (3, .int x)]) (st' := [.int 31, .ref 94]) (w' := w1) (cs' := 0) (ss' := 0) ?_ (fun _ _ => rfl)
    refine go_cl (as := [.ref 94, .int 31]) (r := none) (st' := []) (cs' := 0) (ss' := 0) (k1 := 6) rfl rfl rfl rfl rfl rfl (Nat.ble_eq_true_of_le (by omega)) r2 ?_
    refine go_seg 6 (pc' := 251) (ls' := [(4, .int W), (0, .ref 94), (1, .int (nI 2)), (2, .int (nI 0)), (3, .int x)]) (st' := [.int (x + W), .int 0, .int 1, .ref 94]) (w' := w2) (cs' := 0) (ss' := 0) ?_ (fun _ _ => rfl)
    refine go_cl (as := [.ref 94, .int 1, .int 0, .int (x + W)]) (r := some (.int v1)) (st' := [.int v1]) (cs' := 0) (ss' := 0) (k1 := (10 + 3 * f)) rfl rfl rfl rfl rfl rfl (Nat.ble_eq_true_of_le (by omega)) r3 ?_
    exact go_end 1 (fun _ _ => rfl)
  obtain ⟨⟨y, w1⟩, hg, h1, h2, h3⟩ := key
  have h1 : y = some (.int (v1)) := h1
  subst h1
  exact ⟨w1, ru_mono (ru_of (k := 11 + 3 * f) (M := pm_238) rfl (by rw [Bool.and_eq_true]; exact ⟨rfl, sq_rcv hC.1 rfl rfl rfl⟩) hg) (by omega), vm_Ce h2 (by simp only [List.length_cons, List.length_append, List.length_nil] at * <;> omega), h3⟩
theorem vm_10 {P : Nat} {W : Int32} {K f : Nat} (hP : P < 12) (hK : K < 6) (ih : vm_bok P W K f) {b : Nat} {x v : Int32} {l : List Nat} {w : pq_W} (he : vo_S (nI P) W K (vo_e (nI P) W K f) x 10 = some (v, l)) (hC : vm_C P W K b w) (hb : b + l.length ≤ 40) : ∃ w1, pq_Ru (12 + 3 * f) 238 [.ref 94, .int (nI 2), .int (nI 2), .int x] w (some (.int v), w1) ∧ vm_C P W K (b + l.length) w1 ∧ vo_P vm_A 101 b l w w1 := by
  obtain ⟨v1, l1, e1, hv, rfl⟩ := vo_1_of he
  have hv : (v1 * 3) = v := hv.symm
  subst hv
  have key : ∃ res, pq_Go (11 + 3 * f) pm_238 0 (lv_args 0 [.ref 94, .int (nI 2), .int (nI 2), .int x]) [] w 0 0 res ∧ (res.1 = some (.int (v1 * 3)) ∧ vm_C P W K (b + (1 + l1.length)) res.2 ∧ vo_P vm_A 101 b (30 :: l1) w res.2) := by
    refine vm_pre hP hC (Nat.ble_eq_true_of_le (by omega)) (fun w1 C1 f1 => ?_)
    obtain ⟨w2, r2, C2, P2⟩ := vm_nt (F := 30) (B := 30) (by simp only [List.length_cons, List.length_append, List.length_nil] at * <;> omega) (by decide) rfl C1
    obtain ⟨w3, r3, C3, P3⟩ := ih 1 2 (b + 1) (x) v1 l1 w2 (by decide) (by decide) e1 C2 (by simp only [List.length_cons, List.length_append, List.length_nil] at * <;> omega)
    refine ⟨(some (.int (v1 * 3)), w3), ?_, rfl, vm_Ce C3 (by simp only [List.length_cons, List.length_append, List.length_nil] at * <;> omega), vo_Pt (vo_P0 f1) rfl (vo_Pt P2 rfl P3)⟩
    refine go_sw (tgt := 222) rfl (by decide +kernel) ?_
    refine go_seg 2 (pc' := 225) (ls' := [(4, .int W), (0, .ref 94), (1, .int (nI 2)), (2, .int (nI 2)), (3, .int x)]) (st' := [.int 30, .ref 94]) (w' := w1) (cs' := 0) (ss' := 0) ?_ (fun _ _ => rfl)
    refine go_cl (as := [.ref 94, .int 30]) (r := none) (st' := []) (cs' := 0) (ss' := 0) (k1 := 6) rfl rfl rfl rfl rfl rfl (Nat.ble_eq_true_of_le (by omega)) r2 ?_
    refine go_seg 4 (pc' := 232) (ls' := [(4, .int W), (0, .ref 94), (1, .int (nI 2)), (2, .int (nI 2)), (3, .int x)]) (st' := [.int x, .int 2, .int 1, .ref 94]) (w' := w2) (cs' := 0) (ss' := 0) ?_ (fun _ _ => rfl)
    refine go_cl (as := [.ref 94, .int 1, .int 2, .int x]) (r := some (.int v1)) (st' := [.int v1]) (cs' := 0) (ss' := 0) (k1 := (10 + 3 * f)) rfl rfl rfl rfl rfl rfl (Nat.ble_eq_true_of_le (by omega)) r3 ?_
    exact go_end 3 (fun _ _ => rfl)
  obtain ⟨⟨y, w1⟩, hg, h1, h2, h3⟩ := key
  have h1 : y = some (.int (v1 * 3)) := h1
  subst h1
  exact ⟨w1, ru_mono (ru_of (k := 11 + 3 * f) (M := pm_238) rfl (by rw [Bool.and_eq_true]; exact ⟨rfl, sq_rcv hC.1 rfl rfl rfl⟩) hg) (by omega), vm_Ce h2 (by simp only [List.length_cons, List.length_append, List.length_nil] at * <;> omega), h3⟩
theorem vm_13 {P : Nat} {W : Int32} {K f : Nat} (hP : P < 12) (hK : K < 6) (ih : vm_bok P W K f) {b : Nat} {x v : Int32} {l : List Nat} {w : pq_W} (he : vo_S (nI P) W K (vo_e (nI P) W K f) x 13 = some (v, l)) (hC : vm_C P W K b w) (hb : b + l.length ≤ 40) : ∃ w1, pq_Ru (12 + 3 * f) 238 [.ref 94, .int (nI 3), .int (nI 1), .int x] w (some (.int v), w1) ∧ vm_C P W K (b + l.length) w1 ∧ vo_P vm_A 101 b l w w1 := by
  obtain ⟨v1, l1, v2, l2, e1, e2, hv, rfl⟩ := vo_2_of he
  have hv : (v1 - v2) = v := hv.symm
  subst hv
  have key : ∃ res, pq_Go (11 + 3 * f) pm_238 0 (lv_args 0 [.ref 94, .int (nI 3), .int (nI 1), .int x]) [] w 0 0 res ∧ (res.1 = some (.int (v1 - v2)) ∧ vm_C P W K (b + (1 + (l1.length + l2.length))) res.2 ∧ vo_P vm_A 101 b (40 :: (l1 ++ l2)) w res.2) := by
    refine vm_pre hP hC (Nat.ble_eq_true_of_le (by omega)) (fun w1 C1 f1 => ?_)
    obtain ⟨w2, r2, C2, P2⟩ := vm_nt (F := 40) (B := 40) (by simp only [List.length_cons, List.length_append, List.length_nil] at * <;> omega) (by decide) rfl C1
    obtain ⟨w3, r3, C3, P3⟩ := ih 0 1 (b + 1) (x) v1 l1 w2 (by decide) (by decide) e1 C2 (by simp only [List.length_cons, List.length_append, List.length_nil] at * <;> omega)
    obtain ⟨w4, r4, C4, P4⟩ := vm_vc hP hK ih 2 (b + 1 + l1.length) (x) v2 l2 w3 (by decide) e2 C3 (by simp only [List.length_cons, List.length_append, List.length_nil] at * <;> omega)
    refine ⟨(some (.int (v1 - v2)), w4), ?_, rfl, vm_Ce C4 (by simp only [List.length_cons, List.length_append, List.length_nil] at * <;> omega), vo_Pt (vo_P0 f1) rfl (vo_Pt P2 rfl (vo_Pt P3 rfl P4))⟩
    refine go_sw (tgt := 255) rfl (by decide +kernel) ?_
    refine go_seg 2 (pc' := 258) (ls' := [(4, .int W), (0, .ref 94), (1, .int (nI 3)), (2, .int (nI 1)), (3, .int x)]) (st' := [.int 40, .ref 94]) (w' := w1) (cs' := 0) (ss' := 0) ?_ (fun _ _ => rfl)
    refine go_cl (as := [.ref 94, .int 40]) (r := none) (st' := []) (cs' := 0) (ss' := 0) (k1 := 6) rfl rfl rfl rfl rfl rfl (Nat.ble_eq_true_of_le (by omega)) r2 ?_
    refine go_seg 4 (pc' := 265) (ls' := [(4, .int W), (0, .ref 94), (1, .int (nI 3)), (2, .int (nI 1)), (3, .int x)]) (st' := [.int x, .int 1, .int 0, .ref 94]) (w' := w2) (cs' := 0) (ss' := 0) ?_ (fun _ _ => rfl)
    refine go_cl (as := [.ref 94, .int 0, .int 1, .int x]) (r := some (.int v1)) (st' := [.int v1]) (cs' := 0) (ss' := 0) (k1 := (10 + 3 * f)) rfl rfl rfl rfl rfl rfl (Nat.ble_eq_true_of_le (by omega)) r3 ?_
    refine go_seg 5 (pc' := 275) (ls' := [(5, .int v1), (4, .int W), (0, .ref 94), (1, .int (nI 3)), (2, .int (nI 1)), (3, .int x)]) (st' := [.int x, .int 2, .ref 94, .int v1]) (w' := w3) (cs' := 0) (ss' := 0) ?_ (fun _ _ => rfl)
    refine go_cl (as := [.ref 94, .int 2, .int x]) (r := some (.int v2)) (st' := [.int v2, .int v1]) (cs' := 0) (ss' := 0) (k1 := (10 + 3 * f + 1)) rfl rfl rfl rfl rfl rfl (Nat.ble_eq_true_of_le (by omega)) r4 ?_
    exact go_end 2 (fun _ _ => rfl)
  obtain ⟨⟨y, w1⟩, hg, h1, h2, h3⟩ := key
  have h1 : y = some (.int (v1 - v2)) := h1
  subst h1
  exact ⟨w1, ru_mono (ru_of (k := 11 + 3 * f) (M := pm_238) rfl (by rw [Bool.and_eq_true]; exact ⟨rfl, sq_rcv hC.1 rfl rfl rfl⟩) hg) (by omega), vm_Ce h2 (by simp only [List.length_cons, List.length_append, List.length_nil] at * <;> omega), h3⟩
theorem vm_19 {P : Nat} {W : Int32} {K f : Nat} (hP : P < 12) (hK : K < 6) (ih : vm_bok P W K f) {b : Nat} {x v : Int32} {l : List Nat} {w : pq_W} (he : vo_S (nI P) W K (vo_e (nI P) W K f) x 19 = some (v, l)) (hC : vm_C P W K b w) (hb : b + l.length ≤ 40) : ∃ w1, pq_Ru (12 + 3 * f) 238 [.ref 94, .int (nI 4), .int (nI 3), .int x] w (some (.int v), w1) ∧ vm_C P W K (b + l.length) w1 ∧ vo_P vm_A 101 b l w w1 := by
  obtain ⟨v1, l1, v2, l2, e1, e2, hv, rfl⟩ := vo_2_of he
  have hv : (v1 - v2) = v := hv.symm
  subst hv
  have key : ∃ res, pq_Go (11 + 3 * f) pm_238 0 (lv_args 0 [.ref 94, .int (nI 4), .int (nI 3), .int x]) [] w 0 0 res ∧ (res.1 = some (.int (v1 - v2)) ∧ vm_C P W K (b + (1 + (l1.length + l2.length))) res.2 ∧ vo_P vm_A 101 b (50 :: (l1 ++ l2)) w res.2) := by
    refine vm_pre hP hC (Nat.ble_eq_true_of_le (by omega)) (fun w1 C1 f1 => ?_)
    obtain ⟨w2, r2, C2, P2⟩ := vm_nt (F := 50) (B := 50) (by simp only [List.length_cons, List.length_append, List.length_nil] at * <;> omega) (by decide) rfl C1
    obtain ⟨w3, r3, C3, P3⟩ := vm_vc hP hK ih 2 (b + 1) (x) v1 l1 w2 (by decide) e1 C2 (by simp only [List.length_cons, List.length_append, List.length_nil] at * <;> omega)
    obtain ⟨w4, r4, C4, P4⟩ := ih 0 3 (b + 1 + l1.length) (x) v2 l2 w3 (by decide) (by decide) e2 C3 (by simp only [List.length_cons, List.length_append, List.length_nil] at * <;> omega)
    refine ⟨(some (.int (v1 - v2)), w4), ?_, rfl, vm_Ce C4 (by simp only [List.length_cons, List.length_append, List.length_nil] at * <;> omega), vo_Pt (vo_P0 f1) rfl (vo_Pt P2 rfl (vo_Pt P3 rfl P4))⟩
    refine go_sw (tgt := 280) rfl (by decide +kernel) ?_
    refine go_seg 2 (pc' := 283) (ls' := [(4, .int W), (0, .ref 94), (1, .int (nI 4)), (2, .int (nI 3)), (3, .int x)]) (st' := [.int 50, .ref 94]) (w' := w1) (cs' := 0) (ss' := 0) ?_ (fun _ _ => rfl)
    refine go_cl (as := [.ref 94, .int 50]) (r := none) (st' := []) (cs' := 0) (ss' := 0) (k1 := 6) rfl rfl rfl rfl rfl rfl (Nat.ble_eq_true_of_le (by omega)) r2 ?_
    refine go_seg 3 (pc' := 289) (ls' := [(4, .int W), (0, .ref 94), (1, .int (nI 4)), (2, .int (nI 3)), (3, .int x)]) (st' := [.int x, .int 2, .ref 94]) (w' := w2) (cs' := 0) (ss' := 0) ?_ (fun _ _ => rfl)
    refine go_cl (as := [.ref 94, .int 2, .int x]) (r := some (.int v1)) (st' := [.int v1]) (cs' := 0) (ss' := 0) (k1 := (10 + 3 * f + 1)) rfl rfl rfl rfl rfl rfl (Nat.ble_eq_true_of_le (by omega)) r3 ?_
    refine go_seg 6 (pc' := 300) (ls' := [(5, .int v1), (4, .int W), (0, .ref 94), (1, .int (nI 4)), (2, .int (nI 3)), (3, .int x)]) (st' := [.int x, .int 3, .int 0, .ref 94, .int v1]) (w' := w3) (cs' := 0) (ss' := 0) ?_ (fun _ _ => rfl)
    refine go_cl (as := [.ref 94, .int 0, .int 3, .int x]) (r := some (.int v2)) (st' := [.int v2, .int v1]) (cs' := 0) (ss' := 0) (k1 := (10 + 3 * f)) rfl rfl rfl rfl rfl rfl (Nat.ble_eq_true_of_le (by omega)) r4 ?_
    exact go_end 2 (fun _ _ => rfl)
  obtain ⟨⟨y, w1⟩, hg, h1, h2, h3⟩ := key
  have h1 : y = some (.int (v1 - v2)) := h1
  subst h1
  exact ⟨w1, ru_mono (ru_of (k := 11 + 3 * f) (M := pm_238) rfl (by rw [Bool.and_eq_true]; exact ⟨rfl, sq_rcv hC.1 rfl rfl rfl⟩) hg) (by omega), vm_Ce h2 (by simp only [List.length_cons, List.length_append, List.length_nil] at * <;> omega), h3⟩
theorem vm_21 {P : Nat} {W : Int32} {K f : Nat} (hP : P < 12) (hK : K < 6) (ih : vm_bok P W K f) {b : Nat} {x v : Int32} {l : List Nat} {w : pq_W} (he : vo_S (nI P) W K (vo_e (nI P) W K f) x 21 = some (v, l)) (hC : vm_C P W K b w) (hb : b + l.length ≤ 40) : ∃ w1, pq_Ru (12 + 3 * f) 238 [.ref 94, .int (nI 5), .int (nI 1), .int x] w (some (.int v), w1) ∧ vm_C P W K (b + l.length) w1 ∧ vo_P vm_A 101 b l w w1 := by
  obtain ⟨v1, l1, v2, l2, e1, e2, hv, rfl⟩ := vo_2_of he
  have hv : (v1 + v2) = v := hv.symm
  subst hv
  have key : ∃ res, pq_Go (11 + 3 * f) pm_238 0 (lv_args 0 [.ref 94, .int (nI 5), .int (nI 1), .int x]) [] w 0 0 res ∧ (res.1 = some (.int (v1 + v2)) ∧ vm_C P W K (b + (1 + (l1.length + l2.length))) res.2 ∧ vo_P vm_A 101 b (61 :: (l1 ++ l2)) w res.2) := by
    refine vm_pre hP hC (Nat.ble_eq_true_of_le (by omega)) (fun w1 C1 f1 => ?_)
    obtain ⟨w2, r2, C2, P2⟩ := vm_nt (F := 61) (B := 61) (by simp only [List.length_cons, List.length_append, List.length_nil] at * <;> omega) (by decide) rfl C1
    obtain ⟨w3, r3, C3, P3⟩ := ih 3 1 (b + 1) (x) v1 l1 w2 (by decide) (by decide) e1 C2 (by simp only [List.length_cons, List.length_append, List.length_nil] at * <;> omega)
    obtain ⟨w4, r4, C4, P4⟩ := vm_vc hP hK ih 0 (b + 1 + l1.length) (x) v2 l2 w3 (by decide) e2 C3 (by simp only [List.length_cons, List.length_append, List.length_nil] at * <;> omega)
    refine ⟨(some (.int (v1 + v2)), w4), ?_, rfl, vm_Ce C4 (by simp only [List.length_cons, List.length_append, List.length_nil] at * <;> omega), vo_Pt (vo_P0 f1) rfl (vo_Pt P2 rfl (vo_Pt P3 rfl P4))⟩
    refine go_sw (tgt := 322) rfl (by decide +kernel) ?_
    refine go_seg 2 (pc' := 325) (ls' := [(4, .int W), (0, .ref 94), (1, .int (nI 5)), (2, .int (nI 1)), (3, .int x)]) (st' := [.int 61, .ref 94]) (w' := w1) (cs' := 0) (ss' := 0) ?_ (fun _ _ => rfl)
    refine go_cl (as := [.ref 94, .int 61]) (r := none) (st' := []) (cs' := 0) (ss' := 0) (k1 := 6) rfl rfl rfl rfl rfl rfl (Nat.ble_eq_true_of_le (by omega)) r2 ?_
    refine go_seg 4 (pc' := 332) (ls' := [(4, .int W), (0, .ref 94), (1, .int (nI 5)), (2, .int (nI 1)), (3, .int x)]) (st' := [.int x, .int 1, .int 3, .ref 94]) (w' := w2) (cs' := 0) (ss' := 0) ?_ (fun _ _ => rfl)
    refine go_cl (as := [.ref 94, .int 3, .int 1, .int x]) (r := some (.int v1)) (st' := [.int v1]) (cs' := 0) (ss' := 0) (k1 := (10 + 3 * f)) rfl rfl rfl rfl rfl rfl (Nat.ble_eq_true_of_le (by omega)) r3 ?_
    refine go_seg 5 (pc' := 342) (ls' := [(5, .int v1), (4, .int W), (0, .ref 94), (1, .int (nI 5)), (2, .int (nI 1)), (3, .int x)]) (st' := [.int x, .int 0, .ref 94, .int v1]) (w' := w3) (cs' := 0) (ss' := 0) ?_ (fun _ _ => rfl)
    refine go_cl (as := [.ref 94, .int 0, .int x]) (r := some (.int v2)) (st' := [.int v2, .int v1]) (cs' := 0) (ss' := 0) (k1 := (10 + 3 * f + 1)) rfl rfl rfl rfl rfl rfl (Nat.ble_eq_true_of_le (by omega)) r4 ?_
    exact go_end 2 (fun _ _ => rfl)
  obtain ⟨⟨y, w1⟩, hg, h1, h2, h3⟩ := key
  have h1 : y = some (.int (v1 + v2)) := h1
  subst h1
  exact ⟨w1, ru_mono (ru_of (k := 11 + 3 * f) (M := pm_238) rfl (by rw [Bool.and_eq_true]; exact ⟨rfl, sq_rcv hC.1 rfl rfl rfl⟩) hg) (by omega), vm_Ce h2 (by simp only [List.length_cons, List.length_append, List.length_nil] at * <;> omega), h3⟩
theorem vm_22 {P : Nat} {W : Int32} {K f : Nat} (hP : P < 12) (hK : K < 6) (ih : vm_bok P W K f) {b : Nat} {x v : Int32} {l : List Nat} {w : pq_W} (he : vo_S (nI P) W K (vo_e (nI P) W K f) x 22 = some (v, l)) (hC : vm_C P W K b w) (hb : b + l.length ≤ 40) : ∃ w1, pq_Ru (12 + 3 * f) 238 [.ref 94, .int (nI 5), .int (nI 2), .int x] w (some (.int v), w1) ∧ vm_C P W K (b + l.length) w1 ∧ vo_P vm_A 101 b l w w1 := by
  obtain ⟨v1, l1, e1, hv, rfl⟩ := vo_1_of he
  have hv : (v1) = v := hv.symm
  subst hv
  have key : ∃ res, pq_Go (11 + 3 * f) pm_238 0 (lv_args 0 [.ref 94, .int (nI 5), .int (nI 2), .int x]) [] w 0 0 res ∧ (res.1 = some (.int (v1)) ∧ vm_C P W K (b + (1 + l1.length)) res.2 ∧ vo_P vm_A 101 b (60 :: l1) w res.2) := by
    refine vm_pre hP hC (Nat.ble_eq_true_of_le (by omega)) (fun w1 C1 f1 => ?_)
    obtain ⟨w2, r2, C2, P2⟩ := vm_nt (F := 60) (B := 60) (by simp only [List.length_cons, List.length_append, List.length_nil] at * <;> omega) (by decide) rfl C1
    obtain ⟨w3, r3, C3, P3⟩ := ih 3 2 (b + 1) (x - W) v1 l1 w2 (by decide) (by decide) e1 C2 (by simp only [List.length_cons, List.length_append, List.length_nil] at * <;> omega)
    refine ⟨(some (.int (v1)), w3), ?_, rfl, vm_Ce C3 (by simp only [List.length_cons, List.length_append, List.length_nil] at * <;> omega), vo_Pt (vo_P0 f1) rfl (vo_Pt P2 rfl P3)⟩
    refine go_sw (tgt := 305) rfl (by decide +kernel) ?_
    refine go_seg 2 (pc' := 308) (ls' := [(4, .int W), (0, .ref 94), (1, .int (nI 5)), (2, .int (nI 2)), (3, .int x)]) (st' := [.int 60, .ref 94]) (w' := w1) (cs' := 0) (ss' := 0) ?_ (fun _ _ => rfl)
    refine go_cl (as := [.ref 94, .int 60]) (r := none) (st' := []) (cs' := 0) (ss' := 0) (k1 := 6) rfl rfl rfl rfl rfl rfl (Nat.ble_eq_true_of_le (by omega)) r2 ?_
    refine go_seg 6 (pc' := 318) (ls' := [(4, .int W), (0, .ref 94), (1, .int (nI 5)), (2, .int (nI 2)), (3, .int x)]) (st' := [.int (x - W), .int 2, .int 3, .ref 94]) (w' := w2) (cs' := 0) (ss' := 0) ?_ (fun _ _ => rfl)
    refine go_cl (as := [.ref 94, .int 3, .int 2, .int (x - W)]) (r := some (.int v1)) (st' := [.int v1]) (cs' := 0) (ss' := 0) (k1 := (10 + 3 * f)) rfl rfl rfl rfl rfl rfl (Nat.ble_eq_true_of_le (by omega)) r3 ?_
    exact go_end 1 (fun _ _ => rfl)
  obtain ⟨⟨y, w1⟩, hg, h1, h2, h3⟩ := key
  have h1 : y = some (.int (v1)) := h1
  subst h1
  exact ⟨w1, ru_mono (ru_of (k := 11 + 3 * f) (M := pm_238) rfl (by rw [Bool.and_eq_true]; exact ⟨rfl, sq_rcv hC.1 rfl rfl rfl⟩) hg) (by omega), vm_Ce h2 (by simp only [List.length_cons, List.length_append, List.length_nil] at * <;> omega), h3⟩
theorem vm_body {P : Nat} {W : Int32} {K f : Nat} (hP : P < 12) (hK : K < 6) (ih : vm_bok P W K f) {k a b : Nat} {x v : Int32} {l : List Nat} {w : pq_W} (hk : k < 6) (ha : a < 4) (he : vo_S (nI P) W K (vo_e (nI P) W K f) x (4 * vo_at k a + a) = some (v, l)) (hC : vm_C P W K b w) (hb : b + l.length ≤ 40) : ∃ w1, pq_Ru (12 + 3 * f) 238 [.ref 94, .int (nI (vo_at k a)), .int (nI a), .int x] w (some (.int v), w1) ∧ vm_C P W K (b + l.length) w1 ∧ vo_P vm_A 101 b l w w1 := by
  have l6 := vo_lt k hk a ha
  rcases vo_12 k hk a ha with hc | hc | hc | hc | hc | hc | hc | hc | hc | hc | hc | hc
  · rw [hc] at he
    have e1 : a = 0 := by omega
    subst e1
    have e2 : vo_at k 0 = 0 := by omega
    rw [e2]
    exact vm_0 hP hK ih he hC hb
  · rw [hc] at he
    have e1 : a = 1 := by omega
    subst e1
    have e2 : vo_at k 1 = 0 := by omega
    rw [e2]
    exact vm_1 hP hK ih he hC hb
  · rw [hc] at he
    have e1 : a = 2 := by omega
    subst e1
    have e2 : vo_at k 2 = 0 := by omega
    rw [e2]
    exact vm_2 hP hK ih he hC hb
  · rw [hc] at he
    have e1 : a = 3 := by omega
    subst e1
    have e2 : vo_at k 3 = 0 := by omega
    rw [e2]
    exact vm_3 hP hK ih he hC hb
  · rw [hc] at he
    have e1 : a = 0 := by omega
    subst e1
    have e2 : vo_at k 0 = 1 := by omega
    rw [e2]
    exact vm_4 hP hK ih he hC hb
  · rw [hc] at he
    have e1 : a = 3 := by omega
    subst e1
    have e2 : vo_at k 3 = 1 := by omega
    rw [e2]
    exact vm_7 hP hK ih he hC hb
  · rw [hc] at he
    have e1 : a = 0 := by omega
    subst e1
    have e2 : vo_at k 0 = 2 := by omega
    rw [e2]
    exact vm_8 hP hK ih he hC hb
  · rw [hc] at he
    have e1 : a = 2 := by omega
    subst e1
    have e2 : vo_at k 2 = 2 := by omega
    rw [e2]
    exact vm_10 hP hK ih he hC hb
  · rw [hc] at he
    have e1 : a = 1 := by omega
    subst e1
    have e2 : vo_at k 1 = 3 := by omega
    rw [e2]
    exact vm_13 hP hK ih he hC hb
  · rw [hc] at he
    have e1 : a = 3 := by omega
    subst e1
    have e2 : vo_at k 3 = 4 := by omega
    rw [e2]
    exact vm_19 hP hK ih he hC hb
  · rw [hc] at he
    have e1 : a = 1 := by omega
    subst e1
    have e2 : vo_at k 1 = 5 := by omega
    rw [e2]
    exact vm_21 hP hK ih he hC hb
  · rw [hc] at he
    have e1 : a = 2 := by omega
    subst e1
    have e2 : vo_at k 2 = 5 := by omega
    rw [e2]
    exact vm_22 hP hK ih he hC hb
theorem vm_all {P : Nat} {W : Int32} {K : Nat} (hP : P < 12) (hK : K < 6) : ∀ f, vm_bok P W K f
  | 0 => fun k a b x v l w hk ha he => by cases he
  | f + 1 => fun k a b x v l w hk ha he hC hb => by
    have ih := vm_all (W := W) hP hK f
    have he : vo_S (nI P) W K (vo_e (nI P) W K f) x (4 * vo_at k a + a) = some (v, l) := he
    have key : ∃ res, pq_Go (12 + 3 * f) pm_236 3 [(4, .int (nI k)), (0, .ref 94), (1, .int (nI k)), (2, .int (nI a)), (3, .int x)] [] w 0 0 res ∧ (res.1 = some (.int v) ∧ vm_C P W K (b + l.length) res.2 ∧ vo_P vm_A 101 b l w res.2) := by
      refine vm_lp ha (Nat.ble_eq_true_of_le (by omega)) (vo_at k a) (fun w1 C1 f1 => ?_) k k w (Nat.le_refl _) hk rfl hC (sx_Fr_refl _ _)
      obtain ⟨w2, r2, C2, P2⟩ := vm_body hP hK ih hk ha he C1 hb
      refine ⟨(some (.int v), w2), ?_, rfl, C2, vo_Pt (vo_P0 f1) rfl P2⟩
      refine go_seg 4 (pc' := 27) (ls' := [(4, .int (nI (vo_at k a))), (0, .ref 94), (1, .int (nI k)), (2, .int (nI a)), (3, .int x)]) (st' := [.int x, .int (nI a), .int (nI (vo_at k a)), .ref 94]) (w' := w1) (cs' := 0) (ss' := 0) ?_ (fun _ _ => rfl)
      refine go_cl (as := [.ref 94, .int (nI (vo_at k a)), .int (nI a), .int x]) (r := some (.int v)) (st' := [.int v]) (cs' := 0) (ss' := 0) (k1 := (12 + 3 * f)) rfl rfl rfl rfl rfl rfl (Nat.ble_eq_true_of_le (by omega)) r2 ?_
      exact go_end 1 (fun _ _ => rfl)
    obtain ⟨⟨y, w1⟩, hg, h1, h2, h3⟩ := key
    have h1 : y = some (.int v) := h1
    subst h1
    refine ⟨w1, ru_mono (ru_of (k := 12 + 3 * f) (M := pm_236) rfl (by rw [Bool.and_eq_true]; exact ⟨rfl, sq_rcv hC.1 rfl rfl rfl⟩) ?_) (by omega), h2, h3⟩
    refine go_seg 2 (pc' := 3) (ls' := [(4, .int (nI k)), (0, .ref 94), (1, .int (nI k)), (2, .int (nI a)), (3, .int x)]) (st' := []) (w' := w) (cs' := 0) (ss' := 0) ?_ (fun _ _ => rfl)
    exact hg
