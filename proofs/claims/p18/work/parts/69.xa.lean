/-! voices: what is said, with the bodies that said it -/
noncomputable def vo_ats : List (List Nat) := [[0, 0, 0, 0], [1, 0, 0, 1], [2, 0, 2, 1], [0, 3, 0, 0], [0, 0, 0, 4], [0, 5, 5, 0]]
noncomputable def vo_at (k a : Nat) : Nat := (vo_ats.getD k []).getD a 0
abbrev vo_R : Type := Option (Int32 × List Nat)
noncomputable def vo_1 (g : Int32 → Int32) (b : Nat) (r : vo_R) : vo_R := match r with
  | some (v, l) => some (g v, b :: l)
  | none => none
noncomputable def vo_2 (g : Int32 → Int32 → Int32) (b : Nat) (r q : vo_R) : vo_R := match r, q with
  | some (v, l), some (u, m) => some (g v u, b :: (l ++ m))
  | _, _ => none
theorem vo_1_of {g : Int32 → Int32} {b : Nat} {r : vo_R} {v : Int32} {l : List Nat} (h : vo_1 g b r = some (v, l)) : ∃ v1 l1, r = some (v1, l1) ∧ v = g v1 ∧ l = b :: l1 := by
  match r, h with
  | some (v1, l1), h =>
    have h : some (g v1, b :: l1) = some (v, l) := h
    cases h
    exact ⟨v1, l1, rfl, rfl, rfl⟩
theorem vo_2_of {g : Int32 → Int32 → Int32} {b : Nat} {r q : vo_R} {v : Int32} {l : List Nat} (h : vo_2 g b r q = some (v, l)) : ∃ v1 l1 v2 l2, r = some (v1, l1) ∧ q = some (v2, l2) ∧ v = g v1 v2 ∧ l = b :: (l1 ++ l2) := by
  match r, q, h with
  | some (v1, l1), some (v2, l2), h =>
    have h : some (g v1 v2, b :: (l1 ++ l2)) = some (v, l) := h
    cases h
    exact ⟨v1, l1, v2, l2, rfl, rfl, rfl, rfl⟩
noncomputable def vo_S (N W : Int32) (K : Nat) (E : Nat → Nat → Int32 → vo_R) (x : Int32) (c : Nat) : vo_R := match c with
  | 0 => some (x + W, [10])
  | 1 => vo_1 (fun v1 => v1 * 2) 11 (E K 0 (x))
  | 2 => some (x - N, [12])
  | 3 => vo_2 (fun v1 v2 => v1 ^^^ v2) 13 (E K 1 (x)) (E K 2 (x))
  | 4 => vo_1 (fun v1 => v1 + N) 20 (E 0 0 (x))
  | 7 => vo_1 (fun v1 => v1) 21 (E 0 3 (x - 1))
  | 8 => vo_1 (fun v1 => v1) 31 (E 1 0 (x + W))
  | 10 => vo_1 (fun v1 => v1 * 3) 30 (E 1 2 (x))
  | 13 => vo_2 (fun v1 v2 => v1 - v2) 40 (E 0 1 (x)) (E K 2 (x))
  | 19 => vo_2 (fun v1 v2 => v1 - v2) 50 (E K 2 (x)) (E 0 3 (x))
  | 21 => vo_2 (fun v1 v2 => v1 + v2) 61 (E 3 1 (x)) (E K 0 (x))
  | 22 => vo_1 (fun v1 => v1) 60 (E 3 2 (x - W))
  | _ => none
noncomputable def vo_e (N W : Int32) (K : Nat) : Nat → Nat → Nat → Int32 → vo_R
  | 0, _, _, _ => none
  | f + 1, k, a, x => vo_S N W K (vo_e N W K f) x (4 * vo_at k a + a)
theorem vo_12 : ∀ k, k < 6 → ∀ a, a < 4 → 4 * vo_at k a + a = 0 ∨ 4 * vo_at k a + a = 1 ∨ 4 * vo_at k a + a = 2 ∨ 4 * vo_at k a + a = 3 ∨ 4 * vo_at k a + a = 4 ∨ 4 * vo_at k a + a = 7 ∨ 4 * vo_at k a + a = 8 ∨ 4 * vo_at k a + a = 10 ∨ 4 * vo_at k a + a = 13 ∨ 4 * vo_at k a + a = 19 ∨ 4 * vo_at k a + a = 21 ∨ 4 * vo_at k a + a = 22 := by decide
theorem vo_lt : ∀ k, k < 6 → ∀ a, a < 4 → vo_at k a < 6 := by decide
/-- entries written from b on -/
noncomputable def vo_P (A : sx_A) (c b : Nat) (l : List Nat) (w w1 : pq_W) : Prop := sx_Fr A w w1 ∧ (∀ i, i < b → sy_r w1 c i = sy_r w c i) ∧ ∀ t, t < l.length → sy_r w1 c (b + t) = ((l.getD t 0 : Nat) : Int)
theorem vo_P0 {A : sx_A} {c b : Nat} {w w1 : pq_W} (f : sx_Fr [] w w1) : vo_P A c b [] w w1 := ⟨fun r i _ => f r i (fun ⟨q, hq, _⟩ => by cases hq), fun i _ => sy_r_fr f (fun ⟨q, hq, _⟩ => by cases hq), fun t h => absurd h (Nat.not_lt_zero t)⟩
theorem vo_gl : ∀ (l m : List Nat) (t : Nat), t < l.length → (l ++ m).getD t 0 = l.getD t 0
  | [], _, t, h => absurd h (Nat.not_lt_zero t)
  | _ :: _, _, 0, _ => rfl
  | _ :: l, m, t + 1, h => vo_gl l m t (Nat.lt_of_succ_lt_succ h)
theorem vo_gr : ∀ (l m : List Nat) (t : Nat), (l ++ m).getD (l.length + t) 0 = m.getD t 0
  | [], m, t => by rw [show ([] : List Nat).length + t = t from Nat.zero_add t]; rfl
  | x :: l, m, t => by
    rw [show (x :: l).length + t = (l.length + t) + 1 by rw [List.length_cons]; omega]
    exact vo_gr l m t
theorem vo_Pt {A : sx_A} {c b b2 : Nat} {l m : List Nat} {w w1 w2 : pq_W} (h1 : vo_P A c b l w w1) (e : b2 = b + l.length) (h2 : vo_P A c b2 m w1 w2) : vo_P A c b (l ++ m) w w2 := by
  refine ⟨sx_Fr_trans h1.1 h2.1, fun i hi => ?_, fun t ht => ?_⟩
  · rw [h2.2.1 i (by omega), h1.2.1 i hi]
  · rw [List.length_append] at ht
    by_cases h : t < l.length
    · rw [h2.2.1 (b + t) (by omega), h1.2.2 t h, vo_gl l m t h]
    · have h3 := h2.2.2 (t - l.length) (by omega)
      rw [show b2 + (t - l.length) = b + t by omega] at h3
      have e3 := vo_gr l m (t - l.length)
      rw [show l.length + (t - l.length) = t by omega] at e3
      rw [h3, e3]
theorem vo_one {A : sx_A} {AN : sh_AN} {k j : Nat} {M : pq_M} {iv : List (Int × Int)} {C : List sx_F} {sl : List (Nat × sx_V)} {O : sx_O} {re : List ng_Ae} {f : Nat} {w : pq_W} {ls : pq_L} (p : Nat → Int) (h : ng_chk A [] AN k j M 0 iv C sl [] O re [] f = true) (hM : pq_tab[j]? = some M) (hi : sx_ivs p 0 iv) (hC : ng_fs p C) (hl : ng_sl0 p ls sl) (hO : ng_eqs p w O) (ht : sx_Ty sx_T0 w) : ∃ res, pq_Go k M 0 ls [] w 0 0 res ∧ sx_Ty sx_T0 res.2 ∧ sx_Fr A w res.2 ∧ ∃ a ∈ re, ng_ae p res.1 res.2 a :=
  ng_go (J := sx_tt) (Post := fun res => sx_Ty sx_T0 res.2 ∧ sx_Fr A w res.2 ∧ ∃ a ∈ re, ng_ae p res.1 res.2 a) p h hM hi hC hl trivial hO ht sx_ctn (fun _ _ _ => trivial) (sh_R re re (fun _ h => h)) trivial
section VG
variable {k : Nat} {M : pq_M} {pc cs ss pc0 nx t r : Nat} {ls : pq_L} {st : List Value} {w : pq_W} {res : pq_R} {i : Instr} {a : List Nat} {v z : Value}
theorem go_gf {ci : Nat} {fs : List sx_ft} (hq : pq_look (pq_cd M) pc = some (pc0, 19, nx, i, a, v, t)) (ht : sx_Ty sx_T0 w) (hT : sx_T0[r]? = some (.inl (ci, fs))) (hc : Nat.beq ci (a.headD 0) = true) (hz : sx_wg w r (a.getD 1 0) = some z) (g : pq_Go k M nx ls (z :: st) w cs ss res) : pq_Go k M pc ls (.ref r :: st) w cs ss res := by
  obtain ⟨c, h1, h2⟩ := sx_Ty_get ht hT
  match c, h1, h2 with
  | .inr (c0, vs), h1, h2 =>
    obtain ⟨e, _⟩ := h2
    subst e
    rw [sx_wg_of h1] at hz
    exact go_get hq h1 hc hz g
theorem go_gl {n q : Nat} {gs : List sx_G} {x y : Int32} (hq : pq_look (pq_cd M) pc = some (pc0, 21, nx, i, 0 :: a, v, t)) (ht : sx_Ty sx_T0 w) (hT : sx_T0[r]? = some (.inr (.inl (FieldType.int, n, gs)))) (hi : q < n) (hn : n < 2 ^ 31) (hx : x = nI q) (hz : sy_r w r q = y.toInt) (g : pq_Go k M nx ls (.int y :: st) w cs ss res) : pq_Go k M pc ls (.int x :: .ref r :: st) w cs ss res := by
  obtain ⟨f, h1, h2, h3⟩ := sy_arr ht hT
  have e : f q = y := Int32.toInt_inj.mp (by rw [← hz, sy_r_of (h3 q hi)])
  subst hx
  rw [← e] at g
  exact go_ald hq h1 (pa_i hi hn) g
end VG
/-! the class -/
noncomputable def vc_A : sx_A := [(87, 1, 1), (88, 0, 39)]
noncomputable def vc_C (N W : Int32) (K b : Nat) (w : pq_W) : Prop := sx_Ty sx_T0 w ∧ sx_wg w 87 2 = some (.int N) ∧ sx_wg w 87 3 = some (.int W) ∧ sx_wg w 87 4 = some (.int (nI K)) ∧ sy_r w 87 1 = (b : Int)
theorem vc_Cm {N W : Int32} {K b b2 : Nat} {w w1 : pq_W} (h : vc_C N W K b w) (ht : sx_Ty sx_T0 w1) (f : sx_Fr vc_A w w1) (e : sy_r w1 87 1 = (b2 : Int)) : vc_C N W K b2 w1 := by
  have n : ∀ i : Nat, 2 ≤ i → sx_wg w1 87 i = sx_wg w 87 i := fun i hi => f 87 i (sy_nin (lo := 2) (hi := i) (by
    unfold sy_ninb vc_A
    simp only [List.all_cons, List.all_nil, Bool.and_true]
    rfl) (by omega) (by omega))
  exact ⟨ht, by rw [n 2 (by omega)]; exact h.2.1, by rw [n 3 (by omega)]; exact h.2.2.1, by rw [n 4 (by omega)]; exact h.2.2.2.1, e⟩
theorem vc_Ce {N W : Int32} {K b b2 : Nat} {w : pq_W} (h : vc_C N W K b w) (e : b = b2) : vc_C N W K b2 w := e ▸ h
noncomputable def vc_kb : Bool := (List.range 6).all fun k => (List.range 4).all fun a => ng_chk [] [] [] 5 136 pm_136 0 [] [] [(0, fx_k k), (1, fx_k a)] [] [] [(.inl (.inr ((vo_at k a : Nat), (vo_at k a : Nat))), [], [], [])] [] 6000
theorem vc_kb_ok : vc_kb = true := by decide +kernel
theorem vc_wb {k a : Nat} {w : pq_W} (hk : k < 6) (ha : a < 4) (ht : sx_Ty sx_T0 w) : ∃ w1, pq_Ru 6 136 [.int (nI k), .int (nI a)] w (some (.int (nI (vo_at k a))), w1) ∧ sx_Ty sx_T0 w1 ∧ sx_Fr [] w w1 := by
  obtain ⟨⟨x, w1⟩, g, t, f, q, hq, h1⟩ := vo_one (ls := lv_args 0 [.int (nI k), .int (nI a)]) (fx_p []) (List.all_eq_true.mp (List.all_eq_true.mp vc_kb_ok k (List.mem_range.mpr hk)) a (List.mem_range.mpr ha)) (M := pm_136) rfl trivial trivial ⟨ng_ik ⟨nI k, rfl, rfl⟩ (nI_toInt (by omega)), ng_ik ⟨nI a, rfl, rfl⟩ (nI_toInt (by omega)), trivial⟩ trivial ht
  cases List.mem_singleton.mp hq
  obtain ⟨y, y1, y2, y3⟩ := h1.1
  have y2 : ((vo_at k a : Nat) : Int) ≤ y.toInt := y2
  have y3 : y.toInt ≤ ((vo_at k a : Nat) : Int) := y3
  have l := vo_lt k hk a ha
  have e : y = nI (vo_at k a) := Int32.toInt_inj.mp (by rw [nI_toInt (by omega)]; omega)
  have y1 : x = some (.int y) := y1
  subst y1
  subst e
  exact ⟨w1, ru_of (k := 5) (M := pm_136) rfl rfl g, t, f⟩
noncomputable def vc_kn : Bool := (List.range 40).all fun b => ng_chk [(87, 1, 1), (88, (b : Int), (b : Int))] [] [] 5 137 pm_137 0 [(0, 99)] [] [(0, .inr (.inr 87)), (1, fx_i 0)] [] [sh_o 87 1 (fx_k b)] [(.inr (), [sh_o 87 1 (fx_k (b + 1)), sh_o 88 b (fx_i 0)], [], [])] [] 6000
theorem vc_kn_ok : vc_kn = true := by decide +kernel
theorem vc_nt {N W : Int32} {K b B : Nat} {w : pq_W} (hb : b < 40) (hB : B < 100) (hC : vc_C N W K b w) : ∃ w1, pq_Ru 6 137 [.ref 87, .int (nI B)] w (none, w1) ∧ vc_C N W K (b + 1) w1 ∧ vo_P vc_A 88 b [B] w w1 := by
  obtain ⟨⟨x, w1⟩, g, t, f, q, hq, h1⟩ := vo_one (ls := lv_args 0 [.ref 87, .int (nI B)]) (fx_p [(B : Int)]) (List.all_eq_true.mp vc_kn_ok b (List.mem_range.mpr hb)) (M := pm_137) rfl ⟨by show (0 : Int) ≤ (B : Int); omega, by show (B : Int) ≤ 99; omega, trivial⟩ trivial ⟨rfl, ng_iy ⟨nI B, rfl, rfl⟩ (by rw [nI_toInt (by omega)]; rfl), trivial⟩ (sh_eo (n := 1) (by rw [ng_ek]; exact hC.2.2.2.2) rfl trivial) hC.1
  cases List.mem_singleton.mp hq
  have y1 : x = none := h1.1
  subst y1
  obtain ⟨e1, h2⟩ := sh_oe (n := 1) h1.2.1 rfl
  obtain ⟨e2, _⟩ := sh_oe (n := b) h2 rfl
  rw [ng_ek] at e1
  have e2 : sy_r w1 88 b = (B : Int) := e2.trans (sx_y_ev _ _)
  have f1 : sx_Fr vc_A w w1 := fun r i h => f r i (fun ⟨q, hq, e, l1, l2⟩ => h (by
    cases List.mem_cons.mp hq with
    | inl hq => subst hq; exact ⟨_, List.mem_cons_self, e, l1, l2⟩
    | inr hq =>
      cases List.mem_singleton.mp hq
      have l1 : (b : Int) ≤ i := l1
      have l2 : (i : Int) ≤ b := l2
      exact ⟨_, List.mem_cons_of_mem _ List.mem_cons_self, e, by show (0 : Int) ≤ i; omega, by show (i : Int) ≤ 39; omega⟩))
  refine ⟨w1, ru_of (k := 5) (M := pm_137) rfl (by rw [Bool.and_eq_true]; exact ⟨rfl, sq_rcv hC.1 rfl rfl rfl⟩) g, vc_Cm hC t f1 (by rw [show w1 = (none, w1).2 from rfl, e1]; omega), f1, fun i hi => ?_, fun s hs => ?_⟩
  · exact fr_no f ⟨Or.inl (by decide), Or.inr (by omega), trivial⟩
  · have hs : s < 1 := hs
    have : s = 0 := by omega
    subst this
    exact e2
theorem vo_mul {p a : Nat} (hp : p < 6) (ha : a < 4) : nI p * 4 + nI a = nI (4 * p + a) := by
  have h : ∀ p, p < 6 → ∀ a, a < 4 → nI p * 4 + nI a = nI (4 * p + a) := by decide
  exact h p hp a ha
theorem vo_mul2 {p a : Nat} (hp : p < 6) (ha : a < 4) : 4 * nI p + nI a = nI (4 * p + a) := by
  have h : ∀ p, p < 6 → ∀ a, a < 4 → 4 * nI p + nI a = nI (4 * p + a) := by decide
  exact h p hp a ha
theorem vc_pre {N W u x : Int32} {K b B k a d kk : Nat} {w : pq_W} {Q : pq_R → Prop} (hC : vc_C N W K b w) (hk : k < 6) (ha : a < 4) (hB : ∀ w1, sx_Ty sx_T0 w1 → sy_r w1 2 (4 * vo_at k a + a) = (B : Int)) (hU : ∀ w1, sx_Ty sx_T0 w1 → sy_r w1 1 (vo_at k a) = u.toInt) (hB1 : B < 100) (hb : b < 40) (hd : d ≤ 40) (h6 : Nat.ble 6 kk = true)
    (h : ∀ w2, vc_C N W K (b + 1) w2 → vo_P vc_A 88 b [B] w w2 → ∃ res, pq_Go kk pm_135 55 [(8, .int (nI (d + 1))), (7, .int u), (6, .int (nI B)), (5, .int (nI (vo_at k a))), (0, .ref 87), (1, .int (nI k)), (2, .int (nI a)), (3, .int x), (4, .int (nI d))] [.int (nI B)] w2 0 0 res ∧ Q res) : ∃ res, pq_Go kk pm_135 0 (lv_args 0 [.ref 87, .int (nI k), .int (nI a), .int x, .int (nI d)]) [] w 0 0 res ∧ Q res := by
  have l := vo_lt k hk a ha
  obtain ⟨w1, r1, t1, f1⟩ := vc_wb hk ha hC.1
  have C1 : vc_C N W K b w1 := vc_Cm hC t1 (vo_P0 (A := vc_A) (c := 88) (b := 0) f1).1 (by rw [(sy_r_fr f1 (fun ⟨q, hq, _⟩ => by cases hq) : sy_r w1 87 1 = sy_r w 87 1)]; exact hC.2.2.2.2)
  obtain ⟨w2, r2, C2, P2⟩ := vc_nt hb hB1 C1
  obtain ⟨res, hg, hQ⟩ := h w2 C2 (vo_Pt (vo_P0 f1) rfl P2)
  refine ⟨res, ?_, hQ⟩
  refine go_seg 2 (pc' := 2) (ls' := [(0, .ref 87), (1, .int (nI k)), (2, .int (nI a)), (3, .int x), (4, .int (nI d))]) (st' := [.int (nI a), .int (nI k)]) (w' := w) (cs' := 0) (ss' := 0) ?_ (fun _ _ => rfl)
  refine go_cl (as := [.int (nI k), .int (nI a)]) (r := some (.int (nI (vo_at k a)))) (st' := [.int (nI (vo_at k a))]) (cs' := 0) (ss' := 0) (k1 := 6) rfl rfl rfl rfl rfl rfl h6 r1 ?_
  refine go_seg 2 (pc' := 9) (ls' := [(5, .int (nI (vo_at k a))), (0, .ref 87), (1, .int (nI k)), (2, .int (nI a)), (3, .int x), (4, .int (nI d))]) (st' := [.int (nI (vo_at k a))]) (w' := w1) (cs' := 0) (ss' := 0) ?_ (fun _ _ => rfl)
  refine go_if false rfl (br_lt_f (b := 0) rfl (by rw [nI_toInt (by omega)]; omega)) ?_
  refine go_seg 2 (pc' := 16) (ls' := [(5, .int (nI (vo_at k a))), (0, .ref 87), (1, .int (nI k)), (2, .int (nI a)), (3, .int x), (4, .int (nI d))]) (st' := [.int 40, .int (nI d)]) (w' := w1) (cs' := 0) (ss' := 0) ?_ (fun _ _ => rfl)
  refine go_cmp true rfl (br_le_t (b := 40) rfl (by rw [nI_toInt (by omega)]; omega)) ?_
  refine go_seg 6 (pc' := 30) (ls' := [(5, .int (nI (vo_at k a))), (0, .ref 87), (1, .int (nI k)), (2, .int (nI a)), (3, .int x), (4, .int (nI d))]) (st' := [.int (((nI (vo_at k a)) * 4) + (nI a)), .ref 2]) (w' := w1) (cs' := 0) (ss' := 0) ?_ (fun _ _ => rfl)
  refine go_gl (q := 4 * vo_at k a + a) (y := nI B) rfl t1 rfl (by omega) (by decide) (vo_mul l ha) (by rw [nI_toInt (by omega)]; exact hB w1 t1) ?_
  refine go_seg 3 (pc' := 36) (ls' := [(6, .int (nI B)), (5, .int (nI (vo_at k a))), (0, .ref 87), (1, .int (nI k)), (2, .int (nI a)), (3, .int x), (4, .int (nI d))]) (st' := [.int (nI B), .ref 87]) (w' := w1) (cs' := 0) (ss' := 0) ?_ (fun _ _ => rfl)
  refine go_cl (as := [.ref 87, .int (nI B)]) (r := none) (st' := []) (cs' := 0) (ss' := 0) (k1 := 6) rfl rfl rfl rfl rfl rfl h6 r2 ?_
  refine go_seg 2 (pc' := 44) (ls' := [(6, .int (nI B)), (5, .int (nI (vo_at k a))), (0, .ref 87), (1, .int (nI k)), (2, .int (nI a)), (3, .int x), (4, .int (nI d))]) (st' := [.int (nI (vo_at k a)), .ref 1]) (w' := w2) (cs' := 0) (ss' := 0) ?_ (fun _ _ => rfl)
  refine go_gl (q := vo_at k a) (y := u) rfl C2.1 rfl (by omega) (by decide) rfl (hU w2 C2.1) ?_
  refine go_seg 6 (pc' := 55) (ls' := [(8, .int (nI (d + 1))), (7, .int u), (6, .int (nI B)), (5, .int (nI (vo_at k a))), (0, .ref 87), (1, .int (nI k)), (2, .int (nI a)), (3, .int x), (4, .int (nI d))]) (st' := [.int (nI B)]) (w' := w2) (cs' := 0) (ss' := 0) ?_ (fun _ _ => by rw [nI_succ]; rfl)
  exact hg
noncomputable def vc_ok (N W : Int32) (K : Nat) (f : Nat) : Prop := ∀ (k a b d : Nat) (x v : Int32) (l : List Nat) (w : pq_W), k < 6 → a < 4 → vo_e N W K f k a x = some (v, l) → vc_C N W K b w → b + l.length ≤ 40 → d + f ≤ 41 → ∃ w1, pq_Ru (10 + f) 135 [.ref 87, .int (nI k), .int (nI a), .int x, .int (nI d)] w (some (.int v), w1) ∧ vc_C N W K (b + l.length) w1 ∧ vo_P vc_A 88 b l w w1
theorem vc_0 {N W : Int32} {K f : Nat} (hK : K < 6) (ih : vc_ok N W K f) {k b d : Nat} {x v : Int32} {l : List Nat} {w : pq_W} (hk : k < 6) (hc : vo_at k 0 = 0) (he : vo_S N W K (vo_e N W K f) x 0 = some (v, l)) (hC : vc_C N W K b w) (hb : b + l.length ≤ 40) (hd : d + (f + 1) ≤ 41) : ∃ w1, pq_Ru (10 + (f + 1)) 135 [.ref 87, .int (nI k), .int (nI 0), .int x, .int (nI d)] w (some (.int v), w1) ∧ vc_C N W K (b + l.length) w1 ∧ vo_P vc_A 88 b l w w1 := by
  have he : some (x + W, [10]) = some (v, l) := he
  cases he
  have hB : ∀ w1, sx_Ty sx_T0 w1 → sy_r w1 2 (4 * vo_at k 0 + 0) = ((10 : Nat) : Int) := fun w1 h1 => by
    rw [hc]
    have := sy_rg (r := 2) h1 rfl (g := (0, 1, 1, 0, 0, 10, 10)) (by decide) (k := 0) (j := 0) (by decide) (Nat.le_refl _) (Nat.le_refl _) (by decide)
    have h2 : 10 ≤ sy_r w1 2 0 ∧ sy_r w1 2 0 ≤ 10 := this
    show sy_r w1 2 0 = 10
    omega
  have hU : ∀ w1, sx_Ty sx_T0 w1 → sy_r w1 1 (vo_at k 0) = ((-1) : Int32).toInt := fun w1 h1 => by
    rw [hc]
    have := sy_rg (r := 1) h1 rfl (g := (0, 1, 1, 0, 0, -1, -1)) (by decide) (k := 0) (j := 0) (by decide) (Nat.le_refl _) (Nat.le_refl _) (by decide)
    have h2 : -1 ≤ sy_r w1 1 0 ∧ sy_r w1 1 0 ≤ -1 := this
    show sy_r w1 1 0 = -1
    omega
  have key : ∃ res, pq_Go (9 + (f + 1)) pm_135 0 (lv_args 0 [.ref 87, .int (nI k), .int (nI 0), .int x, .int (nI d)]) [] w 0 0 res ∧ (res.1 = some (.int (x + W)) ∧ vc_C N W K (b + 1) res.2 ∧ vo_P vc_A 88 b [10] w res.2) := by
    refine vc_pre hC hk (by decide) hB hU (by decide) (by simp only [List.length_cons, List.length_append, List.length_nil] at * <;> omega) (by omega) (Nat.ble_eq_true_of_le (by omega)) (fun w2 C2 P2 => ?_)
    refine ⟨(some (.int (x + W)), w2), ?_, rfl, C2, P2⟩
    refine go_sw (tgt := 160) rfl (by decide +kernel) ?_
    refine go_seg 2 (pc' := 162) (ls' := [(8, .int (nI (d + 1))), (7, .int (-1)), (6, .int (nI 10)), (5, .int (nI (vo_at k 0))), (0, .ref 87), (1, .int (nI k)), (2, .int (nI 0)), (3, .int x), (4, .int (nI d))]) (st' := [.ref 87, .int x]) (w' := w2) (cs' := 0) (ss' := 0) ?_ (fun _ _ => rfl)
    refine go_gf (z := .int W) rfl C2.1 rfl rfl C2.2.2.1 ?_
    exact go_end 2 (fun _ _ => rfl)
  obtain ⟨⟨y, w1⟩, hg, h1, h2, h3⟩ := key
  have h1 : y = some (.int (x + W)) := h1
  subst h1
  exact ⟨w1, ru_mono (ru_of (k := 9 + (f + 1)) (M := pm_135) rfl (by rw [Bool.and_eq_true]; exact ⟨rfl, sq_rcv hC.1 rfl rfl rfl⟩) hg) (by omega), vc_Ce h2 (by simp only [List.length_cons, List.length_append, List.length_nil] at * <;> omega), h3⟩
theorem vc_1 {N W : Int32} {K f : Nat} (hK : K < 6) (ih : vc_ok N W K f) {k b d : Nat} {x v : Int32} {l : List Nat} {w : pq_W} (hk : k < 6) (hc : vo_at k 1 = 0) (he : vo_S N W K (vo_e N W K f) x 1 = some (v, l)) (hC : vc_C N W K b w) (hb : b + l.length ≤ 40) (hd : d + (f + 1) ≤ 41) : ∃ w1, pq_Ru (10 + (f + 1)) 135 [.ref 87, .int (nI k), .int (nI 1), .int x, .int (nI d)] w (some (.int v), w1) ∧ vc_C N W K (b + l.length) w1 ∧ vo_P vc_A 88 b l w w1 := by
  obtain ⟨v1, l1, e1, hv, rfl⟩ := vo_1_of he
  have hv : (v1 * 2) = v := hv.symm
  subst hv
  have hB : ∀ w1, sx_Ty sx_T0 w1 → sy_r w1 2 (4 * vo_at k 1 + 1) = ((11 : Nat) : Int) := fun w1 h1 => by
    rw [hc]
    have := sy_rg (r := 2) h1 rfl (g := (1, 1, 1, 0, 0, 11, 11)) (by decide) (k := 0) (j := 0) (by decide) (Nat.le_refl _) (Nat.le_refl _) (by decide)
    have h2 : 11 ≤ sy_r w1 2 1 ∧ sy_r w1 2 1 ≤ 11 := this
    show sy_r w1 2 1 = 11
    omega
  have hU : ∀ w1, sx_Ty sx_T0 w1 → sy_r w1 1 (vo_at k 1) = ((-1) : Int32).toInt := fun w1 h1 => by
    rw [hc]
    have := sy_rg (r := 1) h1 rfl (g := (0, 1, 1, 0, 0, -1, -1)) (by decide) (k := 0) (j := 0) (by decide) (Nat.le_refl _) (Nat.le_refl _) (by decide)
    have h2 : -1 ≤ sy_r w1 1 0 ∧ sy_r w1 1 0 ≤ -1 := this
    show sy_r w1 1 0 = -1
    omega
  have key : ∃ res, pq_Go (9 + (f + 1)) pm_135 0 (lv_args 0 [.ref 87, .int (nI k), .int (nI 1), .int x, .int (nI d)]) [] w 0 0 res ∧ (res.1 = some (.int (v1 * 2)) ∧ vc_C N W K (b + (1 + l1.length)) res.2 ∧ vo_P vc_A 88 b (11 :: l1) w res.2) := by
    refine vc_pre hC hk (by decide) hB hU (by decide) (by simp only [List.length_cons, List.length_append, List.length_nil] at * <;> omega) (by omega) (Nat.ble_eq_true_of_le (by omega)) (fun w2 C2 P2 => ?_)
    obtain ⟨w3, r3, C3, P3⟩ := ih K 0 (b + 1) (d + 1) (x) v1 l1 w2 hK (by decide) e1 C2 (by simp only [List.length_cons, List.length_append, List.length_nil] at * <;> omega) (by omega)
    refine ⟨(some (.int (v1 * 2)), w3), ?_, rfl, vc_Ce C3 (by simp only [List.length_cons, List.length_append, List.length_nil] at * <;> omega), vo_Pt P2 rfl P3⟩
    refine go_sw (tgt := 167) rfl (by decide +kernel) ?_
    refine go_seg 2 (pc' := 169) (ls' := [(8, .int (nI (d + 1))), (7, .int (-1)), (6, .int (nI 11)), (5, .int (nI (vo_at k 1))), (0, .ref 87), (1, .int (nI k)), (2, .int (nI 1)), (3, .int x), (4, .int (nI d))]) (st' := [.ref 87, .ref 87]) (w' := w2) (cs' := 0) (ss' := 0) ?_ (fun _ _ => rfl)
    refine go_gf (z := .int (nI K)) rfl C2.1 rfl rfl C2.2.2.2.1 ?_
    refine go_seg 3 (pc' := 176) (ls' := [(8, .int (nI (d + 1))), (7, .int (-1)), (6, .int (nI 11)), (5, .int (nI (vo_at k 1))), (0, .ref 87), (1, .int (nI k)), (2, .int (nI 1)), (3, .int x), (4, .int (nI d))]) (st' := [.int (nI (d + 1)), .int x, .int 0, .int (nI K), .ref 87]) (w' := w2) (cs' := 0) (ss' := 0) ?_ (fun _ _ => rfl)
    refine go_cl (as := [.ref 87, .int (nI K), .int 0, .int x, .int (nI (d + 1))]) (r := some (.int v1)) (st' := [.int v1]) (cs' := 0) (ss' := 0) (k1 := (10 + f)) rfl rfl rfl rfl rfl rfl (Nat.ble_eq_true_of_le (by omega)) r3 ?_
    exact go_end 3 (fun _ _ => rfl)
  obtain ⟨⟨y, w1⟩, hg, h1, h2, h3⟩ := key
  have h1 : y = some (.int (v1 * 2)) := h1
  subst h1
  exact ⟨w1, ru_mono (ru_of (k := 9 + (f + 1)) (M := pm_135) rfl (by rw [Bool.and_eq_true]; exact ⟨rfl, sq_rcv hC.1 rfl rfl rfl⟩) hg) (by omega), vc_Ce h2 (by simp only [List.length_cons, List.length_append, List.length_nil] at * <;> omega), h3⟩
theorem vc_2 {N W : Int32} {K f : Nat} (hK : K < 6) (ih : vc_ok N W K f) {k b d : Nat} {x v : Int32} {l : List Nat} {w : pq_W} (hk : k < 6) (hc : vo_at k 2 = 0) (he : vo_S N W K (vo_e N W K f) x 2 = some (v, l)) (hC : vc_C N W K b w) (hb : b + l.length ≤ 40) (hd : d + (f + 1) ≤ 41) : ∃ w1, pq_Ru (10 + (f + 1)) 135 [.ref 87, .int (nI k), .int (nI 2), .int x, .int (nI d)] w (some (.int v), w1) ∧ vc_C N W K (b + l.length) w1 ∧ vo_P vc_A 88 b l w w1 := by
  have he : some (x - N, [12]) = some (v, l) := he
  cases he
  have hB : ∀ w1, sx_Ty sx_T0 w1 → sy_r w1 2 (4 * vo_at k 2 + 2) = ((12 : Nat) : Int) := fun w1 h1 => by
    rw [hc]
    have := sy_rg (r := 2) h1 rfl (g := (2, 1, 1, 0, 0, 12, 12)) (by decide) (k := 0) (j := 0) (by decide) (Nat.le_refl _) (Nat.le_refl _) (by decide)
    have h2 : 12 ≤ sy_r w1 2 2 ∧ sy_r w1 2 2 ≤ 12 := this
    show sy_r w1 2 2 = 12
    omega
  have hU : ∀ w1, sx_Ty sx_T0 w1 → sy_r w1 1 (vo_at k 2) = ((-1) : Int32).toInt := fun w1 h1 => by
    rw [hc]
    have := sy_rg (r := 1) h1 rfl (g := (0, 1, 1, 0, 0, -1, -1)) (by decide) (k := 0) (j := 0) (by decide) (Nat.le_refl _) (Nat.le_refl _) (by decide)
    have h2 : -1 ≤ sy_r w1 1 0 ∧ sy_r w1 1 0 ≤ -1 := this
    show sy_r w1 1 0 = -1
    omega
  have key : ∃ res, pq_Go (9 + (f + 1)) pm_135 0 (lv_args 0 [.ref 87, .int (nI k), .int (nI 2), .int x, .int (nI d)]) [] w 0 0 res ∧ (res.1 = some (.int (x - N)) ∧ vc_C N W K (b + 1) res.2 ∧ vo_P vc_A 88 b [12] w res.2) := by
    refine vc_pre hC hk (by decide) hB hU (by decide) (by simp only [List.length_cons, List.length_append, List.length_nil] at * <;> omega) (by omega) (Nat.ble_eq_true_of_le (by omega)) (fun w2 C2 P2 => ?_)
    refine ⟨(some (.int (x - N)), w2), ?_, rfl, C2, P2⟩
    refine go_sw (tgt := 182) rfl (by decide +kernel) ?_
    refine go_seg 2 (pc' := 184) (ls' := [(8, .int (nI (d + 1))), (7, .int (-1)), (6, .int (nI 12)), (5, .int (nI (vo_at k 2))), (0, .ref 87), (1, .int (nI k)), (2, .int (nI 2)), (3, .int x), (4, .int (nI d))]) (st' := [.ref 87, .int x]) (w' := w2) (cs' := 0) (ss' := 0) ?_ (fun _ _ => rfl)
    refine go_gf (z := .int N) rfl C2.1 rfl rfl C2.2.1 ?_
    exact go_end 2 (fun _ _ => rfl)
  obtain ⟨⟨y, w1⟩, hg, h1, h2, h3⟩ := key
  have h1 : y = some (.int (x - N)) := h1
  subst h1
  exact ⟨w1, ru_mono (ru_of (k := 9 + (f + 1)) (M := pm_135) rfl (by rw [Bool.and_eq_true]; exact ⟨rfl, sq_rcv hC.1 rfl rfl rfl⟩) hg) (by omega), vc_Ce h2 (by simp only [List.length_cons, List.length_append, List.length_nil] at * <;> omega), h3⟩
theorem vc_3 {N W : Int32} {K f : Nat} (hK : K < 6) (ih : vc_ok N W K f) {k b d : Nat} {x v : Int32} {l : List Nat} {w : pq_W} (hk : k < 6) (hc : vo_at k 3 = 0) (he : vo_S N W K (vo_e N W K f) x 3 = some (v, l)) (hC : vc_C N W K b w) (hb : b + l.length ≤ 40) (hd : d + (f + 1) ≤ 41) : ∃ w1, pq_Ru (10 + (f + 1)) 135 [.ref 87, .int (nI k), .int (nI 3), .int x, .int (nI d)] w (some (.int v), w1) ∧ vc_C N W K (b + l.length) w1 ∧ vo_P vc_A 88 b l w w1 := by
  obtain ⟨v1, l1, v2, l2, e1, e2, hv, rfl⟩ := vo_2_of he
  have hv : (v1 ^^^ v2) = v := hv.symm
  subst hv
  have hB : ∀ w1, sx_Ty sx_T0 w1 → sy_r w1 2 (4 * vo_at k 3 + 3) = ((13 : Nat) : Int) := fun w1 h1 => by
    rw [hc]
    have := sy_rg (r := 2) h1 rfl (g := (3, 1, 1, 0, 0, 13, 13)) (by decide) (k := 0) (j := 0) (by decide) (Nat.le_refl _) (Nat.le_refl _) (by decide)
    have h2 : 13 ≤ sy_r w1 2 3 ∧ sy_r w1 2 3 ≤ 13 := this
    show sy_r w1 2 3 = 13
    omega
  have hU : ∀ w1, sx_Ty sx_T0 w1 → sy_r w1 1 (vo_at k 3) = ((-1) : Int32).toInt := fun w1 h1 => by
    rw [hc]
    have := sy_rg (r := 1) h1 rfl (g := (0, 1, 1, 0, 0, -1, -1)) (by decide) (k := 0) (j := 0) (by decide) (Nat.le_refl _) (Nat.le_refl _) (by decide)
    have h2 : -1 ≤ sy_r w1 1 0 ∧ sy_r w1 1 0 ≤ -1 := this
    show sy_r w1 1 0 = -1
    omega
  have key : ∃ res, pq_Go (9 + (f + 1)) pm_135 0 (lv_args 0 [.ref 87, .int (nI k), .int (nI 3), .int x, .int (nI d)]) [] w 0 0 res ∧ (res.1 = some (.int (v1 ^^^ v2)) ∧ vc_C N W K (b + (1 + (l1.length + l2.length))) res.2 ∧ vo_P vc_A 88 b (13 :: (l1 ++ l2)) w res.2) := by
    refine vc_pre hC hk (by decide) hB hU (by decide) (by simp only [List.length_cons, List.length_append, List.length_nil] at * <;> omega) (by omega) (Nat.ble_eq_true_of_le (by omega)) (fun w2 C2 P2 => ?_)
    obtain ⟨w3, r3, C3, P3⟩ := ih K 1 (b + 1) (d + 1) (x) v1 l1 w2 hK (by decide) e1 C2 (by simp only [List.length_cons, List.length_append, List.length_nil] at * <;> omega) (by omega)
    obtain ⟨w4, r4, C4, P4⟩ := ih K 2 (b + 1 + l1.length) (d + 1) (x) v2 l2 w3 hK (by decide) e2 C3 (by simp only [List.length_cons, List.length_append, List.length_nil] at * <;> omega) (by omega)
    refine ⟨(some (.int (v1 ^^^ v2)), w4), ?_, rfl, vc_Ce C4 (by simp only [List.length_cons, List.length_append, List.length_nil] at * <;> omega), vo_Pt P2 rfl (vo_Pt P3 rfl P4)⟩
    refine go_sw (tgt := 189) rfl (by decide +kernel) ?_
    refine go_seg 2 (pc' := 191) (ls' := [(8, .int (nI (d + 1))), (7, .int (-1)), (6, .int (nI 13)), (5, .int (nI (vo_at k 3))), (0, .ref 87), (1, .int (nI k)), (2, .int (nI 3)), (3, .int x), (4, .int (nI d))]) (st' := [.ref 87, .ref 87]) (w' := w2) (cs' := 0) (ss' := 0) ?_ (fun _ _ => rfl)
    refine go_gf (z := .int (nI K)) rfl C2.1 rfl rfl C2.2.2.2.1 ?_
    refine go_seg 3 (pc' := 198) (ls' := [(8, .int (nI (d + 1))), (7, .int (-1)), (6, .int (nI 13)), (5, .int (nI (vo_at k 3))), (0, .ref 87), (1, .int (nI k)), (2, .int (nI 3)), (3, .int x), (4, .int (nI d))]) (st' := [.int (nI (d + 1)), .int x, .int 1, .int (nI K), .ref 87]) (w' := w2) (cs' := 0) (ss' := 0) ?_ (fun _ _ => rfl)
    refine go_cl (as := [.ref 87, .int (nI K), .int 1, .int x, .int (nI (d + 1))]) (r := some (.int v1)) (st' := [.int v1]) (cs' := 0) (ss' := 0) (k1 := (10 + f)) rfl rfl rfl rfl rfl rfl (Nat.ble_eq_true_of_le (by omega)) r3 ?_
    refine go_seg 2 (pc' := 203) (ls' := [(8, .int (nI (d + 1))), (7, .int (-1)), (6, .int (nI 13)), (5, .int (nI (vo_at k 3))), (0, .ref 87), (1, .int (nI k)), (2, .int (nI 3)), (3, .int x), (4, .int (nI d))]) (st' := [.ref 87, .ref 87, .int v1]) (w' := w3) (cs' := 0) (ss' := 0) ?_ (fun _ _ => rfl)
    refine go_gf (z := .int (nI K)) rfl C3.1 rfl rfl C3.2.2.2.1 ?_
    refine go_seg 3 (pc' := 210) (ls' := [(8, .int (nI (d + 1))), (7, .int (-1)), (6, .int (nI 13)), (5, .int (nI (vo_at k 3))), (0, .ref 87), (1, .int (nI k)), (2, .int (nI 3)), (3, .int x), (4, .int (nI d))]) (st' := [.int (nI (d + 1)), .int x, .int 2, .int (nI K), .ref 87, .int v1]) (w' := w3) (cs' := 0) (ss' := 0) ?_ (fun _ _ => rfl)
    refine go_cl (as := [.ref 87, .int (nI K), .int 2, .int x, .int (nI (d + 1))]) (r := some (.int v2)) (st' := [.int v2, .int v1]) (cs' := 0) (ss' := 0) (k1 := (10 + f)) rfl rfl rfl rfl rfl rfl (Nat.ble_eq_true_of_le (by omega)) r4 ?_
    exact go_end 2 (fun _ _ => rfl)
  obtain ⟨⟨y, w1⟩, hg, h1, h2, h3⟩ := key
  have h1 : y = some (.int (v1 ^^^ v2)) := h1
  subst h1
  exact ⟨w1, ru_mono (ru_of (k := 9 + (f + 1)) (M := pm_135) rfl (by rw [Bool.and_eq_true]; exact ⟨rfl, sq_rcv hC.1 rfl rfl rfl⟩) hg) (by omega), vc_Ce h2 (by simp only [List.length_cons, List.length_append, List.length_nil] at * <;> omega), h3⟩
theorem vc_4 {N W : Int32} {K f : Nat} (hK : K < 6) (ih : vc_ok N W K f) {k b d : Nat} {x v : Int32} {l : List Nat} {w : pq_W} (hk : k < 6) (hc : vo_at k 0 = 1) (he : vo_S N W K (vo_e N W K f) x 4 = some (v, l)) (hC : vc_C N W K b w) (hb : b + l.length ≤ 40) (hd : d + (f + 1) ≤ 41) : ∃ w1, pq_Ru (10 + (f + 1)) 135 [.ref 87, .int (nI k), .int (nI 0), .int x, .int (nI d)] w (some (.int v), w1) ∧ vc_C N W K (b + l.length) w1 ∧ vo_P vc_A 88 b l w w1 := by
  obtain ⟨v1, l1, e1, hv, rfl⟩ := vo_1_of he
  have hv : (v1 + N) = v := hv.symm
  subst hv
  have hB : ∀ w1, sx_Ty sx_T0 w1 → sy_r w1 2 (4 * vo_at k 0 + 0) = ((20 : Nat) : Int) := fun w1 h1 => by
    rw [hc]
    have := sy_rg (r := 2) h1 rfl (g := (4, 1, 1, 0, 0, 20, 20)) (by decide) (k := 0) (j := 0) (by decide) (Nat.le_refl _) (Nat.le_refl _) (by decide)
    have h2 : 20 ≤ sy_r w1 2 4 ∧ sy_r w1 2 4 ≤ 20 := this
    show sy_r w1 2 4 = 20
    omega
  have hU : ∀ w1, sx_Ty sx_T0 w1 → sy_r w1 1 (vo_at k 0) = (nI 0 : Int32).toInt := fun w1 h1 => by
    rw [hc]
    have := sy_rg (r := 1) h1 rfl (g := (1, 1, 1, 0, 0, 0, 0)) (by decide) (k := 0) (j := 0) (by decide) (Nat.le_refl _) (Nat.le_refl _) (by decide)
    have h2 : 0 ≤ sy_r w1 1 1 ∧ sy_r w1 1 1 ≤ 0 := this
    show sy_r w1 1 1 = 0
    omega
  have key : ∃ res, pq_Go (9 + (f + 1)) pm_135 0 (lv_args 0 [.ref 87, .int (nI k), .int (nI 0), .int x, .int (nI d)]) [] w 0 0 res ∧ (res.1 = some (.int (v1 + N)) ∧ vc_C N W K (b + (1 + l1.length)) res.2 ∧ vo_P vc_A 88 b (20 :: l1) w res.2) := by
    refine vc_pre hC hk (by decide) hB hU (by decide) (by simp only [List.length_cons, List.length_append, List.length_nil] at * <;> omega) (by omega) (Nat.ble_eq_true_of_le (by omega)) (fun w2 C2 P2 => ?_)
    obtain ⟨w3, r3, C3, P3⟩ := ih 0 0 (b + 1) (d + 1) (x) v1 l1 w2 (by decide) (by decide) e1 C2 (by simp only [List.length_cons, List.length_append, List.length_nil] at * <;> omega) (by omega)
    refine ⟨(some (.int (v1 + N)), w3), ?_, rfl, vc_Ce C3 (by simp only [List.length_cons, List.length_append, List.length_nil] at * <;> omega), vo_Pt P2 rfl P3⟩
    refine go_sw (tgt := 215) rfl (by decide +kernel) ?_
    refine go_seg 5 (pc' := 222) (ls' := [(8, .int (nI (d + 1))), (7, .int (nI 0)), (6, .int (nI 20)), (5, .int (nI (vo_at k 0))), (0, .ref 87), (1, .int (nI k)), (2, .int (nI 0)), (3, .int x), (4, .int (nI d))]) (st' := [.int (nI (d + 1)), .int x, .int 0, .int (nI 0), .ref 87]) (w' := w2) (cs' := 0) (ss' := 0) ?_ (fun _ _ => rfl)
    refine go_cl (as := [.ref 87, .int (nI 0), .int 0, .int x, .int (nI (d + 1))]) (r := some (.int v1)) (st' := [.int v1]) (cs' := 0) (ss' := 0) (k1 := (10 + f)) rfl rfl rfl rfl rfl rfl (Nat.ble_eq_true_of_le (by omega)) r3 ?_
    refine go_seg 1 (pc' := 226) (ls' := [(8, .int (nI (d + 1))), (7, .int (nI 0)), (6, .int (nI 20)), (5, .int (nI (vo_at k 0))), (0, .ref 87), (1, .int (nI k)), (2, .int (nI 0)), (3, .int x), (4, .int (nI d))]) (st' := [.ref 87, .int v1]) (w' := w3) (cs' := 0) (ss' := 0) ?_ (fun _ _ => rfl)
    refine go_gf (z := .int N) rfl C3.1 rfl rfl C3.2.1 ?_
    exact go_end 2 (fun _ _ => rfl)
  obtain ⟨⟨y, w1⟩, hg, h1, h2, h3⟩ := key
  have h1 : y = some (.int (v1 + N)) := h1
  subst h1
  exact ⟨w1, ru_mono (ru_of (k := 9 + (f + 1)) (M := pm_135) rfl (by rw [Bool.and_eq_true]; exact ⟨rfl, sq_rcv hC.1 rfl rfl rfl⟩) hg) (by omega), vc_Ce h2 (by simp only [List.length_cons, List.length_append, List.length_nil] at * <;> omega), h3⟩
theorem vc_7 {N W : Int32} {K f : Nat} (hK : K < 6) (ih : vc_ok N W K f) {k b d : Nat} {x v : Int32} {l : List Nat} {w : pq_W} (hk : k < 6) (hc : vo_at k 3 = 1) (he : vo_S N W K (vo_e N W K f) x 7 = some (v, l)) (hC : vc_C N W K b w) (hb : b + l.length ≤ 40) (hd : d + (f + 1) ≤ 41) : ∃ w1, pq_Ru (10 + (f + 1)) 135 [.ref 87, .int (nI k), .int (nI 3), .int x, .int (nI d)] w (some (.int v), w1) ∧ vc_C N W K (b + l.length) w1 ∧ vo_P vc_A 88 b l w w1 := by
  obtain ⟨v1, l1, e1, hv, rfl⟩ := vo_1_of he
  have hv : (v1) = v := hv.symm
  subst hv
  have hB : ∀ w1, sx_Ty sx_T0 w1 → sy_r w1 2 (4 * vo_at k 3 + 3) = ((21 : Nat) : Int) := fun w1 h1 => by
    rw [hc]
    have := sy_rg (r := 2) h1 rfl (g := (7, 1, 1, 0, 0, 21, 21)) (by decide) (k := 0) (j := 0) (by decide) (Nat.le_refl _) (Nat.le_refl _) (by decide)
    have h2 : 21 ≤ sy_r w1 2 7 ∧ sy_r w1 2 7 ≤ 21 := this
    show sy_r w1 2 7 = 21
    omega
  have hU : ∀ w1, sx_Ty sx_T0 w1 → sy_r w1 1 (vo_at k 3) = (nI 0 : Int32).toInt := fun w1 h1 => by
    rw [hc]
    have := sy_rg (r := 1) h1 rfl (g := (1, 1, 1, 0, 0, 0, 0)) (by decide) (k := 0) (j := 0) (by decide) (Nat.le_refl _) (Nat.le_refl _) (by decide)
    have h2 : 0 ≤ sy_r w1 1 1 ∧ sy_r w1 1 1 ≤ 0 := this
    show sy_r w1 1 1 = 0
    omega
  have key : ∃ res, pq_Go (9 + (f + 1)) pm_135 0 (lv_args 0 [.ref 87, .int (nI k), .int (nI 3), .int x, .int (nI d)]) [] w 0 0 res ∧ (res.1 = some (.int (v1)) ∧ vc_C N W K (b + (1 + l1.length)) res.2 ∧ vo_P vc_A 88 b (21 :: l1) w res.2) := by
    refine vc_pre hC hk (by decide) hB hU (by decide) (by simp only [List.length_cons, List.length_append, List.length_nil] at * <;> omega) (by omega) (Nat.ble_eq_true_of_le (by omega)) (fun w2 C2 P2 => ?_)
    obtain ⟨w3, r3, C3, P3⟩ := ih 0 3 (b + 1) (d + 1) (x - 1) v1 l1 w2 (by decide) (by decide) e1 C2 (by simp only [List.length_cons, List.length_append, List.length_nil] at * <;> omega) (by omega)
    refine ⟨(some (.int (v1)), w3), ?_, rfl, vc_Ce C3 (by simp only [List.length_cons, List.length_append, List.length_nil] at * <;> omega), vo_Pt P2 rfl P3⟩
    refine go_sw (tgt := 231) rfl (by decide +kernel) ?_
    refine go_seg 7 (pc' := 240) (ls' := [(8, .int (nI (d + 1))), (7, .int (nI 0)), (6, .int (nI 21)), (5, .int (nI (vo_at k 3))), (0, .ref 87), (1, .int (nI k)), (2, .int (nI 3)), (3, .int x), (4, .int (nI d))]) (st' := [.int (nI (d + 1)), .int (x - 1), .int 3, .int (nI 0), .ref 87]) (w' := w2) (cs' := 0) (ss' := 0) ?_ (fun _ _ => rfl)
    refine go_cl (as := [.ref 87, .int (nI 0), .int 3, .int (x - 1), .int (nI (d + 1))]) (r := some (.int v1)) (st' := [.int v1]) (cs' := 0) (ss' := 0) (k1 := (10 + f)) rfl rfl rfl rfl rfl rfl (Nat.ble_eq_true_of_le (by omega)) r3 ?_
    exact go_end 1 (fun _ _ => rfl)
  obtain ⟨⟨y, w1⟩, hg, h1, h2, h3⟩ := key
  have h1 : y = some (.int (v1)) := h1
  subst h1
  exact ⟨w1, ru_mono (ru_of (k := 9 + (f + 1)) (M := pm_135) rfl (by rw [Bool.and_eq_true]; exact ⟨rfl, sq_rcv hC.1 rfl rfl rfl⟩) hg) (by omega), vc_Ce h2 (by simp only [List.length_cons, List.length_append, List.length_nil] at * <;> omega), h3⟩
theorem vc_8 {N W : Int32} {K f : Nat} (hK : K < 6) (ih : vc_ok N W K f) {k b d : Nat} {x v : Int32} {l : List Nat} {w : pq_W} (hk : k < 6) (hc : vo_at k 0 = 2) (he : vo_S N W K (vo_e N W K f) x 8 = some (v, l)) (hC : vc_C N W K b w) (hb : b + l.length ≤ 40) (hd : d + (f + 1) ≤ 41) : ∃ w1, pq_Ru (10 + (f + 1)) 135 [.ref 87, .int (nI k), .int (nI 0), .int x, .int (nI d)] w (some (.int v), w1) ∧ vc_C N W K (b + l.length) w1 ∧ vo_P vc_A 88 b l w w1 := by
  obtain ⟨v1, l1, e1, hv, rfl⟩ := vo_1_of he
  have hv : (v1) = v := hv.symm
  subst hv
  have hB : ∀ w1, sx_Ty sx_T0 w1 → sy_r w1 2 (4 * vo_at k 0 + 0) = ((31 : Nat) : Int) := fun w1 h1 => by
    rw [hc]
    have := sy_rg (r := 2) h1 rfl (g := (8, 1, 1, 0, 0, 31, 31)) (by decide) (k := 0) (j := 0) (by decide) (Nat.le_refl _) (Nat.le_refl _) (by decide)
    have h2 : 31 ≤ sy_r w1 2 8 ∧ sy_r w1 2 8 ≤ 31 := this
    show sy_r w1 2 8 = 31
    omega
  have hU : ∀ w1, sx_Ty sx_T0 w1 → sy_r w1 1 (vo_at k 0) = (nI 1 : Int32).toInt := fun w1 h1 => by
    rw [hc]
    have := sy_rg (r := 1) h1 rfl (g := (2, 1, 1, 0, 0, 1, 1)) (by decide) (k := 0) (j := 0) (by decide) (Nat.le_refl _) (Nat.le_refl _) (by decide)
    have h2 : 1 ≤ sy_r w1 1 2 ∧ sy_r w1 1 2 ≤ 1 := this
    show sy_r w1 1 2 = 1
    omega
  have key : ∃ res, pq_Go (9 + (f + 1)) pm_135 0 (lv_args 0 [.ref 87, .int (nI k), .int (nI 0), .int x, .int (nI d)]) [] w 0 0 res ∧ (res.1 = some (.int (v1)) ∧ vc_C N W K (b + (1 + l1.length)) res.2 ∧ vo_P vc_A 88 b (31 :: l1) w res.2) := by
    refine vc_pre hC hk (by decide) hB hU (by decide) (by simp only [List.length_cons, List.length_append, List.length_nil] at * <;> omega) (by omega) (Nat.ble_eq_true_of_le (by omega)) (fun w2 C2 P2 => ?_)
    obtain ⟨w3, r3, C3, P3⟩ := ih 1 0 (b + 1) (d + 1) (x + W) v1 l1 w2 (by decide) (by decide) e1 C2 (by simp only [List.length_cons, List.length_append, List.length_nil] at * <;> omega) (by omega)
    refine ⟨(some (.int (v1)), w3), ?_, rfl, vc_Ce C3 (by simp only [List.length_cons, List.length_append, List.length_nil] at * <;> omega), vo_Pt P2 rfl P3⟩
    refine go_sw (tgt := 257) rfl (by decide +kernel) ?_
    refine go_seg 5 (pc' := 263) (ls' := [(8, .int (nI (d + 1))), (7, .int (nI 1)), (6, .int (nI 31)), (5, .int (nI (vo_at k 0))), (0, .ref 87), (1, .int (nI k)), (2, .int (nI 0)), (3, .int x), (4, .int (nI d))]) (st' := [.ref 87, .int x, .int 0, .int (nI 1), .ref 87]) (w' := w2) (cs' := 0) (ss' := 0) ?_ (fun _ _ => rfl)
    refine go_gf (z := .int W) rfl C2.1 rfl rfl C2.2.2.1 ?_
    refine go_seg 2 (pc' := 269) (ls' := [(8, .int (nI (d + 1))), (7, .int (nI 1)), (6, .int (nI 31)), (5, .int (nI (vo_at k 0))), (0, .ref 87), (1, .int (nI k)), (2, .int (nI 0)), (3, .int x), (4, .int (nI d))]) (st' := [.int (nI (d + 1)), .int (x + W), .int 0, .int (nI 1), .ref 87]) (w' := w2) (cs' := 0) (ss' := 0) ?_ (fun _ _ => rfl)
    refine go_cl (as := [.ref 87, .int (nI 1), .int 0, .int (x + W), .int (nI (d + 1))]) (r := some (.int v1)) (st' := [.int v1]) (cs' := 0) (ss' := 0) (k1 := (10 + f)) rfl rfl rfl rfl rfl rfl (Nat.ble_eq_true_of_le (by omega)) r3 ?_
    exact go_end 1 (fun _ _ => rfl)
  obtain ⟨⟨y, w1⟩, hg, h1, h2, h3⟩ := key
  have h1 : y = some (.int (v1)) := h1
  subst h1
  exact ⟨w1, ru_mono (ru_of (k := 9 + (f + 1)) (M := pm_135) rfl (by rw [Bool.and_eq_true]; exact ⟨rfl, sq_rcv hC.1 rfl rfl rfl⟩) hg) (by omega), vc_Ce h2 (by simp only [List.length_cons, List.length_append, List.length_nil] at * <;> omega), h3⟩
theorem vc_10 {N W : Int32} {K f : Nat} (hK : K < 6) (ih : vc_ok N W K f) {k b d : Nat} {x v : Int32} {l : List Nat} {w : pq_W} (hk : k < 6) (hc : vo_at k 2 = 2) (he : vo_S N W K (vo_e N W K f) x 10 = some (v, l)) (hC : vc_C N W K b w) (hb : b + l.length ≤ 40) (hd : d + (f + 1) ≤ 41) : ∃ w1, pq_Ru (10 + (f + 1)) 135 [.ref 87, .int (nI k), .int (nI 2), .int x, .int (nI d)] w (some (.int v), w1) ∧ vc_C N W K (b + l.length) w1 ∧ vo_P vc_A 88 b l w w1 := by
  obtain ⟨v1, l1, e1, hv, rfl⟩ := vo_1_of he
  have hv : (v1 * 3) = v := hv.symm
  subst hv
  have hB : ∀ w1, sx_Ty sx_T0 w1 → sy_r w1 2 (4 * vo_at k 2 + 2) = ((30 : Nat) : Int) := fun w1 h1 => by
    rw [hc]
    have := sy_rg (r := 2) h1 rfl (g := (10, 1, 1, 0, 0, 30, 30)) (by decide) (k := 0) (j := 0) (by decide) (Nat.le_refl _) (Nat.le_refl _) (by decide)
    have h2 : 30 ≤ sy_r w1 2 10 ∧ sy_r w1 2 10 ≤ 30 := this
    show sy_r w1 2 10 = 30
    omega
  have hU : ∀ w1, sx_Ty sx_T0 w1 → sy_r w1 1 (vo_at k 2) = (nI 1 : Int32).toInt := fun w1 h1 => by
    rw [hc]
    have := sy_rg (r := 1) h1 rfl (g := (2, 1, 1, 0, 0, 1, 1)) (by decide) (k := 0) (j := 0) (by decide) (Nat.le_refl _) (Nat.le_refl _) (by decide)
    have h2 : 1 ≤ sy_r w1 1 2 ∧ sy_r w1 1 2 ≤ 1 := this
    show sy_r w1 1 2 = 1
    omega
  have key : ∃ res, pq_Go (9 + (f + 1)) pm_135 0 (lv_args 0 [.ref 87, .int (nI k), .int (nI 2), .int x, .int (nI d)]) [] w 0 0 res ∧ (res.1 = some (.int (v1 * 3)) ∧ vc_C N W K (b + (1 + l1.length)) res.2 ∧ vo_P vc_A 88 b (30 :: l1) w res.2) := by
    refine vc_pre hC hk (by decide) hB hU (by decide) (by simp only [List.length_cons, List.length_append, List.length_nil] at * <;> omega) (by omega) (Nat.ble_eq_true_of_le (by omega)) (fun w2 C2 P2 => ?_)
    obtain ⟨w3, r3, C3, P3⟩ := ih 1 2 (b + 1) (d + 1) (x) v1 l1 w2 (by decide) (by decide) e1 C2 (by simp only [List.length_cons, List.length_append, List.length_nil] at * <;> omega) (by omega)
    refine ⟨(some (.int (v1 * 3)), w3), ?_, rfl, vc_Ce C3 (by simp only [List.length_cons, List.length_append, List.length_nil] at * <;> omega), vo_Pt P2 rfl P3⟩
    refine go_sw (tgt := 244) rfl (by decide +kernel) ?_
    refine go_seg 5 (pc' := 251) (ls' := [(8, .int (nI (d + 1))), (7, .int (nI 1)), (6, .int (nI 30)), (5, .int (nI (vo_at k 2))), (0, .ref 87), (1, .int (nI k)), (2, .int (nI 2)), (3, .int x), (4, .int (nI d))]) (st' := [.int (nI (d + 1)), .int x, .int 2, .int (nI 1), .ref 87]) (w' := w2) (cs' := 0) (ss' := 0) ?_ (fun _ _ => rfl)
    refine go_cl (as := [.ref 87, .int (nI 1), .int 2, .int x, .int (nI (d + 1))]) (r := some (.int v1)) (st' := [.int v1]) (cs' := 0) (ss' := 0) (k1 := (10 + f)) rfl rfl rfl rfl rfl rfl (Nat.ble_eq_true_of_le (by omega)) r3 ?_
    exact go_end 3 (fun _ _ => rfl)
  obtain ⟨⟨y, w1⟩, hg, h1, h2, h3⟩ := key
  have h1 : y = some (.int (v1 * 3)) := h1
  subst h1
  exact ⟨w1, ru_mono (ru_of (k := 9 + (f + 1)) (M := pm_135) rfl (by rw [Bool.and_eq_true]; exact ⟨rfl, sq_rcv hC.1 rfl rfl rfl⟩) hg) (by omega), vc_Ce h2 (by simp only [List.length_cons, List.length_append, List.length_nil] at * <;> omega), h3⟩
theorem vc_13 {N W : Int32} {K f : Nat} (hK : K < 6) (ih : vc_ok N W K f) {k b d : Nat} {x v : Int32} {l : List Nat} {w : pq_W} (hk : k < 6) (hc : vo_at k 1 = 3) (he : vo_S N W K (vo_e N W K f) x 13 = some (v, l)) (hC : vc_C N W K b w) (hb : b + l.length ≤ 40) (hd : d + (f + 1) ≤ 41) : ∃ w1, pq_Ru (10 + (f + 1)) 135 [.ref 87, .int (nI k), .int (nI 1), .int x, .int (nI d)] w (some (.int v), w1) ∧ vc_C N W K (b + l.length) w1 ∧ vo_P vc_A 88 b l w w1 := by
  obtain ⟨v1, l1, v2, l2, e1, e2, hv, rfl⟩ := vo_2_of he
  have hv : (v1 - v2) = v := hv.symm
  subst hv
  have hB : ∀ w1, sx_Ty sx_T0 w1 → sy_r w1 2 (4 * vo_at k 1 + 1) = ((40 : Nat) : Int) := fun w1 h1 => by
    rw [hc]
    have := sy_rg (r := 2) h1 rfl (g := (13, 1, 1, 0, 0, 40, 40)) (by decide) (k := 0) (j := 0) (by decide) (Nat.le_refl _) (Nat.le_refl _) (by decide)
    have h2 : 40 ≤ sy_r w1 2 13 ∧ sy_r w1 2 13 ≤ 40 := this
    show sy_r w1 2 13 = 40
    omega
  have hU : ∀ w1, sx_Ty sx_T0 w1 → sy_r w1 1 (vo_at k 1) = (nI 0 : Int32).toInt := fun w1 h1 => by
    rw [hc]
    have := sy_rg (r := 1) h1 rfl (g := (3, 1, 1, 0, 0, 0, 0)) (by decide) (k := 0) (j := 0) (by decide) (Nat.le_refl _) (Nat.le_refl _) (by decide)
    have h2 : 0 ≤ sy_r w1 1 3 ∧ sy_r w1 1 3 ≤ 0 := this
    show sy_r w1 1 3 = 0
    omega
  have key : ∃ res, pq_Go (9 + (f + 1)) pm_135 0 (lv_args 0 [.ref 87, .int (nI k), .int (nI 1), .int x, .int (nI d)]) [] w 0 0 res ∧ (res.1 = some (.int (v1 - v2)) ∧ vc_C N W K (b + (1 + (l1.length + l2.length))) res.2 ∧ vo_P vc_A 88 b (40 :: (l1 ++ l2)) w res.2) := by
    refine vc_pre hC hk (by decide) hB hU (by decide) (by simp only [List.length_cons, List.length_append, List.length_nil] at * <;> omega) (by omega) (Nat.ble_eq_true_of_le (by omega)) (fun w2 C2 P2 => ?_)
    obtain ⟨w3, r3, C3, P3⟩ := ih 0 1 (b + 1) (d + 1) (x) v1 l1 w2 (by decide) (by decide) e1 C2 (by simp only [List.length_cons, List.length_append, List.length_nil] at * <;> omega) (by omega)
    obtain ⟨w4, r4, C4, P4⟩ := ih K 2 (b + 1 + l1.length) (d + 1) (x) v2 l2 w3 hK (by decide) e2 C3 (by simp only [List.length_cons, List.length_append, List.length_nil] at * <;> omega) (by omega)
    refine ⟨(some (.int (v1 - v2)), w4), ?_, rfl, vc_Ce C4 (by simp only [List.length_cons, List.length_append, List.length_nil] at * <;> omega), vo_Pt P2 rfl (vo_Pt P3 rfl P4)⟩
    refine go_sw (tgt := 273) rfl (by decide +kernel) ?_
    refine go_seg 5 (pc' := 280) (ls' := [(8, .int (nI (d + 1))), (7, .int (nI 0)), (6, .int (nI 40)), (5, .int (nI (vo_at k 1))), (0, .ref 87), (1, .int (nI k)), (2, .int (nI 1)), (3, .int x), (4, .int (nI d))]) (st' := [.int (nI (d + 1)), .int x, .int 1, .int (nI 0), .ref 87]) (w' := w2) (cs' := 0) (ss' := 0) ?_ (fun _ _ => rfl)
    refine go_cl (as := [.ref 87, .int (nI 0), .int 1, .int x, .int (nI (d + 1))]) (r := some (.int v1)) (st' := [.int v1]) (cs' := 0) (ss' := 0) (k1 := (10 + f)) rfl rfl rfl rfl rfl rfl (Nat.ble_eq_true_of_le (by omega)) r3 ?_
    refine go_seg 2 (pc' := 285) (ls' := [(8, .int (nI (d + 1))), (7, .int (nI 0)), (6, .int (nI 40)), (5, .int (nI (vo_at k 1))), (0, .ref 87), (1, .int (nI k)), (2, .int (nI 1)), (3, .int x), (4, .int (nI d))]) (st' := [.ref 87, .ref 87, .int v1]) (w' := w3) (cs' := 0) (ss' := 0) ?_ (fun _ _ => rfl)
    refine go_gf (z := .int (nI K)) rfl C3.1 rfl rfl C3.2.2.2.1 ?_
    refine go_seg 3 (pc' := 292) (ls' := [(8, .int (nI (d + 1))), (7, .int (nI 0)), (6, .int (nI 40)), (5, .int (nI (vo_at k 1))), (0, .ref 87), (1, .int (nI k)), (2, .int (nI 1)), (3, .int x), (4, .int (nI d))]) (st' := [.int (nI (d + 1)), .int x, .int 2, .int (nI K), .ref 87, .int v1]) (w' := w3) (cs' := 0) (ss' := 0) ?_ (fun _ _ => rfl)
    refine go_cl (as := [.ref 87, .int (nI K), .int 2, .int x, .int (nI (d + 1))]) (r := some (.int v2)) (st' := [.int v2, .int v1]) (cs' := 0) (ss' := 0) (k1 := (10 + f)) rfl rfl rfl rfl rfl rfl (Nat.ble_eq_true_of_le (by omega)) r4 ?_
    exact go_end 2 (fun _ _ => rfl)
  obtain ⟨⟨y, w1⟩, hg, h1, h2, h3⟩ := key
  have h1 : y = some (.int (v1 - v2)) := h1
  subst h1
  exact ⟨w1, ru_mono (ru_of (k := 9 + (f + 1)) (M := pm_135) rfl (by rw [Bool.and_eq_true]; exact ⟨rfl, sq_rcv hC.1 rfl rfl rfl⟩) hg) (by omega), vc_Ce h2 (by simp only [List.length_cons, List.length_append, List.length_nil] at * <;> omega), h3⟩
theorem vc_19 {N W : Int32} {K f : Nat} (hK : K < 6) (ih : vc_ok N W K f) {k b d : Nat} {x v : Int32} {l : List Nat} {w : pq_W} (hk : k < 6) (hc : vo_at k 3 = 4) (he : vo_S N W K (vo_e N W K f) x 19 = some (v, l)) (hC : vc_C N W K b w) (hb : b + l.length ≤ 40) (hd : d + (f + 1) ≤ 41) : ∃ w1, pq_Ru (10 + (f + 1)) 135 [.ref 87, .int (nI k), .int (nI 3), .int x, .int (nI d)] w (some (.int v), w1) ∧ vc_C N W K (b + l.length) w1 ∧ vo_P vc_A 88 b l w w1 := by
  obtain ⟨v1, l1, v2, l2, e1, e2, hv, rfl⟩ := vo_2_of he
  have hv : (v1 - v2) = v := hv.symm
  subst hv
  have hB : ∀ w1, sx_Ty sx_T0 w1 → sy_r w1 2 (4 * vo_at k 3 + 3) = ((50 : Nat) : Int) := fun w1 h1 => by
    rw [hc]
    have := sy_rg (r := 2) h1 rfl (g := (19, 1, 1, 0, 0, 50, 50)) (by decide) (k := 0) (j := 0) (by decide) (Nat.le_refl _) (Nat.le_refl _) (by decide)
    have h2 : 50 ≤ sy_r w1 2 19 ∧ sy_r w1 2 19 ≤ 50 := this
    show sy_r w1 2 19 = 50
    omega
  have hU : ∀ w1, sx_Ty sx_T0 w1 → sy_r w1 1 (vo_at k 3) = (nI 0 : Int32).toInt := fun w1 h1 => by
    rw [hc]
    have := sy_rg (r := 1) h1 rfl (g := (4, 1, 1, 0, 0, 0, 0)) (by decide) (k := 0) (j := 0) (by decide) (Nat.le_refl _) (Nat.le_refl _) (by decide)
    have h2 : 0 ≤ sy_r w1 1 4 ∧ sy_r w1 1 4 ≤ 0 := this
    show sy_r w1 1 4 = 0
    omega
  have key : ∃ res, pq_Go (9 + (f + 1)) pm_135 0 (lv_args 0 [.ref 87, .int (nI k), .int (nI 3), .int x, .int (nI d)]) [] w 0 0 res ∧ (res.1 = some (.int (v1 - v2)) ∧ vc_C N W K (b + (1 + (l1.length + l2.length))) res.2 ∧ vo_P vc_A 88 b (50 :: (l1 ++ l2)) w res.2) := by
    refine vc_pre hC hk (by decide) hB hU (by decide) (by simp only [List.length_cons, List.length_append, List.length_nil] at * <;> omega) (by omega) (Nat.ble_eq_true_of_le (by omega)) (fun w2 C2 P2 => ?_)
    obtain ⟨w3, r3, C3, P3⟩ := ih K 2 (b + 1) (d + 1) (x) v1 l1 w2 hK (by decide) e1 C2 (by simp only [List.length_cons, List.length_append, List.length_nil] at * <;> omega) (by omega)
    obtain ⟨w4, r4, C4, P4⟩ := ih 0 3 (b + 1 + l1.length) (d + 1) (x) v2 l2 w3 (by decide) (by decide) e2 C3 (by simp only [List.length_cons, List.length_append, List.length_nil] at * <;> omega) (by omega)
    refine ⟨(some (.int (v1 - v2)), w4), ?_, rfl, vc_Ce C4 (by simp only [List.length_cons, List.length_append, List.length_nil] at * <;> omega), vo_Pt P2 rfl (vo_Pt P3 rfl P4)⟩
    refine go_sw (tgt := 297) rfl (by decide +kernel) ?_
    refine go_seg 2 (pc' := 299) (ls' := [(8, .int (nI (d + 1))), (7, .int (nI 0)), (6, .int (nI 50)), (5, .int (nI (vo_at k 3))), (0, .ref 87), (1, .int (nI k)), (2, .int (nI 3)), (3, .int x), (4, .int (nI d))]) (st' := [.ref 87, .ref 87]) (w' := w2) (cs' := 0) (ss' := 0) ?_ (fun _ _ => rfl)
    refine go_gf (z := .int (nI K)) rfl C2.1 rfl rfl C2.2.2.2.1 ?_
    refine go_seg 3 (pc' := 306) (ls' := [(8, .int (nI (d + 1))), (7, .int (nI 0)), (6, .int (nI 50)), (5, .int (nI (vo_at k 3))), (0, .ref 87), (1, .int (nI k)), (2, .int (nI 3)), (3, .int x), (4, .int (nI d))]) (st' := [.int (nI (d + 1)), .int x, .int 2, .int (nI K), .ref 87]) (w' := w2) (cs' := 0) (ss' := 0) ?_ (fun _ _ => rfl)
    refine go_cl (as := [.ref 87, .int (nI K), .int 2, .int x, .int (nI (d + 1))]) (r := some (.int v1)) (st' := [.int v1]) (cs' := 0) (ss' := 0) (k1 := (10 + f)) rfl rfl rfl rfl rfl rfl (Nat.ble_eq_true_of_le (by omega)) r3 ?_
    refine go_seg 5 (pc' := 316) (ls' := [(8, .int (nI (d + 1))), (7, .int (nI 0)), (6, .int (nI 50)), (5, .int (nI (vo_at k 3))), (0, .ref 87), (1, .int (nI k)), (2, .int (nI 3)), (3, .int x), (4, .int (nI d))]) (st' := [.int (nI (d + 1)), .int x, .int 3, .int (nI 0), .ref 87, .int v1]) (w' := w3) (cs' := 0) (ss' := 0) ?_ (fun _ _ => rfl)
    refine go_cl (as := [.ref 87, .int (nI 0), .int 3, .int x, .int (nI (d + 1))]) (r := some (.int v2)) (st' := [.int v2, .int v1]) (cs' := 0) (ss' := 0) (k1 := (10 + f)) rfl rfl rfl rfl rfl rfl (Nat.ble_eq_true_of_le (by omega)) r4 ?_
    exact go_end 2 (fun _ _ => rfl)
  obtain ⟨⟨y, w1⟩, hg, h1, h2, h3⟩ := key
  have h1 : y = some (.int (v1 - v2)) := h1
  subst h1
  exact ⟨w1, ru_mono (ru_of (k := 9 + (f + 1)) (M := pm_135) rfl (by rw [Bool.and_eq_true]; exact ⟨rfl, sq_rcv hC.1 rfl rfl rfl⟩) hg) (by omega), vc_Ce h2 (by simp only [List.length_cons, List.length_append, List.length_nil] at * <;> omega), h3⟩
theorem vc_21 {N W : Int32} {K f : Nat} (hK : K < 6) (ih : vc_ok N W K f) {k b d : Nat} {x v : Int32} {l : List Nat} {w : pq_W} (hk : k < 6) (hc : vo_at k 1 = 5) (he : vo_S N W K (vo_e N W K f) x 21 = some (v, l)) (hC : vc_C N W K b w) (hb : b + l.length ≤ 40) (hd : d + (f + 1) ≤ 41) : ∃ w1, pq_Ru (10 + (f + 1)) 135 [.ref 87, .int (nI k), .int (nI 1), .int x, .int (nI d)] w (some (.int v), w1) ∧ vc_C N W K (b + l.length) w1 ∧ vo_P vc_A 88 b l w w1 := by
  obtain ⟨v1, l1, v2, l2, e1, e2, hv, rfl⟩ := vo_2_of he
  have hv : (v1 + v2) = v := hv.symm
  subst hv
  have hB : ∀ w1, sx_Ty sx_T0 w1 → sy_r w1 2 (4 * vo_at k 1 + 1) = ((61 : Nat) : Int) := fun w1 h1 => by
    rw [hc]
    have := sy_rg (r := 2) h1 rfl (g := (21, 1, 1, 0, 0, 61, 61)) (by decide) (k := 0) (j := 0) (by decide) (Nat.le_refl _) (Nat.le_refl _) (by decide)
    have h2 : 61 ≤ sy_r w1 2 21 ∧ sy_r w1 2 21 ≤ 61 := this
    show sy_r w1 2 21 = 61
    omega
  have hU : ∀ w1, sx_Ty sx_T0 w1 → sy_r w1 1 (vo_at k 1) = (nI 3 : Int32).toInt := fun w1 h1 => by
    rw [hc]
    have := sy_rg (r := 1) h1 rfl (g := (5, 1, 1, 0, 0, 3, 3)) (by decide) (k := 0) (j := 0) (by decide) (Nat.le_refl _) (Nat.le_refl _) (by decide)
    have h2 : 3 ≤ sy_r w1 1 5 ∧ sy_r w1 1 5 ≤ 3 := this
    show sy_r w1 1 5 = 3
    omega
  have key : ∃ res, pq_Go (9 + (f + 1)) pm_135 0 (lv_args 0 [.ref 87, .int (nI k), .int (nI 1), .int x, .int (nI d)]) [] w 0 0 res ∧ (res.1 = some (.int (v1 + v2)) ∧ vc_C N W K (b + (1 + (l1.length + l2.length))) res.2 ∧ vo_P vc_A 88 b (61 :: (l1 ++ l2)) w res.2) := by
    refine vc_pre hC hk (by decide) hB hU (by decide) (by simp only [List.length_cons, List.length_append, List.length_nil] at * <;> omega) (by omega) (Nat.ble_eq_true_of_le (by omega)) (fun w2 C2 P2 => ?_)
    obtain ⟨w3, r3, C3, P3⟩ := ih 3 1 (b + 1) (d + 1) (x) v1 l1 w2 (by decide) (by decide) e1 C2 (by simp only [List.length_cons, List.length_append, List.length_nil] at * <;> omega) (by omega)
    obtain ⟨w4, r4, C4, P4⟩ := ih K 0 (b + 1 + l1.length) (d + 1) (x) v2 l2 w3 hK (by decide) e2 C3 (by simp only [List.length_cons, List.length_append, List.length_nil] at * <;> omega) (by omega)
    refine ⟨(some (.int (v1 + v2)), w4), ?_, rfl, vc_Ce C4 (by simp only [List.length_cons, List.length_append, List.length_nil] at * <;> omega), vo_Pt P2 rfl (vo_Pt P3 rfl P4)⟩
    refine go_sw (tgt := 337) rfl (by decide +kernel) ?_
    refine go_seg 5 (pc' := 344) (ls' := [(8, .int (nI (d + 1))), (7, .int (nI 3)), (6, .int (nI 61)), (5, .int (nI (vo_at k 1))), (0, .ref 87), (1, .int (nI k)), (2, .int (nI 1)), (3, .int x), (4, .int (nI d))]) (st' := [.int (nI (d + 1)), .int x, .int 1, .int (nI 3), .ref 87]) (w' := w2) (cs' := 0) (ss' := 0) ?_ (fun _ _ => rfl)
    refine go_cl (as := [.ref 87, .int (nI 3), .int 1, .int x, .int (nI (d + 1))]) (r := some (.int v1)) (st' := [.int v1]) (cs' := 0) (ss' := 0) (k1 := (10 + f)) rfl rfl rfl rfl rfl rfl (Nat.ble_eq_true_of_le (by omega)) r3 ?_
    refine go_seg 2 (pc' := 349) (ls' := [(8, .int (nI (d + 1))), (7, .int (nI 3)), (6, .int (nI 61)), (5, .int (nI (vo_at k 1))), (0, .ref 87), (1, .int (nI k)), (2, .int (nI 1)), (3, .int x), (4, .int (nI d))]) (st' := [.ref 87, .ref 87, .int v1]) (w' := w3) (cs' := 0) (ss' := 0) ?_ (fun _ _ => rfl)
    refine go_gf (z := .int (nI K)) rfl C3.1 rfl rfl C3.2.2.2.1 ?_
    refine go_seg 3 (pc' := 356) (ls' := [(8, .int (nI (d + 1))), (7, .int (nI 3)), (6, .int (nI 61)), (5, .int (nI (vo_at k 1))), (0, .ref 87), (1, .int (nI k)), (2, .int (nI 1)), (3, .int x), (4, .int (nI d))]) (st' := [.int (nI (d + 1)), .int x, .int 0, .int (nI K), .ref 87, .int v1]) (w' := w3) (cs' := 0) (ss' := 0) ?_ (fun _ _ => rfl)
    refine go_cl (as := [.ref 87, .int (nI K), .int 0, .int x, .int (nI (d + 1))]) (r := some (.int v2)) (st' := [.int v2, .int v1]) (cs' := 0) (ss' := 0) (k1 := (10 + f)) rfl rfl rfl rfl rfl rfl (Nat.ble_eq_true_of_le (by omega)) r4 ?_
    exact go_end 2 (fun _ _ => rfl)
  obtain ⟨⟨y, w1⟩, hg, h1, h2, h3⟩ := key
  have h1 : y = some (.int (v1 + v2)) := h1
  subst h1
  exact ⟨w1, ru_mono (ru_of (k := 9 + (f + 1)) (M := pm_135) rfl (by rw [Bool.and_eq_true]; exact ⟨rfl, sq_rcv hC.1 rfl rfl rfl⟩) hg) (by omega), vc_Ce h2 (by simp only [List.length_cons, List.length_append, List.length_nil] at * <;> omega), h3⟩
theorem vc_22 {N W : Int32} {K f : Nat} (hK : K < 6) (ih : vc_ok N W K f) {k b d : Nat} {x v : Int32} {l : List Nat} {w : pq_W} (hk : k < 6) (hc : vo_at k 2 = 5) (he : vo_S N W K (vo_e N W K f) x 22 = some (v, l)) (hC : vc_C N W K b w) (hb : b + l.length ≤ 40) (hd : d + (f + 1) ≤ 41) : ∃ w1, pq_Ru (10 + (f + 1)) 135 [.ref 87, .int (nI k), .int (nI 2), .int x, .int (nI d)] w (some (.int v), w1) ∧ vc_C N W K (b + l.length) w1 ∧ vo_P vc_A 88 b l w w1 := by
  obtain ⟨v1, l1, e1, hv, rfl⟩ := vo_1_of he
  have hv : (v1) = v := hv.symm
  subst hv
  have hB : ∀ w1, sx_Ty sx_T0 w1 → sy_r w1 2 (4 * vo_at k 2 + 2) = ((60 : Nat) : Int) := fun w1 h1 => by
    rw [hc]
    have := sy_rg (r := 2) h1 rfl (g := (22, 1, 1, 0, 0, 60, 60)) (by decide) (k := 0) (j := 0) (by decide) (Nat.le_refl _) (Nat.le_refl _) (by decide)
    have h2 : 60 ≤ sy_r w1 2 22 ∧ sy_r w1 2 22 ≤ 60 := this
    show sy_r w1 2 22 = 60
    omega
  have hU : ∀ w1, sx_Ty sx_T0 w1 → sy_r w1 1 (vo_at k 2) = (nI 3 : Int32).toInt := fun w1 h1 => by
    rw [hc]
    have := sy_rg (r := 1) h1 rfl (g := (5, 1, 1, 0, 0, 3, 3)) (by decide) (k := 0) (j := 0) (by decide) (Nat.le_refl _) (Nat.le_refl _) (by decide)
    have h2 : 3 ≤ sy_r w1 1 5 ∧ sy_r w1 1 5 ≤ 3 := this
    show sy_r w1 1 5 = 3
    omega
  have key : ∃ res, pq_Go (9 + (f + 1)) pm_135 0 (lv_args 0 [.ref 87, .int (nI k), .int (nI 2), .int x, .int (nI d)]) [] w 0 0 res ∧ (res.1 = some (.int (v1)) ∧ vc_C N W K (b + (1 + l1.length)) res.2 ∧ vo_P vc_A 88 b (60 :: l1) w res.2) := by
    refine vc_pre hC hk (by decide) hB hU (by decide) (by simp only [List.length_cons, List.length_append, List.length_nil] at * <;> omega) (by omega) (Nat.ble_eq_true_of_le (by omega)) (fun w2 C2 P2 => ?_)
    obtain ⟨w3, r3, C3, P3⟩ := ih 3 2 (b + 1) (d + 1) (x - W) v1 l1 w2 (by decide) (by decide) e1 C2 (by simp only [List.length_cons, List.length_append, List.length_nil] at * <;> omega) (by omega)
    refine ⟨(some (.int (v1)), w3), ?_, rfl, vc_Ce C3 (by simp only [List.length_cons, List.length_append, List.length_nil] at * <;> omega), vo_Pt P2 rfl P3⟩
    refine go_sw (tgt := 321) rfl (by decide +kernel) ?_
    refine go_seg 5 (pc' := 327) (ls' := [(8, .int (nI (d + 1))), (7, .int (nI 3)), (6, .int (nI 60)), (5, .int (nI (vo_at k 2))), (0, .ref 87), (1, .int (nI k)), (2, .int (nI 2)), (3, .int x), (4, .int (nI d))]) (st' := [.ref 87, .int x, .int 2, .int (nI 3), .ref 87]) (w' := w2) (cs' := 0) (ss' := 0) ?_ (fun _ _ => rfl)
    refine go_gf (z := .int W) rfl C2.1 rfl rfl C2.2.2.1 ?_
    refine go_seg 2 (pc' := 333) (ls' := [(8, .int (nI (d + 1))), (7, .int (nI 3)), (6, .int (nI 60)), (5, .int (nI (vo_at k 2))), (0, .ref 87), (1, .int (nI k)), (2, .int (nI 2)), (3, .int x), (4, .int (nI d))]) (st' := [.int (nI (d + 1)), .int (x - W), .int 2, .int (nI 3), .ref 87]) (w' := w2) (cs' := 0) (ss' := 0) ?_ (fun _ _ => rfl)
    refine go_cl (as := [.ref 87, .int (nI 3), .int 2, .int (x - W), .int (nI (d + 1))]) (r := some (.int v1)) (st' := [.int v1]) (cs' := 0) (ss' := 0) (k1 := (10 + f)) rfl rfl rfl rfl rfl rfl (Nat.ble_eq_true_of_le (by omega)) r3 ?_
    exact go_end 1 (fun _ _ => rfl)
  obtain ⟨⟨y, w1⟩, hg, h1, h2, h3⟩ := key
  have h1 : y = some (.int (v1)) := h1
  subst h1
  exact ⟨w1, ru_mono (ru_of (k := 9 + (f + 1)) (M := pm_135) rfl (by rw [Bool.and_eq_true]; exact ⟨rfl, sq_rcv hC.1 rfl rfl rfl⟩) hg) (by omega), vc_Ce h2 (by simp only [List.length_cons, List.length_append, List.length_nil] at * <;> omega), h3⟩
theorem vc_all {N W : Int32} {K : Nat} (hK : K < 6) : ∀ f, vc_ok N W K f
  | 0 => fun k a b d x v l w hk ha he => by cases he
  | f + 1 => fun k a b d x v l w hk ha he hC hb hd => by
    have ih := vc_all (N := N) (W := W) hK f
    have he2 : vo_S N W K (vo_e N W K f) x (4 * vo_at k a + a) = some (v, l) := he
    clear he
    have l6 := vo_lt k hk a ha
    rcases vo_12 k hk a ha with hc | hc | hc | hc | hc | hc | hc | hc | hc | hc | hc | hc
    · rw [hc] at he2
      have e1 : a = 0 := by omega
      subst e1
      exact vc_0 hK ih hk (by omega) he2 hC hb hd
    · rw [hc] at he2
      have e1 : a = 1 := by omega
      subst e1
      exact vc_1 hK ih hk (by omega) he2 hC hb hd
    · rw [hc] at he2
      have e1 : a = 2 := by omega
      subst e1
      exact vc_2 hK ih hk (by omega) he2 hC hb hd
    · rw [hc] at he2
      have e1 : a = 3 := by omega
      subst e1
      exact vc_3 hK ih hk (by omega) he2 hC hb hd
    · rw [hc] at he2
      have e1 : a = 0 := by omega
      subst e1
      exact vc_4 hK ih hk (by omega) he2 hC hb hd
    · rw [hc] at he2
      have e1 : a = 3 := by omega
      subst e1
      exact vc_7 hK ih hk (by omega) he2 hC hb hd
    · rw [hc] at he2
      have e1 : a = 0 := by omega
      subst e1
      exact vc_8 hK ih hk (by omega) he2 hC hb hd
    · rw [hc] at he2
      have e1 : a = 2 := by omega
      subst e1
      exact vc_10 hK ih hk (by omega) he2 hC hb hd
    · rw [hc] at he2
      have e1 : a = 1 := by omega
      subst e1
      exact vc_13 hK ih hk (by omega) he2 hC hb hd
    · rw [hc] at he2
      have e1 : a = 3 := by omega
      subst e1
      exact vc_19 hK ih hk (by omega) he2 hC hb hd
    · rw [hc] at he2
      have e1 : a = 1 := by omega
      subst e1
      exact vc_21 hK ih hk (by omega) he2 hC hb hd
    · rw [hc] at he2
      have e1 : a = 2 := by omega
      subst e1
      exact vc_22 hK ih hk (by omega) he2 hC hb hd
theorem vo_fin {N W : Int32} {K k a : Nat} (hK : K < 6) (ha : a < 4) (hk : k = K) (x : Int32) : ∃ v l, vo_e N W K 8 k a x = some (v, l) ∧ l.length ≤ 40 := by
  subst hk
  have h6 : k = 0 ∨ k = 1 ∨ k = 2 ∨ k = 3 ∨ k = 4 ∨ k = 5 := by omega
  have h4 : a = 0 ∨ a = 1 ∨ a = 2 ∨ a = 3 := by omega
  rcases h6 with rfl | rfl | rfl | rfl | rfl | rfl <;> rcases h4 with rfl | rfl | rfl | rfl <;> exact ⟨_, _, rfl, by decide⟩
