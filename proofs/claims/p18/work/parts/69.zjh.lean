/-! the fault of a text; law -/
theorem fr_wq {A B : sx_A} {w w1 : pq_W} (f : sx_Fr A w w1) (h : fr_i B A) : sx_Fr B w w1 := fr_wk h f
theorem nI_ad {a b : Nat} (h : a + b < 2 ^ 31) : nI a + nI b = nI (a + b) := by
  apply Int32.toInt_inj.mp
  rw [Int32.toInt_add, nI_toInt (by omega), nI_toInt (by omega), nI_toInt (by omega), show ((a + b : Nat) : Int) = (a : Int) + (b : Int) by omega]
  exact Int.bmod_eq_of_le (by omega) (by omega)
theorem nI_mul {a b : Nat} (h : a * b < 2 ^ 31) (ha : a < 2 ^ 31) (hb : b < 2 ^ 31) : nI a * nI b = nI (a * b) := by
  apply Int32.toInt_inj.mp
  rw [Int32.toInt_mul, nI_toInt (by omega), nI_toInt (by omega), nI_toInt (by omega), Int.natCast_mul]
  have : (a : Int) * (b : Int) = ((a * b : Nat) : Int) := (Int.natCast_mul a b).symm
  rw [this]
  exact Int.bmod_eq_of_le (by omega) (by omega)
theorem gs_L {l j : Nat} {y : Int32} (hl : l < 12) (hj : j ≤ 72) (h0 : j = 0 → 0 ≤ y.toInt ∧ y.toInt ≤ 3) (h2 : j = 2 → 0 ≤ y.toInt ∧ y.toInt ≤ 70) : ∀ g ∈ gs95, as_hit g (1922 + 73 * l + j) → g.2.2.2.2.2.1 ≤ y.toInt ∧ y.toInt ≤ g.2.2.2.2.2.2 := gs_95 (by
  intro g hg k i h1 h3 h4 h5
  simp only [gs95, List.mem_cons, List.not_mem_nil, or_false] at hg
  rcases hg with rfl | rfl | rfl | rfl | rfl | rfl | rfl | rfl | rfl | rfl | rfl | rfl | rfl | rfl | rfl | rfl | rfl | rfl | rfl | rfl | rfl | rfl | rfl | rfl | rfl | rfl | rfl | rfl <;> dsimp only at h1 h3 h4 h5 ⊢ <;> omega)
theorem gs_4 {y : Int32} (hy : 0 ≤ y.toInt ∧ y.toInt ≤ 12) : ∀ g ∈ gs95, as_hit g 4 → g.2.2.2.2.2.1 ≤ y.toInt ∧ y.toInt ≤ g.2.2.2.2.2.2 := gs_95 (by
  intro g hg k j h1 h2 h3 h4
  simp only [gs95, List.mem_cons, List.not_mem_nil, or_false] at hg
  rcases hg with rfl | rfl | rfl | rfl | rfl | rfl | rfl | rfl | rfl | rfl | rfl | rfl | rfl | rfl | rfl | rfl | rfl | rfl | rfl | rfl | rfl | rfl | rfl | rfl | rfl | rfl | rfl | rfl <;> dsimp only at h1 h2 h3 h4 ⊢ <;> omega)
noncomputable def fo_A : sx_A := [(74, 1, 5), (75, 0, 59)]
noncomputable def fo_B (w : pq_W) (i : Nat) : Int := sy_r w 24 i % 256
noncomputable def fo_E (s : Nat) (ok : Bool) (q : Nat) (a : List Int) (y : Int32) (w w1 : pq_W) : Prop := sx_Ty sx_T0 w1 ∧ sx_Fr fo_A w w1 ∧ ((ok = true ∧ q = s ∧ y = -1 ∧ rp_C a w1) ∨ (¬ (ok = true ∧ q = s) ∧ y = nI q))
theorem fo_c {w : pq_W} (ht : sx_Ty sx_T0 w) {s : Nat} (s60 : s ≤ 60) {ok : Bool} {q : Nat} {a : List Int} (he : rd (fo_B w) s 500 0 0 0 [] = some (ok, q, a)) : ∃ (y : Int32) (w1 : pq_W), pq_Ru 70 68 [.ref 74, .ref 24, .int (nI s)] w (some (.int y), w1) ∧ fo_E s ok q a y w w1 := by
  obtain ⟨b1, b2, b3⟩ := rd_bd _ _ _ _ _ _ _ _ he (Nat.zero_le _)
  have hB : ∀ i, i < s → 0 ≤ fo_B w i ∧ fo_B w i ≤ 255 := fun i _ => by
    show 0 ≤ sy_r w 24 i % 256 ∧ sy_r w 24 i % 256 ≤ 255
    omega
  have key : ∃ res, pq_Go 69 pm_68 0 (lv_args 0 [.ref 74, .ref 24, .int (nI s)]) [] w 0 0 res ∧ ∃ y : Int32, res.1 = some (.int y) ∧ fo_E s ok q a y w res.2 := by
    refine xs_seg 2 (pc' := 2) (ls' := [(0, .ref 74), (1, .ref 24), (2, .int (nI s))]) (st' := [.ref 24, .ref 74]) (w' := w) (cs' := 0) (ss' := 0) ?_ (fun _ _ => rfl)
    refine xs_pr rfl ht rfl rfl rfl rfl (fun wa ta fa ea => ?_)
    obtain ⟨fb0, h24, _, _⟩ := sy_arr (r := 24) ta rfl
    refine xs_seg 3 (pc' := 8) (ls' := [(0, .ref 74), (1, .ref 24), (2, .int (nI s))]) (st' := [.ref 24, .int (nI s), .ref 74]) (w' := wa) (cs' := 0) (ss' := 0) ?_ (fun _ _ => rfl)
    refine xs_alen (n := 60) rfl h24 rfl ?_
    refine xs_mn (z := nI s) rfl (if_neg (fun z => by have z := Int32.lt_iff_toInt_lt.mp z; rw [nI_toInt (by omega), nI_toInt (by omega)] at z; omega)) rfl ?_
    have k2wa := ea
    refine xs_pf rfl ta rfl rfl rfl rfl ⟨by rw [nI_toInt (by omega)]; omega, by rw [nI_toInt (by omega)]; omega⟩ (fun wb tb fb eb => ?_)
    have k2wb : sx_wg wb 74 2 = some (.ref 24) := by rw [fb 74 2 (fr_o_ok ⟨Or.inr (by omega), trivial⟩)]; exact k2wa
    have k3wb := eb
    refine xs_seg 2 (pc' := 17) (ls' := [(0, .ref 74), (1, .ref 24), (2, .int (nI s))]) (st' := [.int 0, .ref 74]) (w' := wb) (cs' := 0) (ss' := 0) ?_ (fun _ _ => rfl)
    refine xs_pf rfl tb rfl rfl rfl rfl ⟨by decide, by decide⟩ (fun wc tc fc ec => ?_)
    have k2wc : sx_wg wc 74 2 = some (.ref 24) := by rw [fc 74 2 (fr_o_ok ⟨Or.inr (by omega), trivial⟩)]; exact k2wb
    have k3wc : sx_wg wc 74 3 = some (.int (nI s)) := by rw [fc 74 3 (fr_o_ok ⟨Or.inr (by omega), trivial⟩)]; exact k3wb
    have k1wc := ec
    refine xs_seg 2 (pc' := 22) (ls' := [(0, .ref 74), (1, .ref 24), (2, .int (nI s))]) (st' := [.int 0, .ref 74]) (w' := wc) (cs' := 0) (ss' := 0) ?_ (fun _ _ => rfl)
    refine xs_pf rfl tc rfl rfl rfl rfl (sh_i32 _) (fun wd td fd ed => ?_)
    have k2wd : sx_wg wd 74 2 = some (.ref 24) := by rw [fd 74 2 (fr_o_ok ⟨Or.inr (by omega), trivial⟩)]; exact k2wc
    have k3wd : sx_wg wd 74 3 = some (.int (nI s)) := by rw [fd 74 3 (fr_o_ok ⟨Or.inr (by omega), trivial⟩)]; exact k3wc
    have k1wd : sx_wg wd 74 1 = some (.int 0) := by rw [fd 74 1 (fr_o_ok ⟨Or.inr (by omega), trivial⟩)]; exact k1wc
    have k4wd := ed
    refine xs_seg 2 (pc' := 27) (ls' := [(0, .ref 74), (1, .ref 24), (2, .int (nI s))]) (st' := [.int (-1), .ref 74]) (w' := wd) (cs' := 0) (ss' := 0) ?_ (fun _ _ => rfl)
    refine xs_pf rfl td rfl rfl rfl rfl (sh_i32 _) (fun wf tf ff ef => ?_)
    have k2wf : sx_wg wf 74 2 = some (.ref 24) := by rw [ff 74 2 (fr_o_ok ⟨Or.inr (by omega), trivial⟩)]; exact k2wd
    have k3wf : sx_wg wf 74 3 = some (.int (nI s)) := by rw [ff 74 3 (fr_o_ok ⟨Or.inr (by omega), trivial⟩)]; exact k3wd
    have k1wf : sx_wg wf 74 1 = some (.int 0) := by rw [ff 74 1 (fr_o_ok ⟨Or.inr (by omega), trivial⟩)]; exact k1wd
    have k4wf : sx_wg wf 74 4 = some (.int 0) := by rw [ff 74 4 (fr_o_ok ⟨Or.inr (by omega), trivial⟩)]; exact k4wd
    have k5wf := ef
    have fw : sx_Fr fo_A w wf := sx_Fr_trans (sx_Fr_sub (by decide +kernel) fa) (sx_Fr_trans (sx_Fr_sub (by decide +kernel) fb) (sx_Fr_trans (sx_Fr_sub (by decide +kernel) fc) (sx_Fr_trans (sx_Fr_sub (by decide +kernel) fd) (sx_Fr_sub (by decide +kernel) ff))))
    have s5 : rp_S (fo_B w) s 0 [] wf := ⟨⟨tf, k2wf, k3wf, s60, fun i hi => by show sy_r wf 24 i % 256 = sy_r w 24 i % 256; rw [fr_no fw ⟨Or.inl (by decide), Or.inl (by decide), trivial⟩]⟩, k4wf, k5wf, k1wf, fun i hi => absurd hi (Nat.not_lt_zero _)⟩
    obtain ⟨w6, r6, s6⟩ := (rp_all hB 500).2.1 0 0 0 [] ok q a wf (by decide) (by decide) he s5 (Nat.zero_le _) (Nat.zero_le _)
    have fz : sx_Fr fo_A w w6 := sx_Fr_trans fw (sx_Fr_sub (by decide +kernel) s6.1)
    refine xs_seg 3 (pc' := 33) (ls' := [(0, .ref 74), (1, .ref 24), (2, .int (nI s))]) (st' := [.int 0, .int 0, .ref 74]) (w' := wf) (cs' := 0) (ss' := 0) ?_ (fun _ _ => rfl)
    refine xs_cl (as := [.ref 74, .int 0, .int 0]) (rv := none) (st' := []) (cs' := 0) (ss' := 0) (k1 := 65) rfl rfl rfl rfl rfl rfl rfl r6 ?_
    refine xs_seg 1 (pc' := 37) (ls' := [(0, .ref 74), (1, .ref 24), (2, .int (nI s))]) (st' := [.ref 74]) (w' := w6) (cs' := 0) (ss' := 0) ?_ (fun _ _ => rfl)
    cases ok with
    | true =>
      have s7 := rp_QS s6
      refine xs_gf (z := .int (nI q)) rfl s7.1.1 rfl rfl s7.2.1 ?_
      refine xs_seg 1 (pc' := 41) (ls' := [(0, .ref 74), (1, .ref 24), (2, .int (nI s))]) (st' := [.ref 74, .int (nI q)]) (w' := w6) (cs' := 0) (ss' := 0) ?_ (fun _ _ => rfl)
      refine xs_gf (z := .int (nI s)) rfl s7.1.1 rfl rfl s7.1.2.2.1 ?_
      by_cases qs : q < s
      · obtain ⟨w8, r8, s8, f8⟩ := rp_nf s7
        refine xs_cmp false rfl (br_ge_f (b := s) (nI_toInt (by omega)) (by rw [nI_toInt (by omega)]; omega)) ?_
        refine xs_seg 1 (pc' := 48) (ls' := [(0, .ref 74), (1, .ref 24), (2, .int (nI s))]) (st' := [.ref 74]) (w' := w6) (cs' := 0) (ss' := 0) ?_ (fun _ _ => rfl)
        refine xs_cl (as := [.ref 74]) (rv := none) (st' := []) (cs' := 0) (ss' := 0) (k1 := 3) rfl rfl rfl rfl rfl rfl rfl r8 ?_
        refine xs_seg 1 (pc' := 52) (ls' := [(0, .ref 74), (1, .ref 24), (2, .int (nI s))]) (st' := [.ref 74]) (w' := w8) (cs' := 0) (ss' := 0) ?_ (fun _ _ => rfl)
        refine xs_gf (z := .int (nI q)) rfl s8.1.1 rfl rfl s8.2 ?_
        exact ⟨_, go_end 1 (fun _ _ => rfl), nI q, rfl, s8.1.1, sx_Fr_trans fz (sx_Fr_sub (by decide +kernel) f8), Or.inr ⟨fun z => by omega, rfl⟩⟩
      · have e : q = s := by omega
        subst e
        refine xs_cmp true rfl (br_ge_t (b := q) (nI_toInt (by omega)) (by rw [nI_toInt (by omega)]; exact Int.le_refl _)) ?_
        refine xs_seg 1 (pc' := 52) (ls' := [(0, .ref 74), (1, .ref 24), (2, .int (nI q))]) (st' := [.ref 74]) (w' := w6) (cs' := 0) (ss' := 0) ?_ (fun _ _ => rfl)
        refine xs_gf (z := .int (-1)) rfl s7.1.1 rfl rfl s7.2.2.1 ?_
        exact ⟨_, go_end 1 (fun _ _ => rfl), -1, rfl, s7.1.1, fz, Or.inl ⟨rfl, rfl, rfl, s7.2.2.2⟩⟩
    | false =>
      have s7 := rp_QG s6
      obtain ⟨z, hz, _⟩ := wg_int (r := 74) (i := 4) s7.1.1 rfl rfl
      refine xs_gf (z := .int z) rfl s7.1.1 rfl rfl hz ?_
      refine xs_seg 1 (pc' := 41) (ls' := [(0, .ref 74), (1, .ref 24), (2, .int (nI s))]) (st' := [.ref 74, .int z]) (w' := w6) (cs' := 0) (ss' := 0) ?_ (fun _ _ => rfl)
      refine xs_gf (z := .int (nI s)) rfl s7.1.1 rfl rfl s7.1.2.2.1 ?_
      by_cases zs : (s : Int) ≤ z.toInt
      · refine xs_cmp true rfl (br_ge_t (b := s) (nI_toInt (by omega)) zs) ?_
        refine xs_seg 1 (pc' := 52) (ls' := [(0, .ref 74), (1, .ref 24), (2, .int (nI s))]) (st' := [.ref 74]) (w' := w6) (cs' := 0) (ss' := 0) ?_ (fun _ _ => rfl)
        refine xs_gf (z := .int (nI q)) rfl s7.1.1 rfl rfl s7.2 ?_
        exact ⟨_, go_end 1 (fun _ _ => rfl), nI q, rfl, s7.1.1, fz, Or.inr ⟨fun z => Bool.noConfusion z.1, rfl⟩⟩
      · refine xs_cmp false rfl (br_ge_f (b := s) (nI_toInt (by omega)) zs) ?_
        refine xs_seg 1 (pc' := 48) (ls' := [(0, .ref 74), (1, .ref 24), (2, .int (nI s))]) (st' := [.ref 74]) (w' := w6) (cs' := 0) (ss' := 0) ?_ (fun _ _ => rfl)
        refine xs_cl (as := [.ref 74]) (rv := none) (st' := []) (cs' := 0) (ss' := 0) (k1 := 3) rfl rfl rfl rfl rfl rfl rfl (rp_ng s7 (by omega)) ?_
        refine xs_seg 1 (pc' := 52) (ls' := [(0, .ref 74), (1, .ref 24), (2, .int (nI s))]) (st' := [.ref 74]) (w' := w6) (cs' := 0) (ss' := 0) ?_ (fun _ _ => rfl)
        refine xs_gf (z := .int (nI q)) rfl s7.1.1 rfl rfl s7.2 ?_
        exact ⟨_, go_end 1 (fun _ _ => rfl), nI q, rfl, s7.1.1, fz, Or.inr ⟨fun z => Bool.noConfusion z.1, rfl⟩⟩
  obtain ⟨⟨r, w1⟩, g, x, e, h1⟩ := key
  have e : r = some (.int x) := e
  subst e
  exact ⟨x, w1, ru_of (k := 69) (M := pm_68) rfl (by rw [Bool.and_eq_true]; exact ⟨rfl, sq_rcv ht rfl rfl rfl⟩) g, h1⟩
noncomputable def al_A (l : Nat) : sx_A := [(23, 1, 2), (25, (l : Int), (l : Int)), (26, (l : Int), (l : Int)), (27, (l : Int), (l : Int)), (28, ((60 * l : Nat) : Int), ((60 * l + 59 : Nat) : Int)), (74, 1, 5), (75, 0, 59)]
noncomputable def al_E (l : Nat) (u f : Int32) (a : List Int) (w w1 : pq_W) : Prop := sx_Ty sx_T0 w1 ∧ sx_Fr (al_A l) w w1 ∧ sx_wg w1 23 2 = some (.int (nI (l + 1))) ∧ sy_r w1 25 l = u.toInt ∧ sy_r w1 26 l = f.toInt ∧ sy_r w1 27 l = (a.length : Int) ∧ ∀ t, t < a.length → sy_r w1 28 (60 * l + t) = a.getD t 0
theorem al_c {w : pq_W} {u f : Int32} {l : Nat} {a : List Int} (ht : sx_Ty sx_T0 w) (k2w : sx_wg w 23 2 = some (.int (nI l))) (hl : l < 12) (hu : 0 ≤ u.toInt ∧ u.toInt ≤ 3) (hc : rp_C a w) (ha : a.length ≤ 60) : ∃ w1, pq_Ru 5 79 [.ref 23, .int u, .int f, .ref 74] w (some (.int (nI l)), w1) ∧ al_E l u f a w w1 ∧ sx_wg w1 23 1 = sx_wg w 23 1 := by
  have k1w := hc.1
  have key : ∃ res, pq_Go 4 pm_79 0 (lv_args 0 [.ref 23, .int u, .int f, .ref 74]) [] w 0 0 res ∧ (res.1 = some (.int (nI l)) ∧ al_E l u f a w res.2 ∧ sx_wg res.2 23 1 = sx_wg w 23 1) := by
    refine xs_seg 1 (pc' := 1) (ls' := [(0, .ref 23), (1, .int u), (2, .int f), (3, .ref 74)]) (st' := [.ref 23]) (w' := w) (cs' := 0) (ss' := 0) ?_ (fun _ _ => rfl)
    refine xs_gf (z := .int (nI l)) rfl ht rfl rfl k2w ?_
    refine xs_seg 2 (pc' := 8) (ls' := [(4, .int (nI l)), (0, .ref 23), (1, .int u), (2, .int f), (3, .ref 74)]) (st' := [.int (nI l)]) (w' := w) (cs' := 0) (ss' := 0) ?_ (fun _ _ => rfl)
    refine xs_if false rfl (br_lt_f (b := 0) rfl (by rw [nI_toInt (by omega)]; omega)) ?_
    refine xs_seg 2 (pc' := 15) (ls' := [(4, .int (nI l)), (0, .ref 23), (1, .int u), (2, .int f), (3, .ref 74)]) (st' := [.int 12, .int (nI l)]) (w' := w) (cs' := 0) (ss' := 0) ?_ (fun _ _ => rfl)
    refine xs_cmp false rfl (br_ge_f (b := 12) rfl (by rw [nI_toInt (by omega)]; omega)) ?_
    refine xs_seg 1 (pc' := 19) (ls' := [(4, .int (nI l)), (0, .ref 23), (1, .int u), (2, .int f), (3, .ref 74)]) (st' := [.ref 74]) (w' := w) (cs' := 0) (ss' := 0) ?_ (fun _ _ => rfl)
    refine xs_gf (z := .int (nI a.length)) rfl ht rfl rfl k1w ?_
    refine xs_seg 2 (pc' := 25) (ls' := [(4, .int (nI l)), (0, .ref 23), (1, .int u), (2, .int f), (3, .ref 74)]) (st' := [.int 60, .int 0, .int (nI a.length)]) (w' := w) (cs' := 0) (ss' := 0) ?_ (fun _ _ => rfl)
    refine xs_cl (as := [.int (nI a.length), .int 0, .int 60]) (rv := some (.int 1)) (st' := [.int 1]) (cs' := 0) (ss' := 0) (k1 := 1) rfl rfl rfl rfl rfl rfl rfl (cw_t w (l := 0) (h := 60) rfl rfl ⟨by rw [nI_toInt (by omega)]; omega, by rw [nI_toInt (by omega)]; omega⟩) ?_
    refine xs_if false rfl rfl ?_
    refine xs_seg 1 (pc' := 32) (ls' := [(4, .int (nI l)), (0, .ref 23), (1, .int u), (2, .int f), (3, .ref 74)]) (st' := [.ref 23]) (w' := w) (cs' := 0) (ss' := 0) ?_ (fun _ _ => rfl)
    refine xs_gf (z := .ref 25) rfl ht rfl rfl (wg_ref ht rfl rfl) ?_
    refine xs_seg 2 (pc' := 38) (ls' := [(4, .int (nI l)), (0, .ref 23), (1, .int u), (2, .int f), (3, .ref 74)]) (st' := [.int u, .int (nI l), .ref 25]) (w' := w) (cs' := 0) (ss' := 0) ?_ (fun _ _ => rfl)
    refine xs_ist (q := l) rfl ht rfl rfl (by omega) (by decide) rfl (fun g hg _ => by cases List.mem_singleton.mp hg; exact hu) (fun wa ta fa ea => ?_)
    have k1wa : sx_wg wa 74 1 = some (.int (nI a.length)) := by rw [fa 74 1 (fr_o_ok ⟨Or.inl (by decide), trivial⟩)]; exact k1w
    have k2wa : sx_wg wa 23 2 = some (.int (nI l)) := by rw [fa 23 2 (fr_o_ok ⟨Or.inl (by decide), trivial⟩)]; exact k2w
    refine xs_seg 1 (pc' := 40) (ls' := [(4, .int (nI l)), (0, .ref 23), (1, .int u), (2, .int f), (3, .ref 74)]) (st' := [.ref 23]) (w' := wa) (cs' := 0) (ss' := 0) ?_ (fun _ _ => rfl)
    refine xs_gf (z := .ref 26) rfl ta rfl rfl (wg_ref ta rfl rfl) ?_
    refine xs_seg 2 (pc' := 46) (ls' := [(4, .int (nI l)), (0, .ref 23), (1, .int u), (2, .int f), (3, .ref 74)]) (st' := [.int f, .int (nI l), .ref 26]) (w' := wa) (cs' := 0) (ss' := 0) ?_ (fun _ _ => rfl)
    refine xs_ist (q := l) rfl ta rfl rfl (by omega) (by decide) rfl (fun g hg _ => by cases hg) (fun wb tb fb eb => ?_)
    have k1wb : sx_wg wb 74 1 = some (.int (nI a.length)) := by rw [fb 74 1 (fr_o_ok ⟨Or.inl (by decide), trivial⟩)]; exact k1wa
    have k2wb : sx_wg wb 23 2 = some (.int (nI l)) := by rw [fb 23 2 (fr_o_ok ⟨Or.inl (by decide), trivial⟩)]; exact k2wa
    refine xs_seg 1 (pc' := 48) (ls' := [(4, .int (nI l)), (0, .ref 23), (1, .int u), (2, .int f), (3, .ref 74)]) (st' := [.ref 23]) (w' := wb) (cs' := 0) (ss' := 0) ?_ (fun _ _ => rfl)
    refine xs_gf (z := .ref 27) rfl tb rfl rfl (wg_ref tb rfl rfl) ?_
    refine xs_seg 2 (pc' := 54) (ls' := [(4, .int (nI l)), (0, .ref 23), (1, .int u), (2, .int f), (3, .ref 74)]) (st' := [.ref 74, .int (nI l), .ref 27]) (w' := wb) (cs' := 0) (ss' := 0) ?_ (fun _ _ => rfl)
    refine xs_gf (z := .int (nI a.length)) rfl tb rfl rfl k1wb ?_
    refine xs_ist (q := l) rfl tb rfl rfl (by omega) (by decide) rfl (fun g hg _ => by cases List.mem_singleton.mp hg; exact ⟨by rw [nI_toInt (by omega)]; show (0 : Int) ≤ _; omega, by rw [nI_toInt (by omega)]; show _ ≤ (60 : Int); omega⟩) (fun wc tc fc ec => ?_)
    have k1wc : sx_wg wc 74 1 = some (.int (nI a.length)) := by rw [fc 74 1 (fr_o_ok ⟨Or.inl (by decide), trivial⟩)]; exact k1wb
    have k2wc : sx_wg wc 23 2 = some (.int (nI l)) := by rw [fc 23 2 (fr_o_ok ⟨Or.inl (by decide), trivial⟩)]; exact k2wb
    refine xs_seg 1 (pc' := 59) (ls' := [(4, .int (nI l)), (0, .ref 23), (1, .int u), (2, .int f), (3, .ref 74)]) (st' := [.ref 74]) (w' := wc) (cs' := 0) (ss' := 0) ?_ (fun _ _ => rfl)
    refine xs_gf (z := .ref 75) rfl tc rfl rfl (wg_ref tc rfl rfl) ?_
    refine xs_seg 2 (pc' := 64) (ls' := [(4, .int (nI l)), (0, .ref 23), (1, .int u), (2, .int f), (3, .ref 74)]) (st' := [.ref 23, .int 0, .ref 75]) (w' := wc) (cs' := 0) (ss' := 0) ?_ (fun _ _ => rfl)
    refine xs_gf (z := .ref 28) rfl tc rfl rfl (wg_ref tc rfl rfl) ?_
    refine xs_seg 4 (pc' := 73) (ls' := [(4, .int (nI l)), (0, .ref 23), (1, .int u), (2, .int f), (3, .ref 74)]) (st' := [.ref 74, .int ((nI l) * 60), .ref 28, .int 0, .ref 75]) (w' := wc) (cs' := 0) (ss' := 0) ?_ (fun _ _ => rfl)
    refine xs_gf (z := .int (nI a.length)) rfl tc rfl rfl k1wc ?_
    refine xs_cp (d := 60 * l) (q := a.length) rfl tc rfl rfl rfl (by rw [show (60 : Int32) = nI 60 from rfl, nI_mul (by omega) (by omega) (by omega), Nat.mul_comm]) rfl ha (by omega) ⟨by decide, by decide⟩ (by decide) (fun wd td fd ed => ?_)
    have k1wd : sx_wg wd 74 1 = some (.int (nI a.length)) := by rw [fd 74 1 (fr_o_ok ⟨Or.inl (by decide), trivial⟩)]; exact k1wc
    have k2wd : sx_wg wd 23 2 = some (.int (nI l)) := by rw [fd 23 2 (fr_o_ok ⟨Or.inl (by decide), trivial⟩)]; exact k2wc
    refine xs_seg 2 (pc' := 81) (ls' := [(4, .int (nI l)), (0, .ref 23), (1, .int u), (2, .int f), (3, .ref 74)]) (st' := [.ref 23, .ref 23]) (w' := wd) (cs' := 0) (ss' := 0) ?_ (fun _ _ => rfl)
    refine xs_gf (z := .int (nI l)) rfl td rfl rfl k2wd ?_
    refine xs_seg 2 (pc' := 86) (ls' := [(4, .int (nI l)), (0, .ref 23), (1, .int u), (2, .int f), (3, .ref 74)]) (st' := [.int ((nI l) + 1), .ref 23]) (w' := wd) (cs' := 0) (ss' := 0) ?_ (fun _ _ => rfl)
    refine xs_pf rfl td rfl rfl rfl rfl ⟨by rw [← nI_succ, nI_toInt (by omega)]; omega, by rw [← nI_succ, nI_toInt (by omega)]; omega⟩ (fun wf tf ff ef => ?_)
    rw [← nI_succ] at ef
    have fw : sx_Fr (al_A l) w wf := sx_Fr_trans (fr_wq fa ⟨⟨_, _, (List.mem_cons_of_mem _ List.mem_cons_self), Int.le_refl _, Int.le_refl _⟩, trivial⟩) (sx_Fr_trans (fr_wq fb ⟨⟨_, _, (List.mem_cons_of_mem _ (List.mem_cons_of_mem _ List.mem_cons_self)), Int.le_refl _, Int.le_refl _⟩, trivial⟩) (sx_Fr_trans (fr_wq fc ⟨⟨_, _, (List.mem_cons_of_mem _ (List.mem_cons_of_mem _ (List.mem_cons_of_mem _ List.mem_cons_self))), Int.le_refl _, Int.le_refl _⟩, trivial⟩) (sx_Fr_trans (fr_wq fd ⟨⟨_, _, (List.mem_cons_of_mem _ (List.mem_cons_of_mem _ (List.mem_cons_of_mem _ (List.mem_cons_of_mem _ List.mem_cons_self)))), Int.le_refl _, by omega⟩, trivial⟩) (fr_wq ff ⟨⟨_, _, List.mem_cons_self, by decide, by decide⟩, trivial⟩))))
    have v25 : sy_r wf 25 l = u.toInt := by rw [fr_no ff ⟨Or.inl (by decide), trivial⟩, fr_no fd ⟨Or.inl (by decide), trivial⟩, fr_no fc ⟨Or.inl (by decide), trivial⟩, fr_no fb ⟨Or.inl (by decide), trivial⟩]; exact sy_r_of ea
    have v26 : sy_r wf 26 l = f.toInt := by rw [fr_no ff ⟨Or.inl (by decide), trivial⟩, fr_no fd ⟨Or.inl (by decide), trivial⟩, fr_no fc ⟨Or.inl (by decide), trivial⟩]; exact sy_r_of eb
    have v27 : sy_r wf 27 l = (a.length : Int) := by rw [fr_no ff ⟨Or.inl (by decide), trivial⟩, fr_no fd ⟨Or.inl (by decide), trivial⟩, sy_r_of ec, nI_toInt (by omega)]
    have v28 : ∀ t, t < a.length → sy_r wf 28 (60 * l + t) = a.getD t 0 := fun t h => by rw [fr_no ff ⟨Or.inl (by decide), trivial⟩, ed t h, fr_no fc ⟨Or.inl (by decide), trivial⟩, fr_no fb ⟨Or.inl (by decide), trivial⟩, fr_no fa ⟨Or.inl (by decide), trivial⟩]; exact hc.2 t h
    have v23 : sx_wg wf 23 1 = sx_wg w 23 1 := by rw [ff 23 1 (fr_o_ok ⟨Or.inr (by omega), trivial⟩), fd 23 1 (fr_o_ok ⟨Or.inl (by decide), trivial⟩), fc 23 1 (fr_o_ok ⟨Or.inl (by decide), trivial⟩), fb 23 1 (fr_o_ok ⟨Or.inl (by decide), trivial⟩), fa 23 1 (fr_o_ok ⟨Or.inl (by decide), trivial⟩)]
    exact ⟨_, go_end 2 (fun _ _ => rfl), rfl, ⟨tf, fw, ef, v25, v26, v27, v28⟩, v23⟩
  obtain ⟨⟨r, w1⟩, g, e, h1⟩ := key
  have e : r = some (.int (nI l)) := e
  subst e
  exact ⟨w1, ru_of (k := 4) (M := pm_79) rfl (by rw [Bool.and_eq_true]; exact ⟨rfl, sq_rcv ht rfl rfl rfl⟩) g, h1⟩
theorem uw_t {w : pq_W} {x : Int32} (hp : 0 ≤ x.toInt ∧ x.toInt ≤ 3) : pq_Ru 1 66 [.int x] w (some (.int 1), w) := by
  refine ru_of (k := 0) (M := pm_66) rfl rfl (go_seg 1 (pc' := 1) (ls' := [(0, .int x)]) (st' := [.int x]) (w' := w) (cs' := 0) (ss' := 0) ?_ (fun _ _ => rfl))
  refine go_if false rfl (br_lt_f (b := 0) rfl (by omega)) ?_
  refine go_seg 2 (pc' := 6) (ls' := [(0, .int x)]) (st' := [.int 4, .int x]) (w' := w) (cs' := 0) (ss' := 0) ?_ (fun _ _ => rfl)
  exact go_cmp false rfl (br_ge_f (b := 4) rfl (by omega)) (go_end 3 (fun _ _ => rfl))
theorem uw_f {w : pq_W} {x : Int32} (hp : ¬ (0 ≤ x.toInt ∧ x.toInt ≤ 3)) : pq_Ru 1 66 [.int x] w (some (.int 0), w) := by
  refine ru_of (k := 0) (M := pm_66) rfl rfl (go_seg 1 (pc' := 1) (ls' := [(0, .int x)]) (st' := [.int x]) (w' := w) (cs' := 0) (ss' := 0) ?_ (fun _ _ => rfl))
  by_cases c : x.toInt < 0
  · exact go_if true rfl (br_lt_t (b := 0) rfl c) (go_end 2 (fun _ _ => rfl))
  · refine go_if false rfl (br_lt_f (b := 0) rfl c) ?_
    refine go_seg 2 (pc' := 6) (ls' := [(0, .int x)]) (st' := [.int 4, .int x]) (w' := w) (cs' := 0) (ss' := 0) ?_ (fun _ _ => rfl)
    exact go_cmp true rfl (br_ge_t (b := 4) rfl (by omega)) (go_end 2 (fun _ _ => rfl))
theorem fw_t {w : pq_W} {x : Int32} (hp : 0 ≤ x.toInt ∧ x.toInt ≤ 3000) : pq_Ru 1 67 [.int x] w (some (.int 1), w) := by
  refine ru_of (k := 0) (M := pm_67) rfl rfl (go_seg 1 (pc' := 1) (ls' := [(0, .int x)]) (st' := [.int x]) (w' := w) (cs' := 0) (ss' := 0) ?_ (fun _ _ => rfl))
  refine go_if false rfl (br_lt_f (b := 0) rfl (by omega)) ?_
  refine go_seg 2 (pc' := 8) (ls' := [(0, .int x)]) (st' := [.int 3000, .int x]) (w' := w) (cs' := 0) (ss' := 0) ?_ (fun _ _ => rfl)
  exact go_cmp false rfl (br_gt_f (b := 3000) rfl (by omega)) (go_end 3 (fun _ _ => rfl))
theorem fw_f0 {w : pq_W} {x : Int32} (hp : ¬ (0 ≤ x.toInt ∧ x.toInt ≤ 3000)) : pq_Ru 1 67 [.int x] w (some (.int 0), w) := by
  refine ru_of (k := 0) (M := pm_67) rfl rfl (go_seg 1 (pc' := 1) (ls' := [(0, .int x)]) (st' := [.int x]) (w' := w) (cs' := 0) (ss' := 0) ?_ (fun _ _ => rfl))
  by_cases c : x.toInt < 0
  · exact go_if true rfl (br_lt_t (b := 0) rfl c) (go_end 2 (fun _ _ => rfl))
  · refine go_if false rfl (br_lt_f (b := 0) rfl c) ?_
    refine go_seg 2 (pc' := 8) (ls' := [(0, .int x)]) (st' := [.int 3000, .int x]) (w' := w) (cs' := 0) (ss' := 0) ?_ (fun _ _ => rfl)
    exact go_cmp true rfl (br_gt_t (b := 3000) rfl (by omega)) (go_end 2 (fun _ _ => rfl))
noncomputable def lw_in (u f : Int32) : Prop := (0 ≤ u.toInt ∧ u.toInt ≤ 3) ∧ (0 ≤ f.toInt ∧ f.toInt ≤ 3000)
noncomputable def lw_E (ok : Bool) (q : Nat) (a : List Int) (s l : Nat) (u f x : Int32) (w w1 : pq_W) : Prop := (¬ lw_in u f ∧ x.toInt = -1000001 ∧ sx_Ty sx_T0 w1 ∧ sx_Fr [(93, 0, 5)] w w1) ∨ (lw_in u f ∧ l = 12 ∧ x.toInt = -1000004 ∧ sx_Ty sx_T0 w1 ∧ sx_Fr [(93, 0, 5)] w w1) ∨ (lw_in u f ∧ l < 12 ∧ ¬ (ok = true ∧ q = s) ∧ x.toInt = -10 - q ∧ sx_Ty sx_T0 w1 ∧ sx_Fr [(23, 1, 1), (74, 1, 5), (75, 0, 59)] w w1 ∧ sx_wg w1 23 1 = some (.int 0)) ∨ (lw_in u f ∧ l < 12 ∧ (ok = true ∧ q = s) ∧ x.toInt = l ∧ al_E l u f a w w1 ∧ sx_wg w1 23 1 = some (.int 0))
theorem lw_k {w : pq_W} {u f : Int32} {s l : Nat} (ht : sx_Ty sx_T0 w) (h1 : sx_wg w 23 1 = some (.int (nI s))) (s60 : s ≤ 60) (h2 : sx_wg w 23 2 = some (.int (nI l))) (l12 : l ≤ 12) {ok : Bool} {q : Nat} {a : List Int} (he : rd (fo_B w) s 500 0 0 0 [] = some (ok, q, a)) : ∃ (x : Int32) (w1 : pq_W), pq_Ru 76 65 [.ref 5, .int u, .int f] w (some (.int x), w1) ∧ lw_E ok q a s l u f x w w1 := by
  obtain ⟨b1, b2, b3⟩ := rd_bd _ _ _ _ _ _ _ _ he (Nat.zero_le _)
  have key : ∃ res, pq_Go 75 pm_65 0 (lv_args 0 [.ref 5, .int u, .int f]) [] w 0 0 res ∧ ∃ x : Int32, res.1 = some (.int x) ∧ lw_E ok q a s l u f x w res.2 := by
    by_cases cu : 0 ≤ u.toInt ∧ u.toInt ≤ 3
    · by_cases cf : 0 ≤ f.toInt ∧ f.toInt ≤ 3000
      · by_cases c12 : l = 12
        · subst c12
          obtain ⟨z, w1, r1, z1, t1, f1⟩ := sy_c (y := 4) sy_15_4 rfl ht
          refine xs_seg 1 (pc' := 1) (ls' := [(0, .ref 5), (1, .int u), (2, .int f)]) (st' := [.int u]) (w' := w) (cs' := 0) (ss' := 0) ?_ (fun _ _ => rfl)
          refine xs_cl (as := [.int u]) (rv := some (.int 1)) (st' := [.int 1]) (cs' := 0) (ss' := 0) (k1 := 1) rfl rfl rfl rfl rfl rfl rfl (uw_t cu) ?_
          refine xs_if false rfl rfl ?_
          refine xs_seg 1 (pc' := 8) (ls' := [(0, .ref 5), (1, .int u), (2, .int f)]) (st' := [.int f]) (w' := w) (cs' := 0) (ss' := 0) ?_ (fun _ _ => rfl)
          refine xs_cl (as := [.int f]) (rv := some (.int 1)) (st' := [.int 1]) (cs' := 0) (ss' := 0) (k1 := 1) rfl rfl rfl rfl rfl rfl rfl (fw_t cf) ?_
          refine xs_if true rfl rfl ?_
          refine xs_seg 1 (pc' := 21) (ls' := [(0, .ref 5), (1, .int u), (2, .int f)]) (st' := [.ref 5]) (w' := w) (cs' := 0) (ss' := 0) ?_ (fun _ _ => rfl)
          refine xs_gf (z := .ref 23) rfl ht rfl rfl (wg_ref ht rfl rfl) ?_
          refine xs_gf (z := .int (nI 12)) rfl ht rfl rfl h2 ?_
          refine xs_seg 1 (pc' := 29) (ls' := [(0, .ref 5), (1, .int u), (2, .int f)]) (st' := [.int 12, .int (nI 12)]) (w' := w) (cs' := 0) (ss' := 0) ?_ (fun _ _ => rfl)
          refine xs_cmp false rfl (by decide) ?_
          refine xs_seg 2 (pc' := 34) (ls' := [(0, .ref 5), (1, .int u), (2, .int f)]) (st' := [.int 4, .ref 5]) (w' := w) (cs' := 0) (ss' := 0) ?_ (fun _ _ => rfl)
          refine xs_cl (as := [.ref 5, .int 4]) (rv := some (.int z)) (st' := [.int z]) (cs' := 0) (ss' := 0) (k1 := 10) rfl rfl rfl rfl rfl rfl rfl r1 ?_
          exact ⟨_, go_end 1 (fun _ _ => rfl), z, rfl, Or.inr (Or.inl ⟨⟨cu, cf⟩, rfl, z1, t1, f1⟩)⟩
        · have l11 : l < 12 := by omega
          obtain ⟨y, w2, r2, t2, f2, d2⟩ := fo_c ht s60 he
          have fs2 : sx_wg w2 23 2 = some (.int (nI l)) := by rw [f2 23 2 (fr_o_ok ⟨Or.inl (by decide), Or.inl (by decide), trivial⟩)]; exact h2
          refine xs_seg 1 (pc' := 1) (ls' := [(0, .ref 5), (1, .int u), (2, .int f)]) (st' := [.int u]) (w' := w) (cs' := 0) (ss' := 0) ?_ (fun _ _ => rfl)
          refine xs_cl (as := [.int u]) (rv := some (.int 1)) (st' := [.int 1]) (cs' := 0) (ss' := 0) (k1 := 1) rfl rfl rfl rfl rfl rfl rfl (uw_t cu) ?_
          refine xs_if false rfl rfl ?_
          refine xs_seg 1 (pc' := 8) (ls' := [(0, .ref 5), (1, .int u), (2, .int f)]) (st' := [.int f]) (w' := w) (cs' := 0) (ss' := 0) ?_ (fun _ _ => rfl)
          refine xs_cl (as := [.int f]) (rv := some (.int 1)) (st' := [.int 1]) (cs' := 0) (ss' := 0) (k1 := 1) rfl rfl rfl rfl rfl rfl rfl (fw_t cf) ?_
          refine xs_if true rfl rfl ?_
          refine xs_seg 1 (pc' := 21) (ls' := [(0, .ref 5), (1, .int u), (2, .int f)]) (st' := [.ref 5]) (w' := w) (cs' := 0) (ss' := 0) ?_ (fun _ _ => rfl)
          refine xs_gf (z := .ref 23) rfl ht rfl rfl (wg_ref ht rfl rfl) ?_
          refine xs_gf (z := .int (nI l)) rfl ht rfl rfl h2 ?_
          refine xs_seg 1 (pc' := 29) (ls' := [(0, .ref 5), (1, .int u), (2, .int f)]) (st' := [.int 12, .int (nI l)]) (w' := w) (cs' := 0) (ss' := 0) ?_ (fun _ _ => rfl)
          refine xs_cmp true rfl (br_lt_t (b := 12) rfl (by rw [nI_toInt (by omega)]; omega)) ?_
          refine xs_seg 1 (pc' := 39) (ls' := [(0, .ref 5), (1, .int u), (2, .int f)]) (st' := [.ref 5]) (w' := w) (cs' := 0) (ss' := 0) ?_ (fun _ _ => rfl)
          refine xs_gf (z := .ref 74) rfl ht rfl rfl (wg_ref ht rfl rfl) ?_
          refine xs_seg 1 (pc' := 43) (ls' := [(0, .ref 5), (1, .int u), (2, .int f)]) (st' := [.ref 5, .ref 74]) (w' := w) (cs' := 0) (ss' := 0) ?_ (fun _ _ => rfl)
          refine xs_gf (z := .ref 23) rfl ht rfl rfl (wg_ref ht rfl rfl) ?_
          refine xs_gf (z := .ref 24) rfl ht rfl rfl (wg_ref ht rfl rfl) ?_
          refine xs_seg 1 (pc' := 50) (ls' := [(0, .ref 5), (1, .int u), (2, .int f)]) (st' := [.ref 5, .ref 24, .ref 74]) (w' := w) (cs' := 0) (ss' := 0) ?_ (fun _ _ => rfl)
          refine xs_gf (z := .ref 23) rfl ht rfl rfl (wg_ref ht rfl rfl) ?_
          refine xs_gf (z := .int (nI s)) rfl ht rfl rfl h1 ?_
          refine xs_cl (as := [.ref 74, .ref 24, .int (nI s)]) (rv := some (.int y)) (st' := [.int y]) (cs' := 0) (ss' := 0) (k1 := 70) rfl rfl rfl rfl rfl rfl rfl r2 ?_
          refine xs_seg 2 (pc' := 61) (ls' := [(3, .int y), (0, .ref 5), (1, .int u), (2, .int f)]) (st' := [.ref 5]) (w' := w2) (cs' := 0) (ss' := 0) ?_ (fun _ _ => rfl)
          refine xs_gf (z := .ref 23) rfl t2 rfl rfl (wg_ref t2 rfl rfl) ?_
          refine xs_seg 1 (pc' := 65) (ls' := [(3, .int y), (0, .ref 5), (1, .int u), (2, .int f)]) (st' := [.int 0, .ref 23]) (w' := w2) (cs' := 0) (ss' := 0) ?_ (fun _ _ => rfl)
          refine xs_pf rfl t2 rfl rfl rfl rfl ⟨by decide, by decide⟩ (fun w3 t3 f3 e3 => ?_)
          refine xs_seg 1 (pc' := 69) (ls' := [(3, .int y), (0, .ref 5), (1, .int u), (2, .int f)]) (st' := [.int y]) (w' := w3) (cs' := 0) (ss' := 0) ?_ (fun _ _ => rfl)
          rcases d2 with ⟨ok1, qs, y1, hc⟩ | ⟨nok, y1⟩
          · subst y1
            have hc3 : rp_C a w3 := ⟨by rw [f3 74 1 (fr_o_ok ⟨Or.inl (by decide), trivial⟩)]; exact hc.1, fun t h => by rw [fr_no f3 ⟨Or.inl (by decide), trivial⟩]; exact hc.2 t h⟩
            have k3 : sx_wg w3 23 2 = some (.int (nI l)) := by rw [f3 23 2 (fr_o_ok ⟨Or.inr (by omega), trivial⟩)]; exact fs2
            have ha := (b3 ok1).1
            obtain ⟨w4, r4, s4, s5⟩ := al_c (u := u) (f := f) t3 k3 l11 cu hc3 (by have ha : a.length + 0 ≤ 0 + q := ha; omega)
            have fw : sx_Fr (al_A l) w w3 := sx_Fr_trans (fr_wq f2 ⟨⟨_, _, (List.mem_cons_of_mem _ (List.mem_cons_of_mem _ (List.mem_cons_of_mem _ (List.mem_cons_of_mem _ (List.mem_cons_of_mem _ List.mem_cons_self))))), Int.le_refl _, Int.le_refl _⟩, ⟨_, _, (List.mem_cons_of_mem _ (List.mem_cons_of_mem _ (List.mem_cons_of_mem _ (List.mem_cons_of_mem _ (List.mem_cons_of_mem _ (List.mem_cons_of_mem _ List.mem_cons_self)))))), Int.le_refl _, Int.le_refl _⟩, trivial⟩) (fr_wq f3 ⟨⟨_, _, List.mem_cons_self, by decide, by decide⟩, trivial⟩)
            refine xs_if true rfl rfl ?_
            refine xs_seg 1 (pc' := 80) (ls' := [(3, .int (-1)), (0, .ref 5), (1, .int u), (2, .int f)]) (st' := [.ref 5]) (w' := w3) (cs' := 0) (ss' := 0) ?_ (fun _ _ => rfl)
            refine xs_gf (z := .ref 23) rfl t3 rfl rfl (wg_ref t3 rfl rfl) ?_
            refine xs_seg 3 (pc' := 86) (ls' := [(3, .int (-1)), (0, .ref 5), (1, .int u), (2, .int f)]) (st' := [.ref 5, .int f, .int u, .ref 23]) (w' := w3) (cs' := 0) (ss' := 0) ?_ (fun _ _ => rfl)
            refine xs_gf (z := .ref 74) rfl t3 rfl rfl (wg_ref t3 rfl rfl) ?_
            refine xs_cl (as := [.ref 23, .int u, .int f, .ref 74]) (rv := some (.int (nI l))) (st' := [.int (nI l)]) (cs' := 0) (ss' := 0) (k1 := 5) rfl rfl rfl rfl rfl rfl rfl r4 ?_
            exact ⟨_, go_end 1 (fun _ _ => rfl), nI l, rfl, Or.inr (Or.inr (Or.inr ⟨⟨cu, cf⟩, l11, ⟨ok1, qs⟩, nI_toInt (by omega), ⟨s4.1, sx_Fr_trans fw s4.2.1, s4.2.2.1, s4.2.2.2.1, s4.2.2.2.2.1, s4.2.2.2.2.2.1, s4.2.2.2.2.2.2⟩, by rw [s5]; exact e3⟩))⟩
          · subst y1
            refine xs_if false rfl (br_lt_f (b := 0) rfl (by rw [nI_toInt (by omega)]; omega)) ?_
            refine xs_seg 4 (pc' := 92) (ls' := [(3, .int (nI q)), (0, .ref 5), (1, .int u), (2, .int f)]) (st' := [.int ((-10) - (nI q))]) (w' := w3) (cs' := 0) (ss' := 0) ?_ (fun _ _ => rfl)
            exact ⟨_, go_end 1 (fun _ _ => rfl), (-10) - (nI q), rfl, Or.inr (Or.inr (Or.inl ⟨⟨cu, cf⟩, l11, nok, by rw [Int32.toInt_sub, nI_toInt (by omega), show (-10 : Int32).toInt = -10 from rfl]; exact Int.bmod_eq_of_le (by omega) (by omega), t3, sx_Fr_trans (sx_Fr_sub (by decide +kernel) f2) (sx_Fr_sub (by decide +kernel) f3), e3⟩))⟩
      · obtain ⟨z, w1, r1, z1, t1, f1⟩ := sy_c (y := 1) sy_15_1 rfl ht
        refine xs_seg 1 (pc' := 1) (ls' := [(0, .ref 5), (1, .int u), (2, .int f)]) (st' := [.int u]) (w' := w) (cs' := 0) (ss' := 0) ?_ (fun _ _ => rfl)
        refine xs_cl (as := [.int u]) (rv := some (.int 1)) (st' := [.int 1]) (cs' := 0) (ss' := 0) (k1 := 1) rfl rfl rfl rfl rfl rfl rfl (uw_t cu) ?_
        refine xs_if false rfl rfl ?_
        refine xs_seg 1 (pc' := 8) (ls' := [(0, .ref 5), (1, .int u), (2, .int f)]) (st' := [.int f]) (w' := w) (cs' := 0) (ss' := 0) ?_ (fun _ _ => rfl)
        refine xs_cl (as := [.int f]) (rv := some (.int 0)) (st' := [.int 0]) (cs' := 0) (ss' := 0) (k1 := 1) rfl rfl rfl rfl rfl rfl rfl (fw_f0 cf) ?_
        refine xs_if false rfl rfl ?_
        refine xs_seg 2 (pc' := 16) (ls' := [(0, .ref 5), (1, .int u), (2, .int f)]) (st' := [.int 1, .ref 5]) (w' := w) (cs' := 0) (ss' := 0) ?_ (fun _ _ => rfl)
        refine xs_cl (as := [.ref 5, .int 1]) (rv := some (.int z)) (st' := [.int z]) (cs' := 0) (ss' := 0) (k1 := 10) rfl rfl rfl rfl rfl rfl rfl r1 ?_
        exact ⟨_, go_end 1 (fun _ _ => rfl), z, rfl, Or.inl ⟨fun z => cf z.2, z1, t1, f1⟩⟩
    · obtain ⟨z, w1, r1, z1, t1, f1⟩ := sy_c (y := 1) sy_15_1 rfl ht
      refine xs_seg 1 (pc' := 1) (ls' := [(0, .ref 5), (1, .int u), (2, .int f)]) (st' := [.int u]) (w' := w) (cs' := 0) (ss' := 0) ?_ (fun _ _ => rfl)
      refine xs_cl (as := [.int u]) (rv := some (.int 0)) (st' := [.int 0]) (cs' := 0) (ss' := 0) (k1 := 1) rfl rfl rfl rfl rfl rfl rfl (uw_f cu) ?_
      refine xs_if true rfl rfl ?_
      refine xs_seg 2 (pc' := 16) (ls' := [(0, .ref 5), (1, .int u), (2, .int f)]) (st' := [.int 1, .ref 5]) (w' := w) (cs' := 0) (ss' := 0) ?_ (fun _ _ => rfl)
      refine xs_cl (as := [.ref 5, .int 1]) (rv := some (.int z)) (st' := [.int z]) (cs' := 0) (ss' := 0) (k1 := 10) rfl rfl rfl rfl rfl rfl rfl r1 ?_
      exact ⟨_, go_end 1 (fun _ _ => rfl), z, rfl, Or.inl ⟨fun z => cu z.1, z1, t1, f1⟩⟩
  obtain ⟨⟨r, w1⟩, g, x, e, h1⟩ := key
  have e : r = some (.int x) := e
  subst e
  exact ⟨x, w1, ru_of (k := 75) (M := pm_65) rfl (by rw [Bool.and_eq_true]; exact ⟨rfl, sq_rcv ht rfl rfl rfl⟩) g, h1⟩
noncomputable def rl_B (w : pq_W) (i : Nat) : Int := sy_r w 95 (2798 + i)
noncomputable def rl_A (l : Nat) : sx_A := [(94, 11, 13), (94, 15, 15), (104, 0, 69), (95, 7, 7), (95, 4, 4), (95, ((1922 + 73 * l : Nat) : Int), ((1994 + 73 * l : Nat) : Int))]
noncomputable def rl_E (l : Nat) (u f : Int32) (a : List Int) (w w1 : pq_W) : Prop := sx_Ty sx_T0 w1 ∧ sx_Fr (rl_A l) w w1 ∧ sy_r w1 95 4 = (l : Int) + 1 ∧ sy_r w1 95 (1922 + 73 * l) = u.toInt ∧ sy_r w1 95 (1923 + 73 * l) = f.toInt ∧ sy_r w1 95 (1924 + 73 * l) = (a.length : Int) ∧ (∀ t, t < a.length → sy_r w1 95 (1925 + 73 * l + t) = rq_m (a.getD t 0)) ∧ sy_r w1 95 7 = 0
noncomputable def rl_H (ok : Bool) (q : Nat) (a : List Int) (s l : Nat) (u f x : Int32) (w w1 : pq_W) : Prop := (¬ lw_in u f ∧ x.toInt = -1000001 ∧ sx_Ty sx_T0 w1 ∧ sx_Fr [(97, 0, 5)] w w1) ∨ (lw_in u f ∧ l = 12 ∧ x.toInt = -1000004 ∧ sx_Ty sx_T0 w1 ∧ sx_Fr [(97, 0, 5)] w w1) ∨ (lw_in u f ∧ l < 12 ∧ ¬ (ok = true ∧ q = s) ∧ x.toInt = -10 - q ∧ sx_Ty sx_T0 w1 ∧ sx_Fr [(94, 11, 13), (94, 15, 15), (104, 0, 69), (95, 7, 7)] w w1 ∧ sy_r w1 95 7 = 0) ∨ (lw_in u f ∧ l < 12 ∧ (ok = true ∧ q = s) ∧ x.toInt = l ∧ rl_E l u f a w w1)
/-- the tokens, one after the other -/
theorem rl_lp {u f : Int32} {l K : Nat} (hl : l < 12) {a : List Int} (ha : a.length ≤ 60) {w0 : pq_W} : ∀ (m i : Nat) (w : pq_W) (Q : pq_R → Prop), m + i = a.length → sx_Ty sx_T0 w → rq_C a w → (∀ w1, sx_Ty sx_T0 w1 → sx_Fr [(95, ((1925 + 73 * l + i : Nat) : Int), ((1994 + 73 * l : Nat) : Int))] w w1 → (∀ t, i ≤ t → t < a.length → sy_r w1 95 (1925 + 73 * l + t) = rq_m (a.getD t 0)) → ∃ res, pq_Go K pm_196 208 [(5, .int (nI a.length)), (4, .int (nI (1922 + 73 * l))), (3, .int (nI l)), (0, .ref 94), (1, .int u), (2, .int f)] [] w1 0 0 res ∧ Q res) → ∃ res, pq_Go K pm_196 174 [(5, .int (nI i)), (4, .int (nI (1922 + 73 * l))), (3, .int (nI l)), (0, .ref 94), (1, .int u), (2, .int f)] [] w 0 0 res ∧ Q res := by
  intro m
  induction m with
  | zero =>
    intro i w Q hi ht hc k
    have e : i = a.length := by omega
    subst e
    refine xs_seg 2 (pc' := 177) (ls' := [(5, .int (nI a.length)), (4, .int (nI (1922 + 73 * l))), (3, .int (nI l)), (0, .ref 94), (1, .int u), (2, .int f)]) (st' := [.ref 94, .int (nI a.length)]) (w' := w) (cs' := 0) (ss' := 0) ?_ (fun _ _ => rfl)
    refine xs_gf (z := .int (nI a.length)) rfl ht rfl rfl hc.1 ?_
    refine xs_cmp true rfl (br_ge_t (b := a.length) (nI_toInt (by omega)) (by rw [nI_toInt (by omega)]; exact Int.le_refl _)) ?_
    exact k w ht (sx_Fr_refl _ _) (fun t h1 h2 => by omega)
  | succ m ih =>
    intro i w Q hi ht hc k
    obtain ⟨v, hv1, hv2⟩ := sy_at (r := 104) (i := i) ht rfl (by omega)
    have hv3 := hc.2 i (by omega)
    refine xs_seg 2 (pc' := 177) (ls' := [(5, .int (nI i)), (4, .int (nI (1922 + 73 * l))), (3, .int (nI l)), (0, .ref 94), (1, .int u), (2, .int f)]) (st' := [.ref 94, .int (nI i)]) (w' := w) (cs' := 0) (ss' := 0) ?_ (fun _ _ => rfl)
    refine xs_gf (z := .int (nI a.length)) rfl ht rfl rfl hc.1 ?_
    refine xs_cmp false rfl (br_ge_f (b := a.length) (nI_toInt (by omega)) (by rw [nI_toInt (by omega)]; omega)) ?_
    refine xs_seg 1 (pc' := 184) (ls' := [(5, .int (nI i)), (4, .int (nI (1922 + 73 * l))), (3, .int (nI l)), (0, .ref 94), (1, .int u), (2, .int f)]) (st' := [.ref 94]) (w' := w) (cs' := 0) (ss' := 0) ?_ (fun _ _ => rfl)
    refine xs_gf (z := .ref 95) rfl ht rfl rfl (rq_ge ht) ?_
    refine xs_seg 6 (pc' := 195) (ls' := [(5, .int (nI i)), (4, .int (nI (1922 + 73 * l))), (3, .int (nI l)), (0, .ref 94), (1, .int u), (2, .int f)]) (st' := [.ref 94, .int (((nI (1922 + 73 * l)) + 3) + (nI i)), .ref 95]) (w' := w) (cs' := 0) (ss' := 0) ?_ (fun _ _ => rfl)
    refine xs_gf (z := .ref 104) rfl ht rfl rfl (wg_ref ht rfl rfl) ?_
    refine xs_seg 1 (pc' := 200) (ls' := [(5, .int (nI i)), (4, .int (nI (1922 + 73 * l))), (3, .int (nI l)), (0, .ref 94), (1, .int u), (2, .int f)]) (st' := [.int (nI i), .ref 104, .int (((nI (1922 + 73 * l)) + 3) + (nI i)), .ref 95]) (w' := w) (cs' := 0) (ss' := 0) ?_ (fun _ _ => rfl)
    refine xs_gl (q := i) (y := v) rfl ht rfl (by omega) (by decide) rfl hv2.symm ?_
    refine xs_ist (q := (1922 + 73 * l + (3 + i))) rfl ht rfl rfl (by omega) (by decide) (by rw [show (3 : Int32) = nI 3 from rfl, nI_ad (by omega), nI_ad (by omega), Nat.add_assoc]) (gs_L hl (by omega) (fun z => by omega) (fun z => by omega)) (fun w2 t2 f2 e2 => ?_)
    have e2 : sy_r w2 95 (1922 + 73 * l + (3 + i)) = v.toInt := sy_r_of e2
    have hc2 : rq_C a w2 := ⟨by rw [f2 94 15 (fr_o_ok ⟨Or.inl (by decide), trivial⟩)]; exact hc.1, fun t h => by rw [fr_no f2 ⟨Or.inl (by decide), trivial⟩]; exact hc.2 t h⟩
    refine xs_seg 2 (pc' := 174) (ls' := [(5, .int (nI (i + 1))), (4, .int (nI (1922 + 73 * l))), (3, .int (nI l)), (0, .ref 94), (1, .int u), (2, .int f)]) (st' := []) (w' := w2) (cs' := 0) (ss' := 0) ?_ (fun _ _ => by rw [nI_succ]; rfl)
    refine ih (i + 1) w2 Q (by omega) t2 hc2 (fun w1 t1 f1 d1 => k w1 t1 (sx_Fr_trans (fr_wq f2 ⟨⟨_, _, List.mem_cons_self, by omega, by omega⟩, trivial⟩) (fr_wq f1 ⟨⟨_, _, List.mem_cons_self, by omega, by omega⟩, trivial⟩)) (fun t h1 h2 => ?_))
    by_cases c : t = i
    · subst c
      rw [fr_no f1 ⟨Or.inr (by omega), trivial⟩, show 1925 + 73 * l + t = 1922 + 73 * l + (3 + t) by omega, e2, hv2]
      exact hv3
    · exact d1 t (by omega) h2
theorem rl_k {w : pq_W} {u f : Int32} {s l : Nat} (ht : sx_Ty sx_T0 w) (hN : NB w) (h1 : sy_r w 95 7 = (s : Int)) (s60 : s ≤ 60) (h2 : sy_r w 95 4 = (l : Int)) (l12 : l ≤ 12) (hB : ∀ i, i < s → 0 ≤ rl_B w i ∧ rl_B w i ≤ 255) {ok : Bool} {q : Nat} {a : List Int} (he : rd (rl_B w) s 500 0 0 0 [] = some (ok, q, a)) : ∃ (x : Int32) (w1 : pq_W), pq_Ru 76 196 [.ref 94, .int u, .int f] w (some (.int x), w1) ∧ rl_H ok q a s l u f x w w1 := by
  obtain ⟨b1, b2, b3⟩ := rd_bd _ _ _ _ _ _ _ _ he (Nat.zero_le _)
  have key : ∃ res, pq_Go 75 pm_196 0 (lv_args 0 [.ref 94, .int u, .int f]) [] w 0 0 res ∧ ∃ x : Int32, res.1 = some (.int x) ∧ rl_H ok q a s l u f x w res.2 := by
    by_cases cu : 0 ≤ u.toInt ∧ u.toInt ≤ 3
    · by_cases cf : 0 ≤ f.toInt ∧ f.toInt ≤ 3000
      · by_cases c12 : l = 12
        · subst c12
          obtain ⟨z, w1, r1, z1, t1, f1⟩ := sy_m (y := -1000004) sy_62_4 rfl ht
          refine xs_seg 4 (pc' := 6) (ls' := [(0, .ref 94), (1, .int u), (2, .int f)]) (st' := [.long 3, .long 0, .long (u).toInt64]) (w' := w) (cs' := 0) (ss' := 0) ?_ (fun _ _ => rfl)
          refine xs_cl (as := [.long (u).toInt64, .long 0, .long 3]) (rv := some (.int 1)) (st' := [.int 1]) (cs' := 0) (ss' := 0) (k1 := 1) rfl rfl rfl rfl rfl rfl rfl (wi_t w u 0 3 0 3 rfl rfl cu) ?_
          refine xs_if false rfl rfl ?_
          refine xs_seg 4 (pc' := 18) (ls' := [(0, .ref 94), (1, .int u), (2, .int f)]) (st' := [.long 3000, .long 0, .long (f).toInt64]) (w' := w) (cs' := 0) (ss' := 0) ?_ (fun _ _ => rfl)
          refine xs_cl (as := [.long (f).toInt64, .long 0, .long 3000]) (rv := some (.int 1)) (st' := [.int 1]) (cs' := 0) (ss' := 0) (k1 := 1) rfl rfl rfl rfl rfl rfl rfl (wi_t w f 0 3000 0 3000 rfl rfl cf) ?_
          refine xs_if true rfl rfl ?_
          refine xs_seg 1 (pc' := 32) (ls' := [(0, .ref 94), (1, .int u), (2, .int f)]) (st' := [.ref 94]) (w' := w) (cs' := 0) (ss' := 0) ?_ (fun _ _ => rfl)
          refine xs_gf (z := .ref 95) rfl ht rfl rfl (rq_ge ht) ?_
          refine xs_seg 1 (pc' := 36) (ls' := [(0, .ref 94), (1, .int u), (2, .int f)]) (st' := [.int 4, .ref 95]) (w' := w) (cs' := 0) (ss' := 0) ?_ (fun _ _ => rfl)
          refine xs_gl (q := 4) (y := (nI 12)) rfl ht rfl (by decide) (by decide) rfl (by rw [nI_toInt (by omega)]; exact h2) ?_
          refine xs_seg 3 (pc' := 41) (ls' := [(3, .int (nI 12)), (0, .ref 94), (1, .int u), (2, .int f)]) (st' := [.int 12, .int (nI 12)]) (w' := w) (cs' := 0) (ss' := 0) ?_ (fun _ _ => rfl)
          refine xs_cmp false rfl (by decide) ?_
          refine xs_seg 2 (pc' := 47) (ls' := [(3, .int (nI 12)), (0, .ref 94), (1, .int u), (2, .int f)]) (st' := [.int (-1000004), .ref 94]) (w' := w) (cs' := 0) (ss' := 0) ?_ (fun _ _ => rfl)
          refine xs_cl (as := [.ref 94, .int (-1000004)]) (rv := some (.int z)) (st' := [.int z]) (cs' := 0) (ss' := 0) (k1 := 10) rfl rfl rfl rfl rfl rfl rfl r1 ?_
          exact ⟨_, go_end 1 (fun _ _ => rfl), z, rfl, Or.inr (Or.inl ⟨⟨cu, cf⟩, rfl, z1, t1, f1⟩)⟩
        · have l11 : l < 12 := by omega
          refine xs_seg 4 (pc' := 6) (ls' := [(0, .ref 94), (1, .int u), (2, .int f)]) (st' := [.long 3, .long 0, .long (u).toInt64]) (w' := w) (cs' := 0) (ss' := 0) ?_ (fun _ _ => rfl)
          refine xs_cl (as := [.long (u).toInt64, .long 0, .long 3]) (rv := some (.int 1)) (st' := [.int 1]) (cs' := 0) (ss' := 0) (k1 := 1) rfl rfl rfl rfl rfl rfl rfl (wi_t w u 0 3 0 3 rfl rfl cu) ?_
          refine xs_if false rfl rfl ?_
          refine xs_seg 4 (pc' := 18) (ls' := [(0, .ref 94), (1, .int u), (2, .int f)]) (st' := [.long 3000, .long 0, .long (f).toInt64]) (w' := w) (cs' := 0) (ss' := 0) ?_ (fun _ _ => rfl)
          refine xs_cl (as := [.long (f).toInt64, .long 0, .long 3000]) (rv := some (.int 1)) (st' := [.int 1]) (cs' := 0) (ss' := 0) (k1 := 1) rfl rfl rfl rfl rfl rfl rfl (wi_t w f 0 3000 0 3000 rfl rfl cf) ?_
          refine xs_if true rfl rfl ?_
          refine xs_seg 1 (pc' := 32) (ls' := [(0, .ref 94), (1, .int u), (2, .int f)]) (st' := [.ref 94]) (w' := w) (cs' := 0) (ss' := 0) ?_ (fun _ _ => rfl)
          refine xs_gf (z := .ref 95) rfl ht rfl rfl (rq_ge ht) ?_
          refine xs_seg 1 (pc' := 36) (ls' := [(0, .ref 94), (1, .int u), (2, .int f)]) (st' := [.int 4, .ref 95]) (w' := w) (cs' := 0) (ss' := 0) ?_ (fun _ _ => rfl)
          refine xs_gl (q := 4) (y := (nI l)) rfl ht rfl (by decide) (by decide) rfl (by rw [nI_toInt (by omega)]; exact h2) ?_
          refine xs_seg 3 (pc' := 41) (ls' := [(3, .int (nI l)), (0, .ref 94), (1, .int u), (2, .int f)]) (st' := [.int 12, .int (nI l)]) (w' := w) (cs' := 0) (ss' := 0) ?_ (fun _ _ => rfl)
          refine xs_cmp true rfl (br_ne_t (b := 12) rfl (by rw [nI_toInt (by omega)]; omega)) ?_
          refine xs_seg 2 (pc' := 53) (ls' := [(3, .int (nI l)), (0, .ref 94), (1, .int u), (2, .int f)]) (st' := [.int 0, .ref 94]) (w' := w) (cs' := 0) (ss' := 0) ?_ (fun _ _ => rfl)
          refine xs_pf rfl ht rfl rfl rfl rfl (sh_i32 _) (fun wa ta fa ea => ?_)
          have k11wa := ea
          refine xs_seg 2 (pc' := 58) (ls' := [(3, .int (nI l)), (0, .ref 94), (1, .int u), (2, .int f)]) (st' := [.int 0, .ref 94]) (w' := wa) (cs' := 0) (ss' := 0) ?_ (fun _ _ => rfl)
          refine xs_pf rfl ta rfl rfl rfl rfl (sh_i32 _) (fun wb tb fb eb => ?_)
          have k11wb : sx_wg wb 94 11 = some (.int 0) := by rw [fb 94 11 (fr_o_ok ⟨Or.inr (by omega), trivial⟩)]; exact k11wa
          have k12wb := eb
          refine xs_seg 2 (pc' := 63) (ls' := [(3, .int (nI l)), (0, .ref 94), (1, .int u), (2, .int f)]) (st' := [.int 0, .ref 94]) (w' := wb) (cs' := 0) (ss' := 0) ?_ (fun _ _ => rfl)
          refine xs_pb rfl tb rfl rfl rfl rfl ⟨⟨by decide, by decide⟩, Or.inl rfl⟩ (fun wc tc fc ec => ?_)
          have k11wc : sx_wg wc 94 11 = some (.int 0) := by rw [fc 94 11 (fr_o_ok ⟨Or.inr (by omega), trivial⟩)]; exact k11wb
          have k12wc : sx_wg wc 94 12 = some (.int 0) := by rw [fc 94 12 (fr_o_ok ⟨Or.inr (by omega), trivial⟩)]; exact k12wb
          have k13wc := ec
          refine xs_seg 2 (pc' := 68) (ls' := [(3, .int (nI l)), (0, .ref 94), (1, .int u), (2, .int f)]) (st' := [.int 0, .ref 94]) (w' := wc) (cs' := 0) (ss' := 0) ?_ (fun _ _ => rfl)
          refine xs_pf rfl tc rfl rfl rfl rfl (sh_i32 _) (fun wd td fd ed => ?_)
          have k11wd : sx_wg wd 94 11 = some (.int 0) := by rw [fd 94 11 (fr_o_ok ⟨Or.inr (by omega), trivial⟩)]; exact k11wc
          have k12wd : sx_wg wd 94 12 = some (.int 0) := by rw [fd 94 12 (fr_o_ok ⟨Or.inr (by omega), trivial⟩)]; exact k12wc
          have k13wd : sx_wg wd 94 13 = some (.int 0) := by rw [fd 94 13 (fr_o_ok ⟨Or.inr (by omega), trivial⟩)]; exact k13wc
          have k15wd := ed
          have fw : sx_Fr rq_A w wd := sx_Fr_trans (sx_Fr_sub (by decide +kernel) fa) (sx_Fr_trans (sx_Fr_sub (by decide +kernel) fb) (sx_Fr_trans (sx_Fr_sub (by decide +kernel) fc) (sx_Fr_sub (by decide +kernel) fd)))
          have s5 : rq_S (rl_B w) s 0 0 [] wd := ⟨rq_Xm ⟨ht, h1, s60, fun i hi => rfl, hN⟩ td fw, k11wd, k12wd, k13wd, k15wd, fun i hi => absurd hi (Nat.not_lt_zero _)⟩
          obtain ⟨w6, r6, s6⟩ := (rq_all hB 500).2.1 0 0 [] ok q a wd (by decide) he s5 (Nat.zero_le _) (Nat.zero_le _)
          have fz : sx_Fr rq_A w w6 := sx_Fr_trans fw s6.1
          refine xs_seg 1 (pc' := 72) (ls' := [(3, .int (nI l)), (0, .ref 94), (1, .int u), (2, .int f)]) (st' := [.ref 94]) (w' := wd) (cs' := 0) (ss' := 0) ?_ (fun _ _ => rfl)
          refine xs_cl (as := [.ref 94]) (rv := none) (st' := []) (cs' := 0) (ss' := 0) (k1 := 64) rfl rfl rfl rfl rfl rfl rfl r6 ?_
          refine xs_seg 2 (pc' := 77) (ls' := [(3, .int (nI l)), (0, .ref 94), (1, .int u), (2, .int f)]) (st' := [.ref 94, .ref 94]) (w' := w6) (cs' := 0) (ss' := 0) ?_ (fun _ _ => rfl)
          by_cases c : ok = true ∧ q = s
          · obtain ⟨ok1, qs⟩ := c
            subst ok1
            subst qs
            have s7 := rq_QS s6
            have ha : a.length ≤ 60 := by
              have h := (b3 rfl).1
              have h : a.length + 0 ≤ 0 + q := h
              omega
            refine xs_gf (z := .int 0) rfl s7.1.1 rfl rfl s7.2.2.2.1 ?_
            refine xs_if false rfl rfl ?_
            refine xs_seg 1 (pc' := 84) (ls' := [(3, .int (nI l)), (0, .ref 94), (1, .int u), (2, .int f)]) (st' := [.ref 94, .ref 94]) (w' := w6) (cs' := 0) (ss' := 0) ?_ (fun _ _ => rfl)
            refine xs_gf (z := .int (nI q)) rfl s7.1.1 rfl rfl s7.2.1 ?_
            refine xs_seg 1 (pc' := 88) (ls' := [(3, .int (nI l)), (0, .ref 94), (1, .int u), (2, .int f)]) (st' := [.ref 94, .int (nI q), .ref 94]) (w' := w6) (cs' := 0) (ss' := 0) ?_ (fun _ _ => rfl)
            refine xs_gf (z := .ref 95) rfl s7.1.1 rfl rfl (rq_ge s7.1.1) ?_
            refine xs_seg 1 (pc' := 93) (ls' := [(3, .int (nI l)), (0, .ref 94), (1, .int u), (2, .int f)]) (st' := [.int 7, .ref 95, .int (nI q), .ref 94]) (w' := w6) (cs' := 0) (ss' := 0) ?_ (fun _ _ => rfl)
            refine xs_gl (q := 7) (y := (nI q)) rfl s7.1.1 rfl (by decide) (by decide) rfl (by rw [nI_toInt (by omega)]; exact s7.1.2.1) ?_
            refine xs_cmp true rfl (br_ge_t (b := q) (nI_toInt (by omega)) (by rw [nI_toInt (by omega)]; exact Int.le_refl _)) ?_
            refine xs_seg 1 (pc' := 102) (ls' := [(3, .int (nI l)), (0, .ref 94), (1, .int u), (2, .int f)]) (st' := [.int 0, .ref 94]) (w' := w6) (cs' := 0) (ss' := 0) ?_ (fun _ _ => rfl)
            refine xs_pb rfl s7.1.1 rfl rfl rfl rfl ⟨⟨by decide, by decide⟩, Or.inl rfl⟩ (fun w7 t7 f7 e7 => ?_)
            obtain ⟨s8, f8⟩ := rq_f0 s7 ha t7 f7 e7
            refine xs_seg 1 (pc' := 106) (ls' := [(3, .int (nI l)), (0, .ref 94), (1, .int u), (2, .int f)]) (st' := [.ref 94]) (w' := w7) (cs' := 0) (ss' := 0) ?_ (fun _ _ => rfl)
            refine xs_gf (z := .ref 95) rfl t7 rfl rfl (rq_ge t7) ?_
            refine xs_seg 2 (pc' := 112) (ls' := [(3, .int (nI l)), (0, .ref 94), (1, .int u), (2, .int f)]) (st' := [.int 0, .int 7, .ref 95]) (w' := w7) (cs' := 0) (ss' := 0) ?_ (fun _ _ => rfl)
            refine xs_ist (q := 7) rfl t7 rfl rfl (by decide) (by decide) rfl (gs_7 ⟨by decide, by decide⟩) (fun w9 t9 f9 e9 => ?_)
            have k13 : sx_wg w9 94 13 = some (.int 0) := by rw [f9 94 13 (fr_o_ok ⟨Or.inl (by decide), trivial⟩)]; exact s8.2.2.2.1
            have c9 : rq_C a w9 := ⟨by rw [f9 94 15 (fr_o_ok ⟨Or.inl (by decide), trivial⟩)]; exact s8.2.2.2.2.1, fun t h => by rw [fr_no f9 ⟨Or.inl (by decide), trivial⟩]; exact s8.2.2.2.2.2 t h⟩
            have v49 : sy_r w9 95 4 = (l : Int) := by rw [fr_no f9 ⟨Or.inr (by omega), trivial⟩, fr_no (sx_Fr_trans fz f8) ⟨Or.inl (by decide), Or.inl (by decide), Or.inl (by decide), trivial⟩]; exact h2
            refine xs_seg 1 (pc' := 114) (ls' := [(3, .int (nI l)), (0, .ref 94), (1, .int u), (2, .int f)]) (st' := [.ref 94]) (w' := w9) (cs' := 0) (ss' := 0) ?_ (fun _ _ => rfl)
            refine xs_gf (z := .int 0) rfl t9 rfl rfl k13 ?_
            refine xs_if true rfl rfl ?_
            have hb : (1922 : Int32) + 73 * nI l = nI (1922 + 73 * l) := by rw [show (1922 : Int32) = nI 1922 from rfl, show (73 : Int32) = nI 73 from rfl, nI_mul (by omega) (by omega) (by omega), nI_ad (by omega)]
            refine xs_seg 7 (pc' := 139) (ls' := [(4, .int (nI (1922 + 73 * l))), (3, .int (nI l)), (0, .ref 94), (1, .int u), (2, .int f)]) (st' := [.ref 94]) (w' := w9) (cs' := 0) (ss' := 0) ?_ (fun _ _ => by rw [← hb]; rfl)
            refine xs_gf (z := .ref 95) rfl t9 rfl rfl (rq_ge t9) ?_
            refine xs_seg 4 (pc' := 147) (ls' := [(4, .int (nI (1922 + 73 * l))), (3, .int (nI l)), (0, .ref 94), (1, .int u), (2, .int f)]) (st' := [.int u, .int ((nI (1922 + 73 * l)) + 0), .ref 95]) (w' := w9) (cs' := 0) (ss' := 0) ?_ (fun _ _ => rfl)
            refine xs_ist (q := (1922 + 73 * l + 0)) rfl t9 rfl rfl (by omega) (by decide) (Int32.add_zero _) (gs_L l11 (by omega) (fun _ => cu) (fun z => by omega)) (fun wA tA fA eA => ?_)
            have cA : rq_C a wA := ⟨by rw [fA 94 15 (fr_o_ok ⟨Or.inl (by decide), trivial⟩)]; exact c9.1, fun t h => by rw [fr_no fA ⟨Or.inl (by decide), trivial⟩]; exact c9.2 t h⟩
            refine xs_seg 1 (pc' := 149) (ls' := [(4, .int (nI (1922 + 73 * l))), (3, .int (nI l)), (0, .ref 94), (1, .int u), (2, .int f)]) (st' := [.ref 94]) (w' := wA) (cs' := 0) (ss' := 0) ?_ (fun _ _ => rfl)
            refine xs_gf (z := .ref 95) rfl tA rfl rfl (rq_ge tA) ?_
            refine xs_seg 4 (pc' := 157) (ls' := [(4, .int (nI (1922 + 73 * l))), (3, .int (nI l)), (0, .ref 94), (1, .int u), (2, .int f)]) (st' := [.int f, .int ((nI (1922 + 73 * l)) + 1), .ref 95]) (w' := wA) (cs' := 0) (ss' := 0) ?_ (fun _ _ => rfl)
            refine xs_ist (q := (1922 + 73 * l + 1)) rfl tA rfl rfl (by omega) (by decide) (nI_succ _).symm (gs_L l11 (by omega) (fun z => by omega) (fun z => by omega)) (fun wB tB fB eB => ?_)
            have cB : rq_C a wB := ⟨by rw [fB 94 15 (fr_o_ok ⟨Or.inl (by decide), trivial⟩)]; exact cA.1, fun t h => by rw [fr_no fB ⟨Or.inl (by decide), trivial⟩]; exact cA.2 t h⟩
            refine xs_seg 1 (pc' := 159) (ls' := [(4, .int (nI (1922 + 73 * l))), (3, .int (nI l)), (0, .ref 94), (1, .int u), (2, .int f)]) (st' := [.ref 94]) (w' := wB) (cs' := 0) (ss' := 0) ?_ (fun _ _ => rfl)
            refine xs_gf (z := .ref 95) rfl tB rfl rfl (rq_ge tB) ?_
            refine xs_seg 4 (pc' := 167) (ls' := [(4, .int (nI (1922 + 73 * l))), (3, .int (nI l)), (0, .ref 94), (1, .int u), (2, .int f)]) (st' := [.ref 94, .int ((nI (1922 + 73 * l)) + 2), .ref 95]) (w' := wB) (cs' := 0) (ss' := 0) ?_ (fun _ _ => rfl)
            refine xs_gf (z := .int (nI a.length)) rfl tB rfl rfl cB.1 ?_
            refine xs_ist (q := (1922 + 73 * l + 2)) rfl tB rfl rfl (by omega) (by decide) (by rw [show (2 : Int32) = nI 2 from rfl, nI_ad (by omega)]) (gs_L l11 (by omega) (fun z => by omega) (fun _ => ⟨by rw [nI_toInt (by omega)]; omega, by rw [nI_toInt (by omega)]; omega⟩)) (fun wC tC fC eC => ?_)
            have cC : rq_C a wC := ⟨by rw [fC 94 15 (fr_o_ok ⟨Or.inl (by decide), trivial⟩)]; exact cB.1, fun t h => by rw [fr_no fC ⟨Or.inl (by decide), trivial⟩]; exact cB.2 t h⟩
            refine xs_seg 2 (pc' := 174) (ls' := [(5, .int (nI 0)), (4, .int (nI (1922 + 73 * l))), (3, .int (nI l)), (0, .ref 94), (1, .int u), (2, .int f)]) (st' := []) (w' := wC) (cs' := 0) (ss' := 0) ?_ (fun _ _ => rfl)
            refine rl_lp l11 ha (w0 := w) a.length 0 wC _ (by omega) tC cC (fun wD tD fD dD => ?_)
            have v4 : sy_r wD 95 4 = (l : Int) := by rw [fr_no fD ⟨Or.inr (by omega), trivial⟩, fr_no fC ⟨Or.inr (by omega), trivial⟩, fr_no fB ⟨Or.inr (by omega), trivial⟩, fr_no fA ⟨Or.inr (by omega), trivial⟩]; exact v49
            refine xs_seg 1 (pc' := 209) (ls' := [(5, .int (nI a.length)), (4, .int (nI (1922 + 73 * l))), (3, .int (nI l)), (0, .ref 94), (1, .int u), (2, .int f)]) (st' := [.ref 94]) (w' := wD) (cs' := 0) (ss' := 0) ?_ (fun _ _ => rfl)
            refine xs_gf (z := .ref 95) rfl tD rfl rfl (rq_ge tD) ?_
            refine xs_seg 2 (pc' := 214) (ls' := [(5, .int (nI a.length)), (4, .int (nI (1922 + 73 * l))), (3, .int (nI l)), (0, .ref 94), (1, .int u), (2, .int f)]) (st' := [.int 4, .ref 95, .int 4, .ref 95]) (w' := wD) (cs' := 0) (ss' := 0) ?_ (fun _ _ => rfl)
            refine xs_gl (q := 4) (y := (nI l)) rfl tD rfl (by decide) (by decide) rfl (by rw [nI_toInt (by omega)]; exact v4) ?_
            refine xs_seg 2 (pc' := 217) (ls' := [(5, .int (nI a.length)), (4, .int (nI (1922 + 73 * l))), (3, .int (nI l)), (0, .ref 94), (1, .int u), (2, .int f)]) (st' := [.int ((nI l) + 1), .int 4, .ref 95]) (w' := wD) (cs' := 0) (ss' := 0) ?_ (fun _ _ => rfl)
            refine xs_ist (q := 4) rfl tD rfl rfl (by decide) (by decide) rfl (gs_4 ⟨by rw [← nI_succ, nI_toInt (by omega)]; omega, by rw [← nI_succ, nI_toInt (by omega)]; omega⟩) (fun wE tE fE eE => ?_)
            have x4 : sy_r wE 95 4 = (l : Int) + 1 := by rw [sy_r_of eE, ← nI_succ, nI_toInt (by omega)]; omega
            have x0 : sy_r wE 95 (1922 + 73 * l) = u.toInt := by rw [fr_no fE ⟨Or.inr (by omega), trivial⟩, fr_no fD ⟨Or.inr (by omega), trivial⟩, fr_no fC ⟨Or.inr (by omega), trivial⟩, fr_no fB ⟨Or.inr (by omega), trivial⟩]; exact sy_r_of eA
            have x1 : sy_r wE 95 (1923 + 73 * l) = f.toInt := by rw [show 1923 + 73 * l = 1922 + 73 * l + 1 by omega, fr_no fE ⟨Or.inr (by omega), trivial⟩, fr_no fD ⟨Or.inr (by omega), trivial⟩, fr_no fC ⟨Or.inr (by omega), trivial⟩]; exact sy_r_of eB
            have x2 : sy_r wE 95 (1924 + 73 * l) = (a.length : Int) := by rw [show 1924 + 73 * l = 1922 + 73 * l + 2 by omega, fr_no fE ⟨Or.inr (by omega), trivial⟩, fr_no fD ⟨Or.inr (by omega), trivial⟩, sy_r_of eC, nI_toInt (by omega)]
            have x3 : ∀ t, t < a.length → sy_r wE 95 (1925 + 73 * l + t) = rq_m (a.getD t 0) := fun t h => by rw [fr_no fE ⟨Or.inr (by omega), trivial⟩]; exact dD t (Nat.zero_le _) h
            have x7 : sy_r wE 95 7 = 0 := by rw [fr_no fE ⟨Or.inr (by omega), trivial⟩, fr_no fD ⟨Or.inr (by omega), trivial⟩, fr_no fC ⟨Or.inr (by omega), trivial⟩, fr_no fB ⟨Or.inr (by omega), trivial⟩, fr_no fA ⟨Or.inr (by omega), trivial⟩]; exact sy_r_of e9
            have fy : sx_Fr (rl_A l) w wE := sx_Fr_trans (fr_wq (sx_Fr_trans fz f8) ⟨⟨_, _, List.mem_cons_self, Int.le_refl _, Int.le_refl _⟩, ⟨_, _, (List.mem_cons_of_mem _ List.mem_cons_self), Int.le_refl _, Int.le_refl _⟩, ⟨_, _, (List.mem_cons_of_mem _ (List.mem_cons_of_mem _ List.mem_cons_self)), Int.le_refl _, Int.le_refl _⟩, trivial⟩) (sx_Fr_trans (fr_wq f9 ⟨⟨_, _, (List.mem_cons_of_mem _ (List.mem_cons_of_mem _ (List.mem_cons_of_mem _ List.mem_cons_self))), by decide, by decide⟩, trivial⟩) (sx_Fr_trans (fr_wq fA ⟨⟨_, _, (List.mem_cons_of_mem _ (List.mem_cons_of_mem _ (List.mem_cons_of_mem _ (List.mem_cons_of_mem _ (List.mem_cons_of_mem _ List.mem_cons_self))))), by omega, by omega⟩, trivial⟩) (sx_Fr_trans (fr_wq fB ⟨⟨_, _, (List.mem_cons_of_mem _ (List.mem_cons_of_mem _ (List.mem_cons_of_mem _ (List.mem_cons_of_mem _ (List.mem_cons_of_mem _ List.mem_cons_self))))), by omega, by omega⟩, trivial⟩) (sx_Fr_trans (fr_wq fC ⟨⟨_, _, (List.mem_cons_of_mem _ (List.mem_cons_of_mem _ (List.mem_cons_of_mem _ (List.mem_cons_of_mem _ (List.mem_cons_of_mem _ List.mem_cons_self))))), by omega, by omega⟩, trivial⟩) (sx_Fr_trans (fr_wq fD ⟨⟨_, _, (List.mem_cons_of_mem _ (List.mem_cons_of_mem _ (List.mem_cons_of_mem _ (List.mem_cons_of_mem _ (List.mem_cons_of_mem _ List.mem_cons_self))))), by omega, by omega⟩, trivial⟩) (fr_wq fE ⟨⟨_, _, (List.mem_cons_of_mem _ (List.mem_cons_of_mem _ (List.mem_cons_of_mem _ (List.mem_cons_of_mem _ List.mem_cons_self)))), by decide, by decide⟩, trivial⟩))))))
            exact ⟨_, go_end 2 (fun _ _ => rfl), nI l, rfl, Or.inr (Or.inr (Or.inr ⟨⟨cu, cf⟩, l11, ⟨rfl, rfl⟩, nI_toInt (by omega), tE, fy, x4, x0, x1, x2, x3, x7⟩))⟩
          · cases ok with
            | true =>
              have s7 := rq_QS s6
              have qs : q < s := by
                by_cases z : q = s
                · exact absurd ⟨rfl, z⟩ c
                · omega
              refine xs_gf (z := .int 0) rfl s7.1.1 rfl rfl s7.2.2.2.1 ?_
              refine xs_if false rfl rfl ?_
              refine xs_seg 1 (pc' := 84) (ls' := [(3, .int (nI l)), (0, .ref 94), (1, .int u), (2, .int f)]) (st' := [.ref 94, .ref 94]) (w' := w6) (cs' := 0) (ss' := 0) ?_ (fun _ _ => rfl)
              refine xs_gf (z := .int (nI q)) rfl s7.1.1 rfl rfl s7.2.1 ?_
              refine xs_seg 1 (pc' := 88) (ls' := [(3, .int (nI l)), (0, .ref 94), (1, .int u), (2, .int f)]) (st' := [.ref 94, .int (nI q), .ref 94]) (w' := w6) (cs' := 0) (ss' := 0) ?_ (fun _ _ => rfl)
              refine xs_gf (z := .ref 95) rfl s7.1.1 rfl rfl (rq_ge s7.1.1) ?_
              refine xs_seg 1 (pc' := 93) (ls' := [(3, .int (nI l)), (0, .ref 94), (1, .int u), (2, .int f)]) (st' := [.int 7, .ref 95, .int (nI q), .ref 94]) (w' := w6) (cs' := 0) (ss' := 0) ?_ (fun _ _ => rfl)
              refine xs_gl (q := 7) (y := (nI s)) rfl s7.1.1 rfl (by decide) (by decide) rfl (by rw [nI_toInt (by omega)]; exact s7.1.2.1) ?_
              refine xs_cmp false rfl (br_ge_f (b := s) (nI_toInt (by omega)) (by rw [nI_toInt (by omega)]; omega)) ?_
              refine xs_seg 2 (pc' := 102) (ls' := [(3, .int (nI l)), (0, .ref 94), (1, .int u), (2, .int f)]) (st' := [.int 1, .ref 94]) (w' := w6) (cs' := 0) (ss' := 0) ?_ (fun _ _ => rfl)
              refine xs_pb rfl s7.1.1 rfl rfl rfl rfl ⟨⟨by decide, by decide⟩, Or.inr rfl⟩ (fun w7 t7 f7 e7 => ?_)
              obtain ⟨s8, f8⟩ := rq_f1 s7 t7 f7 e7
              refine xs_seg 1 (pc' := 106) (ls' := [(3, .int (nI l)), (0, .ref 94), (1, .int u), (2, .int f)]) (st' := [.ref 94]) (w' := w7) (cs' := 0) (ss' := 0) ?_ (fun _ _ => rfl)
              refine xs_gf (z := .ref 95) rfl t7 rfl rfl (rq_ge t7) ?_
              refine xs_seg 2 (pc' := 112) (ls' := [(3, .int (nI l)), (0, .ref 94), (1, .int u), (2, .int f)]) (st' := [.int 0, .int 7, .ref 95]) (w' := w7) (cs' := 0) (ss' := 0) ?_ (fun _ _ => rfl)
              refine xs_ist (q := 7) rfl t7 rfl rfl (by decide) (by decide) rfl (gs_7 ⟨by decide, by decide⟩) (fun w9 t9 f9 e9 => ?_)
              have k13 : sx_wg w9 94 13 = some (.int 1) := by rw [f9 94 13 (fr_o_ok ⟨Or.inl (by decide), trivial⟩)]; exact s8.2.2
              have k11 : sx_wg w9 94 11 = some (.int (nI q)) := by rw [f9 94 11 (fr_o_ok ⟨Or.inl (by decide), trivial⟩)]; exact s8.2.1
              refine xs_seg 1 (pc' := 114) (ls' := [(3, .int (nI l)), (0, .ref 94), (1, .int u), (2, .int f)]) (st' := [.ref 94]) (w' := w9) (cs' := 0) (ss' := 0) ?_ (fun _ _ => rfl)
              refine xs_gf (z := .int 1) rfl t9 rfl rfl k13 ?_
              refine xs_if false rfl rfl ?_
              refine xs_seg 2 (pc' := 123) (ls' := [(3, .int (nI l)), (0, .ref 94), (1, .int u), (2, .int f)]) (st' := [.ref 94, .int (-10)]) (w' := w9) (cs' := 0) (ss' := 0) ?_ (fun _ _ => rfl)
              refine xs_gf (z := .int (nI q)) rfl t9 rfl rfl k11 ?_
              exact ⟨_, go_end 2 (fun _ _ => rfl), (-10) - (nI q), rfl, Or.inr (Or.inr (Or.inl ⟨⟨cu, cf⟩, l11, c, by rw [Int32.toInt_sub, nI_toInt (by omega), show (-10 : Int32).toInt = -10 from rfl]; exact Int.bmod_eq_of_le (by omega) (by omega), t9, sx_Fr_trans (sx_Fr_sub (by decide +kernel) (sx_Fr_trans fz f8)) (sx_Fr_sub (by decide +kernel) f9), sy_r_of e9⟩))⟩
            | false =>
              have s7 := rq_QG s6
              refine xs_gf (z := .int 1) rfl s7.1.1 rfl rfl s7.2.2 ?_
              refine xs_if true rfl rfl ?_
              refine xs_seg 2 (pc' := 102) (ls' := [(3, .int (nI l)), (0, .ref 94), (1, .int u), (2, .int f)]) (st' := [.int 1, .ref 94]) (w' := w6) (cs' := 0) (ss' := 0) ?_ (fun _ _ => rfl)
              refine xs_pb rfl s7.1.1 rfl rfl rfl rfl ⟨⟨by decide, by decide⟩, Or.inr rfl⟩ (fun w7 t7 f7 e7 => ?_)
              obtain ⟨s8, f8⟩ := rq_fF s7 t7 f7 e7
              refine xs_seg 1 (pc' := 106) (ls' := [(3, .int (nI l)), (0, .ref 94), (1, .int u), (2, .int f)]) (st' := [.ref 94]) (w' := w7) (cs' := 0) (ss' := 0) ?_ (fun _ _ => rfl)
              refine xs_gf (z := .ref 95) rfl t7 rfl rfl (rq_ge t7) ?_
              refine xs_seg 2 (pc' := 112) (ls' := [(3, .int (nI l)), (0, .ref 94), (1, .int u), (2, .int f)]) (st' := [.int 0, .int 7, .ref 95]) (w' := w7) (cs' := 0) (ss' := 0) ?_ (fun _ _ => rfl)
              refine xs_ist (q := 7) rfl t7 rfl rfl (by decide) (by decide) rfl (gs_7 ⟨by decide, by decide⟩) (fun w9 t9 f9 e9 => ?_)
              have k13 : sx_wg w9 94 13 = some (.int 1) := by rw [f9 94 13 (fr_o_ok ⟨Or.inl (by decide), trivial⟩)]; exact s8.2.2
              have k11 : sx_wg w9 94 11 = some (.int (nI q)) := by rw [f9 94 11 (fr_o_ok ⟨Or.inl (by decide), trivial⟩)]; exact s8.2.1
              refine xs_seg 1 (pc' := 114) (ls' := [(3, .int (nI l)), (0, .ref 94), (1, .int u), (2, .int f)]) (st' := [.ref 94]) (w' := w9) (cs' := 0) (ss' := 0) ?_ (fun _ _ => rfl)
              refine xs_gf (z := .int 1) rfl t9 rfl rfl k13 ?_
              refine xs_if false rfl rfl ?_
              refine xs_seg 2 (pc' := 123) (ls' := [(3, .int (nI l)), (0, .ref 94), (1, .int u), (2, .int f)]) (st' := [.ref 94, .int (-10)]) (w' := w9) (cs' := 0) (ss' := 0) ?_ (fun _ _ => rfl)
              refine xs_gf (z := .int (nI q)) rfl t9 rfl rfl k11 ?_
              exact ⟨_, go_end 2 (fun _ _ => rfl), (-10) - (nI q), rfl, Or.inr (Or.inr (Or.inl ⟨⟨cu, cf⟩, l11, c, by rw [Int32.toInt_sub, nI_toInt (by omega), show (-10 : Int32).toInt = -10 from rfl]; exact Int.bmod_eq_of_le (by omega) (by omega), t9, sx_Fr_trans (sx_Fr_sub (by decide +kernel) (sx_Fr_trans fz f8)) (sx_Fr_sub (by decide +kernel) f9), sy_r_of e9⟩))⟩
      · obtain ⟨z, w1, r1, z1, t1, f1⟩ := sy_m (y := -1000001) sy_62_1 rfl ht
        refine xs_seg 4 (pc' := 6) (ls' := [(0, .ref 94), (1, .int u), (2, .int f)]) (st' := [.long 3, .long 0, .long (u).toInt64]) (w' := w) (cs' := 0) (ss' := 0) ?_ (fun _ _ => rfl)
        refine xs_cl (as := [.long (u).toInt64, .long 0, .long 3]) (rv := some (.int 1)) (st' := [.int 1]) (cs' := 0) (ss' := 0) (k1 := 1) rfl rfl rfl rfl rfl rfl rfl (wi_t w u 0 3 0 3 rfl rfl cu) ?_
        refine xs_if false rfl rfl ?_
        refine xs_seg 4 (pc' := 18) (ls' := [(0, .ref 94), (1, .int u), (2, .int f)]) (st' := [.long 3000, .long 0, .long (f).toInt64]) (w' := w) (cs' := 0) (ss' := 0) ?_ (fun _ _ => rfl)
        refine xs_cl (as := [.long (f).toInt64, .long 0, .long 3000]) (rv := some (.int 0)) (st' := [.int 0]) (cs' := 0) (ss' := 0) (k1 := 1) rfl rfl rfl rfl rfl rfl rfl (wi_f w f 0 3000 0 3000 rfl rfl cf) ?_
        refine xs_if false rfl rfl ?_
        refine xs_seg 2 (pc' := 27) (ls' := [(0, .ref 94), (1, .int u), (2, .int f)]) (st' := [.int (-1000001), .ref 94]) (w' := w) (cs' := 0) (ss' := 0) ?_ (fun _ _ => rfl)
        refine xs_cl (as := [.ref 94, .int (-1000001)]) (rv := some (.int z)) (st' := [.int z]) (cs' := 0) (ss' := 0) (k1 := 10) rfl rfl rfl rfl rfl rfl rfl r1 ?_
        exact ⟨_, go_end 1 (fun _ _ => rfl), z, rfl, Or.inl ⟨fun z => cf z.2, z1, t1, f1⟩⟩
    · obtain ⟨z, w1, r1, z1, t1, f1⟩ := sy_m (y := -1000001) sy_62_1 rfl ht
      refine xs_seg 4 (pc' := 6) (ls' := [(0, .ref 94), (1, .int u), (2, .int f)]) (st' := [.long 3, .long 0, .long (u).toInt64]) (w' := w) (cs' := 0) (ss' := 0) ?_ (fun _ _ => rfl)
      refine xs_cl (as := [.long (u).toInt64, .long 0, .long 3]) (rv := some (.int 0)) (st' := [.int 0]) (cs' := 0) (ss' := 0) (k1 := 1) rfl rfl rfl rfl rfl rfl rfl (wi_f w u 0 3 0 3 rfl rfl cu) ?_
      refine xs_if true rfl rfl ?_
      refine xs_seg 2 (pc' := 27) (ls' := [(0, .ref 94), (1, .int u), (2, .int f)]) (st' := [.int (-1000001), .ref 94]) (w' := w) (cs' := 0) (ss' := 0) ?_ (fun _ _ => rfl)
      refine xs_cl (as := [.ref 94, .int (-1000001)]) (rv := some (.int z)) (st' := [.int z]) (cs' := 0) (ss' := 0) (k1 := 10) rfl rfl rfl rfl rfl rfl rfl r1 ?_
      exact ⟨_, go_end 1 (fun _ _ => rfl), z, rfl, Or.inl ⟨fun z => cu z.1, z1, t1, f1⟩⟩
  obtain ⟨⟨r, w1⟩, g, x, e, h1⟩ := key
  have e : r = some (.int x) := e
  subst e
  exact ⟨x, w1, ru_of (k := 75) (M := pm_196) rfl (by rw [Bool.and_eq_true]; exact ⟨rfl, sq_rcv ht rfl rfl rfl⟩) g, h1⟩
