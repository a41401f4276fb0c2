/-! both sides of a call, one after the other, by one check: the same answer, and places that are alike -/
noncomputable def rl_eq (S : sx_S) (u v : sx_V) : Bool := match u, v with
  | .inl (.inl e), .inl (.inl f) => sx_in S.E S.C (sx_sub e f) 0 0
  | _, _ => false
theorem rl_eq_ok {p : Nat → Int} {S : sx_S} {u v : sx_V} {x y : Value} (h : rl_eq S u v = true) (hE : sx_Sat p S.E) (hC : sx_Fok p S.C) (hx : sx_d p u x) (hy : sx_d p v y) : ∃ a : Int32, x = .int a ∧ y = .int a := by
  unfold rl_eq at h
  split at h
  · rename_i e f
    match x, hx, y, hy with
    | .int a, hx, .int b, hy =>
      have hx : a.toInt = sx_ev p e := hx
      have hy : b.toInt = sx_ev p f := hy
      have k := sx_in_ok hE hC h
      rw [sx_sub_ev] at k
      have e0 : a = b := Int32.toInt_inj.mp (by omega)
      exact ⟨a, rfl, by rw [e0]⟩
  · cases h
/-- places that must be alike at the end -/
abbrev rl_L : Type := List (Nat × Int × Nat × Int)
noncomputable def rl_al (S : sx_S) (q : Nat × Int × Nat × Int) : Bool := match sx_of S.O q.1 (q.2.1, []), sx_of S.O q.2.2.1 (q.2.2.2, []) with
  | some u, some v => rl_eq S u v
  | _, _ => false
theorem rl_al_ok {p : Nat → Int} {S : sx_S} {w : pq_W} (hO : sx_Ook p w S.O) (hE : sx_Sat p S.E) (hC : sx_Fok p S.C) {q : Nat × Int × Nat × Int} (h : rl_al S q = true) : sy_r w q.1 q.2.1.toNat = sy_r w q.2.2.1 q.2.2.2.toNat := by
  unfold rl_al at h
  split at h
  · rename_i u v hu hv
    obtain ⟨i, i1, x, i2, i3⟩ := hO _ (sx_of_mem hu)
    obtain ⟨k, k1, y, k2, k3⟩ := hO _ (sx_of_mem hv)
    obtain ⟨a, e1, e2⟩ := rl_eq_ok h hE hC i3 k3
    subst e1
    subst e2
    have i1 : (i : Int) = q.2.1 + 0 := i1
    have k1 : (k : Int) = q.2.2.2 + 0 := k1
    have i2 : sx_wg w q.1 i = some (.int a) := i2
    have k2 : sx_wg w q.2.2.1 k = some (.int a) := k2
    rw [show q.2.1.toNat = i by omega, show q.2.2.2.toNat = k by omega, sy_r_of i2, sy_r_of k2]
  · cases h
noncomputable def rl_po2 (L : rl_L) (rv1 : Option sx_V) (S2 : sx_S) (rv2 : Option sx_V) : Bool := match rv1, rv2 with
  | some u, some v => rl_eq S2 u v && L.all (rl_al S2)
  | _, _ => false
/-- a side: where it writes, calls told, loops told, depth, number, rows -/
abbrev rl_D : Type := sx_A × List (Nat × sx_K) × sh_AN × Nat × Nat × pq_M
noncomputable def rl_P (D : rl_D) : sx_P := (sx_T0, D.1, D.2.1, D.2.2.1)
noncomputable def rl_S2 (D : rl_D) (sl : List (Nat × sx_V)) (S : sx_S) : sx_S := (S.n, S.E, S.C, S.O, D.2.2.2.1, (D.2.2.2.2.1, D.2.2.2.2.2, 0, sl, [], sx_anf D.2.2.1 D.2.2.2.2.1), [])
noncomputable def rl_rb (n : Nat) : Option sx_V → Bool
  | some v => sx_vltb n v
  | none => false
noncomputable def rl_po1 (D : rl_D) (sl : List (Nat × sx_V)) (L : rl_L) (f : Nat) (S : sx_S) (rv : Option sx_V) : Bool := rl_rb S.n rv && sx_chk (rl_P D) (rl_po2 L rv) f [] (rl_S2 D sl S)
noncomputable def rl_chk (D1 D2 : rl_D) (iv : List (Int × Int)) (C : List sx_F) (sl1 sl2 : List (Nat × sx_V)) (O : sx_O) (L : rl_L) (f : Nat) : Bool := sq_s0b iv.length C sl1 [] O && sl2.all (fun q => sx_vltb iv.length q.2) && ng_ob (sx_nvs 0 iv) C O && sx_chk (rl_P D1) (rl_po1 D2 sl2 L f) f [] (sq_s0 D1.2.2.2.1 D1.2.2.2.2.1 D1.2.2.2.2.2 0 iv C sl1 [] O (sx_anf D1.2.2.1 D1.2.2.2.2.1))
/-- what both sides come to -/
noncomputable def rl_Q (D1 D2 : rl_D) (L : rl_L) (w : pq_W) (ls1 ls2 : pq_L) : Prop := ∃ (x : Int32) (w1 w2 : pq_W), pq_Go D1.2.2.2.1 D1.2.2.2.2.2 0 ls1 [] w 0 0 (some (.int x), w1) ∧ sx_Ty sx_T0 w1 ∧ sx_Fr D1.1 w w1 ∧ pq_Go D2.2.2.2.1 D2.2.2.2.2.2 0 ls2 [] w1 0 0 (some (.int x), w2) ∧ sx_Ty sx_T0 w2 ∧ sx_Fr D2.1 w1 w2 ∧ ∀ q ∈ L, sy_r w2 q.1 q.2.1.toNat = sy_r w2 q.2.2.1 q.2.2.2.toNat
noncomputable def rl_O1 (D1 D2 : rl_D) (L : rl_L) (w : pq_W) (ls2 : pq_L) (res : pq_R) : Prop := ∃ (x : Int32) (w2 : pq_W), res.1 = some (.int x) ∧ sx_Ty sx_T0 res.2 ∧ sx_Fr D1.1 w res.2 ∧ pq_Go D2.2.2.2.1 D2.2.2.2.2.2 0 ls2 [] res.2 0 0 (some (.int x), w2) ∧ sx_Ty sx_T0 w2 ∧ sx_Fr D2.1 res.2 w2 ∧ ∀ q ∈ L, sy_r w2 q.1 q.2.1.toNat = sy_r w2 q.2.2.1 q.2.2.2.toNat
noncomputable def rl_O2 (D2 : rl_D) (L : rl_L) (w' : pq_W) (r : Option Value) (res : pq_R) : Prop := ∃ x : Int32, r = some (.int x) ∧ res.1 = some (.int x) ∧ sx_Ty sx_T0 res.2 ∧ sx_Fr D2.1 w' res.2 ∧ ∀ q ∈ L, sy_r res.2 q.1 q.2.1.toNat = sy_r res.2 q.2.2.1 q.2.2.2.toNat
theorem rl_go {D1 D2 : rl_D} {J1 J2 : pq_W → Prop} {w : pq_W} {ls1 ls2 : pq_L} {iv : List (Int × Int)} {C : List sx_F} {sl1 sl2 : List (Nat × sx_V)} {O : sx_O} {L : rl_L} {f : Nat} (p : Nat → Int) (h : rl_chk D1 D2 iv C sl1 sl2 O L f = true) (hM1 : pq_tab[D1.2.2.2.2.1]? = some D1.2.2.2.2.2) (hM2 : pq_tab[D2.2.2.2.2.1]? = some D2.2.2.2.2.2) (hi : sx_ivs p 0 iv) (hC : ng_fs p C) (hl1 : ng_sl0 p ls1 sl1) (hl2 : ng_sl0 p ls2 sl2) (hO : ng_eqs p w O) (ht : sx_Ty sx_T0 w) (hct1 : ∀ q ∈ D1.2.1, sx_Kok sx_T0 J1 q.1 q.2) (hJ1 : ∀ w', sx_Ty sx_T0 w' → sx_Fr D1.1 w w' → J1 w') (hct2 : ∀ q ∈ D2.2.1, sx_Kok sx_T0 J2 q.1 q.2) (hJ2 : ∀ w1 w', sx_Ty sx_T0 w1 → sx_Fr D1.1 w w1 → sx_Ty sx_T0 w' → sx_Fr D2.1 w1 w' → J2 w') : rl_Q D1 D2 L w ls1 ls2 := by
  unfold rl_chk at h
  rw [Bool.and_eq_true, Bool.and_eq_true, Bool.and_eq_true] at h
  obtain ⟨⟨⟨b1, b2⟩, b3⟩, h⟩ := h
  have m : sx_Mt sx_T0 D1.1 w p (sq_s0 D1.2.2.2.1 D1.2.2.2.2.1 D1.2.2.2.2.2 0 iv C sl1 [] O (sx_anf D1.2.2.1 D1.2.2.2.2.1)) [] ls1 [] w := sq_s0_ok hM1 hi (ng_fs_to hC) (ng_sl0_ok hl1) trivial (ng_ob_ok (sy_nvs_ok hi) (ng_fs_to hC) ht b3 hO) ht (sx_Fr_refl _ _) b1
  have hpo1 : ∀ S p' ls st w' rv r, rl_po1 D2 sl2 L f S rv = true → (∀ s, s < iv.length → p' s = p s) → iv.length ≤ S.n → sx_Mt sx_T0 D1.1 w p' S [] ls st w' → sx_rvm p' rv r → rl_O1 D1 D2 L w ls2 (r, w') := by
    intro S p' ls st w' rv r h1 h2 h3 m1 h4
    unfold rl_po1 at h1
    rw [Bool.and_eq_true] at h1
    obtain ⟨c1, c2⟩ := h1
    rw [List.all_eq_true] at b2
    have m2 : sx_Mt sx_T0 D2.1 w' p' (rl_S2 D2 sl2 S) [] ls2 [] w' := sx_mkMt (sat := m1.sat) (fok := m1.fok) (elt := m1.elt) (clt := m1.clt) (olt := m1.olt) (flt := ⟨fun q hq => sx_vlt_mono h3 (sx_vltb_ok (b2 q hq)), fun v hv => by cases hv⟩) (klt := fun f hf => by cases hf) (ook := m1.ook) (typ := m1.typ) (frm := sx_Fr_refl _ _) (lsm := sx_lm_agree h2 (fun q hq => sx_vltb_ok (b2 q hq)) (ng_sl0_ok hl2)) (stm := trivial) (ksm := trivial) (tbm := ⟨hM2, fun f hf => by cases hf⟩)
    have hpo2 : ∀ S2 p2 ls st w2 rv2 r2, rl_po2 L rv S2 rv2 = true → (∀ s, s < S.n → p2 s = p' s) → S.n ≤ S2.n → sx_Mt sx_T0 D2.1 w' p2 S2 [] ls st w2 → sx_rvm p2 rv2 r2 → rl_O2 D2 L w' r (r2, w2) := by
      intro S2 p2 ls st w2 rv2 r2 g1 g2 g3 m3 g4
      unfold rl_po2 at g1
      split at g1
      · rename_i u v
        rw [Bool.and_eq_true] at g1
        obtain ⟨d1, d2⟩ := g1
        match r, h4, r2, g4 with
        | some x, h4, some y, g4 =>
          have h4 : sx_d p' u x := h4
          have g4 : sx_d p2 v y := g4
          have h5 : sx_d p2 u x := sx_d_agree g2 (sx_vltb_ok c1) h4
          obtain ⟨a, e1, e2⟩ := rl_eq_ok d1 m3.sat m3.fok h5 g4
          subst e1
          subst e2
          rw [List.all_eq_true] at d2
          exact ⟨a, rfl, rfl, m3.typ, m3.frm, fun q hq => rl_al_ok m3.ook m3.sat m3.fok (d2 q hq)⟩
      · cases g1
    obtain ⟨res, g, x, e1, e2, e3, e4, e5⟩ := sx_chk_ok (P := rl_P D2) (Post := rl_O2 D2 L w' r) (N0 := S.n) (p0 := p') hct2 (fun w2 t2 f2 => hJ2 w' w2 m1.typ m1.frm t2 f2) hpo2 f [] _ c2 p' ⟨fun _ _ => rfl, Nat.le_refl _, fun h hh => by cases hh⟩ [] ls2 [] w' m2
    obtain ⟨r2, w2⟩ := res
    have e2 : r2 = some (.int x) := e2
    subst e2
    exact ⟨x, w2, e1, m1.typ, m1.frm, g, e3, e4, e5⟩
  obtain ⟨res, g, x, w2, e1, e2, e3, e4, e5, e6, e7⟩ := sx_chk_ok (P := rl_P D1) (Post := rl_O1 D1 D2 L w ls2) (N0 := iv.length) (p0 := p) hct1 hJ1 hpo1 f [] _ h p ⟨fun _ _ => rfl, Nat.le_refl _, fun h hh => by cases hh⟩ [] ls1 [] w m
  obtain ⟨r, w1⟩ := res
  have e1 : r = some (.int x) := e1
  subst e1
  exact ⟨x, w1, w2, g, e2, e3, e4, e5, e6, e7⟩
