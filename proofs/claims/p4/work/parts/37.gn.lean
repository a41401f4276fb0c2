/-! gone, by hand over the checks -/
theorem ng_iy {p : Nat → Int} {ls : pq_L} {i n : Nat} {v : Int} (h : ng_i ls i v) (e : p n = v) : ng_d p ls i (fx_i n) := by
  show ng_i ls i (sx_ev p (sx_y n))
  rw [sx_y_ev, e]
  exact h
theorem ng_yi {p : Nat → Int} {ls : pq_L} {i n : Nat} {v : Int} (h : ng_d p ls i (fx_i n)) (e : p n = v) : ng_i ls i v := by
  have h : ng_i ls i (sx_ev p (sx_y n)) := h
  rw [sx_y_ev, e] at h
  exact h
theorem ng_ek (p : Nat → Int) (c : Int) : sx_ev p (c, []) = c := Int.add_zero c
theorem ng_ik {p : Nat → Int} {ls : pq_L} {i : Nat} {v c : Int} (h : ng_i ls i v) (e : v = c) : ng_d p ls i (fx_k c) := by
  show ng_i ls i (sx_ev p (c, []))
  rw [ng_ek, ← e]
  exact h
theorem ng_ki {p : Nat → Int} {ls : pq_L} {i : Nat} {v c : Int} (h : ng_d p ls i (fx_k c)) (e : c = v) : ng_i ls i v := by
  have h : ng_i ls i (sx_ev p (c, [])) := h
  rw [ng_ek, e] at h
  exact h
theorem ng_fi {p : Nat → Int} {ls : pq_L} {i : Nat} {v : Int} {f : sx_F} (h : ng_d p ls i (.inl (.inl f))) (e : sx_ev p f = v) : ng_i ls i v := by
  have h : ng_i ls i (sx_ev p f) := h
  rw [e] at h
  exact h
theorem ng_if {p : Nat → Int} {ls : pq_L} {i : Nat} {v : Int} {f : sx_F} (h : ng_i ls i v) (e : sx_ev p f = v) : ng_d p ls i (.inl (.inl f)) := by
  show ng_i ls i (sx_ev p f)
  rw [e]
  exact h
theorem ng_st0 {p : Nat → Int} {st : List Value} (h : sx_sm p [] st) : st = [] := by
  match st, h with
  | [], _ => rfl
theorem ng_ib {ls : pq_L} {i : Nat} {v : Int} (h : ng_i ls i v) : -2147483648 ≤ v ∧ v ≤ 2147483647 := by
  obtain ⟨x, _, rfl⟩ := h
  exact ⟨x.minValue_le_toInt, x.toInt_le⟩
noncomputable def gB (ls : pq_L) (r : Nat) (fi si la s : Int) : Prop := pq_lk ls 0 = some (.ref 94) ∧ pq_lk ls 1 = some (.ref r) ∧ ng_i ls 2 fi ∧ ng_i ls 3 si ∧ ng_i ls 4 la ∧ ng_i ls 5 s
theorem gB_of {p : Nat → Int} {ls : pq_L} {r : Nat} {fi si la s : Int} {rest : List (Nat × sx_V)} {rs : ng_Sl} (h : ng_sl p ls (ng_L (gq_b r s ++ rest) ++ rs)) (e0 : p 0 = fi) (e1 : p 1 = si) (e2 : p 2 = la) : gB ls r fi si la s ∧ ng_sl p ls (ng_L rest ++ rs) :=
  ⟨⟨h.1, h.2.1, ng_yi h.2.2.1 e0, ng_yi h.2.2.2.1 e1, ng_yi h.2.2.2.2.1 e2, ng_ki h.2.2.2.2.2.1 rfl⟩, h.2.2.2.2.2.2⟩
theorem gB_of0 {p : Nat → Int} {ls : pq_L} {r : Nat} {fi si la s : Int} {rest : List (Nat × sx_V)} (h : ng_sl p ls (ng_L (gq_b r s ++ rest))) (e0 : p 0 = fi) (e1 : p 1 = si) (e2 : p 2 = la) : gB ls r fi si la s ∧ ng_sl p ls (ng_L rest) :=
  ⟨⟨h.1, h.2.1, ng_yi h.2.2.1 e0, ng_yi h.2.2.2.1 e1, ng_yi h.2.2.2.2.1 e2, ng_ki h.2.2.2.2.2.1 rfl⟩, h.2.2.2.2.2.2⟩
theorem gB_to {p : Nat → Int} {ls : pq_L} {r : Nat} {fi si la s : Int} {rest : List (Nat × sx_V)} (h : gB ls r fi si la s) (e0 : p 0 = fi) (e1 : p 1 = si) (e2 : p 2 = la) (hr : ng_sl0 p ls rest) : ng_sl0 p ls (gq_b r s ++ rest) :=
  ⟨h.1, h.2.1, ng_iy h.2.2.1 e0, ng_iy h.2.2.2.1 e1, ng_iy h.2.2.2.2.1 e2, ng_ik h.2.2.2.2.2 rfl, hr⟩
noncomputable def gH (r : Nat) (fi si la s : Int) : Prop := (r = 95 ∨ r = 100) ∧ (s = 1 ∨ s = -1) ∧ (0 ≤ fi ∧ fi ≤ gq_n r) ∧ (1 ≤ si ∧ si ≤ 12) ∧ (-2147483648 ≤ la ∧ la ≤ 2147483647)
theorem gH_iv {r : Nat} {fi si la s : Int} {p : Nat → Int} {rest : List (Int × Int)} (h : gH r fi si la s) (e0 : p 0 = fi) (e1 : p 1 = si) (e2 : p 2 = la) (hr : sx_ivs p 3 rest) : sx_ivs p 0 (gq_iv r ++ rest) := by
  obtain ⟨_, _, h1, h2, h3⟩ := h
  refine ⟨?_, ?_, ?_, ?_, ?_, ?_, hr⟩
  · rw [e0]; exact h1.1
  · rw [e0]; exact h1.2
  · rw [e1]; exact h2.1
  · rw [e1]; exact h2.2
  · rw [e2]; exact h3.1
  · rw [e2]; exact h3.2
noncomputable def gA : sx_A := [(106, 0, 63), (107, 0, 63)]
theorem gA_r {r i : Nat} (h : r = 95 ∨ r = 100) : ¬ sx_InA gA r i := by
  intro ⟨q, hq, e, _⟩
  rcases List.mem_cons.mp hq with rfl | hq
  · rcases h with rfl | rfl <;> cases e
  · cases List.mem_singleton.mp hq
    rcases h with rfl | rfl <;> cases e
theorem gA_6 {c : Nat} {w w1 : pq_W} (hc : c < 64) (f : sx_Fr [(106, (c : Int), (c : Int))] w w1) : sx_Fr gA w w1 := fun r i h => f r i (fun ⟨q, hq, e1, e2, e3⟩ => by
  cases List.mem_singleton.mp hq
  exact h ⟨_, List.mem_cons_self, e1, by show (0 : Int) ≤ i; omega, by have e3 : (i : Int) ≤ c := e3; show (i : Int) ≤ 63; omega⟩)
theorem gA_7 {c : Nat} {w w1 : pq_W} (hc : c < 64) (f : sx_Fr [(107, (c : Int), (c : Int))] w w1) : sx_Fr gA w w1 := fun r i h => f r i (fun ⟨q, hq, e1, e2, e3⟩ => by
  cases List.mem_singleton.mp hq
  exact h ⟨_, List.mem_cons_of_mem _ List.mem_cons_self, e1, by show (0 : Int) ≤ i; omega, by have e3 : (i : Int) ≤ c := e3; show (i : Int) ≤ 63; omega⟩)
/-- a place that is not the one written -/
theorem ng_oth {q : Nat} {c : Int} {w w1 : pq_W} (f : sx_Fr [(q, c, c)] w w1) {r i : Nat} (h : r ≠ q ∨ (i : Int) ≠ c) : sy_r w1 r i = sy_r w r i := sy_r_fr f (fun ⟨z, hz, e1, e2, e3⟩ => by
  cases List.mem_singleton.mp hz
  have e1 : q = r := e1
  have e2 : c ≤ (i : Int) := e2
  have e3 : (i : Int) ≤ c := e3
  rcases h with h | h
  · exact h e1.symm
  · omega)
theorem ng_nil {w w1 : pq_W} (f : sx_Fr [] w w1) (r i : Nat) : sy_r w1 r i = sy_r w r i := sy_r_fr f (fun ⟨z, hz, _⟩ => by cases hz)
noncomputable def gG (Post : pq_R → Prop) (pc : Nat) (ls : pq_L) (w : pq_W) : Prop := ∃ res, pq_Go 19 pm_210 pc ls [] w 0 0 res ∧ Post res
/-- the first loop -/
theorem gq_l1 {r : Nat} {fi si la s : Int} {w0 : pq_W} {Post : pq_R → Prop} (h : gH r fi si la s) (hx : -1 ≤ sy_r w0 r fi.toNat ∧ sy_r w0 r fi.toNat ≤ 63)
    (cont : ∀ ls w, gB ls r fi si la s → ng_i ls 6 64 → sx_Ty sx_T0 w → sx_Fr gA w0 w → (∀ c : Nat, c < 64 → sy_r w 106 c = if sy_r w0 r fi.toNat = c then 0 else 1000000) → gG Post 3 ls w) :
    ∀ (m c : Nat), c + m = 64 → ∀ ls w, gB ls r fi si la s → ng_i ls 6 c → sx_Ty sx_T0 w → sx_Fr gA w0 w → (∀ c' : Nat, c' < c → sy_r w 106 c' = if sy_r w0 r fi.toNat = c' then 0 else 1000000) → gG Post 3 ls w := by
  intro m
  induction m with
  | zero =>
    intro c hc ls w hb h6 ht hf hi
    have hc : c = 64 := by omega
    subst hc
    exact cont ls w hb h6 ht hf hi
  | succ m ih =>
    intro c hc ls w hb h6 ht hf hi
    have hk := List.all_eq_true.mp (gq_all_ok gq_k1 h.1 h.2.1) c (List.mem_range.mpr (by omega))
    simp only [Bool.and_eq_true] at hk
    have hrow : sy_r w r fi.toNat = sy_r w0 r fi.toNat := sy_r_fr hf (gA_r h.1)
    have step : ∀ (x : Int × Int) (v : Int), gq_c1 r s c x v = true → x.1 ≤ sy_r w0 r fi.toNat → sy_r w0 r fi.toNat ≤ x.2 → v = (if sy_r w0 r fi.toNat = c then 0 else 1000000) → gG Post 3 ls w := by
      intro x v hck h1 h2 hv
      refine ng_go (J := sx_tt) (fx_p [fi, si, la, sy_r w0 r fi.toNat]) hck rfl (gH_iv h rfl rfl rfl ⟨h1, h2, trivial⟩) trivial (gB_to hb rfl rfl rfl ⟨ng_ik h6 rfl, trivial⟩) trivial ⟨?_, trivial⟩ ht sx_ctn (fun _ _ _ => trivial) trivial ⟨fun ls2 st2 w2 t2 f2 a => ?_, trivial⟩
      · show sy_r w r (sx_ev _ (sx_y 0)).toNat = sx_ev _ (sx_y 3)
        rw [sx_y_ev, sx_y_ev]
        exact hrow
      · obtain ⟨a1, a2, a3, _⟩ := a
        cases ng_st0 a2
        obtain ⟨b1, b2⟩ := gB_of0 (fi := fi) (si := si) (la := la) a1 rfl rfl rfl
        refine ih (c + 1) (by omega) ls2 w2 b1 (ng_ki b2.1 (by omega)) t2 (sx_Fr_trans hf (gA_6 (by omega) f2)) (fun c' hc' => ?_)
        by_cases e : c' = c
        · subst e
          have a3 := a3.1
          rw [ng_ek, Int.toNat_natCast] at a3
          have a3 : sy_r w2 106 c' = sx_ev _ (v, []) := a3
          rw [ng_ek] at a3
          rw [a3, hv]
        · rw [ng_oth f2 (Or.inr (by omega))]
          exact hi c' (by omega)
    by_cases e1 : sy_r w0 r fi.toNat = c
    · exact step _ _ hk.1.1 (by show (c : Int) ≤ _; omega) (by show _ ≤ (c : Int); omega) (by rw [if_pos e1])
    · by_cases e2 : sy_r w0 r fi.toNat < c
      · exact step _ _ hk.1.2 hx.1 (by show _ ≤ (c : Int) - 1; omega) (by rw [if_neg e1])
      · exact step _ _ hk.2 (by show (c : Int) + 1 ≤ _; omega) (by show _ ≤ (64 : Int); omega) (by rw [if_neg e1])
/-- is a cell reached, where a row may have gaps -/
noncomputable def gN (c m d : Nat) : Prop := (d : Int) = (c : Int) + gq_de m ∧ d < 64 ∧ sq_nx (Int32.ofInt c) (Int32.ofInt d) = 1
noncomputable def gR (row : Nat → Int) : Nat → Nat → Prop
  | 0, c => row 0 = c
  | k + 1, c => (row (k + 1) = -1 ∨ row (k + 1) = c) ∧ ∃ m, m < 4 ∧ ∃ d, gN c m d ∧ gR row k d
noncomputable def gw (row : Nat → Int) (s : Int) (k c : Nat) (v : Int) : Prop := (gR row k c ∧ gq_lo s k ≤ v ∧ v ≤ gq_hi s k) ∨ (¬ gR row k c ∧ v = 1000000)
theorem gq_lh {s : Int} (hs : s = 1 ∨ s = -1) (k : Nat) (hk : k ≤ 12) : -120 ≤ gq_lo s k ∧ gq_lo s k ≤ 0 ∧ 0 ≤ gq_hi s k ∧ gq_hi s k ≤ 120 := by
  rcases hs with rfl | rfl
  · show -120 ≤ (0 : Int) ∧ (0 : Int) ≤ 0 ∧ 0 ≤ 10 * (k : Int) ∧ 10 * (k : Int) ≤ 120
    omega
  · show -120 ≤ -10 * (k : Int) ∧ -10 * (k : Int) ≤ 0 ∧ (0 : Int) ≤ 0 ∧ (0 : Int) ≤ 120
    omega
noncomputable def gP (row : Nat → Int) (k c m : Nat) : Prop := ∃ m', m' < m ∧ ∃ d, gN c m' d ∧ gR row k d
noncomputable def gb (row : Nat → Int) (s : Int) (k c m : Nat) (b : Int) : Prop := (gP row k c m ∧ gq_lo s (k + 1) ≤ b ∧ b ≤ gq_hi s (k + 1)) ∨ (¬ gP row k c m ∧ b = 1000000)
theorem gP_s {row : Nat → Int} {k c m : Nat} : gP row k c (m + 1) ↔ gP row k c m ∨ ∃ d, gN c m d ∧ gR row k d := by
  constructor
  · intro ⟨m', h1, h2⟩
    by_cases e : m' = m
    · subst e
      exact Or.inr h2
    · exact Or.inl ⟨m', by omega, h2⟩
  · intro h
    rcases h with ⟨m', h1, h2⟩ | h
    · exact ⟨m', by omega, h2⟩
    · exact ⟨m, by omega, h⟩
theorem gb_no {row : Nat → Int} {s : Int} {k c m : Nat} {b : Int} (h : gb row s k c m b) (hn : ¬ ∃ d, gN c m d ∧ gR row k d) : gb row s k c (m + 1) b := by
  rcases h with ⟨h1, h2⟩ | ⟨h1, h2⟩
  · exact Or.inl ⟨gP_s.mpr (Or.inl h1), h2⟩
  · exact Or.inr ⟨fun z => (gP_s.mp z).elim h1 hn, h2⟩
/-- the four ways of one cell -/
theorem gq_l4 {r : Nat} {fi si la s : Int} {Post : pq_R → Prop} {row : Nat → Int} {kk c : Nat} {z : Bool} {w0 : pq_W} (h : gH r fi si la s) (hk : kk + 1 ≤ 11) (hc : c < 64)
    (hw : ∀ d : Nat, d < 64 → gw row s kk d (sy_r w0 106 d))
    (cont : ∀ ls w b, gB ls r fi si la s → ng_i ls 6 ((kk : Int) + 1) → ng_i ls 7 (bif z then -1 else (c : Int)) → ng_i ls 8 c → ng_i ls 9 b → ng_i ls 10 4 → sx_Ty sx_T0 w → sx_Fr [] w0 w → gb row s kk c 4 b → gG Post 71 ls w) :
    ∀ (n m : Nat), m + n = 4 → ∀ ls w b, gB ls r fi si la s → ng_i ls 6 ((kk : Int) + 1) → ng_i ls 7 (bif z then -1 else (c : Int)) → ng_i ls 8 c → ng_i ls 9 b → ng_i ls 10 m → sx_Ty sx_T0 w → sx_Fr [] w0 w → gb row s kk c m b → gG Post 71 ls w := by
  intro n
  induction n with
  | zero =>
    intro m hm ls w b hb h6 h7 h8 h9 h10 ht hf hi
    have hm : m = 4 := by omega
    subst hm
    exact cont ls w b hb h6 h7 h8 h9 h10 ht hf hi
  | succ n ih =>
    intro m hm ls w b hb h6 h7 h8 h9 h10 ht hf hi
    have ck9 : gq_c9 r s z m = true := by
      have hk9 := List.all_eq_true.mp (gq_all_ok gq_k9 h.1 h.2.1) m (List.mem_range.mpr (by omega))
      rw [Bool.and_eq_true] at hk9
      cases z
      · exact hk9.2
      · exact hk9.1
    have hbb := ng_ib h9
    have isq : ∀ {p : Nat → Int} {ls : pq_L}, p 4 = c → (ng_i ls 7 (bif z then -1 else (c : Int)) ↔ ng_d p ls 7 (gq_is z)) := by
      intro p ls e
      cases z
      · exact ⟨fun q => ng_iy q e, fun q => ng_yi q e⟩
      · exact ⟨fun q => ng_ik q rfl, fun q => ng_ki q rfl⟩
    refine ng_go (J := sx_tt) (fx_p [fi, si, la, (kk : Int) + 1, c, b]) ck9 rfl (gH_iv h rfl rfl rfl ⟨(by show (1 : Int) ≤ (kk : Int) + 1; omega), (by show (kk : Int) + 1 ≤ 11; omega), (by show (0 : Int) ≤ c; omega), (by show (c : Int) ≤ 63; omega), hbb.1, hbb.2, trivial⟩) trivial
      (gB_to hb rfl rfl rfl ⟨ng_iy h6 rfl, (isq rfl).mp h7, ng_iy h8 rfl, ng_iy h9 rfl, ng_ik h10 rfl, trivial⟩) trivial trivial ht sx_ctn (fun _ _ _ => trivial) trivial
      ⟨fun ls2 st2 w2 t2 f2 a => ?_, fun ls2 st2 w2 t2 f2 a => ?_, fun ls2 st2 w2 t2 f2 a => ?_, trivial⟩
    · obtain ⟨a1, a2, _, a4, _⟩ := a
      obtain ⟨b1, b2⟩ := gB_of0 (fi := fi) (si := si) (la := la) a1 rfl rfl rfl
      have g6 : ng_i ls2 6 ((kk : Int) + 1) := ng_yi b2.1 rfl
      have g7 : ng_i ls2 7 (bif z then -1 else (c : Int)) := (isq rfl).mpr b2.2.1
      have g8 : ng_i ls2 8 c := ng_yi b2.2.2.1 rfl
      have g9 : ng_i ls2 9 b := ng_yi b2.2.2.2.1 rfl
      have g10 : ng_i ls2 10 m := ng_ki b2.2.2.2.2.1 rfl
      have ev : sx_ev (fx_p [fi, si, la, (kk : Int) + 1, c, b]) (gq_de m, [(4, 1)]) = (c : Int) + gq_de m := by
        show gq_de m + (1 * (c : Int) + 0) = _
        omega
      have g11 : ng_i ls2 11 ((c : Int) + gq_de m) := ng_fi b2.2.2.2.2.2.1 ev
      have q1 : -gq_de m + (-1 * (c : Int) + 0) ≤ 0 := a4.1
      have q2 : gq_de m - 63 + (1 * (c : Int) + 0) ≤ 0 := a4.2.1
      obtain ⟨d, hd⟩ : ∃ d : Nat, (d : Int) = (c : Int) + gq_de m := ⟨((c : Int) + gq_de m).toNat, by omega⟩
      have hd64 : d < 64 := by omega
      match st2, a2 with
      | [.int xd, .int xc], a2 =>
        have ed : xd.toInt = d := by
          have h1 : xd.toInt = sx_ev _ (gq_de m, [(4, 1)]) := a2.1
          rw [h1, ev, hd]
        have ec : xc.toInt = c := by
          have h1 : xc.toInt = sx_ev _ (sx_y 4) := a2.2.1
          rw [h1, sx_y_ev]
          rfl
        have exd : Int32.ofInt d = xd := by rw [← ed]; exact Int32.ofInt_toInt xd
        have exc : Int32.ofInt c = xc := by rw [← ec]; exact Int32.ofInt_toInt xc
        have f2 : sx_Fr [] w w2 := f2
        have hf2 : sx_Fr [] w0 w2 := sx_Fr_trans hf f2
        have hd2 := hw d hd64
        rw [← ng_nil hf2 106 d] at hd2
        have bnd := gq_lh h.2.1 kk (by omega)
        have bnd1 := gq_lh h.2.1 (kk + 1) (by omega)
        -- behind the call, where nothing is better
        have same : ∀ ls3 w3, sx_Fr [] w2 w3 → sx_Ty sx_T0 w3 → gB ls3 r fi si la s → ng_i ls3 6 ((kk : Int) + 1) → ng_i ls3 7 (bif z then -1 else (c : Int)) → ng_i ls3 8 c → ng_i ls3 9 b → ng_i ls3 10 ((m + 1 : Nat) : Int) → (¬ ∃ d, gN c m d ∧ gR row kk d) → gG Post 71 ls3 w3 := fun ls3 w3 f3 t3 k0 k6 k7 k8 k9 k10 hno =>
          ih (m + 1) (by omega) ls3 w3 b k0 k6 k7 k8 k9 k10 t3 (sx_Fr_trans hf2 f3) (gb_no hi hno)
        have run : ∀ (n : Int) (bb vv : Int × Int) (O : sx_O) (bs : sx_V ⊕ (Int × Int)) (xn : Int32), xn.toInt = n → gq_ca r s z n bb vv O bs = true → bb.1 ≤ b → b ≤ bb.2 → vv.1 ≤ sy_r w2 106 d → sy_r w2 106 d ≤ vv.2 → ng_eqs (fx_p [fi, si, la, (kk : Int) + 1, c, b, d, sy_r w2 106 d, m]) w2 O →
            (∀ ls3 w3, sx_Fr [] w2 w3 → sx_Ty sx_T0 w3 → gB ls3 r fi si la s → ng_i ls3 6 ((kk : Int) + 1) → ng_i ls3 7 (bif z then -1 else (c : Int)) → ng_i ls3 8 c → ng_sl (fx_p [fi, si, la, (kk : Int) + 1, c, b, d, sy_r w2 106 d, m]) ls3 [(9, bs)] → ng_i ls3 10 ((m + 1 : Nat) : Int) → gG Post 71 ls3 w3) → ∃ res, pq_Go 19 pm_210 151 ls2 [.int xn] w2 0 0 res ∧ Post res := by
          intro n bb vv O bs xn hn hck o1 o2 o3 o4 o5 co
          refine ng_go (J := sx_tt) (fx_p [fi, si, la, (kk : Int) + 1, c, b, d, sy_r w2 106 d, m]) hck rfl (gH_iv h rfl rfl rfl ⟨(by show (1 : Int) ≤ (kk : Int) + 1; omega), (by show (kk : Int) + 1 ≤ 11; omega), (by show (0 : Int) ≤ c; omega), (by show (c : Int) ≤ 63; omega), o1, o2, (by show (0 : Int) ≤ d; omega), (by show (d : Int) ≤ 63; omega), o3, o4, (by show (0 : Int) ≤ m; omega), (by show (m : Int) ≤ 3; omega), trivial⟩) trivial
            (gB_to b1 rfl rfl rfl ⟨ng_iy g6 rfl, (isq rfl).mp g7, ng_iy g8 rfl, ng_iy g9 rfl, ng_iy g10 rfl, ng_iy g11 hd, trivial⟩) ⟨by show xn.toInt = sx_ev _ (n, []); rw [ng_ek, hn], trivial⟩ o5 t2 sx_ctn (fun _ _ _ => trivial) trivial
            ⟨fun ls3 st3 w3 t3 f3 a => ?_, trivial⟩
          obtain ⟨a1, a2, _⟩ := a
          cases ng_st0 a2
          obtain ⟨d1, d2⟩ := gB_of (fi := fi) (si := si) (la := la) a1 rfl rfl rfl
          have d5 : ng_sl (fx_p [fi, si, la, (kk : Int) + 1, c, b, d, sy_r w2 106 d, m]) ls3 [(9, bs)] ∧ ng_d (fx_p [fi, si, la, (kk : Int) + 1, c, b, d, sy_r w2 106 d, m]) ls3 10 (.inl (.inl (1, [(8, 1)]))) := by
            have d4 := d2.2.2.2
            cases bs with
            | inl v => exact ⟨⟨d4.1, trivial⟩, d4.2.1⟩
            | inr v => exact ⟨⟨d4.1, trivial⟩, d4.2.1⟩
          exact co ls3 w3 f3 t3 d1 (ng_yi d2.1 rfl) ((isq rfl).mpr d2.2.1) (ng_yi d2.2.2.1 rfl) d5.1 (ng_fi d5.2 (by show 1 + (1 * (m : Int) + 0) = _; omega))
        have behind : ∃ res, pq_Go 19 pm_210 151 ls2 [.int (sq_nx xc xd)] w2 0 0 res ∧ Post res := by
          have hka := List.all_eq_true.mp (gq_all_ok gq_ka h.1 h.2.1) z (by cases z <;> decide)
          rw [Bool.and_eq_true] at hka
          have vb := sy_rb w2 106 d
          rcases fx_nx01 xc xd with hn | hn
          · rcases hd2 with ⟨r1, r2, r3⟩ | ⟨r1, r2⟩
            · have hkb := List.all_eq_true.mp (List.all_eq_true.mp (gq_all_ok gq_kb h.1 h.2.1) z (by cases z <;> decide)) kk (List.mem_range.mpr (by omega))
              refine run 1 _ _ _ _ _ (by rw [hn]; rfl) hkb ?_ ?_ r2 r3 ⟨?_, trivial⟩ (fun ls3 w3 f3 t3 k0 k6 k7 k8 k9 k10 => ?_)
              · show gq_lo s (kk + 1) ≤ b
                rcases hi with ⟨_, z1, _⟩ | ⟨_, z1⟩ <;> omega
              · show b ≤ 1000000
                rcases hi with ⟨_, _, z1⟩ | ⟨_, z1⟩ <;> omega
              · show sy_r w2 106 (sx_ev _ (sx_y 6)).toNat = sx_ev _ (sx_y 7)
                rw [sx_y_ev, sx_y_ev]
                rfl
              · obtain ⟨x, x1, x2⟩ := k9.1
                refine ih (m + 1) (by omega) ls3 w3 x.toInt k0 k6 k7 k8 ⟨x, x1, rfl⟩ k10 t3 (sx_Fr_trans hf2 f3) (Or.inl ⟨gP_s.mpr (Or.inr ⟨d, ⟨hd, hd64, by rw [exc, exd]; exact hn⟩, r1⟩), x2⟩)
            · refine run 1 _ _ _ _ _ (by rw [hn]; rfl) hka.2 hbb.1 hbb.2 vb.1 vb.2 ⟨?_, trivial⟩ (fun ls3 w3 f3 t3 k0 k6 k7 k8 k9 k10 => ?_)
              · show sy_r w2 106 (sx_ev _ (sx_y 6)).toNat = sx_ev _ (1000000, [])
                rw [sx_y_ev, ng_ek]
                exact r2
              · exact same ls3 w3 f3 t3 k0 k6 k7 k8 (ng_yi k9.1 rfl) k10 (fun ⟨d', q1, q2⟩ => r1 (by
                  have : d' = d := by have := q1.1; omega
                  rw [← this]
                  exact q2))
          · refine run 0 _ _ _ _ _ (by rw [hn]; rfl) hka.1 hbb.1 hbb.2 vb.1 vb.2 trivial (fun ls3 w3 f3 t3 k0 k6 k7 k8 k9 k10 => ?_)
            exact same ls3 w3 f3 t3 k0 k6 k7 k8 (ng_yi k9.1 rfl) k10 (fun ⟨d', q1, q2⟩ => by
              have e : d' = d := by have := q1.1; omega
              have q3 := q1.2.2
              rw [e, exc, exd, hn] at q3
              exact absurd q3 (by decide))
        obtain ⟨res, g1, g2⟩ := behind
        exact ⟨res, go_cl (j := 211) (n := 2) (as := [.int xc, .int xd]) (k1 := 1) rfl rfl rfl rfl rfl rfl rfl (sq_ru_nx xc xd w2) g1, g2⟩
    · obtain ⟨a1, a2, _, a4, _⟩ := a
      cases ng_st0 a2
      obtain ⟨b1, b2⟩ := gB_of0 (fi := fi) (si := si) (la := la) a1 rfl rfl rfl
      have q1 : gq_de m + 1 + (1 * (c : Int) + 0) ≤ 0 := a4.1
      refine ih (m + 1) (by omega) ls2 w2 b b1 (ng_yi b2.1 rfl) ((isq rfl).mpr b2.2.1) (ng_yi b2.2.2.1 rfl) (ng_yi b2.2.2.2.1 rfl) (ng_ki b2.2.2.2.2.1 (by omega)) t2 (sx_Fr_trans hf f2) (gb_no hi (fun ⟨d', q2, _⟩ => ?_))
      have := q2.1
      omega
    · obtain ⟨a1, a2, _, a4, _⟩ := a
      cases ng_st0 a2
      obtain ⟨b1, b2⟩ := gB_of0 (fi := fi) (si := si) (la := la) a1 rfl rfl rfl
      have q1 : 64 - gq_de m + (-1 * (c : Int) + 0) ≤ 0 := a4.1
      refine ih (m + 1) (by omega) ls2 w2 b b1 (ng_yi b2.1 rfl) ((isq rfl).mpr b2.2.1) (ng_yi b2.2.2.1 rfl) (ng_yi b2.2.2.2.1 rfl) (ng_ki b2.2.2.2.2.1 (by omega)) t2 (sx_Fr_trans hf f2) (gb_no hi (fun ⟨d', q2, _⟩ => ?_))
      have h1 := q2.1
      have h2 := q2.2.1
      omega
