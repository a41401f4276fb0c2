/-! gone: the loops over cells and over the row, and the whole -/
noncomputable def gA7 : sx_A := [(107, 0, 63)]
theorem gA7_7 {c : Nat} {w w1 : pq_W} (hc : c < 64) (f : sx_Fr [(107, (c : Int), (c : Int))] w w1) : sx_Fr gA7 w w1 := fun r i h => f r i (fun ⟨q, hq, e1, e2, e3⟩ => by
  cases List.mem_singleton.mp hq
  exact h ⟨_, List.mem_cons_self, e1, by show (0 : Int) ≤ i; omega, by have e3 : (i : Int) ≤ c := e3; show (i : Int) ≤ 63; omega⟩)
theorem ng_n2 {A : sx_A} {w w1 : pq_W} (f : sx_Fr [] w w1) : sx_Fr A w w1 := fun r i _ => f r i (fun ⟨z, hz, _⟩ => by cases hz)
theorem gA7_6 {w w1 : pq_W} (f : sx_Fr gA7 w w1) (i : Nat) : sy_r w1 106 i = sy_r w 106 i := sy_r_fr f (fun ⟨z, hz, e, _⟩ => by
  cases List.mem_singleton.mp hz
  cases e)
theorem gA7_A {w w1 : pq_W} (f : sx_Fr gA7 w w1) : sx_Fr gA w w1 := fun r i h => f r i (fun ⟨q, hq, e⟩ => h ⟨q, List.mem_cons_of_mem _ hq, e⟩)
theorem gq_l3 {r : Nat} {fi si la s isv : Int} {Post : pq_R → Prop} {row : Nat → Int} {kk : Nat} {w0 : pq_W} (h : gH r fi si la s) (hk : kk + 1 ≤ 11) (his : isv = row (kk + 1)) (hib : -1 ≤ isv ∧ isv ≤ 63)
    (hw : ∀ d : Nat, d < 64 → gw row s kk d (sy_r w0 106 d))
    (cont : ∀ ls w, gB ls r fi si la s → ng_i ls 6 ((kk : Int) + 1) → ng_i ls 7 isv → ng_i ls 8 64 → sx_Ty sx_T0 w → sx_Fr gA7 w0 w → (∀ c : Nat, c < 64 → gw row s (kk + 1) c (sy_r w 107 c)) → gG Post 57 ls w) :
    ∀ (n c : Nat), c + n = 64 → ∀ ls w, gB ls r fi si la s → ng_i ls 6 ((kk : Int) + 1) → ng_i ls 7 isv → ng_i ls 8 c → sx_Ty sx_T0 w → sx_Fr gA7 w0 w → (∀ c' : Nat, c' < c → gw row s (kk + 1) c' (sy_r w 107 c')) → gG Post 57 ls w := by
  intro n
  induction n with
  | zero =>
    intro c hc ls w hb h6 h7 h8 ht hf hi
    have hc : c = 64 := by omega
    subst hc
    exact cont ls w hb h6 h7 h8 ht hf hi
  | succ n ih =>
    intro c hc ls w hb h6 h7 h8 ht hf hi
    have k0 := gq_all_ok gq_k0 h.1 h.2.1
    simp only [Bool.and_eq_true] at k0
    have k7 := List.all_eq_true.mp (gq_all_ok gq_k7 h.1 h.2.1) c (List.mem_range.mpr (by omega))
    simp only [Bool.and_eq_true] at k7
    have i3 : (1 : Int) ≤ (kk : Int) + 1 := by omega
    have i4 : (kk : Int) + 1 ≤ 11 := by omega
    -- the next cell
    have next : ∀ ls2 w1 w2 (v : Int), sx_Fr gA7 w0 w1 → (∀ c' : Nat, c' < c → gw row s (kk + 1) c' (sy_r w1 107 c')) → sx_Fr [(107, (c : Int), (c : Int))] w1 w2 → sx_Ty sx_T0 w2 → gB ls2 r fi si la s → ng_i ls2 6 ((kk : Int) + 1) → ng_i ls2 7 isv → ng_i ls2 8 ((c + 1 : Nat) : Int) → sy_r w2 107 c = v → gw row s (kk + 1) c v → gG Post 57 ls2 w2 := by
      intro ls2 w1 w2 v hf1 hi1 f2 t2 k0 k6 k7 k8 hv hg
      refine ih (c + 1) (by omega) ls2 w2 k0 k6 k7 k8 t2 (sx_Fr_trans hf1 (gA7_7 (by omega) f2)) (fun c' hc' => ?_)
      by_cases e : c' = c
      · subst e
        rw [hv]
        exact hg
      · rw [ng_oth f2 (Or.inr (by omega))]
        exact hi1 c' (by omega)
    have k05 := k0.1.1.2
    unfold gq_c5 gq_ck at k05
    refine ng_go (J := sx_tt) (fx_p [fi, si, la, (kk : Int) + 1, isv, c]) k05 rfl (gH_iv h rfl rfl rfl ⟨i3, i4, hib.1, hib.2, (by show (0 : Int) ≤ c; omega), (by show (c : Int) ≤ 63; omega), trivial⟩) trivial
      (gB_to hb rfl rfl rfl ⟨ng_iy h6 rfl, ng_iy h7 rfl, ng_iy h8 rfl, trivial⟩) trivial trivial ht sx_ctn (fun _ _ _ => trivial) trivial ⟨fun ls2 st2 w2 t2 f2 a => ?_, trivial⟩
    obtain ⟨a1, a2, _⟩ := a
    cases ng_st0 a2
    obtain ⟨b1, b2⟩ := gB_of0 (fi := fi) (si := si) (la := la) a1 rfl rfl rfl
    have g6 : ng_i ls2 6 ((kk : Int) + 1) := ng_yi b2.1 rfl
    have g7 : ng_i ls2 7 isv := ng_yi b2.2.1 rfl
    have g8 : ng_i ls2 8 c := ng_yi b2.2.2.1 rfl
    have g9 : ng_i ls2 9 1000000 := ng_ki b2.2.2.2.1 rfl
    have g10 : ng_i ls2 10 0 := ng_ki b2.2.2.2.2.1 rfl
    have hf2 : sx_Fr gA7 w0 w2 := sx_Fr_trans hf (ng_n2 f2)
    have hi2 : ∀ c' : Nat, c' < c → gw row s (kk + 1) c' (sy_r w2 107 c') := fun c' hc' => by
      rw [ng_nil f2]
      exact hi c' hc'
    by_cases e : isv = -1 ∨ isv = c
    · have hz : isv = (bif decide (isv = -1) then -1 else (c : Int)) := by
        by_cases e1 : isv = -1
        · rw [decide_eq_true e1]; exact e1
        · rw [decide_eq_false e1]; exact e.resolve_left e1
      refine gq_l4 (z := decide (isv = -1)) (c := c) (row := row) (kk := kk) (w0 := w2) h hk (by omega) (fun d hd => by rw [gA7_6 hf2]; exact hw d hd) ?_ 4 0 rfl ls2 w2 1000000 b1 g6 (by rw [← hz]; exact g7) g8 g9 g10 t2 (sx_Fr_refl _ _) (Or.inr ⟨fun ⟨m', q, _⟩ => by omega, rfl⟩)
      intro ls3 w3 b q0 q6 q7 q8 q9 q10 t3 f3 hb4
      rw [← hz] at q7
      have bb := ng_ib q9
      have k78 := k7.1.2
      unfold gq_c8 gq_ck at k78
      refine ng_go (J := sx_tt) (fx_p [fi, si, la, (kk : Int) + 1, isv, b]) k78 rfl (gH_iv h rfl rfl rfl ⟨i3, i4, hib.1, hib.2, bb.1, bb.2, trivial⟩) trivial
        (gB_to q0 rfl rfl rfl ⟨ng_iy q6 rfl, ng_iy q7 rfl, ng_ik q8 rfl, ng_iy q9 rfl, ng_ik q10 rfl, trivial⟩) trivial trivial t3 sx_ctn (fun _ _ _ => trivial) trivial ⟨fun ls4 st4 w4 t4 f4 a => ?_, trivial⟩
      obtain ⟨a1, a2, a3, _⟩ := a
      cases ng_st0 a2
      obtain ⟨b1, b2⟩ := gB_of0 (fi := fi) (si := si) (la := la) a1 rfl rfl rfl
      have a3 := a3.1
      rw [ng_ek, Int.toNat_natCast] at a3
      have a3 : sy_r w4 107 c = sx_ev _ (sx_y 5) := a3
      rw [sx_y_ev] at a3
      refine next ls4 w3 w4 b (sx_Fr_trans hf2 (ng_n2 f3)) (fun c' hc' => by rw [ng_nil f3]; exact hi2 c' hc') f4 t4 b1 (ng_yi b2.1 rfl) (ng_yi b2.2.1 rfl) (ng_ki b2.2.2.1 (by omega)) a3 ?_
      rcases hb4 with ⟨r1, r2⟩ | ⟨r1, r2⟩
      · exact Or.inl ⟨⟨by rw [← his]; exact e, r1⟩, r2⟩
      · exact Or.inr ⟨fun q => r1 q.2, r2⟩
    · have e1 : isv ≠ -1 := fun q => e (Or.inl q)
      have e2 : isv ≠ c := fun q => e (Or.inr q)
      have step : ∀ x : Int × Int, gq_c7 r s c x = true → x.1 ≤ isv → isv ≤ x.2 → gG Post 71 ls2 w2 := by
        intro x hck x1 x2
        have hck7 := hck
        unfold gq_c7 gq_ck at hck7
        refine ng_go (J := sx_tt) (fx_p [fi, si, la, (kk : Int) + 1, isv]) hck7 rfl (gH_iv h rfl rfl rfl ⟨i3, i4, x1, x2, trivial⟩) trivial
          (gB_to b1 rfl rfl rfl ⟨ng_iy g6 rfl, ng_iy g7 rfl, ng_ik g8 rfl, ng_ik g9 rfl, ng_ik g10 rfl, trivial⟩) trivial trivial t2 sx_ctn (fun _ _ _ => trivial) trivial ⟨fun ls4 st4 w4 t4 f4 a => ?_, trivial⟩
        obtain ⟨a1, a2, a3, _⟩ := a
        cases ng_st0 a2
        obtain ⟨b1, b2⟩ := gB_of0 (fi := fi) (si := si) (la := la) a1 rfl rfl rfl
        have a3 := a3.1
        rw [ng_ek, Int.toNat_natCast] at a3
        have a3 : sy_r w4 107 c = sx_ev _ (1000000, []) := a3
        rw [ng_ek] at a3
        refine next ls4 w2 w4 1000000 hf2 hi2 f4 t4 b1 (ng_yi b2.1 rfl) (ng_yi b2.2.1 rfl) (ng_ki b2.2.2.1 (by omega)) a3 (Or.inr ⟨fun q => ?_, rfl⟩)
        have q1 : row (kk + 1) = -1 ∨ row (kk + 1) = c := q.1
        rw [← his] at q1
        exact e q1
      by_cases e3 : isv < c
      · have hc0 : Nat.beq c 0 = false := sx_nb (by omega)
        have k71 := k7.1.1.1
        rw [hc0] at k71
        exact step _ k71 (by show (0 : Int) ≤ isv; omega) (by show isv ≤ (c : Int) - 1; omega)
      · exact step _ k7.1.1.2 (by show (c : Int) + 1 ≤ isv; omega) (by show isv ≤ (64 : Int); omega)
theorem gq_l5 {r : Nat} {fi si la s : Int} {Post : pq_R → Prop} {kk : Nat} {w0 : pq_W} (h : gH r fi si la s) (hk : kk + 1 ≤ 11)
    (cont : ∀ ls w, gB ls r fi si la s → ng_i ls 6 ((kk : Int) + 1) → ng_i ls 8 64 → sx_Ty sx_T0 w → sx_Fr gA w0 w → (∀ c : Nat, c < 64 → sy_r w 106 c = sy_r w0 107 c) → gG Post 253 ls w) :
    ∀ (n c : Nat), c + n = 64 → ∀ ls w, gB ls r fi si la s → ng_i ls 6 ((kk : Int) + 1) → ng_i ls 8 c → sx_Ty sx_T0 w → sx_Fr gA w0 w → (∀ c' : Nat, c' < 64 → sy_r w 107 c' = sy_r w0 107 c') → (∀ c' : Nat, c' < c → sy_r w 106 c' = sy_r w0 107 c') → gG Post 253 ls w := by
  intro n
  induction n with
  | zero =>
    intro c hc ls w hb h6 h8 ht hf _ hi
    have hc : c = 64 := by omega
    subst hc
    exact cont ls w hb h6 h8 ht hf hi
  | succ n ih =>
    intro c hc ls w hb h6 h8 ht hf h07 hi
    have k7 := List.all_eq_true.mp (gq_all_ok gq_k7 h.1 h.2.1) c (List.mem_range.mpr (by omega))
    simp only [Bool.and_eq_true] at k7
    have vb := sy_rb w 107 c
    have k7b := k7.2
    unfold gq_cb gq_ck at k7b
    refine ng_go (J := sx_tt) (fx_p [fi, si, la, (kk : Int) + 1, sy_r w 107 c]) k7b rfl (gH_iv h rfl rfl rfl ⟨(by show (1 : Int) ≤ (kk : Int) + 1; omega), (by show (kk : Int) + 1 ≤ 11; omega), vb.1, vb.2, trivial⟩) trivial
      (gB_to hb rfl rfl rfl ⟨ng_iy h6 rfl, ng_ik h8 rfl, trivial⟩) trivial ⟨?_, trivial⟩ ht sx_ctn (fun _ _ _ => trivial) trivial ⟨fun ls2 st2 w2 t2 f2 a => ?_, trivial⟩
    · show sy_r w 107 (sx_ev _ ((c : Int), [])).toNat = sx_ev _ (sx_y 4)
      rw [ng_ek, sx_y_ev, Int.toNat_natCast]
      rfl
    · obtain ⟨a1, a2, a3, _⟩ := a
      cases ng_st0 a2
      obtain ⟨b1, b2⟩ := gB_of0 (fi := fi) (si := si) (la := la) a1 rfl rfl rfl
      have a3 := a3.1
      rw [ng_ek, Int.toNat_natCast] at a3
      have a3 : sy_r w2 106 c = sx_ev _ (sx_y 4) := a3
      rw [sx_y_ev] at a3
      have a3 : sy_r w2 106 c = sy_r w 107 c := a3
      refine ih (c + 1) (by omega) ls2 w2 b1 (ng_yi b2.1 rfl) (ng_ki b2.2.1 (by omega)) t2 (sx_Fr_trans hf (gA_6 (by omega) f2)) (fun c' hc' => by rw [ng_oth f2 (Or.inl (by decide))]; exact h07 c' hc') (fun c' hc' => ?_)
      by_cases e : c' = c
      · subst e
        rw [a3, h07 c' (by omega)]
      · rw [ng_oth f2 (Or.inr (by omega))]
        exact hi c' (by omega)
noncomputable def gPost (w0 : pq_W) (row : Nat → Int) (s : Int) (sz : Nat) (res : pq_R) : Prop := sx_Ty sx_T0 res.2 ∧ sx_Fr gA w0 res.2 ∧ ∃ x : Int32, res.1 = some (.int x) ∧ gw row s (sz - 1) (row (sz - 1)).toNat x.toInt
theorem gq_l2 {r fi sz : Nat} {la s : Int} {w0 : pq_W} {row : Nat → Int} (h : gH r fi sz la s) (hrow : ∀ k, k < sz → row k = sy_r w0 r (fi + k)) (hb : ∀ k, k < sz → -1 ≤ row k ∧ row k ≤ 63) (hlast : 0 ≤ row (sz - 1)) :
    ∀ (n kk : Nat), kk + 1 + n = sz → ∀ ls w, gB ls r fi sz la s → ng_i ls 6 ((kk : Int) + 1) → sx_Ty sx_T0 w → sx_Fr gA w0 w → (∀ d : Nat, d < 64 → gw row s kk d (sy_r w 106 d)) → gG (gPost w0 row s sz) 40 ls w := by
  have hsz : 1 ≤ sz ∧ sz ≤ 12 := by have := h.2.2.2.1; omega
  have k0 := gq_all_ok gq_k0 h.1 h.2.1
  simp only [Bool.and_eq_true] at k0
  intro n
  induction n with
  | zero =>
    intro kk hkk ls w hB h6 ht hf hi
    have hl := hb (sz - 1) (by omega)
    have vb := sy_rb w 106 (row (sz - 1)).toNat
    have hr2 : sy_r w r (fi + (sz - 1)) = row (sz - 1) := by rw [sy_r_fr hf (gA_r h.1), ← hrow (sz - 1) (by omega)]
    have k04 := k0.1.1.1.2
    unfold gq_c4 gq_ck at k04
    refine ng_go (J := sx_tt) (fx_p [fi, sz, la, row (sz - 1), sy_r w 106 (row (sz - 1)).toNat]) k04 rfl (gH_iv h rfl rfl rfl ⟨hlast, hl.2, vb.1, vb.2, trivial⟩) trivial
      (gB_to hB rfl rfl rfl ⟨ng_iy h6 (by show (sz : Int) = _; omega), trivial⟩) trivial ⟨?_, ?_, trivial⟩ ht sx_ctn (fun _ _ _ => trivial) ⟨fun x w2 t2 f2 a => ?_, trivial⟩ trivial
    · show sy_r w r (-1 + (1 * (fi : Int) + (1 * (sz : Int) + 0))).toNat = sx_ev _ (sx_y 3)
      rw [sx_y_ev, show (-1 + (1 * (fi : Int) + (1 * (sz : Int) + 0))).toNat = fi + (sz - 1) by omega, hr2]
      rfl
    · show sy_r w 106 (sx_ev _ (sx_y 3)).toNat = sx_ev _ (sx_y 4)
      rw [sx_y_ev, sx_y_ev]
      rfl
    · obtain ⟨⟨y, y1, y2⟩, _⟩ := a
      rw [sx_y_ev] at y2
      have y2 : y.toInt = sy_r w 106 (row (sz - 1)).toNat := y2
      refine ⟨t2, sx_Fr_trans hf (ng_n2 f2), y, y1, ?_⟩
      rw [y2, show sz - 1 = kk by omega]
      have hl2 := hb kk (by omega)
      exact hi _ (by omega)
  | succ n ih =>
    intro kk hkk ls w hB h6 ht hf hi
    have hl := hb (kk + 1) (by omega)
    have hr2 : sy_r w r (fi + (kk + 1)) = row (kk + 1) := by rw [sy_r_fr hf (gA_r h.1), ← hrow (kk + 1) (by omega)]
    have i3 : (1 : Int) ≤ (kk : Int) + 1 := by omega
    have i4 : (kk : Int) + 1 ≤ 11 := by omega
    have k03 := k0.1.1.1.1.2
    unfold gq_c3 gq_ck at k03
    refine ng_go (J := sx_tt) (fx_p [fi, sz, la, (kk : Int) + 1, row (kk + 1)]) k03 rfl (gH_iv h rfl rfl rfl ⟨i3, i4, hl.1, hl.2, trivial⟩) ⟨by show 1 + (-1 * (sz : Int) + (1 * ((kk : Int) + 1) + 0)) ≤ 0; omega, trivial⟩
      (gB_to hB rfl rfl rfl ⟨ng_iy h6 rfl, trivial⟩) trivial ⟨?_, trivial⟩ ht sx_ctn (fun _ _ _ => trivial) trivial ⟨fun ls2 st2 w2 t2 f2 a => ?_, trivial⟩
    · show sy_r w r (0 + (1 * (fi : Int) + (1 * ((kk : Int) + 1) + 0))).toNat = sx_ev _ (sx_y 4)
      rw [sx_y_ev, show (0 + (1 * (fi : Int) + (1 * ((kk : Int) + 1) + 0))).toNat = fi + (kk + 1) by omega, hr2]
      rfl
    · obtain ⟨a1, a2, _⟩ := a
      cases ng_st0 a2
      obtain ⟨b1, b2⟩ := gB_of0 (fi := (fi : Int)) (si := (sz : Int)) (la := la) a1 rfl rfl rfl
      have f2 : sx_Fr [] w w2 := f2
      refine gq_l3 (isv := row (kk + 1)) (row := row) (kk := kk) (w0 := w2) h (by omega) rfl hl (fun d hd => by rw [ng_nil f2]; exact hi d hd) ?_ 64 0 rfl ls2 w2 b1 (ng_yi b2.1 rfl) (ng_yi b2.2.1 rfl) (ng_ki b2.2.2.1 rfl) t2 (sx_Fr_refl _ _) (fun c' hc' => by omega)
      intro ls3 w3 q0 q6 q7 q8 t3 f3 hg
      have k06 := k0.1.2
      unfold gq_c6 gq_ck at k06
      refine ng_go (J := sx_tt) (fx_p [fi, sz, la, (kk : Int) + 1, row (kk + 1)]) k06 rfl (gH_iv h rfl rfl rfl ⟨i3, i4, hl.1, hl.2, trivial⟩) trivial
        (gB_to q0 rfl rfl rfl ⟨ng_iy q6 rfl, ng_iy q7 rfl, ng_ik q8 rfl, trivial⟩) trivial trivial t3 sx_ctn (fun _ _ _ => trivial) trivial ⟨fun ls4 st4 w4 t4 f4 a => ?_, trivial⟩
      obtain ⟨a1, a2, _⟩ := a
      cases ng_st0 a2
      obtain ⟨b1, b2⟩ := gB_of0 (fi := (fi : Int)) (si := (sz : Int)) (la := la) a1 rfl rfl rfl
      have f4 : sx_Fr [] w3 w4 := f4
      refine gq_l5 (kk := kk) (w0 := w4) h (by omega) ?_ 64 0 rfl ls4 w4 b1 (ng_yi b2.1 rfl) (ng_ki b2.2.1 rfl) t4 (sx_Fr_refl _ _) (fun _ _ => rfl) (fun c' hc' => by omega)
      intro ls5 w5 r0 r6 r8 t5 f5 h56
      have k0c := k0.2
      unfold gq_cc gq_ck at k0c
      refine ng_go (J := sx_tt) (fx_p [fi, sz, la, (kk : Int) + 1]) k0c rfl (gH_iv h rfl rfl rfl ⟨i3, i4, trivial⟩) trivial
        (gB_to r0 rfl rfl rfl ⟨ng_iy r6 rfl, ng_ik r8 rfl, trivial⟩) trivial trivial t5 sx_ctn (fun _ _ _ => trivial) trivial ⟨fun ls6 st6 w6 t6 f6 a => ?_, trivial⟩
      obtain ⟨a1, a2, _⟩ := a
      cases ng_st0 a2
      obtain ⟨b1, b2⟩ := gB_of0 (fi := (fi : Int)) (si := (sz : Int)) (la := la) a1 rfl rfl rfl
      have f6 : sx_Fr [] w5 w6 := f6
      refine ih (kk + 1) (by omega) ls6 w6 b1 (ng_fi b2.1 (by show 1 + (1 * ((kk : Int) + 1) + 0) = ((kk + 1 : Nat) : Int) + 1; omega)) t6 (sx_Fr_trans (sx_Fr_trans (sx_Fr_trans (sx_Fr_trans (sx_Fr_trans hf (ng_n2 f2)) (gA7_A f3)) (ng_n2 f4)) f5) (ng_n2 f6)) (fun d hd => ?_)
      rw [ng_nil f6, h56 d hd, ng_nil f4]
      exact hg d hd
theorem gone_ok {r fi sz : Nat} {xf xz xl xs : Int32} {s : Int} {w : pq_W} (ht : sx_Ty sx_T0 w) (hr : r = 95 ∨ r = 100) (hs : s = 1 ∨ s = -1) (hfi : (fi : Int) ≤ gq_n r) (hsz : 1 ≤ sz ∧ sz ≤ 12) (ef : xf.toInt = fi) (ez : xz.toInt = sz) (es : xs.toInt = s)
    (hb : ∀ k, k < sz → -1 ≤ sy_r w r (fi + k) ∧ sy_r w r (fi + k) ≤ 63) (hlast : 0 ≤ sy_r w r (fi + (sz - 1))) : ∃ res, pq_Ru 20 210 [.ref 94, .ref r, .int xf, .int xz, .int xl, .int xs] w res ∧ gPost w (fun k => sy_r w r (fi + k)) s sz res := by
  have hlb : -2147483648 ≤ xl.toInt ∧ xl.toInt ≤ 2147483647 := ⟨xl.minValue_le_toInt, xl.toInt_le⟩
  have h : gH r fi sz xl.toInt s := ⟨hr, hs, ⟨by omega, hfi⟩, ⟨by omega, by omega⟩, hlb⟩
  have k0 := gq_all_ok gq_k0 hr hs
  simp only [Bool.and_eq_true] at k0
  have hb0 := hb 0 (by omega)
  have main : gG (gPost w (fun k => sy_r w r (fi + k)) s sz) 0 (lv_args 0 [.ref 94, .ref r, .int xf, .int xz, .int xl, .int xs]) w := by
    have k00 := k0.1.1.1.1.1.1
    unfold gq_c0 gq_ck at k00
    refine ng_go (J := sx_tt) (fx_p [fi, sz, xl.toInt]) k00 rfl (gH_iv (rest := []) h rfl rfl rfl trivial) trivial
      (gB_to (rest := []) (p := fx_p [fi, sz, xl.toInt]) (fi := fi) (si := sz) (la := xl.toInt) ⟨rfl, rfl, ⟨xf, rfl, ef⟩, ⟨xz, rfl, ez⟩, ⟨xl, rfl, rfl⟩, ⟨xs, rfl, es⟩⟩ rfl rfl rfl trivial) trivial trivial ht sx_ctn (fun _ _ _ => trivial) trivial ⟨fun ls2 st2 w2 t2 f2 a => ?_, trivial⟩
    obtain ⟨a1, a2, _⟩ := a
    cases ng_st0 a2
    obtain ⟨b1, b2⟩ := gB_of0 (fi := (fi : Int)) (si := (sz : Int)) (la := xl.toInt) a1 rfl rfl rfl
    have f2 : sx_Fr [] w w2 := f2
    refine gq_l1 (w0 := w) h (by rw [Int.toNat_natCast]; exact hb0) ?_ 64 0 rfl ls2 w2 b1 (ng_ki b2.1 rfl) t2 (ng_n2 f2) (fun c' hc' => by omega)
    intro ls3 w3 q0 q6 t3 f3 hg
    have k02 := k0.1.1.1.1.1.2
    unfold gq_c2 gq_ck at k02
    refine ng_go (J := sx_tt) (fx_p [fi, sz, xl.toInt]) k02 rfl (gH_iv (rest := []) h rfl rfl rfl trivial) trivial
      (gB_to q0 rfl rfl rfl ⟨ng_ik q6 rfl, trivial⟩) trivial trivial t3 sx_ctn (fun _ _ _ => trivial) trivial ⟨fun ls4 st4 w4 t4 f4 a => ?_, trivial⟩
    obtain ⟨a1, a2, _⟩ := a
    cases ng_st0 a2
    obtain ⟨b1, b2⟩ := gB_of0 (fi := (fi : Int)) (si := (sz : Int)) (la := xl.toInt) a1 rfl rfl rfl
    have f4 : sx_Fr [] w3 w4 := f4
    refine gq_l2 (row := fun k => sy_r w r (fi + k)) h (fun _ _ => rfl) hb hlast (sz - 1) 0 (by omega) ls4 w4 b1 (ng_ki b2.1 rfl) t4 (sx_Fr_trans f3 (ng_n2 f4)) (fun d hd => ?_)
    rw [ng_nil f4, hg d hd, Int.toNat_natCast]
    have lh := gq_lh hs 0 (by omega)
    by_cases e : sy_r w r fi = d
    · rw [if_pos e]
      exact Or.inl ⟨e, lh.2.1, lh.2.2.1⟩
    · rw [if_neg e]
      exact Or.inr ⟨e, rfl⟩
  obtain ⟨res, g1, g2⟩ := main
  refine ⟨res, ru_of (k := 19) (M := pm_210) rfl ?_ g1, g2⟩
  rw [Bool.and_eq_true]
  exact ⟨rfl, sq_rcv ht rfl rfl rfl⟩
