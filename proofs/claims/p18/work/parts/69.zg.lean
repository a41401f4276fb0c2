/-! flights: what is alike -/
noncomputable def fl_p (C : Nat → Nat → Int) (R : Nat → Int) : Prop := (C 29 7 = R 6 ∧ R 6 ≤ 40) ∧ (∀ f, f < 30 → C 30 f = R (302 + 34 * f) ∧ C 31 f = R (303 + 34 * f) ∧ C 38 f = R (307 + 34 * f)) ∧ (∀ t, t < 40 → C 36 t = R (1322 + 15 * t) ∧ C 37 t = R (1323 + 15 * t) ∧ C 38 (30 + t) = R (1324 + 15 * t)) ∧ (∀ f, f < 30 → ∀ i, i < 12 → C 39 (12 * f + i) = R (308 + 34 * f + i)) ∧ (∀ t, t < 40 → ∀ i, i < 12 → C 39 (12 * (30 + t) + i) = R (1325 + 15 * t + i)) ∧ (∀ f : Nat, f < 30 → R 5 ≤ f → ∀ i, i < 12 → R (308 + 34 * f + i) = 0) ∧ (∀ f : Nat, f < 30 → (f : Int) < R 5 → R (306 + 34 * f) = (tf_c (fun t => R (1322 + 15 * t)) f (R 6).toNat : Nat)) ∧ ∀ t : Nat, t < 40 → (t : Int) < R 6 → R (1322 + 15 * t) < R 5
/-- the reference's places of it -/
noncomputable def fl_d (i : Nat) : Prop := i = 5 ∨ i = 6 ∨ (∃ f, f < 30 ∧ (i = 302 + 34 * f ∨ i = 303 + 34 * f ∨ (306 + 34 * f ≤ i ∧ i ≤ 319 + 34 * f))) ∨ (1322 ≤ i ∧ i < 1922)
theorem fl_cong {C C1 : Nat → Nat → Int} {R R1 : Nat → Int} (hC : ∀ c i, zf_ok c i → C1 c i = C c i) (hR : ∀ i, fl_d i → R1 i = R i) (h : fl_p C R) : fl_p C1 R1 := by
  obtain ⟨⟨h1, h0⟩, h2, h3, h4, h5, h6, h7, h8⟩ := h
  have r5 : R1 5 = R 5 := hR 5 (Or.inl rfl)
  have r6 : R1 6 = R 6 := hR 6 (Or.inr (Or.inl rfl))
  have rf : ∀ f i, f < 30 → (i = 302 + 34 * f ∨ i = 303 + 34 * f ∨ (306 + 34 * f ≤ i ∧ i ≤ 319 + 34 * f)) → R1 i = R i := fun f i hf h => hR i (Or.inr (Or.inr (Or.inl ⟨f, hf, h⟩)))
  have rt : ∀ i, 1322 ≤ i → i < 1922 → R1 i = R i := fun i ha hb => hR i (Or.inr (Or.inr (Or.inr ⟨ha, hb⟩)))
  have c : ∀ c i, zf_ok c i → C1 c i = C c i := hC
  unfold zf_ok at c
  refine ⟨⟨by rw [c 29 7 (by omega), r6]; exact h1, by rw [r6]; exact h0⟩, fun f hf => ?_, fun t ht => ?_, fun f hf i hi => ?_, fun t ht i hi => ?_, fun f hf hc i hi => ?_, fun f hf hc => ?_, fun t ht hc => ?_⟩
  · rw [c 30 f (by omega), c 31 f (by omega), c 38 f (by omega), rf f _ hf (by omega), rf f (303 + 34 * f) hf (by omega), rf f (307 + 34 * f) hf (by omega)]
    exact h2 f hf
  · rw [c 36 t (by omega), c 37 t (by omega), c 38 (30 + t) (by omega), rt _ (by omega) (by omega), rt (1323 + 15 * t) (by omega) (by omega), rt (1324 + 15 * t) (by omega) (by omega)]
    exact h3 t ht
  · rw [c 39 _ (by omega), rf f _ hf (by omega)]
    exact h4 f hf i hi
  · rw [c 39 _ (by omega), rt _ (by omega) (by omega)]
    exact h5 t ht i hi
  · rw [r5] at hc
    rw [rf f _ hf (by omega)]
    exact h6 f hf hc i hi
  · rw [r5] at hc
    rw [rf f _ hf (by omega), r6, h7 f hf hc]
    exact congrArg (fun n : Nat => (n : Int)) (tf_congr (fun t ht => (rt _ (by omega) (by omega)).symm))
  · rw [r6] at hc
    rw [r5, rt _ (by omega) (by omega)]
    exact h8 t ht hc
noncomputable def FLn (w : pq_W) : Prop := fl_p (sy_r w) (sy_r w 95)
noncomputable def FLk (w : pq_W) : Prop := sy_r w 94 2 ≠ 0 → fl_p (fun c => sy_r w (c + 34)) (sy_r w 96)
noncomputable def FL (w : pq_W) : Prop := FLn w ∧ FLk w
noncomputable def fl_nc (d : Nat) (A : sx_A) : Bool := sy_ninb A (29 + d) 7 7 && sy_ninb A (30 + d) 0 29 && sy_ninb A (31 + d) 0 29 && sy_ninb A (36 + d) 0 39 && sy_ninb A (37 + d) 0 39 && sy_ninb A (38 + d) 0 69 && sy_ninb A (39 + d) 0 839
noncomputable def fl_nr (A : sx_A) : Bool := sy_ninb A 95 5 6 && sy_ninb A 95 1322 1921 && (List.range 30).all fun f => sy_ninb A 95 (302 + 34 * f : Nat) (303 + 34 * f : Nat) && sy_ninb A 95 (306 + 34 * f : Nat) (319 + 34 * f : Nat)
noncomputable def fl_kr (A : sx_A) : Bool := sy_ninb A 94 2 2 && sy_ninb A 96 0 2857
noncomputable def fl_ok (A : sx_A) : Bool := (fl_nc 0 A && fl_nr A) && (fl_nc 34 A && fl_kr A)
theorem fl_nc_ok {d : Nat} {A : sx_A} {w w1 : pq_W} (h : fl_nc d A = true) (f : sx_Fr A w w1) {c i : Nat} (hz : zf_ok c i) : sy_r w1 (c + d) i = sy_r w (c + d) i := by
  unfold fl_nc at h
  simp only [Bool.and_eq_true] at h
  obtain ⟨⟨⟨⟨⟨⟨b29, b30⟩, b31⟩, b36⟩, b37⟩, b38⟩, b39⟩ := h
  rcases hz with ⟨rfl, rfl⟩ | ⟨rfl, h⟩ | ⟨rfl, h⟩ | ⟨rfl, h⟩ | ⟨rfl, h⟩ | ⟨rfl, h⟩ | ⟨rfl, h⟩
  · exact sy_r_fr f (sy_nin b29 (by decide) (by decide))
  · exact sy_r_fr f (sy_nin b30 (by omega) (by omega))
  · exact sy_r_fr f (sy_nin b31 (by omega) (by omega))
  · exact sy_r_fr f (sy_nin b36 (by omega) (by omega))
  · exact sy_r_fr f (sy_nin b37 (by omega) (by omega))
  · exact sy_r_fr f (sy_nin b38 (by omega) (by omega))
  · exact sy_r_fr f (sy_nin b39 (by omega) (by omega))
theorem fl_nr_ok {A : sx_A} {w w1 : pq_W} (h : fl_nr A = true) (f : sx_Fr A w w1) {i : Nat} (hz : fl_d i) : sy_r w1 95 i = sy_r w 95 i := by
  unfold fl_nr at h
  simp only [Bool.and_eq_true] at h
  obtain ⟨⟨b1, b2⟩, b3⟩ := h
  rcases hz with rfl | rfl | ⟨g, hg, hz⟩ | ⟨h1, h2⟩
  · exact sy_r_fr f (sy_nin b1 (by decide) (by decide))
  · exact sy_r_fr f (sy_nin b1 (by decide) (by decide))
  · have b := List.all_eq_true.mp b3 g (List.mem_range.mpr hg)
    rw [Bool.and_eq_true] at b
    rcases hz with rfl | rfl | ⟨h1, h2⟩
    · exact sy_r_fr f (sy_nin b.1 (by omega) (by omega))
    · exact sy_r_fr f (sy_nin b.1 (by omega) (by omega))
    · exact sy_r_fr f (sy_nin b.2 (by omega) (by omega))
  · exact sy_r_fr f (sy_nin b2 (by omega) (by omega))
theorem fl_d_lt {i : Nat} (h : fl_d i) : i < 2858 := by
  rcases h with rfl | rfl | ⟨g, hg, hz⟩ | ⟨h1, h2⟩
  · decide
  · decide
  · omega
  · omega
theorem FLn_mv {A : sx_A} {w w1 : pq_W} (hA : (fl_nc 0 A && fl_nr A) = true) (f : sx_Fr A w w1) (h : FLn w) : FLn w1 := by
  rw [Bool.and_eq_true] at hA
  exact fl_cong (fun c i hz => fl_nc_ok (d := 0) hA.1 f hz) (fun i hz => fl_nr_ok hA.2 f hz) h
theorem FLk_mv {A : sx_A} {w w1 : pq_W} (hA : (fl_nc 34 A && fl_kr A) = true) (f : sx_Fr A w w1) (h : FLk w) : FLk w1 := by
  rw [Bool.and_eq_true] at hA
  obtain ⟨h1, h2⟩ := hA
  unfold fl_kr at h2
  rw [Bool.and_eq_true] at h2
  intro e
  rw [sy_r_fr f (sy_nin (i := 2) h2.1 (by decide) (by decide))] at e
  exact fl_cong (fun c i hz => fl_nc_ok (d := 34) h1 f hz) (fun i hz => sy_r_fr f (sy_nin h2.2 (by omega) (by have := fl_d_lt hz; omega))) (h e)
theorem FL_mv {A : sx_A} {w w1 : pq_W} (hA : fl_ok A = true) (f : sx_Fr A w w1) (h : FL w) : FL w1 := by
  unfold fl_ok at hA
  rw [Bool.and_eq_true] at hA
  exact ⟨FLn_mv hA.1 f h.1, FLk_mv hA.2 f h.2⟩
theorem tf_zero {g : Nat → Int} {f : Int} : ∀ {n : Nat}, (∀ t, t < n → g t ≠ f) → tf_c g f n = 0
  | 0, _ => rfl
  | n + 1, h => by
    show (if g n = f then tf_c g f n + 1 else tf_c g f n) = 0
    rw [if_neg (h n (by omega))]
    exact tf_zero (fun t ht => h t (by omega))
theorem kr_i {old num : Nat → Int} {b k q : Nat} (h : b ≤ q ∧ q < b + k) : kr_N old num b k q = num (q - b) := if_pos h
theorem kr_o {old num : Nat → Int} {b k q : Nat} (h : ¬ (b ≤ q ∧ q < b + k)) : kr_N old num b k q = old q := if_neg h
/-- file's change -/
theorem fl_file {C C1 : Nat → Nat → Int} {R R1 num : Nat → Int} {p d : Int} {n f : Nat} (hf : f < 30) (hn : n ≤ 12) (e5 : R 5 = (f : Int)) (h : fl_p C R)
    (a29 : C1 29 7 = C 29 7) (a30 : ∀ i, i < 30 → C1 30 i = if i = f then p else C 30 i) (a31 : ∀ i, i < 30 → C1 31 i = if i = f then d else C 31 i) (a36 : ∀ i, i < 40 → C1 36 i = C 36 i) (a37 : ∀ i, i < 40 → C1 37 i = C 37 i) (a38 : ∀ i, i < 70 → C1 38 i = if i = f then (n : Int) else C 38 i) (a39 : ∀ q, q < 840 → C1 39 q = kr_N (C 39) num (12 * f) n q)
    (aR : ∀ q, q < 2858 → R1 q = fm_V R num p d n f q) : fl_p C1 R1 := by
  obtain ⟨⟨h1, h0⟩, h2, h3, h4, h5, h6, h7, h8⟩ := h
  have far : ∀ q, q < 2858 → q ≠ 5 → (q < 302 + 34 * f ∨ 335 + 34 * f < q) → R1 q = R q := fun q hq h5 hr => by
    rw [aR q hq]
    unfold fm_V
    rw [if_neg h5, kr_o (by omega)]
    unfold gm_V
    rw [if_neg (by omega), if_neg (by omega), if_neg (by omega), if_neg (by omega), kr_o (by omega)]
  have r5 : R1 5 = (f : Int) + 1 := by rw [aR 5 (by decide)]; exact if_pos rfl
  have r6 : R1 6 = R 6 := far 6 (by decide) (by decide) (by omega)
  refine ⟨⟨by rw [a29, r6]; exact h1, by rw [r6]; exact h0⟩, fun g hg => ?_, fun t ht => ?_, fun g hg i hi => ?_, fun t ht i hi => ?_, fun g hg hc i hi => ?_, fun g hg hc => ?_, fun t ht hc => ?_⟩
  · rw [a30 g hg, a31 g hg, a38 g (by omega)]
    by_cases e : g = f
    · subst e
      rw [if_pos rfl, if_pos rfl, if_pos rfl, aR _ (by omega), aR (303 + 34 * g) (by omega), aR (307 + 34 * g) (by omega)]
      refine ⟨?_, ?_, ?_⟩
      · unfold fm_V
        rw [if_neg (by omega), kr_o (by omega)]
        unfold gm_V
        rw [if_pos rfl]
      · unfold fm_V
        rw [if_neg (by omega), kr_o (by omega)]
        unfold gm_V
        rw [if_neg (by omega), if_pos (by omega)]
      · unfold fm_V
        rw [if_neg (by omega), kr_o (by omega)]
        unfold gm_V
        rw [if_neg (by omega), if_neg (by omega), if_neg (by omega), if_pos (by omega)]
    · rw [if_neg e, if_neg e, if_neg e, far _ (by omega) (by omega) (by omega), far (303 + 34 * g) (by omega) (by omega) (by omega), far (307 + 34 * g) (by omega) (by omega) (by omega)]
      exact h2 g hg
  · rw [a36 t ht, a37 t ht, a38 (30 + t) (by omega), if_neg (by omega), far _ (by omega) (by omega) (by omega), far (1323 + 15 * t) (by omega) (by omega) (by omega), far (1324 + 15 * t) (by omega) (by omega) (by omega)]
    exact h3 t ht
  · rw [a39 _ (by omega)]
    by_cases e : g = f
    · subst e
      rw [aR _ (by omega)]
      unfold fm_V
      rw [if_neg (by omega)]
      by_cases c : i < n
      · rw [kr_i (by omega), kr_i (by omega), show 12 * g + i - 12 * g = i by omega, show 308 + 34 * g + i - (308 + 34 * g) = i by omega]
      · have z := h6 g hg (by omega) i hi
        rw [← h4 g hg i hi] at z
        rw [kr_o (by omega), kr_o (by omega), z]
        unfold gm_V
        rw [if_neg (by omega), if_neg (by omega), if_neg (by omega), if_neg (by omega), kr_i (by omega)]
    · rw [far _ (by omega) (by omega) (by omega)]
      unfold kr_N
      rw [if_neg (by omega)]
      exact h4 g hg i hi
  · rw [a39 _ (by omega), far _ (by omega) (by omega) (by omega)]
    unfold kr_N
    rw [if_neg (by omega)]
    exact h5 t ht i hi
  · rw [r5] at hc
    rw [far _ (by omega) (by omega) (by omega)]
    exact h6 g hg (by omega) i hi
  · rw [r5] at hc
    rw [r6]
    have ec : tf_c (fun t => R1 (1322 + 15 * t)) g (R 6).toNat = tf_c (fun t => R (1322 + 15 * t)) g (R 6).toNat := tf_congr (fun t ht => far _ (by omega) (by omega) (by omega))
    rw [ec]
    by_cases e : g = f
    · subst e
      have z : tf_c (fun t => R (1322 + 15 * t)) (g : Int) (R 6).toNat = 0 := tf_zero (fun t ht he => by
        have := h8 t (by omega) (by omega)
        have he : R (1322 + 15 * t) = (g : Int) := he
        omega)
      rw [z, aR _ (by omega)]
      unfold fm_V
      rw [if_neg (by omega), kr_o (by omega)]
      unfold gm_V
      rw [if_neg (by omega), if_neg (by omega), if_neg (by omega), if_neg (by omega), kr_i (by omega)]
      rfl
    · rw [far _ (by omega) (by omega) (by omega)]
      exact h7 g hg (by omega)
  · rw [r6] at hc
    rw [r5, far _ (by omega) (by omega) (by omega)]
    have := h8 t ht hc
    omega
/-- fly's change -/
theorem fl_fly {C C1 : Nat → Nat → Int} {R R1 num : Nat → Int} {d : Int} {n t0 g c : Nat} (ht0 : t0 < 40) (hg : g < 30) (hgc : (g : Int) < R 5) (hn : n ≤ 12) (e6 : R 6 = (t0 : Int)) (ec : R (306 + 34 * g) = (c : Int)) (h : fl_p C R)
    (a29 : C1 29 7 = (t0 : Int) + 1) (a30 : ∀ i, i < 30 → C1 30 i = C 30 i) (a31 : ∀ i, i < 30 → C1 31 i = C 31 i) (a36 : ∀ i, i < 40 → C1 36 i = if i = t0 then (g : Int) else C 36 i) (a37 : ∀ i, i < 40 → C1 37 i = if i = t0 then d else C 37 i) (a38 : ∀ i, i < 70 → C1 38 i = if i = 30 + t0 then (n : Int) else C 38 i) (a39 : ∀ q, q < 840 → C1 39 q = kr_N (C 39) num (12 * (30 + t0)) n q)
    (aR : ∀ q, q < 2858 → R1 q = fn_V R num d n t0 c g q) : fl_p C1 R1 := by
  obtain ⟨⟨h1, h0⟩, h2, h3, h4, h5, h6, h7, h8⟩ := h
  have far : ∀ q, q < 2858 → q ≠ 6 → q ≠ 306 + 34 * g → (q < 1322 + 15 * t0 ∨ 1336 + 15 * t0 < q) → R1 q = R q := fun q hq h6 h7 hr => by
    rw [aR q hq]
    unfold fn_V go_V
    rw [if_neg h6, if_neg h7, kr_o (by omega)]
    unfold gn_V
    rw [if_neg (by omega), if_neg (by omega), if_neg (by omega)]
  have r5 : R1 5 = R 5 := far 5 (by decide) (by decide) (by omega) (by omega)
  have r6 : R1 6 = (t0 : Int) + 1 := by
    rw [aR 6 (by decide)]
    unfold fn_V go_V
    rw [if_pos rfl]
  have rg : R1 (1322 + 15 * t0) = (g : Int) := by
    rw [aR _ (by omega)]
    unfold fn_V go_V
    rw [if_neg (by omega), if_neg (by omega), kr_o (by omega)]
    unfold gn_V
    rw [if_pos rfl]
  refine ⟨⟨by rw [a29, r6], by rw [r6]; omega⟩, fun f hf => ?_, fun t ht => ?_, fun f hf i hi => ?_, fun t ht i hi => ?_, fun f hf hc i hi => ?_, fun f hf hc => ?_, fun t ht hc => ?_⟩
  · rw [a30 f hf, a31 f hf, a38 f (by omega), if_neg (by omega), far _ (by omega) (by omega) (by omega) (by omega), far (303 + 34 * f) (by omega) (by omega) (by omega) (by omega), far (307 + 34 * f) (by omega) (by omega) (by omega) (by omega)]
    exact h2 f hf
  · rw [a36 t ht, a37 t ht, a38 (30 + t) (by omega)]
    by_cases e : t = t0
    · subst e
      rw [if_pos rfl, if_pos rfl, if_pos rfl, rg, aR (1323 + 15 * t) (by omega), aR (1324 + 15 * t) (by omega)]
      refine ⟨rfl, ?_, ?_⟩
      · unfold fn_V go_V
        rw [if_neg (by omega), if_neg (by omega), kr_o (by omega)]
        unfold gn_V
        rw [if_neg (by omega), if_pos (by omega)]
      · unfold fn_V go_V
        rw [if_neg (by omega), if_neg (by omega), kr_o (by omega)]
        unfold gn_V
        rw [if_neg (by omega), if_neg (by omega), if_pos (by omega)]
    · rw [if_neg e, if_neg e, if_neg (by omega), far _ (by omega) (by omega) (by omega) (by omega), far (1323 + 15 * t) (by omega) (by omega) (by omega) (by omega), far (1324 + 15 * t) (by omega) (by omega) (by omega) (by omega)]
      exact h3 t ht
  · rw [a39 _ (by omega), far _ (by omega) (by omega) (by omega) (by omega)]
    unfold kr_N
    rw [if_neg (by omega)]
    exact h4 f hf i hi
  · rw [a39 _ (by omega)]
    by_cases e : t = t0
    · subst e
      rw [aR _ (by omega)]
      unfold fn_V go_V
      rw [if_neg (by omega), if_neg (by omega)]
      by_cases c : i < n
      · rw [kr_i (by omega), kr_i (by omega), show 12 * (30 + t) + i - 12 * (30 + t) = i by omega, show 1325 + 15 * t + i - (1325 + 15 * t) = i by omega]
      · rw [kr_o (by omega), kr_o (by omega)]
        unfold gn_V
        rw [if_neg (by omega), if_neg (by omega), if_neg (by omega)]
        exact h5 t ht i hi
    · rw [far _ (by omega) (by omega) (by omega) (by omega)]
      unfold kr_N
      rw [if_neg (by omega)]
      exact h5 t ht i hi
  · rw [r5] at hc
    rw [far _ (by omega) (by omega) (by omega) (by omega)]
    exact h6 f hf hc i hi
  · rw [r5] at hc
    have hs := h7 f hf hc
    rw [e6, show ((t0 : Nat) : Int).toNat = t0 from Int.toNat_natCast _] at hs
    have e1 : tf_c (fun t => R1 (1322 + 15 * t)) (f : Int) t0 = tf_c (fun t => R (1322 + 15 * t)) (f : Int) t0 := tf_congr (fun t ht => far _ (by omega) (by omega) (by omega) (by omega))
    rw [r6, show ((t0 : Int) + 1).toNat = t0 + 1 by omega]
    by_cases e : f = g
    · subst e
      have e2 : tf_c (fun t => R1 (1322 + 15 * t)) (f : Int) (t0 + 1) = tf_c (fun t => R1 (1322 + 15 * t)) (f : Int) t0 + 1 := if_pos rg
      have ea : R1 (306 + 34 * f) = (c : Int) + 1 := by
        rw [aR _ (by omega)]
        unfold fn_V go_V
        rw [if_neg (by omega), if_pos rfl]
      rw [e2, e1, ea]
      omega
    · have e2 : tf_c (fun t => R1 (1322 + 15 * t)) (f : Int) (t0 + 1) = tf_c (fun t => R1 (1322 + 15 * t)) (f : Int) t0 := if_neg (fun z => by
        have z : R1 (1322 + 15 * t0) = (f : Int) := z
        omega)
      rw [e2, e1, far _ (by omega) (by omega) (by omega) (by omega)]
      exact hs
  · rw [r6] at hc
    rw [r5]
    by_cases e : t = t0
    · subst e
      rw [rg]
      exact hgc
    · rw [far _ (by omega) (by omega) (by omega) (by omega)]
      exact h8 t ht (by omega)
