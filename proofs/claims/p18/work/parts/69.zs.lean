/-! texts and laws: what is alike -/
noncomputable def te_c (c i : Nat) : Prop := (c = 23 ∧ 1 ≤ i ∧ i ≤ 2) ∨ (c = 24 ∧ i < 60) ∨ (c = 25 ∧ i < 12) ∨ (c = 26 ∧ i < 12) ∨ (c = 27 ∧ i < 12) ∨ (c = 28 ∧ i < 720)
noncomputable def te_d (i : Nat) : Prop := i = 4 ∨ i = 7 ∨ (1922 ≤ i ∧ i < 2858)
noncomputable def te_p (C : Nat → Nat → Int) (R : Nat → Int) : Prop := (C 23 1 = R 7 ∧ C 23 2 = R 4) ∧ (∀ i, i < 60 → C 24 i % 256 = R (2798 + i)) ∧ (∀ l, l < 12 → C 25 l = R (1922 + 73 * l) ∧ C 26 l = R (1923 + 73 * l) ∧ C 27 l = R (1924 + 73 * l)) ∧ ∀ l, l < 12 → ∀ t : Nat, t < 60 → (t : Int) < C 27 l → R (1925 + 73 * l + t) = rq_m (C 28 (60 * l + t))
theorem te_cong {C C1 : Nat → Nat → Int} {R R1 : Nat → Int} (hC : ∀ c i, te_c c i → C1 c i = C c i) (hR : ∀ i, te_d i → R1 i = R i) (h : te_p C R) : te_p C1 R1 := by
  obtain ⟨⟨h1, h2⟩, h3, h4, h5⟩ := h
  have c := hC
  have r := hR
  unfold te_c at c
  unfold te_d at r
  refine ⟨⟨by rw [c 23 1 (by omega), r 7 (by omega)]; exact h1, by rw [c 23 2 (by omega), r 4 (by omega)]; exact h2⟩, fun i hi => ?_, fun l hl => ?_, fun l hl t ht hc => ?_⟩
  · rw [c 24 i (by omega), r _ (by omega)]
    exact h3 i hi
  · rw [c 25 l (by omega), c 26 l (by omega), c 27 l (by omega), r _ (by omega), r (1923 + 73 * l) (by omega), r (1924 + 73 * l) (by omega)]
    exact h4 l hl
  · rw [c 27 l (by omega)] at hc
    rw [c 28 _ (by omega), r _ (by omega)]
    exact h5 l hl t ht hc
noncomputable def TEn (w : pq_W) : Prop := te_p (sy_r w) (sy_r w 95)
noncomputable def TEk (w : pq_W) : Prop := sy_r w 94 2 ≠ 0 → te_p (fun c => sy_r w (c + 34)) (sy_r w 96)
noncomputable def TE (w : pq_W) : Prop := (TEn w ∧ TEk w) ∧ NB w
noncomputable def te_nc (d : Nat) (A : sx_A) : Bool := sy_ninb A (23 + d) 1 2 && sy_ninb A (24 + d) 0 59 && sy_ninb A (25 + d) 0 11 && sy_ninb A (26 + d) 0 11 && sy_ninb A (27 + d) 0 11 && sy_ninb A (28 + d) 0 719
noncomputable def te_nr (A : sx_A) : Bool := sy_ninb A 95 4 4 && sy_ninb A 95 7 7 && sy_ninb A 95 1922 2857
noncomputable def te_nb (A : sx_A) : Bool := sy_ninb A 4 0 5
noncomputable def te_ok (A : sx_A) : Bool := ((te_nc 0 A && te_nr A) && (te_nc 34 A && fl_kr A)) && te_nb A
theorem te_nc_ok {d : Nat} {A : sx_A} {w w1 : pq_W} (h : te_nc d A = true) (f : sx_Fr A w w1) {c i : Nat} (hz : te_c c i) : sy_r w1 (c + d) i = sy_r w (c + d) i := by
  unfold te_nc at h
  simp only [Bool.and_eq_true] at h
  obtain ⟨⟨⟨⟨⟨b23, b24⟩, b25⟩, b26⟩, b27⟩, b28⟩ := h
  rcases hz with ⟨rfl, h, h2⟩ | ⟨rfl, h⟩ | ⟨rfl, h⟩ | ⟨rfl, h⟩ | ⟨rfl, h⟩ | ⟨rfl, h⟩
  · exact sy_r_fr f (sy_nin b23 (by omega) (by omega))
  · exact sy_r_fr f (sy_nin b24 (by omega) (by omega))
  · exact sy_r_fr f (sy_nin b25 (by omega) (by omega))
  · exact sy_r_fr f (sy_nin b26 (by omega) (by omega))
  · exact sy_r_fr f (sy_nin b27 (by omega) (by omega))
  · exact sy_r_fr f (sy_nin b28 (by omega) (by omega))
theorem te_nr_ok {A : sx_A} {w w1 : pq_W} (h : te_nr A = true) (f : sx_Fr A w w1) {i : Nat} (hz : te_d i) : sy_r w1 95 i = sy_r w 95 i := by
  unfold te_nr at h
  simp only [Bool.and_eq_true] at h
  obtain ⟨⟨b1, b2⟩, b3⟩ := h
  rcases hz with rfl | rfl | ⟨h1, h2⟩
  · exact sy_r_fr f (sy_nin b1 (by decide) (by decide))
  · exact sy_r_fr f (sy_nin b2 (by decide) (by decide))
  · exact sy_r_fr f (sy_nin b3 (by omega) (by omega))
theorem te_d_lt {i : Nat} (h : te_d i) : i < 2858 := by
  unfold te_d at h
  omega
theorem NB_mv {A : sx_A} {w w1 : pq_W} (hA : te_nb A = true) (f : sx_Fr A w w1) (h : NB w) : NB w1 := by
  have e : ∀ i : Nat, i ≤ 5 → sy_r w1 4 i = sy_r w 4 i := fun i hi => sy_r_fr f (sy_nin (lo := 0) (hi := 5) hA (by omega) (by omega))
  unfold NB at h ⊢
  rw [e 0 (by decide), e 1 (by decide), e 2 (by decide), e 3 (by decide), e 4 (by decide), e 5 (by decide)]
  exact h
theorem TEn_mv {A : sx_A} {w w1 : pq_W} (hA : (te_nc 0 A && te_nr A) = true) (f : sx_Fr A w w1) (h : TEn w) : TEn w1 := by
  rw [Bool.and_eq_true] at hA
  exact te_cong (fun c i hz => te_nc_ok (d := 0) hA.1 f hz) (fun i hz => te_nr_ok hA.2 f hz) h
theorem TEk_mv {A : sx_A} {w w1 : pq_W} (hA : (te_nc 34 A && fl_kr A) = true) (f : sx_Fr A w w1) (h : TEk w) : TEk w1 := by
  rw [Bool.and_eq_true] at hA
  obtain ⟨h1, h2⟩ := hA
  unfold fl_kr at h2
  rw [Bool.and_eq_true] at h2
  intro e
  rw [sy_r_fr f (sy_nin (i := 2) h2.1 (by decide) (by decide))] at e
  exact te_cong (fun c i hz => te_nc_ok (d := 34) h1 f hz) (fun i hz => sy_r_fr f (sy_nin h2.2 (by omega) (by have := te_d_lt hz; omega))) (h e)
theorem TE_mv {A : sx_A} {w w1 : pq_W} (hA : te_ok A = true) (f : sx_Fr A w w1) (h : TE w) : TE w1 := by
  unfold te_ok at hA
  rw [Bool.and_eq_true, Bool.and_eq_true] at hA
  exact ⟨⟨TEn_mv hA.1.1 f h.1.1, TEk_mv hA.1.2 f h.1.2⟩, NB_mv hA.2 f h.2⟩
/-- feed's change -/
theorem te_feed {x : Int64} {s m : Nat} {w w1 w2 : pq_W} (hm : m ≤ 8) (hs : s + m ≤ 60) (h : TEn w) (h1 : fe_C x 0 s m w w1) (h2 : fe_R x 0 s m w1 w2) : TEn w2 := by
  obtain ⟨⟨p1, p2⟩, p3, p4, p5⟩ := h
  obtain ⟨t1, f1, a1, a2⟩ := h1
  obtain ⟨t2, f2, b1, b2⟩ := h2
  have c2 : ∀ c i, te_c c i → sy_r w2 c i = sy_r w1 c i := fun c i hz => te_nc_ok (d := 0) (A := [(95, 7, 7), (95, 2798, 2857)]) (by decide +kernel) f2 hz
  have c1 : ∀ c i, te_c c i → c ≠ 24 → ¬ (c = 23 ∧ i = 1) → sy_r w1 c i = sy_r w c i := fun c i hz n1 n2 => by
    unfold te_c at hz
    exact fr_no f1 ⟨by omega, by omega, trivial⟩
  have r1 : ∀ i, sy_r w1 95 i = sy_r w 95 i := fun i => fr_no f1 ⟨Or.inl (by decide), Or.inl (by decide), trivial⟩
  have r2 : ∀ i, (i = 4 ∨ (1922 ≤ i ∧ i < 2798)) → sy_r w2 95 i = sy_r w 95 i := fun i hi => by
    rw [← r1]
    exact fr_no f2 ⟨by omega, by omega, trivial⟩
  unfold te_c at c1 c2
  refine ⟨⟨?_, ?_⟩, fun i hi => ?_, fun l hl => ?_, fun l hl t ht hc => ?_⟩
  · rw [c2 23 1 (by omega), sy_r_of a1, nI_toInt (by omega), b1]
  · rw [c2 23 2 (by omega), c1 23 2 (by omega) (by decide) (by omega), r2 4 (by omega)]
    exact p2
  · rw [c2 24 i (by omega), a2 i hi, b2 i hi, r1]
    by_cases c : s ≤ i ∧ i < s + m
    · rw [if_pos c, if_pos c]
    · rw [if_neg c, if_neg c]
      exact p3 i hi
  · rw [c2 25 l (by omega), c2 26 l (by omega), c2 27 l (by omega), c1 25 l (by omega) (by decide) (by omega), c1 26 l (by omega) (by decide) (by omega), c1 27 l (by omega) (by decide) (by omega), r2 _ (by omega), r2 (1923 + 73 * l) (by omega), r2 (1924 + 73 * l) (by omega)]
    exact p4 l hl
  · rw [c2 27 l (by omega), c1 27 l (by omega) (by decide) (by omega)] at hc
    rw [c2 28 _ (by omega), c1 28 _ (by omega) (by decide) (by omega), r2 _ (by omega)]
    exact p5 l hl t ht hc
/-- law's change -/
theorem te_law {u f : Int32} {a : List Int} {l : Nat} {w w1 w2 : pq_W} (hl : l < 12) (ha : a.length ≤ 60) (h : TEn w) (h23 : sx_wg w1 23 1 = some (.int 0)) (e4 : sy_r w 95 4 = (l : Int)) (h1 : al_E l u f a w w1) (h2 : rl_E l u f a w1 w2) : TEn w2 := by
  obtain ⟨⟨p1, p2⟩, p3, p4, p5⟩ := h
  obtain ⟨t1, f1, a2, a25, a26, a27, a28⟩ := h1
  obtain ⟨t2, f2, b4, b0, b1, b2, b3, b7⟩ := h2
  unfold al_A at f1
  unfold rl_A at f2
  have c2 : ∀ c i, te_c c i → sy_r w2 c i = sy_r w1 c i := fun c i hz => by
    unfold te_c at hz
    exact fr_no f2 ⟨by omega, by omega, by omega, by omega, by omega, by omega, trivial⟩
  have c1 : ∀ c i, te_c c i → c ≠ 23 → ¬ ((c = 25 ∨ c = 26 ∨ c = 27) ∧ i = l) → ¬ (c = 28 ∧ 60 * l ≤ i ∧ i ≤ 60 * l + 59) → sy_r w1 c i = sy_r w c i := fun c i hz n1 n2 n3 => by
    unfold te_c at hz
    exact fr_no f1 ⟨by omega, by omega, by omega, by omega, by omega, by omega, by omega, trivial⟩
  have r1 : ∀ i, sy_r w1 95 i = sy_r w 95 i := fun i => fr_no f1 ⟨by omega, by omega, by omega, by omega, by omega, by omega, by omega, trivial⟩
  have r2 : ∀ i, 1922 ≤ i → i < 2858 → ¬ (1922 + 73 * l ≤ i ∧ i ≤ 1994 + 73 * l) → sy_r w2 95 i = sy_r w 95 i := fun i h1 h2 h3 => by
    rw [← r1]
    exact fr_no f2 ⟨by omega, by omega, by omega, by omega, by omega, by omega, trivial⟩
  unfold te_c at c1 c2
  refine ⟨⟨?_, ?_⟩, fun i hi => ?_, fun m hm => ?_, fun m hm t ht hc => ?_⟩
  · rw [c2 23 1 (by omega), sy_r_of h23, b7]
    rfl
  · rw [c2 23 2 (by omega), sy_r_of a2, b4, nI_toInt (by omega)]
    omega
  · rw [c2 24 i (by omega), c1 24 i (by omega) (by decide) (by omega) (by omega), r2 _ (by omega) (by omega) (by omega)]
    exact p3 i hi
  · rw [c2 25 m (by omega), c2 26 m (by omega), c2 27 m (by omega)]
    by_cases e : m = l
    · subst e
      rw [a25, a26, a27, b0, b1, b2]
      exact ⟨rfl, rfl, rfl⟩
    · rw [c1 25 m (by omega) (by decide) (by omega) (by omega), c1 26 m (by omega) (by decide) (by omega) (by omega), c1 27 m (by omega) (by decide) (by omega) (by omega), r2 _ (by omega) (by omega) (by omega), r2 (1923 + 73 * m) (by omega) (by omega) (by omega), r2 (1924 + 73 * m) (by omega) (by omega) (by omega)]
      exact p4 m hm
  · rw [c2 27 m (by omega)] at hc
    rw [c2 28 _ (by omega)]
    by_cases e : m = l
    · subst e
      rw [a27] at hc
      rw [b3 t (by omega), a28 t (by omega)]
    · rw [c1 27 m (by omega) (by decide) (by omega) (by omega)] at hc
      rw [c1 28 _ (by omega) (by decide) (by omega) (by omega), r2 _ (by omega) (by omega) (by omega)]
      exact p5 m hm t ht hc
/-- a text that can't be read -/
theorem te_bad {w w1 w2 : pq_W} (h : TEn w) (f1 : sx_Fr [(23, 1, 1), (74, 1, 5), (75, 0, 59)] w w1) (h23 : sx_wg w1 23 1 = some (.int 0)) (f2 : sx_Fr [(94, 11, 13), (94, 15, 15), (104, 0, 69), (95, 7, 7)] w1 w2) (h7 : sy_r w2 95 7 = 0) : TEn w2 := by
  obtain ⟨⟨p1, p2⟩, p3, p4, p5⟩ := h
  have c2 : ∀ c i, te_c c i → sy_r w2 c i = sy_r w1 c i := fun c i hz => by
    unfold te_c at hz
    exact fr_no f2 ⟨by omega, by omega, by omega, by omega, trivial⟩
  have c1 : ∀ c i, te_c c i → ¬ (c = 23 ∧ i = 1) → sy_r w1 c i = sy_r w c i := fun c i hz n1 => by
    unfold te_c at hz
    exact fr_no f1 ⟨by omega, by omega, by omega, trivial⟩
  have r2 : ∀ i, i ≠ 7 → sy_r w2 95 i = sy_r w 95 i := fun i hi => by
    rw [fr_no f2 (r := 95) (i := i) ⟨by omega, by omega, by omega, by omega, trivial⟩]
    exact fr_no f1 ⟨by omega, by omega, by omega, trivial⟩
  unfold te_c at c1 c2
  refine ⟨⟨?_, ?_⟩, fun i hi => ?_, fun m hm => ?_, fun m hm t ht hc => ?_⟩
  · rw [c2 23 1 (by omega), sy_r_of h23, h7]
    rfl
  · rw [c2 23 2 (by omega), c1 23 2 (by omega) (by omega), r2 4 (by decide)]
    exact p2
  · rw [c2 24 i (by omega), c1 24 i (by omega) (by omega), r2 _ (by omega)]
    exact p3 i hi
  · rw [c2 25 m (by omega), c2 26 m (by omega), c2 27 m (by omega), c1 25 m (by omega) (by omega), c1 26 m (by omega) (by omega), c1 27 m (by omega) (by omega), r2 _ (by omega), r2 (1923 + 73 * m) (by omega), r2 (1924 + 73 * m) (by omega)]
    exact p4 m hm
  · rw [c2 27 m (by omega), c1 27 m (by omega) (by omega)] at hc
    rw [c2 28 _ (by omega), c1 28 _ (by omega) (by omega), r2 _ (by omega)]
    exact p5 m hm t ht hc
theorem rd_congr {B B1 : Nat → Int} {n : Nat} (h : ∀ i, i < n → B i = B1 i) : ∀ (f m o q : Nat) (a : List Int), rd B n f m o q a = rd B1 n f m o q a := by
  have hs : ∀ q, rd_s B n q = rd_s B1 n q := fun q => by
    unfold rd_s
    split
    · exact h q (by assumption)
    · rfl
  have hn : ∀ (k q : Nat) (v : Int), rd_nu B n k q v = rd_nu B1 n k q v := fun k => by
    induction k with
    | zero => exact fun q v => rfl
    | succ k ih =>
      intro q v
      show (if 48 ≤ rd_s B n q ∧ rd_s B n q ≤ 57 then rd_nu B n k (q + 1) (v * 10 + rd_s B n q - 48) else (q, v)) = (if 48 ≤ rd_s B1 n q ∧ rd_s B1 n q ≤ 57 then rd_nu B1 n k (q + 1) (v * 10 + rd_s B1 n q - 48) else (q, v))
      rw [hs, ih]
  intro f
  induction f with
  | zero => exact fun m o q a => rfl
  | succ f ih =>
    intro m o q a
    have e : rd B n f = rd B1 n f := by
      funext m o q a
      exact ih m o q a
    show rd_S B n (rd B n f) m o q a = rd_S B1 n (rd B1 n f) m o q a
    rw [e]
    unfold rd_S rd_5 rd_6
    simp only [hs, hn]
