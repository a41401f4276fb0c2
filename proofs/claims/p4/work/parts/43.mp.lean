/-! money, in numbers: planes, flights, fees, years -/
theorem mo_plane {N N1 : Nat → Int} {B : Nat → Nat → Int} {p0 : Nat} (h : mo_N N B) (hy : mo_y N1) (hp0 : (p0 : Int) = N 3) (h3 : N1 3 = N 3 + 1) (h5 : N1 5 = N 5) (h6 : N1 6 = N 6) (hp : ∀ i, 186 ≤ i → i < 1922 → ¬ (266 + 3 * p0 ≤ i ∧ i ≤ 268 + 3 * p0) → N1 i = N i) : mo_N N1 B := by
  obtain ⟨⟨y2, y3, y5, y6, yg, yp⟩, ⟨hf, ht⟩, ha⟩ := h
  have y31 := hy.2.1
  refine ⟨hy, ⟨fun g hg => ?_, fun t htt => ?_⟩, fun a ha8 => ?_⟩
  · rw [h5] at hg
    obtain ⟨k1, k2, k3⟩ := hf g hg
    refine ⟨mo_W_congr k1 (fun i hi => hp _ (by omega) (by omega) (by omega)), by rw [h3, hp _ (by omega) (by omega) (by omega)]; omega, fun l hl => ?_⟩
    rw [hp (320 + 34 * g + l) (by omega) (by omega) (by omega), hp (304 + 34 * g) (by omega) (by omega) (by omega)]
    exact k3 l hl
  · rw [h6] at htt
    exact mo_W_congr (ht t htt) (fun i hi => hp _ (by omega) (by omega) (by omega))
  · refine mo_a_congr (ha a ha8) (fun l hl => mo_F_congr h5 (fun g hg hg5 => ?_)) (fun j hj => hp _ (by omega) (by omega) (by omega))
    have := yg g hg
    have := (hf g hg5).2.1
    exact ⟨hp _ (by omega) (by omega) (by omega), hp _ (by omega) (by omega) (by omega), hp _ (by omega) (by omega) (by omega)⟩
theorem mo_file {N N1 : Nat → Int} {B : Nat → Nat → Int} {f0 : Nat} (h : mo_N N B) (hy : mo_y N1) (hf0 : (f0 : Int) = N 5) (h3 : N1 3 = N 3) (h5 : N1 5 = N 5 + 1) (h6 : N1 6 = N 6) (hp : ∀ i, 186 ≤ i → i < 1922 → ¬ (302 + 34 * f0 ≤ i ∧ i ≤ 335 + 34 * f0) → N1 i = N i) (hW : mo_W N1 (307 + 34 * f0)) (hpl : N1 (302 + 34 * f0) < N 3) (hfe : ∀ l : Nat, l < 8 → N1 (320 + 34 * f0 + l) = 0) : mo_N N1 B := by
  obtain ⟨⟨y2, y3, y5, y6, yg, yp⟩, ⟨hf, ht⟩, ha⟩ := h
  have y51 := hy.2.2.1
  refine ⟨hy, ⟨fun g hg => ?_, fun t htt => ?_⟩, fun a ha8 => ?_⟩
  · by_cases e : g = f0
    · subst e
      refine ⟨hW, by rw [h3]; exact hpl, fun l hl => ?_⟩
      rw [hfe l hl]
      exact ⟨by omega, fun _ => rfl⟩
    · obtain ⟨k1, k2, k3⟩ := hf g (by omega)
      refine ⟨mo_W_congr k1 (fun i hi => hp _ (by omega) (by omega) (by omega)), by rw [h3, hp _ (by omega) (by omega) (by omega)]; omega, fun l hl => ?_⟩
      rw [hp (320 + 34 * g + l) (by omega) (by omega) (by omega), hp (304 + 34 * g) (by omega) (by omega) (by omega)]
      exact k3 l hl
  · rw [h6] at htt
    exact mo_W_congr (ht t htt) (fun i hi => hp _ (by omega) (by omega) (by omega))
  · refine mo_a_congr (ha a ha8) (fun l hl => ?_) (fun j hj => hp _ (by omega) (by omega) (by omega))
    refine mo_s_congr (fun g hg => ?_)
    unfold mo_t
    rw [h5]
    by_cases e : g = f0
    · subst e
      rw [if_neg (fun q : (g : Int) < N 5 ∧ mo_al N g = a => by have := q.1; omega), hfe l hl]
      split <;> rfl
    · have := yg g hg
      rw [mo_al_congr (hp _ (by omega) (by omega) (by omega)) (hp _ (by omega) (by omega) (by omega)), hp (320 + 34 * g + l) (by omega) (by omega) (by omega)]
      by_cases e2 : (g : Int) < N 5
      · by_cases e3 : mo_al N g = a
        · rw [if_pos ⟨by omega, e3⟩, if_pos ⟨e2, e3⟩]
        · rw [if_neg (fun q => e3 q.2), if_neg (fun q => e3 q.2)]
      · rw [if_neg (fun q => by have := q.1; omega), if_neg (fun q => e2 q.1)]
theorem mo_fly {N N1 : Nat → Int} {B : Nat → Nat → Int} {t0 f0 : Nat} (h : mo_N N B) (hy : mo_y N1) (hf30 : f0 < 30) (ht0 : (t0 : Int) = N 6) (h3 : N1 3 = N 3) (h5 : N1 5 = N 5) (h6 : N1 6 = N 6 + 1) (hp : ∀ i, 186 ≤ i → i < 1922 → ¬ (1322 + 15 * t0 ≤ i ∧ i ≤ 1336 + 15 * t0) → i ≠ 306 + 34 * f0 → N1 i = N i) (hW : mo_W N1 (1324 + 15 * t0)) : mo_N N1 B := by
  obtain ⟨⟨y2, y3, y5, y6, yg, yp⟩, ⟨hf, ht⟩, ha⟩ := h
  refine ⟨hy, ⟨fun g hg => ?_, fun t htt => ?_⟩, fun a ha8 => ?_⟩
  · obtain ⟨k1, k2, k3⟩ := hf g (by omega)
    refine ⟨mo_W_congr k1 (fun i hi => hp _ (by omega) (by omega) (by omega) (by omega)), by rw [h3, hp _ (by omega) (by omega) (by omega) (by omega)]; omega, fun l hl => ?_⟩
    rw [hp (320 + 34 * g + l) (by omega) (by omega) (by omega) (by omega), hp (304 + 34 * g) (by omega) (by omega) (by omega) (by omega)]
    exact k3 l hl
  · by_cases e : t = t0
    · subst e
      exact hW
    · have := hy.2.2.2.1
      exact mo_W_congr (ht t (by omega)) (fun i hi => hp _ (by omega) (by omega) (by omega) (by omega))
  · refine mo_a_congr (ha a ha8) (fun l hl => mo_F_congr h5 (fun g hg hg5 => ?_)) (fun j hj => hp _ (by omega) (by omega) (by omega) (by omega))
    have := yg g hg
    exact ⟨hp _ (by omega) (by omega) (by omega) (by omega), hp _ (by omega) (by omega) (by omega) (by omega), hp _ (by omega) (by omega) (by omega) (by omega)⟩
/-- fees where one flight's have changed -/
theorem mo_F_one {N N1 : Nat → Int} {a l f0 : Nat} (h : mo_y N) (hf0 : (f0 : Int) < N 5) (h5 : N1 5 = N 5) (hp : ∀ i, 266 ≤ i → i < 1322 → ¬ (304 + 34 * f0 ≤ i ∧ i ≤ 305 + 34 * f0) → ¬ (320 + 34 * f0 ≤ i ∧ i ≤ 335 + 34 * f0) → N1 i = N i) (hl : l < 8) : mo_F N1 a l = mo_F N a l + (if mo_al N f0 = a then N1 (320 + 34 * f0 + l) - N (320 + 34 * f0 + l) else 0) := by
  obtain ⟨y2, y3, y5, y6, yg, yp⟩ := h
  have hal : ∀ g : Nat, g < 30 → mo_al N1 g = mo_al N g := fun g hg => by
    have := yg g hg
    exact mo_al_congr (hp _ (by omega) (by omega) (by omega) (by omega)) (hp _ (by omega) (by omega) (by omega) (by omega))
  have := mo_s_upd (f := mo_t N a l) (g := mo_t N1 a l) (k := f0) (n := 30) (by omega) (fun g hg e => by
    unfold mo_t
    rw [h5, hal g hg, hp (320 + 34 * g + l) (by omega) (by omega) (by omega) (by omega)])
  unfold mo_F
  rw [this]
  congr 1
  unfold mo_t
  rw [h5, hal f0 (by omega)]
  by_cases e : mo_al N f0 = a
  · rw [if_pos ⟨hf0, e⟩, if_pos ⟨hf0, e⟩, if_pos e]
  · rw [if_neg (fun q => e q.2), if_neg (fun q => e q.2), if_neg e]
    rfl
/-- one flight's fees and its airline's row written -/
theorem mo_N_fee {N N1 : Nat → Int} {B : Nat → Nat → Int} {f0 a0 : Nat} (h : mo_N N B) (hy : mo_y N1) (hf0 : (f0 : Int) < N 5) (ha0 : mo_al N f0 = a0) (h3 : N1 3 = N 3) (h5 : N1 5 = N 5) (h6 : N1 6 = N 6) (hp : ∀ i, 266 ≤ i → i < 1922 → ¬ (304 + 34 * f0 ≤ i ∧ i ≤ 305 + 34 * f0) → ¬ (320 + 34 * f0 ≤ i ∧ i ≤ 335 + 34 * f0) → N1 i = N i) (hfe : ∀ l : Nat, l < 8 → 0 ≤ N1 (320 + 34 * f0 + l) ∧ N1 (320 + 34 * f0 + l) ≤ 1099690) (hbi : 0 ≤ N1 (304 + 34 * f0)) (ho : ∀ a : Nat, a < 8 → a ≠ a0 → ∀ j : Nat, j < 10 → N1 (186 + 10 * a + j) = N (186 + 10 * a + j)) (hn : (∀ l : Nat, l < 8 → mo_F N1 a0 l = mo_F N a0 l + (N1 (320 + 34 * f0 + l) - N (320 + 34 * f0 + l))) → mo_a N1 B a0) : mo_N N1 B := by
  have hF : ∀ a l : Nat, l < 8 → mo_F N1 a l = mo_F N a l + (if mo_al N f0 = a then N1 (320 + 34 * f0 + l) - N (320 + 34 * f0 + l) else 0) := fun a l hl => mo_F_one h.1 hf0 h5 (fun i i1 i2 => hp i i1 (by omega)) hl
  obtain ⟨⟨y2, y3, y5, y6, yg, yp⟩, ⟨hf, ht⟩, ha⟩ := h
  refine ⟨hy, ⟨fun g hg => ?_, fun t htt => ?_⟩, fun a ha8 => ?_⟩
  · rw [h5] at hg
    obtain ⟨k1, k2, k3⟩ := hf g hg
    refine ⟨mo_W_congr k1 (fun i hi => hp _ (by omega) (by omega) (by omega) (by omega)), by rw [h3, hp _ (by omega) (by omega) (by omega) (by omega)]; omega, fun l hl => ?_⟩
    by_cases e : g = f0
    · subst e
      exact ⟨hfe l hl, fun q => by omega⟩
    · rw [hp (320 + 34 * g + l) (by omega) (by omega) (by omega) (by omega), hp (304 + 34 * g) (by omega) (by omega) (by omega) (by omega)]
      exact k3 l hl
  · rw [h6] at htt
    exact mo_W_congr (ht t htt) (fun i hi => hp _ (by omega) (by omega) (by omega) (by omega))
  · by_cases e : a = a0
    · subst e
      exact hn (fun l hl => by rw [hF a l hl, if_pos ha0])
    · exact mo_a_congr (ha a ha8) (fun l hl => by rw [hF a l hl, if_neg (fun q => e (by omega)), Int.add_zero]) (ho a ha8 e)
theorem mo_bill {N N1 : Nat → Int} {B : Nat → Nat → Int} {f0 a0 : Nat} (h : mo_N N B) (hy : mo_y N1) (hf0 : (f0 : Int) < N 5) (ha8 : a0 < 8) (ha0 : mo_al N f0 = a0) (h3 : N1 3 = N 3) (h5 : N1 5 = N 5) (h6 : N1 6 = N 6) (hp : ∀ i, 266 ≤ i → i < 1922 → ¬ (304 + 34 * f0 ≤ i ∧ i ≤ 305 + 34 * f0) → ¬ (320 + 34 * f0 ≤ i ∧ i ≤ 335 + 34 * f0) → N1 i = N i) (hfe : ∀ l : Nat, l < 8 → 0 ≤ N1 (320 + 34 * f0 + l) ∧ N1 (320 + 34 * f0 + l) ≤ 1099690) (hb0 : N (304 + 34 * f0) < 0) (hbi : 0 ≤ N1 (304 + 34 * f0)) (ho : ∀ a : Nat, a < 8 → a ≠ a0 → ∀ j : Nat, j < 10 → N1 (186 + 10 * a + j) = N (186 + 10 * a + j)) (hc : N1 (186 + 10 * a0) = N (186 + 10 * a0)) (he : N1 (187 + 10 * a0) = N (187 + 10 * a0)) (hd : ∀ l : Nat, l < 8 → N1 (188 + 10 * a0 + l) = N (188 + 10 * a0 + l) + N1 (320 + 34 * f0 + l)) : mo_N N1 B := by
  refine mo_N_fee h hy hf0 ha0 h3 h5 h6 hp hfe hbi ho (fun hF => ?_)
  have hz : ∀ l : Nat, l < 8 → N (320 + 34 * f0 + l) = 0 := fun l hl => ((h.2.1.1 f0 hf0).2.2 l hl).2 hb0
  obtain ⟨k1, k2, k3, k4⟩ := h.2.2 a0 ha8
  refine ⟨fun l hl => ?_, by omega, by omega, fun hne => ?_⟩
  · have := k1 l hl
    have := hd l hl
    have := hF l hl
    have := hz l hl
    have := hfe l hl
    omega
  · rw [he] at hne
    have := k4 hne
    rw [hc, mo_s_congr (g := mo_x N a0) (fun l hl => by
      have := hd l hl
      have := hF l hl
      have := hz l hl
      unfold mo_x
      omega)]
    exact this
/-- one land of right -/
theorem mo_right {N N1 : Nat → Int} {B : Nat → Nat → Int} {f0 a0 l0 : Nat} {e : Int} (h : mo_N N B) (hB : 0 ≤ B a0 l0) (hy : mo_y N1) (hf0 : (f0 : Int) < N 5) (ha8 : a0 < 8) (hl8 : l0 < 8) (ha0 : mo_al N f0 = a0) (he0 : 0 ≤ e ∧ e ≤ 1099690) (hbi : 0 ≤ N (304 + 34 * f0)) (hend : N (187 + 10 * a0) ≠ 1) (h3 : N1 3 = N 3) (h5 : N1 5 = N 5) (h6 : N1 6 = N 6) (hp : ∀ i, 266 ≤ i → i < 1922 → i ≠ 320 + 34 * f0 + l0 → N1 i = N i) (hfe : N1 (320 + 34 * f0 + l0) = e) (ho : ∀ i, 186 ≤ i → i < 266 → i ≠ 186 + 10 * a0 → i ≠ 188 + 10 * a0 + l0 → N1 i = N i) (hd : N1 (188 + 10 * a0 + l0) = max 0 (N (188 + 10 * a0 + l0) + (e - N (320 + 34 * f0 + l0)))) (hc : N1 (186 + 10 * a0) = N (186 + 10 * a0) + max 0 (-(N (188 + 10 * a0 + l0) + (e - N (320 + 34 * f0 + l0))))) : mo_N N1 B := by
  have hf := (h.2.1.1 f0 hf0).2.2
  have y5 := h.1.2.2.1
  have hfl : ∀ l : Nat, l < 8 → l ≠ l0 → N1 (320 + 34 * f0 + l) = N (320 + 34 * f0 + l) := fun l hl q => hp _ (by omega) (by omega) (by omega)
  refine mo_N_fee h hy hf0 ha0 h3 h5 h6 (fun i i1 i2 _ i4 => hp i i1 i2 (by omega)) (fun l hl => ?_) (by rw [hp _ (by omega) (by omega) (by omega)]; exact hbi) (fun a ha q j hj => ho _ (by omega) (by omega) (by omega) (by omega)) (fun hF => ?_)
  · by_cases q : l = l0
    · subst q
      rw [hfe]
      exact he0
    · rw [hfl l hl q]
      exact (hf l hl).1
  · obtain ⟨k1, k2, k3, k4⟩ := h.2.2 a0 ha8
    have k4 := k4 hend
    have hdl : ∀ l : Nat, l < 8 → l ≠ l0 → N1 (188 + 10 * a0 + l) = N (188 + 10 * a0 + l) := fun l hl q => ho _ (by omega) (by omega) (by omega) (by omega)
    have hFl : ∀ l : Nat, l < 8 → l ≠ l0 → mo_F N1 a0 l = mo_F N a0 l := fun l hl q => by
      have := hF l hl
      have := hfl l hl q
      omega
    have hF0 := hF l0 hl8
    rw [hfe] at hF0
    have k0 := k1 l0 hl8
    have hx := mo_s_upd (f := mo_x N a0) (g := mo_x N1 a0) (k := l0) (n := 8) hl8 (fun l hl q => by
      unfold mo_x
      rw [hdl l hl q, hFl l hl q])
    have hF1 : 0 ≤ mo_F N1 a0 l0 := by
      have hn : 0 ≤ mo_F N a0 l0 - N (320 + 34 * f0 + l0) := by
        -- the others' fees
        have hz := mo_s_upd (f := mo_t N a0 l0) (g := fun g => if g = f0 then 0 else mo_t N a0 l0 g) (k := f0) (n := 30) (by omega) (fun i _ q => if_neg q)
        have hz2 := mo_s_bd (f := fun g => if g = f0 then 0 else mo_t N a0 l0 g) (lo := 0) (hi := 1099690) (n := 30) (fun i _ => by
          show 0 ≤ (if i = f0 then 0 else mo_t N a0 l0 i) ∧ (if i = f0 then 0 else mo_t N a0 l0 i) ≤ 1099690
          split
          · omega
          · exact mo_t_bd (mo_f_of h) hl8 i)
        have hz3 : mo_t N a0 l0 f0 = N (320 + 34 * f0 + l0) := by
          unfold mo_t
          rw [if_pos ⟨hf0, ha0⟩]
        have hz : mo_s (fun g => if g = f0 then 0 else mo_t N a0 l0 g) 30 = mo_F N a0 l0 + ((if f0 = f0 then 0 else mo_t N a0 l0 f0) - mo_t N a0 l0 f0) := hz
        rw [if_pos rfl, hz3] at hz
        omega
      omega
    have hx0 : N1 (186 + 10 * a0) + mo_x N1 a0 l0 = N (186 + 10 * a0) + mo_x N a0 l0 := by
      unfold mo_x
      rw [hd, hc]
      omega
    have hxs : N1 (186 + 10 * a0) + mo_s (mo_x N1 a0) 8 ≤ mo_C := by omega
    have hxn : 0 ≤ mo_s (mo_x N1 a0) 8 := by
      have := mo_s_bd (f := fun l => - mo_x N1 a0 l) (lo := - 1000000000000) (hi := 0) (n := 8)
      have hle := mo_s_le (f := fun _ => 0) (g := mo_x N1 a0) (n := 8) (fun l _ => by
        show 0 ≤ mo_x N1 a0 l
        unfold mo_x
        omega)
      have h00 : mo_s (fun _ => 0) 8 = 0 := rfl
      omega
    refine ⟨fun l hl => ?_, by omega, by omega, fun _ => hxs⟩
    by_cases q : l = l0
    · subst q
      omega
    · rw [hdl l hl q, hFl l hl q]
      exact k1 l hl
/-- a year's end for one debt -/
theorem mo_N_B {N : Nat → Int} {B B1 : Nat → Nat → Int} (h : mo_N N B) (hB : ∀ a l, a < 8 → l < 8 → B a l ≤ B1 a l) : mo_N N B1 := by
  refine ⟨h.1, h.2.1, fun a ha => ?_⟩
  obtain ⟨k1, k2⟩ := h.2.2 a ha
  refine ⟨fun l hl => ?_, k2⟩
  have := k1 l hl
  have := hB a l ha hl
  omega
theorem mo_year {N N1 : Nat → Int} {B B1 : Nat → Nat → Int} {a0 l0 : Nat} (h : mo_N N B) (ha8 : a0 < 8) (hl8 : l0 < 8) (hB : B a0 l0 + (B a0 l0 + 32990700) / 20 ≤ B1 a0 l0) (hB1 : ∀ a l, a < 8 → l < 8 → ¬ (a = a0 ∧ l = l0) → B a l ≤ B1 a l) (h2 : 0 ≤ N1 2 ∧ N1 2 ≤ 8) (h3 : N1 3 = N 3) (h5 : N1 5 = N 5) (h6 : N1 6 = N 6) (hp : ∀ i, 186 ≤ i → i < 1922 → i ≠ 188 + 10 * a0 + l0 → N1 i = N i) (hd : N1 (188 + 10 * a0 + l0) = N (188 + 10 * a0 + l0) + N (188 + 10 * a0 + l0) / 20) : mo_N N1 B1 := by
  have hm : mo_N N1 (fun a l => if a = a0 ∧ l = l0 then B1 a0 l0 else B a l) := by
    have hB0 : mo_N N (fun a l => if a = a0 then B a l else (if a = a0 ∧ l = l0 then B1 a0 l0 else B a l)) := mo_N_B h (fun a l ha hl => by
      show B a l ≤ (if a = a0 then B a l else (if a = a0 ∧ l = l0 then B1 a0 l0 else B a l))
      by_cases e : a = a0
      · rw [if_pos e]
        omega
      · rw [if_neg e, if_neg (fun q => e q.1)]
        omega)
    have h1 : ∀ a : Nat, a < 8 → a ≠ a0 → mo_a N1 (fun a l => if a = a0 ∧ l = l0 then B1 a0 l0 else B a l) a → True := fun _ _ _ _ => trivial
    obtain ⟨⟨y2, y3, y5, y6, yg, yp⟩, ⟨hf, ht⟩, ha⟩ := h
    have hF : ∀ a l : Nat, l < 8 → mo_F N1 a l = mo_F N a l := fun a l hl => mo_F_congr h5 (fun g hg hg5 => by
      have := yg g hg
      exact ⟨hp _ (by omega) (by omega) (by omega), hp _ (by omega) (by omega) (by omega), hp _ (by omega) (by omega) (by omega)⟩)
    refine ⟨⟨h2, by rw [h3]; exact y3, by rw [h5]; exact y5, by rw [h6]; exact y6, fun g hg => by rw [hp _ (by omega) (by omega) (by omega)]; exact yg g hg, fun p hg => by rw [hp _ (by omega) (by omega) (by omega)]; exact yp p hg⟩, ⟨fun g hg => ?_, fun t htt => ?_⟩, fun a ha8' => ?_⟩
    · rw [h5] at hg
      obtain ⟨k1, k2, k3⟩ := hf g hg
      refine ⟨mo_W_congr k1 (fun i hi => hp _ (by omega) (by omega) (by omega)), by rw [h3, hp _ (by omega) (by omega) (by omega)]; exact k2, fun l hl => ?_⟩
      rw [hp (320 + 34 * g + l) (by omega) (by omega) (by omega), hp (304 + 34 * g) (by omega) (by omega) (by omega)]
      exact k3 l hl
    · rw [h6] at htt
      exact mo_W_congr (ht t htt) (fun i hi => hp _ (by omega) (by omega) (by omega))
    · obtain ⟨k1, k2, k3, k4⟩ := ha a ha8'
      have hFb : ∀ l : Nat, l < 8 → mo_F N a l ≤ 32990700 := fun l hl => (mo_F_bd ⟨hf, ht⟩ hl).2
      refine ⟨fun l hl => ?_, by rw [hp _ (by omega) (by omega) (by omega)]; exact k2, by rw [hp _ (by omega) (by omega) (by omega)]; exact k3, fun hne => ?_⟩
      · show 0 ≤ N1 (188 + 10 * a + l) ∧ N1 (188 + 10 * a + l) ≤ mo_F N1 a l + (if a = a0 ∧ l = l0 then B1 a0 l0 else B a l)
        have q1 := k1 l hl
        have q2 := hFb l hl
        by_cases e : a = a0 ∧ l = l0
        · rw [if_pos e, hF a l hl]
          obtain ⟨e1, e2⟩ := e
          subst e1
          subst e2
          rw [hd]
          omega
        · rw [if_neg e, hp _ (by omega) (by omega) (by omega), hF a l hl]
          exact q1
      · rw [hp _ (by omega) (by omega) (by omega)] at hne
        have := k4 hne
        rw [hp _ (by omega) (by omega) (by omega)]
        have hx := mo_s_le (f := mo_x N1 a) (g := mo_x N a) (n := 8) (fun l hl => by
          unfold mo_x
          rw [hF a l hl]
          by_cases e : a = a0 ∧ l = l0
          · obtain ⟨e1, e2⟩ := e
            subst e1
            subst e2
            have := k1 l hl
            rw [hd]
            omega
          · rw [hp _ (by omega) (by omega) (by omega)]
            omega)
        omega
  refine mo_N_B hm (fun a l ha hl => ?_)
  show (if a = a0 ∧ l = l0 then B1 a0 l0 else B a l) ≤ B1 a l
  by_cases e : a = a0 ∧ l = l0
  · rw [if_pos e, e.1, e.2]
    omega
  · rw [if_neg e]
    exact hB1 a l ha hl e
