/-! money, in numbers: N is what stands at the places of now, or of kept -/
noncomputable def mo_s (f : Nat → Int) : Nat → Int
  | 0 => 0
  | n + 1 => mo_s f n + f n
theorem mo_s_congr {f g : Nat → Int} : ∀ {n : Nat}, (∀ i, i < n → f i = g i) → mo_s f n = mo_s g n
  | 0, _ => rfl
  | n + 1, h => by
    show mo_s f n + f n = mo_s g n + g n
    rw [mo_s_congr (fun i hi => h i (by omega)), h n (by omega)]
theorem mo_s_upd {f g : Nat → Int} {k : Nat} : ∀ {n : Nat}, k < n → (∀ i, i < n → i ≠ k → g i = f i) → mo_s g n = mo_s f n + (g k - f k)
  | 0, h, _ => by omega
  | n + 1, h, hh => by
    show mo_s g n + g n = mo_s f n + f n + (g k - f k)
    by_cases e : k = n
    · subst e
      rw [mo_s_congr (fun i hi => hh i (by omega) (by omega))]
      omega
    · rw [mo_s_upd (n := n) (by omega) (fun i hi => hh i (by omega)), hh n (by omega) (fun q => e q.symm)]
      omega
theorem mo_s_bd {f : Nat → Int} {lo hi : Int} : ∀ {n : Nat}, (∀ i, i < n → lo ≤ f i ∧ f i ≤ hi) → lo * n ≤ mo_s f n ∧ mo_s f n ≤ hi * n
  | 0, _ => by
    show lo * ((0 : Nat) : Int) ≤ 0 ∧ 0 ≤ hi * ((0 : Nat) : Int)
    simp
  | n + 1, h => by
    have h1 := mo_s_bd (n := n) (fun i hi => h i (by omega))
    have h2 := h n (by omega)
    show lo * ((n + 1 : Nat) : Int) ≤ mo_s f n + f n ∧ mo_s f n + f n ≤ hi * ((n + 1 : Nat) : Int)
    rw [Int.natCast_add, Int.mul_add, Int.mul_add]
    show lo * (n : Int) + lo * 1 ≤ _ ∧ _ ≤ hi * (n : Int) + hi * 1
    omega
theorem mo_s_le {f g : Nat → Int} : ∀ {n : Nat}, (∀ i, i < n → f i ≤ g i) → mo_s f n ≤ mo_s g n
  | 0, _ => Int.le_refl _
  | n + 1, h => by
    have h1 := mo_s_le (n := n) (fun i hi => h i (by omega))
    have h2 := h n (by omega)
    show mo_s f n + f n ≤ mo_s g n + g n
    omega
noncomputable def mo_al (N : Nat → Int) (g : Nat) : Int := N (267 + 3 * (N (302 + 34 * g)).toNat)
noncomputable def mo_t (N : Nat → Int) (a l g : Nat) : Int := if (g : Int) < N 5 ∧ mo_al N g = a then N (320 + 34 * g + l) else 0
noncomputable def mo_F (N : Nat → Int) (a l : Nat) : Int := mo_s (mo_t N a l) 30
noncomputable def mo_x (N : Nat → Int) (a l : Nat) : Int := max 0 (mo_F N a l - N (188 + 10 * a + l))
noncomputable def mo_C : Int := 264925599
noncomputable def mo_B : Nat → Int
  | 0 => 0
  | y + 1 => mo_B y + (mo_B y + 32990700) / 20
theorem mo_B_le : ∀ y, 0 ≤ mo_B y ∧ mo_B y ≤ mo_B (y + 1)
  | 0 => by decide
  | y + 1 => by
    have h := mo_B_le y
    have e : mo_B (y + 1 + 1) = mo_B (y + 1) + (mo_B (y + 1) + 32990700) / 20 := rfl
    omega
theorem mo_B_mono {a b : Nat} (h : a ≤ b) : mo_B a ≤ mo_B b := by
  induction h with
  | refl => exact Int.le_refl _
  | step _ ih => exact Int.le_trans ih (mo_B_le _).2
theorem mo_B_30 {y : Nat} (h : y ≤ 30) : mo_B y ≤ 110000000 := Int.le_trans (mo_B_mono h) (by decide +kernel)
noncomputable def mo_W (N : Nat → Int) (b : Nat) : Prop := 2 ≤ N b ∧ N b ≤ 12 ∧ 0 ≤ N (b + (N b).toNat) ∧ N (b + (N b).toNat) ≤ 63 ∧ gR (fun k => N (b + 1 + k)) ((N b).toNat - 1) (N (b + (N b).toNat)).toNat
theorem mo_W_way {w : pq_W} {r b : Nat} : mo_W (sy_r w r) b ↔ mWay w r b := Iff.rfl
theorem mo_W_congr {N N1 : Nat → Int} {b b1 : Nat} (h : mo_W N b) (he : ∀ i, i ≤ 12 → N1 (b1 + i) = N (b + i)) : mo_W N1 b1 := by
  obtain ⟨h1, h2, h3, h4, h5⟩ := h
  have e0 : N1 b1 = N b := he 0 (by omega)
  have el := he (N b).toNat (by omega)
  refine ⟨by rw [e0]; exact h1, by rw [e0]; exact h2, by rw [e0, el]; exact h3, by rw [e0, el]; exact h4, ?_⟩
  rw [e0, el]
  refine gR_congr (fun i hi => ?_) h5
  show N (b + 1 + i) = N1 (b1 + 1 + i)
  rw [show b1 + 1 + i = b1 + (1 + i) by omega, show b + 1 + i = b + (1 + i) by omega]
  exact (he (1 + i) (by omega)).symm
/-- flights, tells -/
noncomputable def mo_f (N : Nat → Int) : Prop := (∀ g : Nat, (g : Int) < N 5 → mo_W N (307 + 34 * g) ∧ N (302 + 34 * g) < N 3 ∧ ∀ l : Nat, l < 8 → (0 ≤ N (320 + 34 * g + l) ∧ N (320 + 34 * g + l) ≤ 1099690) ∧ (N (304 + 34 * g) < 0 → N (320 + 34 * g + l) = 0)) ∧ ∀ t : Nat, (t : Int) < N 6 → mo_W N (1324 + 15 * t)
/-- airlines; B: how far debts may be above fees -/
noncomputable def mo_a (N : Nat → Int) (B : Nat → Nat → Int) (a : Nat) : Prop := (∀ l : Nat, l < 8 → 0 ≤ N (188 + 10 * a + l) ∧ N (188 + 10 * a + l) ≤ mo_F N a l + B a l) ∧ 0 ≤ N (186 + 10 * a) ∧ N (186 + 10 * a) ≤ mo_C ∧ (N (187 + 10 * a) ≠ 1 → N (186 + 10 * a) + mo_s (mo_x N a) 8 ≤ mo_C)
/-- what the cells' types say -/
noncomputable def mo_y (N : Nat → Int) : Prop := (0 ≤ N 2 ∧ N 2 ≤ 8) ∧ (0 ≤ N 3 ∧ N 3 ≤ 12) ∧ (0 ≤ N 5 ∧ N 5 ≤ 30) ∧ (0 ≤ N 6 ∧ N 6 ≤ 40) ∧ (∀ g : Nat, g < 30 → 0 ≤ N (302 + 34 * g) ∧ N (302 + 34 * g) ≤ 11) ∧ (∀ p : Nat, p < 12 → 0 ≤ N (267 + 3 * p) ∧ N (267 + 3 * p) ≤ 7)
noncomputable def mo_N (N : Nat → Int) (B : Nat → Nat → Int) : Prop := mo_y N ∧ mo_f N ∧ ∀ a : Nat, a < 8 → mo_a N B a
noncomputable def Mo (N : Nat → Int) : Prop := (0 ≤ N 0 ∧ N 0 ≤ 3000) ∧ mo_N N (fun _ _ => mo_B (N 0 / 100).toNat)
theorem mo_t_bd {N : Nat → Int} (h : mo_f N) {a l : Nat} (hl : l < 8) (g : Nat) : 0 ≤ mo_t N a l g ∧ mo_t N a l g ≤ 1099690 := by
  unfold mo_t
  by_cases e : (g : Int) < N 5 ∧ mo_al N g = a
  · rw [if_pos e]
    exact ((h.1 g e.1).2.2 l hl).1
  · rw [if_neg e]
    omega
theorem mo_F_bd {N : Nat → Int} (h : mo_f N) {a l : Nat} (hl : l < 8) : 0 ≤ mo_F N a l ∧ mo_F N a l ≤ 32990700 := by
  have := mo_s_bd (n := 30) (fun g _ => mo_t_bd (a := a) h hl g)
  unfold mo_F
  omega
theorem mo_x_bd {N : Nat → Int} (h : mo_f N) {a l : Nat} (hl : l < 8) (hd : 0 ≤ N (188 + 10 * a + l)) : 0 ≤ mo_x N a l ∧ mo_x N a l ≤ 32990700 := by
  have := mo_F_bd (a := a) h hl
  unfold mo_x
  omega
theorem mo_X_bd {N : Nat → Int} (h : mo_f N) {a : Nat} (hd : ∀ l : Nat, l < 8 → 0 ≤ N (188 + 10 * a + l)) : 0 ≤ mo_s (mo_x N a) 8 ∧ mo_s (mo_x N a) 8 ≤ 263925600 := by
  have := mo_s_bd (f := mo_x N a) (n := 8) (fun l hl => mo_x_bd (a := a) h hl (hd l hl))
  omega
/-- the airline of a flight, where what it reads is the same -/
theorem mo_al_congr {N N1 : Nat → Int} {g : Nat} (h1 : N1 (302 + 34 * g) = N (302 + 34 * g)) (h2 : N1 (267 + 3 * (N (302 + 34 * g)).toNat) = N (267 + 3 * (N (302 + 34 * g)).toNat)) : mo_al N1 g = mo_al N g := by
  unfold mo_al
  rw [h1, h2]
/-- fees, where flights and planes are the same -/
theorem mo_F_congr {N N1 : Nat → Int} {a l : Nat} (h5 : N1 5 = N 5) (h : ∀ g : Nat, g < 30 → (g : Int) < N 5 → N1 (302 + 34 * g) = N (302 + 34 * g) ∧ N1 (267 + 3 * (N (302 + 34 * g)).toNat) = N (267 + 3 * (N (302 + 34 * g)).toNat) ∧ N1 (320 + 34 * g + l) = N (320 + 34 * g + l)) : mo_F N1 a l = mo_F N a l := by
  refine mo_s_congr (fun g hg => ?_)
  unfold mo_t
  rw [h5]
  by_cases e : (g : Int) < N 5
  · obtain ⟨k1, k2, k3⟩ := h g hg e
    rw [mo_al_congr k1 k2, k3]
  · rw [if_neg (fun q => e q.1), if_neg (fun q => e q.1)]
theorem mo_a_congr {N N1 : Nat → Int} {B : Nat → Nat → Int} {a : Nat} (h : mo_a N B a) (hF : ∀ l : Nat, l < 8 → mo_F N1 a l = mo_F N a l) (hN : ∀ j : Nat, j < 10 → N1 (186 + 10 * a + j) = N (186 + 10 * a + j)) : mo_a N1 B a := by
  obtain ⟨h1, h2, h3, h4⟩ := h
  have hd : ∀ l : Nat, l < 8 → N1 (188 + 10 * a + l) = N (188 + 10 * a + l) := fun l hl => by
    have := hN (2 + l) (by omega)
    rw [show 186 + 10 * a + (2 + l) = 188 + 10 * a + l by omega] at this
    exact this
  have h0 : N1 (186 + 10 * a) = N (186 + 10 * a) := hN 0 (by omega)
  have he : N1 (187 + 10 * a) = N (187 + 10 * a) := by
    have := hN 1 (by omega)
    rw [show 186 + 10 * a + 1 = 187 + 10 * a by omega] at this
    exact this
  refine ⟨fun l hl => by rw [hd l hl, hF l hl]; exact h1 l hl, by rw [h0]; exact h2, by rw [h0]; exact h3, fun hne => ?_⟩
  rw [he] at hne
  rw [h0, mo_s_congr (g := mo_x N a) (fun l hl => by unfold mo_x; rw [hF l hl, hd l hl])]
  exact h4 hne
/-- nothing that counts has changed -/
theorem mo_N_fr {N N1 : Nat → Int} {B : Nat → Nat → Int} (h : mo_N N B) (h2 : 0 ≤ N1 2 ∧ N1 2 ≤ 8) (h3 : N1 3 = N 3) (h5 : N1 5 = N 5) (h6 : N1 6 = N 6) (hp : ∀ i, 186 ≤ i → i < 1922 → N1 i = N i) : mo_N N1 B := by
  obtain ⟨⟨y2, y3, y5, y6, yg, yp⟩, ⟨hf, ht⟩, ha⟩ := h
  refine ⟨⟨h2, by rw [h3]; exact y3, by rw [h5]; exact y5, by rw [h6]; exact y6, fun g hg => by rw [hp _ (by omega) (by omega)]; exact yg g hg, fun p hg => by rw [hp _ (by omega) (by omega)]; exact yp p hg⟩, ⟨fun g hg => ?_, fun t htt => ?_⟩, fun a ha8 => ?_⟩
  · rw [h5] at hg
    obtain ⟨k1, k2, k3⟩ := hf g hg
    refine ⟨mo_W_congr k1 (fun i hi => hp _ (by omega) (by omega)), by rw [h3, hp _ (by omega) (by omega)]; exact k2, fun l hl => ?_⟩
    rw [hp (320 + 34 * g + l) (by omega) (by omega), hp (304 + 34 * g) (by omega) (by omega)]
    exact k3 l hl
  · rw [h6] at htt
    exact mo_W_congr (ht t htt) (fun i hi => hp _ (by omega) (by omega))
  · refine mo_a_congr (ha a ha8) (fun l hl => mo_F_congr h5 (fun g hg hg5 => ?_)) (fun j hj => hp _ (by omega) (by omega))
    have := yg g hg
    exact ⟨hp _ (by omega) (by omega), hp _ (by omega) (by omega), hp _ (by omega) (by omega)⟩
theorem Mo_fr {N N1 : Nat → Int} (h : Mo N) (h0 : N1 0 = N 0) (h2 : 0 ≤ N1 2 ∧ N1 2 ≤ 8) (h3 : N1 3 = N 3) (h5 : N1 5 = N 5) (h6 : N1 6 = N 6) (hp : ∀ i, 186 ≤ i → i < 1922 → N1 i = N i) : Mo N1 := by
  refine ⟨by rw [h0]; exact h.1, ?_⟩
  rw [h0]
  exact mo_N_fr h.2 h2 h3 h5 h6 hp
/-- one airline's row written, flights and planes as they were -/
theorem mo_N_air {N N1 : Nat → Int} {B : Nat → Nat → Int} {a0 : Nat} (h : mo_N N B) (h2 : 0 ≤ N1 2 ∧ N1 2 ≤ 8) (h3 : N1 3 = N 3) (h5 : N1 5 = N 5) (h6 : N1 6 = N 6) (hp : ∀ i, 266 ≤ i → i < 1922 → N1 i = N i) (ho : ∀ a : Nat, a < 8 → a ≠ a0 → ∀ j : Nat, j < 10 → N1 (186 + 10 * a + j) = N (186 + 10 * a + j)) (hn : (∀ l : Nat, l < 8 → mo_F N1 a0 l = mo_F N a0 l) → mo_a N1 B a0) : mo_N N1 B := by
  obtain ⟨⟨y2, y3, y5, y6, yg, yp⟩, ⟨hf, ht⟩, ha⟩ := h
  have hF : ∀ a l : Nat, l < 8 → mo_F N1 a l = mo_F N a l := fun a l hl => mo_F_congr h5 (fun g hg hg5 => by
    have := yg g hg
    exact ⟨hp _ (by omega) (by omega), hp _ (by omega) (by omega), hp _ (by omega) (by omega)⟩)
  refine ⟨⟨h2, by rw [h3]; exact y3, by rw [h5]; exact y5, by rw [h6]; exact y6, fun g hg => by rw [hp _ (by omega) (by omega)]; exact yg g hg, fun p hg => by rw [hp _ (by omega) (by omega)]; exact yp p hg⟩, ⟨fun g hg => ?_, fun t htt => ?_⟩, fun a ha8 => ?_⟩
  · rw [h5] at hg
    obtain ⟨k1, k2, k3⟩ := hf g hg
    refine ⟨mo_W_congr k1 (fun i hi => hp _ (by omega) (by omega)), by rw [h3, hp _ (by omega) (by omega)]; exact k2, fun l hl => ?_⟩
    rw [hp (320 + 34 * g + l) (by omega) (by omega), hp (304 + 34 * g) (by omega) (by omega)]
    exact k3 l hl
  · rw [h6] at htt
    exact mo_W_congr (ht t htt) (fun i hi => hp _ (by omega) (by omega))
  · by_cases e : a = a0
    · subst e
      exact hn (fun l hl => hF a l hl)
    · exact mo_a_congr (ha a ha8) (fun l hl => hF a l hl) (ho a ha8 e)
theorem mo_f_of {N : Nat → Int} {B : Nat → Nat → Int} (h : mo_N N B) : mo_f N := h.2.1
/-- airline -/
theorem mo_airline {N N1 : Nat → Int} {B : Nat → Nat → Int} {a0 : Nat} (h : mo_N N B) (hB : ∀ l : Nat, l < 8 → 0 ≤ B a0 l) (h2 : 0 ≤ N1 2 ∧ N1 2 ≤ 8) (h3 : N1 3 = N 3) (h5 : N1 5 = N 5) (h6 : N1 6 = N 6) (hp : ∀ i, 266 ≤ i → i < 1922 → N1 i = N i) (ho : ∀ a : Nat, a < 8 → a ≠ a0 → ∀ j : Nat, j < 10 → N1 (186 + 10 * a + j) = N (186 + 10 * a + j)) (hc : 0 ≤ N1 (186 + 10 * a0) ∧ N1 (186 + 10 * a0) ≤ 999999) (hd : ∀ l : Nat, l < 8 → N1 (188 + 10 * a0 + l) = 0) : mo_N N1 B := by
  refine mo_N_air h h2 h3 h5 h6 hp ho (fun hF => ?_)
  have hb : ∀ l : Nat, l < 8 → 0 ≤ mo_F N1 a0 l ∧ mo_F N1 a0 l ≤ 32990700 := fun l hl => by rw [hF l hl]; exact mo_F_bd (mo_f_of h) hl
  have hx := mo_s_bd (f := mo_x N1 a0) (lo := 0) (hi := 32990700) (n := 8) (fun l hl => by
    have := hb l hl
    have := hd l hl
    unfold mo_x
    omega)
  refine ⟨fun l hl => ?_, hc.1, by unfold mo_C; omega, fun _ => by unfold mo_C; omega⟩
  have := hb l hl
  have := hd l hl
  have := hB l hl
  omega
/-- coin alone, not above what earn allows -/
theorem mo_earn {N N1 : Nat → Int} {B : Nat → Nat → Int} {a0 : Nat} (h : mo_N N B) (ha8 : a0 < 8) (h2 : 0 ≤ N1 2 ∧ N1 2 ≤ 8) (h3 : N1 3 = N 3) (h5 : N1 5 = N 5) (h6 : N1 6 = N 6) (hp : ∀ i, 266 ≤ i → i < 1922 → N1 i = N i) (ho : ∀ a : Nat, a < 8 → a ≠ a0 → ∀ j : Nat, j < 10 → N1 (186 + 10 * a + j) = N (186 + 10 * a + j)) (hc : 0 ≤ N1 (186 + 10 * a0) ∧ N1 (186 + 10 * a0) ≤ 999999) (hd : ∀ l : Nat, l < 8 → N1 (188 + 10 * a0 + l) = N (188 + 10 * a0 + l)) : mo_N N1 B := by
  refine mo_N_air h h2 h3 h5 h6 hp ho (fun hF => ?_)
  obtain ⟨k1, k2, k3, k4⟩ := h.2.2 a0 ha8
  have hx := mo_s_bd (f := mo_x N1 a0) (lo := 0) (hi := 32990700) (n := 8) (fun l hl => by
    have := mo_F_bd (a := a0) (mo_f_of h) hl
    have := hd l hl
    have := k1 l hl
    have := hF l hl
    unfold mo_x
    omega)
  refine ⟨fun l hl => ?_, hc.1, by unfold mo_C; omega, fun _ => by unfold mo_C; omega⟩
  rw [hd l hl, hF l hl]
  exact k1 l hl
/-- pay -/
theorem mo_pay {N N1 : Nat → Int} {B : Nat → Nat → Int} {a0 l0 : Nat} {n : Int} (h : mo_N N B) (ha8 : a0 < 8) (hl8 : l0 < 8) (hn : 0 ≤ n) (h2 : 0 ≤ N1 2 ∧ N1 2 ≤ 8) (h3 : N1 3 = N 3) (h5 : N1 5 = N 5) (h6 : N1 6 = N 6) (hp : ∀ i, 266 ≤ i → i < 1922 → N1 i = N i) (ho : ∀ a : Nat, a < 8 → a ≠ a0 → ∀ j : Nat, j < 10 → N1 (186 + 10 * a + j) = N (186 + 10 * a + j)) (hc : N1 (186 + 10 * a0) = N (186 + 10 * a0) - n) (hc0 : n ≤ N (186 + 10 * a0)) (he : N1 (187 + 10 * a0) = N (187 + 10 * a0)) (hd0 : N1 (188 + 10 * a0 + l0) = N (188 + 10 * a0 + l0) - n) (hd1 : n ≤ N (188 + 10 * a0 + l0)) (hd : ∀ l : Nat, l < 8 → l ≠ l0 → N1 (188 + 10 * a0 + l) = N (188 + 10 * a0 + l)) : mo_N N1 B := by
  refine mo_N_air h h2 h3 h5 h6 hp ho (fun hF => ?_)
  obtain ⟨k1, k2, k3, k4⟩ := h.2.2 a0 ha8
  refine ⟨fun l hl => ?_, by omega, by omega, fun hne => ?_⟩
  · by_cases e : l = l0
    · subst e
      have := k1 l hl
      have := hF l hl
      omega
    · rw [hd l hl e, hF l hl]
      exact k1 l hl
  · rw [he] at hne
    have := k4 hne
    have hx := mo_s_upd (f := mo_x N a0) (g := mo_x N1 a0) (k := l0) (n := 8) hl8 (fun l hl e => by
      unfold mo_x
      rw [hd l hl e, hF l hl])
    have : mo_x N1 a0 l0 ≤ mo_x N a0 l0 + n := by
      unfold mo_x
      rw [hd0, hF l0 hl8]
      omega
    omega
/-- end -/
theorem mo_end {N N1 : Nat → Int} {B : Nat → Nat → Int} {a0 : Nat} (h : mo_N N B) (hB : ∀ l : Nat, l < 8 → 0 ≤ B a0 l) (h2 : 0 ≤ N1 2 ∧ N1 2 ≤ 8) (h3 : N1 3 = N 3) (h5 : N1 5 = N 5) (h6 : N1 6 = N 6) (hp : ∀ i, 266 ≤ i → i < 1922 → N1 i = N i) (ho : ∀ a : Nat, a < 8 → a ≠ a0 → ∀ j : Nat, j < 10 → N1 (186 + 10 * a + j) = N (186 + 10 * a + j)) (hc : 0 ≤ N1 (186 + 10 * a0) ∧ N1 (186 + 10 * a0) ≤ mo_C) (he : N1 (187 + 10 * a0) = 1) (hd : ∀ l : Nat, l < 8 → N1 (188 + 10 * a0 + l) = 0) : mo_N N1 B := by
  refine mo_N_air h h2 h3 h5 h6 hp ho (fun hF => ⟨fun l hl => ?_, hc.1, hc.2, fun q => absurd he q⟩)
  have := mo_F_bd (a := a0) (mo_f_of h) hl
  have := hd l hl
  have := hF l hl
  have := hB l hl
  omega
