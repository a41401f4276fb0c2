/-! the reader of laws: what is read of a text of n bytes, told once for both sides -/
noncomputable def rd_s (B : Nat → Int) (n q : Nat) : Int := if q < n then B q else -1
noncomputable def rd_lv (c : Int) : Int := if c = 124 then 0 else if c = 38 then 1 else if c = 60 ∨ c = 61 ∨ c = 62 then 2 else if c = 43 ∨ c = 45 then 3 else if c = 42 ∨ c = 47 then 4 else -1
noncomputable def rd_nm (c : Int) : Int := if c = 119 then 0 else if c = 107 then 1 else if c = 97 then 2 else if c = 109 then 3 else if c = 100 then 4 else if c = 108 then 5 else -1
noncomputable def rd_dg (c : Int) : Prop := 48 ≤ c ∧ c ≤ 57
abbrev rd_R : Type := Option (Bool × Nat × List Int)
noncomputable def rd_b (r : rd_R) (k : Nat → List Int → rd_R) : rd_R := match r with
  | none => none
  | some (true, q, a) => k q a
  | some (false, q, a) => some (false, q, a)
/-- digits: how many at most, the place, the number so far -/
noncomputable def rd_nu (B : Nat → Int) (n : Nat) : Nat → Nat → Int → Nat × Int
  | 0, q, v => (q, v)
  | k + 1, q, v => if 48 ≤ rd_s B n q ∧ rd_s B n q ≤ 57 then rd_nu B n k (q + 1) (v * 10 + rd_s B n q - 48) else (q, v)
/-- the smallest parts (5), levels 0 to 4, and behind a level's first part (6 and more) -/
noncomputable def rd_5 (B : Nat → Int) (n : Nat) (E : Nat → Nat → Nat → List Int → rd_R) (o q : Nat) (a : List Int) : rd_R :=
  if 48 ≤ rd_s B n q ∧ rd_s B n q ≤ 57 then some (true, (rd_nu B n 4 q 0).1, a ++ [(rd_nu B n 4 q 0).2])
  else if 0 ≤ rd_nm (rd_s B n q) then some (true, q + 1, a ++ [-1 - rd_nm (rd_s B n q)])
  else if o < 5 ∧ rd_s B n q = 33 then rd_b (E 5 (o + 1) (q + 1) a) (fun q1 a1 => some (true, q1, a1 ++ [-133]))
  else if o < 5 ∧ rd_s B n q = 40 then rd_b (E 0 (o + 1) (q + 1) a) (fun q1 a1 => if rd_s B n q1 = 41 then some (true, q1 + 1, a1) else some (false, q1, a1))
  else some (false, q, a)
noncomputable def rd_6 (B : Nat → Int) (n : Nat) (E : Nat → Nat → Nat → List Int → rd_R) (L o q : Nat) (a : List Int) : rd_R :=
  if rd_lv (rd_s B n q) = (L : Int) then rd_b (E (L + 1) o (q + 1) a) (fun q1 a1 => if L = 2 then some (true, q1, a1 ++ [-100 - rd_s B n q]) else E (6 + L) o q1 (a1 ++ [-100 - rd_s B n q]))
  else some (true, q, a)
noncomputable def rd_S (B : Nat → Int) (n : Nat) (E : Nat → Nat → Nat → List Int → rd_R) (m o q : Nat) (a : List Int) : rd_R :=
  if m < 5 then rd_b (E (m + 1) o q a) (fun q1 a1 => E (6 + m) o q1 a1)
  else if m = 5 then rd_5 B n E o q a
  else rd_6 B n E (m - 6) o q a
noncomputable def rd (B : Nat → Int) (n : Nat) : Nat → Nat → Nat → Nat → List Int → rd_R
  | 0, _, _, _, _ => none
  | f + 1, m, o, q, a => rd_S B n (rd B n f) m o q a
theorem rd_b_of {r : rd_R} {k : Nat → List Int → rd_R} {ok : Bool} {q : Nat} {a : List Int} (h : rd_b r k = some (ok, q, a)) : (∃ q0 a0, r = some (true, q0, a0) ∧ k q0 a0 = some (ok, q, a)) ∨ (ok = false ∧ r = some (false, q, a)) := by
  match r, h with
  | some (true, q0, a0), h => exact Or.inl ⟨q0, a0, rfl, h⟩
  | some (false, q0, a0), h =>
    have h : some (false, q0, a0) = some (ok, q, a) := h
    cases h
    exact Or.inr ⟨rfl, rfl⟩
theorem rd_sn {B : Nat → Int} {n q : Nat} {c : Int} (hc : 0 ≤ c) (h : rd_s B n q = c) : q < n := by
  unfold rd_s at h
  split at h
  · assumption
  · omega
theorem rd_sl {B : Nat → Int} {n q : Nat} {c : Int} (hc : 0 ≤ c) (h : c ≤ rd_s B n q) : q < n := by
  unfold rd_s at h
  split at h
  · assumption
  · omega
theorem rd_lvn {c : Int} (h : c < 0) : rd_lv c = -1 := by
  unfold rd_lv
  rw [if_neg (by omega), if_neg (by omega), if_neg (by omega), if_neg (by omega), if_neg (by omega)]
theorem rd_nmn {c : Int} (h : c < 0) : rd_nm c = -1 := by
  unfold rd_nm
  rw [if_neg (by omega), if_neg (by omega), if_neg (by omega), if_neg (by omega), if_neg (by omega), if_neg (by omega)]
theorem rd_nub {B : Nat → Int} {n : Nat} : ∀ (k q : Nat) (v : Int), q ≤ n → q ≤ (rd_nu B n k q v).1 ∧ (rd_nu B n k q v).1 ≤ n
  | 0, q, v, h => ⟨Nat.le_refl q, h⟩
  | k + 1, q, v, h => by
    show q ≤ (if 48 ≤ rd_s B n q ∧ rd_s B n q ≤ 57 then rd_nu B n k (q + 1) (v * 10 + rd_s B n q - 48) else (q, v)).1 ∧ (if 48 ≤ rd_s B n q ∧ rd_s B n q ≤ 57 then rd_nu B n k (q + 1) (v * 10 + rd_s B n q - 48) else (q, v)).1 ≤ n
    by_cases c : 48 ≤ rd_s B n q ∧ rd_s B n q ≤ 57
    · rw [if_pos c]
      have := rd_nub (B := B) k (q + 1) (v * 10 + rd_s B n q - 48) (rd_sl (by decide) c.1)
      omega
    · rw [if_neg c]
      exact ⟨Nat.le_refl q, h⟩
theorem rd_nu1 {B : Nat → Int} {n q : Nat} (h : 48 ≤ rd_s B n q ∧ rd_s B n q ≤ 57) : q < (rd_nu B n 4 q 0).1 ∧ (rd_nu B n 4 q 0).1 ≤ n := by
  have e : rd_nu B n 4 q 0 = rd_nu B n 3 (q + 1) (0 * 10 + rd_s B n q - 48) := if_pos h
  rw [e]
  have := rd_nub (B := B) (n := n) 3 (q + 1) (0 * 10 + rd_s B n q - 48) (rd_sl (by decide) h.1)
  omega
/-- bounds of what is read -/
noncomputable def rd_Bd (n q : Nat) (a : List Int) (m : Nat) (ok : Bool) (q1 : Nat) (a1 : List Int) : Prop := q ≤ q1 ∧ q1 ≤ n ∧ (ok = true → a1.length + q ≤ a.length + q1 ∧ (m ≤ 5 → q < q1))
theorem rd_bd {B : Nat → Int} {n : Nat} : ∀ (f m o q : Nat) (a : List Int) (ok : Bool) (q1 : Nat) (a1 : List Int), rd B n f m o q a = some (ok, q1, a1) → q ≤ n → rd_Bd n q a m ok q1 a1
  | 0, _, _, _, _, _, _, _, h, _ => by cases h
  | f + 1, m, o, q, a, ok, q1, a1, h, hq => by
    have ih := rd_bd (B := B) (n := n) f
    have h : rd_S B n (rd B n f) m o q a = some (ok, q1, a1) := h
    unfold rd_S at h
    by_cases m5 : m < 5
    · rw [if_pos m5] at h
      rcases rd_b_of h with ⟨q0, a0, h1, h2⟩ | ⟨rfl, h1⟩
      · obtain ⟨b1, b2, b3⟩ := ih _ _ _ _ _ _ _ h1 hq
        obtain ⟨c1, c2, c3⟩ := ih _ _ _ _ _ _ _ h2 b2
        have b3 := b3 rfl
        refine ⟨by omega, c2, fun e => ?_⟩
        have c3 := (c3 e).1
        have b4 := b3.2 (by omega)
        exact ⟨by omega, fun _ => by omega⟩
      · obtain ⟨b1, b2, _⟩ := ih _ _ _ _ _ _ _ h1 hq
        exact ⟨b1, b2, fun e => by cases e⟩
    · rw [if_neg m5] at h
      by_cases e5 : m = 5
      · rw [if_pos e5] at h
        unfold rd_5 at h
        split at h
        · rename_i hd
          cases h
          have := rd_nu1 hd
          exact ⟨by omega, this.2, fun _ => ⟨by rw [List.length_append]; show a.length + 1 + q ≤ _; omega, fun _ => this.1⟩⟩
        · split at h
          · rename_i hn
            cases h
            have hqn : q < n := by
              by_cases z : q < n
              · exact z
              · rw [rd_nmn (by unfold rd_s; rw [if_neg z]; decide)] at hn
                omega
            exact ⟨by omega, hqn, fun _ => ⟨by rw [List.length_append]; show a.length + 1 + q ≤ _; omega, fun _ => by omega⟩⟩
          · split at h
            · rename_i hc
              have hqn := rd_sn (by decide) hc.2
              rcases rd_b_of h with ⟨q0, a0, h1, h2⟩ | ⟨rfl, h1⟩
              · obtain ⟨b1, b2, b3⟩ := ih _ _ _ _ _ _ _ h1 (by omega)
                have b3 := b3 rfl
                cases h2
                exact ⟨by omega, b2, fun _ => ⟨by rw [List.length_append]; show a0.length + 1 + q ≤ _; omega, fun _ => by omega⟩⟩
              · obtain ⟨b1, b2, _⟩ := ih _ _ _ _ _ _ _ h1 (by omega)
                exact ⟨by omega, b2, fun e => by cases e⟩
            · split at h
              · rename_i hc
                have hqn := rd_sn (by decide) hc.2
                rcases rd_b_of h with ⟨q0, a0, h1, h2⟩ | ⟨rfl, h1⟩
                · obtain ⟨b1, b2, b3⟩ := ih _ _ _ _ _ _ _ h1 (by omega)
                  have b3 := b3 rfl
                  split at h2
                  · rename_i h41
                    have := rd_sn (by decide) h41
                    cases h2
                    exact ⟨by omega, by omega, fun _ => ⟨by omega, fun _ => by omega⟩⟩
                  · cases h2
                    exact ⟨by omega, b2, fun e => by cases e⟩
                · obtain ⟨b1, b2, _⟩ := ih _ _ _ _ _ _ _ h1 (by omega)
                  exact ⟨by omega, b2, fun e => by cases e⟩
              · cases h
                exact ⟨Nat.le_refl _, hq, fun e => by cases e⟩
      · rw [if_neg e5] at h
        unfold rd_6 at h
        split at h
        · rename_i hl
          have hqn : q < n := by
            by_cases z : q < n
            · exact z
            · rw [rd_lvn (by unfold rd_s; rw [if_neg z]; decide)] at hl
              omega
          rcases rd_b_of h with ⟨q0, a0, h1, h2⟩ | ⟨rfl, h1⟩
          · obtain ⟨b1, b2, b3⟩ := ih _ _ _ _ _ _ _ h1 (by omega)
            have b3 := b3 rfl
            split at h2
            · cases h2
              exact ⟨by omega, b2, fun _ => ⟨by rw [List.length_append]; show a0.length + 1 + q ≤ _; omega, fun z => by omega⟩⟩
            · obtain ⟨c1, c2, c3⟩ := ih _ _ _ _ _ _ _ h2 b2
              refine ⟨by omega, c2, fun e => ?_⟩
              have c3 := (c3 e).1
              rw [List.length_append] at c3
              have c3 : q1 ≥ 0 ∧ a1.length + q0 ≤ a0.length + 1 + q1 := ⟨Nat.zero_le _, c3⟩
              exact ⟨by omega, fun z => by omega⟩
          · obtain ⟨b1, b2, _⟩ := ih _ _ _ _ _ _ _ h1 (by omega)
            exact ⟨by omega, b2, fun e => by cases e⟩
        · cases h
          exact ⟨Nat.le_refl _, hq, fun _ => ⟨Nat.le_refl _, fun z => by omega⟩⟩
/-- how much fuel is enough -/
noncomputable def rd_mu (n m q : Nat) : Nat := if m ≤ 5 then 8 * (n - q) + (7 - m) else 8 * (n - q) + 1
theorem rd_tot {B : Nat → Int} {n : Nat} : ∀ (f m o q : Nat) (a : List Int), q ≤ n → m ≤ 10 → rd_mu n m q < f → ∃ ok q1 a1, rd B n f m o q a = some (ok, q1, a1)
  | 0, _, _, _, _, _, _, h => absurd h (Nat.not_lt_zero _)
  | f + 1, m, o, q, a, hq, hm, h => by
    have ih := rd_tot (B := B) (n := n) f
    show ∃ ok q1 a1, rd_S B n (rd B n f) m o q a = some (ok, q1, a1)
    unfold rd_S
    unfold rd_mu at h ih
    by_cases m5 : m < 5
    · rw [if_pos m5]
      rw [if_pos (by omega)] at h
      obtain ⟨ok, q1, a1, h1⟩ := ih (m + 1) o q a hq (by omega) (by rw [if_pos (by omega)]; omega)
      rw [h1]
      cases ok with
      | false => exact ⟨false, q1, a1, rfl⟩
      | true =>
        obtain ⟨b1, b2, b3⟩ := rd_bd _ _ _ _ _ _ _ _ h1 hq
        have b4 := (b3 rfl).2 (by omega)
        exact ih (6 + m) o q1 a1 b2 (by omega) (by rw [if_neg (by omega)]; omega)
    · rw [if_neg m5]
      by_cases e5 : m = 5
      · rw [if_pos e5]
        rw [if_pos (by omega)] at h
        unfold rd_5
        split
        · exact ⟨_, _, _, rfl⟩
        · split
          · exact ⟨_, _, _, rfl⟩
          · split
            · rename_i hc
              have hqn := rd_sn (by decide) hc.2
              obtain ⟨ok, q1, a1, h1⟩ := ih 5 (o + 1) (q + 1) a hqn (by omega) (by rw [if_pos (by omega)]; omega)
              rw [h1]
              cases ok with
              | false => exact ⟨_, _, _, rfl⟩
              | true => exact ⟨_, _, _, rfl⟩
            · split
              · rename_i hc
                have hqn := rd_sn (by decide) hc.2
                obtain ⟨ok, q1, a1, h1⟩ := ih 0 (o + 1) (q + 1) a hqn (by omega) (by rw [if_pos (by omega)]; omega)
                rw [h1]
                cases ok with
                | false => exact ⟨_, _, _, rfl⟩
                | true =>
                  show ∃ ok q2 a2, (if rd_s B n q1 = 41 then some (true, q1 + 1, a1) else some (false, q1, a1)) = some (ok, q2, a2)
                  split
                  · exact ⟨_, _, _, rfl⟩
                  · exact ⟨_, _, _, rfl⟩
              · exact ⟨_, _, _, rfl⟩
      · rw [if_neg e5]
        rw [if_neg (by omega)] at h
        unfold rd_6
        split
        · rename_i hl
          have hqn : q < n := by
            by_cases z : q < n
            · exact z
            · rw [rd_lvn (by unfold rd_s; rw [if_neg z]; decide)] at hl
              omega
          obtain ⟨ok, q1, a1, h1⟩ := ih (m - 6 + 1) o (q + 1) a hqn (by omega) (by rw [if_pos (by omega)]; omega)
          rw [h1]
          cases ok with
          | false => exact ⟨_, _, _, rfl⟩
          | true =>
            obtain ⟨b1, b2, b3⟩ := rd_bd _ _ _ _ _ _ _ _ h1 hqn
            show ∃ ok q2 a2, (if m - 6 = 2 then some (true, q1, a1 ++ [-100 - rd_s B n q]) else rd B n f (6 + (m - 6)) o q1 (a1 ++ [-100 - rd_s B n q])) = some (ok, q2, a2)
            split
            · exact ⟨_, _, _, rfl⟩
            · exact ih (6 + (m - 6)) o q1 _ b2 (by omega) (by rw [if_neg (by omega)]; omega)
        · exact ⟨_, _, _, rfl⟩
